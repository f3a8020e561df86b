section
-- ===== PART A: goes FIRST, ahead of the names: the tables' words, and 'selects' of the private methods out of them =====
/-- a private method of a class that the tables say can be made, by its rows of tables_1 -/
def lw_okq (q : MethodName × Nat) : Prop := (q.1.cls ≠ "java/lang/invoke/MethodHandle" ∧ q.1.cls ≠ "java/lang/invoke/VarHandle") ∧ Cond.instantiable q.1.cls q.2 ∈ tables_1 ∧ Cond.privateMethod q.1 ∈ tables_1 ∧ Cond.instanceMethod q.1 ∈ tables_1
theorem lw_p0 : lw_okq (⟨"NetUnfolder", "dropPrefixAndWay", "()V"⟩, 5) := ⟨⟨by decide +kernel, by decide +kernel⟩, List.mem_of_getElem? (i := 20) (by decide +kernel), List.mem_of_getElem? (i := 297) (by decide +kernel), List.mem_of_getElem? (i := 298) (by decide +kernel)⟩
theorem lw_p1 : lw_okq (⟨"NetUnfolder$Unfolding", "begin", "()V"⟩, 4) := ⟨⟨by decide +kernel, by decide +kernel⟩, List.mem_of_getElem? (i := 153) (by decide +kernel), List.mem_of_getElem? (i := 324) (by decide +kernel), List.mem_of_getElem? (i := 325) (by decide +kernel)⟩
theorem lw_p2 : lw_okq (⟨"NetUnfolder$Unfolding", "findPossible", "(JJ)V"⟩, 4) := ⟨⟨by decide +kernel, by decide +kernel⟩, List.mem_of_getElem? (i := 153) (by decide +kernel), List.mem_of_getElem? (i := 345) (by decide +kernel), List.mem_of_getElem? (i := 346) (by decide +kernel)⟩
theorem lw_p3 : lw_okq (⟨"NetUnfolder$Unfolding", "choose", "(IIJJJ)V"⟩, 4) := ⟨⟨by decide +kernel, by decide +kernel⟩, List.mem_of_getElem? (i := 153) (by decide +kernel), List.mem_of_getElem? (i := 349) (by decide +kernel), List.mem_of_getElem? (i := 350) (by decide +kernel)⟩
theorem lw_p4 : lw_okq (⟨"NetUnfolder$Possible", "comesBefore", "(II)Z"⟩, 5) := ⟨⟨by decide +kernel, by decide +kernel⟩, List.mem_of_getElem? (i := 159) (by decide +kernel), List.mem_of_getElem? (i := 381) (by decide +kernel), List.mem_of_getElem? (i := 382) (by decide +kernel)⟩
theorem lw_p5 : lw_okq (⟨"NetUnfolder$Unfolding", "rivalOf", "(I)I"⟩, 4) := ⟨⟨by decide +kernel, by decide +kernel⟩, List.mem_of_getElem? (i := 153) (by decide +kernel), List.mem_of_getElem? (i := 385) (by decide +kernel), List.mem_of_getElem? (i := 386) (by decide +kernel)⟩
theorem lw_p6 : lw_okq (⟨"NetUnfolder$Unfolding", "tellWay", "(II)V"⟩, 4) := ⟨⟨by decide +kernel, by decide +kernel⟩, List.mem_of_getElem? (i := 153) (by decide +kernel), List.mem_of_getElem? (i := 393) (by decide +kernel), List.mem_of_getElem? (i := 394) (by decide +kernel)⟩
theorem lw_p7 : lw_okq (⟨"NetUnfolder$Unfolding", "tellTransitions", "(I)V"⟩, 4) := ⟨⟨by decide +kernel, by decide +kernel⟩, List.mem_of_getElem? (i := 153) (by decide +kernel), List.mem_of_getElem? (i := 401) (by decide +kernel), List.mem_of_getElem? (i := 402) (by decide +kernel)⟩
theorem lw_p8 : lw_okq (⟨"NetUnfolder$Unfolding", "letCome", "(I)Z"⟩, 4) := ⟨⟨by decide +kernel, by decide +kernel⟩, List.mem_of_getElem? (i := 153) (by decide +kernel), List.mem_of_getElem? (i := 409) (by decide +kernel), List.mem_of_getElem? (i := 410) (by decide +kernel)⟩
theorem lw_p9 : lw_okq (⟨"NetUnfolder$Unfolding", "leadsToNothingNew", "(IJ)Z"⟩, 4) := ⟨⟨by decide +kernel, by decide +kernel⟩, List.mem_of_getElem? (i := 153) (by decide +kernel), List.mem_of_getElem? (i := 421) (by decide +kernel), List.mem_of_getElem? (i := 422) (by decide +kernel)⟩
theorem lw_p10 : lw_okq (⟨"java/lang/Throwable", "fillInStackTrace", "(I)Ljava/lang/Throwable;"⟩, 6) := ⟨⟨by decide +kernel, by decide +kernel⟩, List.mem_of_getElem? (i := 531) (by decide +kernel), List.mem_of_getElem? (i := 529) (by decide +kernel), List.mem_of_getElem? (i := 530) (by decide +kernel)⟩
theorem lw_p11 : lw_okq (⟨"NetUnfolder$Question", "describePrefix", "()V"⟩, 6) := ⟨⟨by decide +kernel, by decide +kernel⟩, List.mem_of_getElem? (i := 198) (by decide +kernel), List.mem_of_getElem? (i := 593) (by decide +kernel), List.mem_of_getElem? (i := 594) (by decide +kernel)⟩
theorem lw_p12 : lw_okq (⟨"NetUnfolder$Question", "describeEvent", "(I)V"⟩, 6) := ⟨⟨by decide +kernel, by decide +kernel⟩, List.mem_of_getElem? (i := 198) (by decide +kernel), List.mem_of_getElem? (i := 602) (by decide +kernel), List.mem_of_getElem? (i := 603) (by decide +kernel)⟩
theorem lw_p13 : lw_okq (⟨"NetUnfolder$Question", "describeCondition", "(I)V"⟩, 6) := ⟨⟨by decide +kernel, by decide +kernel⟩, List.mem_of_getElem? (i := 198) (by decide +kernel), List.mem_of_getElem? (i := 610) (by decide +kernel), List.mem_of_getElem? (i := 611) (by decide +kernel)⟩
theorem lw_p14 : lw_okq (⟨"NetUnfolder$Question", "makersOf", "(II)J"⟩, 6) := ⟨⟨by decide +kernel, by decide +kernel⟩, List.mem_of_getElem? (i := 198) (by decide +kernel), List.mem_of_getElem? (i := 617) (by decide +kernel), List.mem_of_getElem? (i := 618) (by decide +kernel)⟩
theorem lw_p15 : lw_okq (⟨"NetUnfolder$Question", "answer", "()I"⟩, 6) := ⟨⟨by decide +kernel, by decide +kernel⟩, List.mem_of_getElem? (i := 198) (by decide +kernel), List.mem_of_getElem? (i := 621) (by decide +kernel), List.mem_of_getElem? (i := 622) (by decide +kernel)⟩
def lw_privs_1 : List (MethodName × Nat) := [(⟨"NetUnfolder", "dropPrefixAndWay", "()V"⟩, 5), (⟨"NetUnfolder$Unfolding", "begin", "()V"⟩, 4), (⟨"NetUnfolder$Unfolding", "findPossible", "(JJ)V"⟩, 4), (⟨"NetUnfolder$Unfolding", "choose", "(IIJJJ)V"⟩, 4), (⟨"NetUnfolder$Possible", "comesBefore", "(II)Z"⟩, 5), (⟨"NetUnfolder$Unfolding", "rivalOf", "(I)I"⟩, 4), (⟨"NetUnfolder$Unfolding", "tellWay", "(II)V"⟩, 4), (⟨"NetUnfolder$Unfolding", "tellTransitions", "(I)V"⟩, 4), (⟨"NetUnfolder$Unfolding", "letCome", "(I)Z"⟩, 4), (⟨"NetUnfolder$Unfolding", "leadsToNothingNew", "(IJ)Z"⟩, 4), (⟨"java/lang/Throwable", "fillInStackTrace", "(I)Ljava/lang/Throwable;"⟩, 6), (⟨"NetUnfolder$Question", "describePrefix", "()V"⟩, 6), (⟨"NetUnfolder$Question", "describeEvent", "(I)V"⟩, 6), (⟨"NetUnfolder$Question", "describeCondition", "(I)V"⟩, 6), (⟨"NetUnfolder$Question", "makersOf", "(II)J"⟩, 6), (⟨"NetUnfolder$Question", "answer", "()I"⟩, 6)]
theorem lw_r1 : ∀ q ∈ lw_privs_1, lw_okq q := List.forall_mem_cons.mpr ⟨lw_p0, List.forall_mem_cons.mpr ⟨lw_p1, List.forall_mem_cons.mpr ⟨lw_p2, List.forall_mem_cons.mpr ⟨lw_p3, List.forall_mem_cons.mpr ⟨lw_p4, List.forall_mem_cons.mpr ⟨lw_p5, List.forall_mem_cons.mpr ⟨lw_p6, List.forall_mem_cons.mpr ⟨lw_p7, List.forall_mem_cons.mpr ⟨lw_p8, List.forall_mem_cons.mpr ⟨lw_p9, List.forall_mem_cons.mpr ⟨lw_p10, List.forall_mem_cons.mpr ⟨lw_p11, List.forall_mem_cons.mpr ⟨lw_p12, List.forall_mem_cons.mpr ⟨lw_p13, List.forall_mem_cons.mpr ⟨lw_p14, List.forall_mem_cons.mpr ⟨lw_p15, fun _ h => absurd h List.not_mem_nil⟩⟩⟩⟩⟩⟩⟩⟩⟩⟩⟩⟩⟩⟩⟩⟩
theorem lw_p16 : lw_okq (⟨"NetUnfolder$Search", "begin", "()V"⟩, 8) := ⟨⟨by decide +kernel, by decide +kernel⟩, List.mem_of_getElem? (i := 227) (by decide +kernel), List.mem_of_getElem? (i := 631) (by decide +kernel), List.mem_of_getElem? (i := 632) (by decide +kernel)⟩
theorem lw_p17 : lw_okq (⟨"NetUnfolder$Search", "propagate", "()I"⟩, 8) := ⟨⟨by decide +kernel, by decide +kernel⟩, List.mem_of_getElem? (i := 227) (by decide +kernel), List.mem_of_getElem? (i := 637) (by decide +kernel), List.mem_of_getElem? (i := 638) (by decide +kernel)⟩
theorem lw_p18 : lw_okq (⟨"NetUnfolder$Search", "assign", "(IZI)V"⟩, 8) := ⟨⟨by decide +kernel, by decide +kernel⟩, List.mem_of_getElem? (i := 227) (by decide +kernel), List.mem_of_getElem? (i := 643) (by decide +kernel), List.mem_of_getElem? (i := 644) (by decide +kernel)⟩
theorem lw_p19 : lw_okq (⟨"NetUnfolder$Search", "learnFrom", "(I)V"⟩, 8) := ⟨⟨by decide +kernel, by decide +kernel⟩, List.mem_of_getElem? (i := 227) (by decide +kernel), List.mem_of_getElem? (i := 647) (by decide +kernel), List.mem_of_getElem? (i := 648) (by decide +kernel)⟩
theorem lw_p20 : lw_okq (⟨"NetUnfolder$Search", "levelBelow", "(J)I"⟩, 8) := ⟨⟨by decide +kernel, by decide +kernel⟩, List.mem_of_getElem? (i := 227) (by decide +kernel), List.mem_of_getElem? (i := 652) (by decide +kernel), List.mem_of_getElem? (i := 653) (by decide +kernel)⟩
theorem lw_p21 : lw_okq (⟨"NetUnfolder$Search", "goBack", "(I)V"⟩, 8) := ⟨⟨by decide +kernel, by decide +kernel⟩, List.mem_of_getElem? (i := 227) (by decide +kernel), List.mem_of_getElem? (i := 656) (by decide +kernel), List.mem_of_getElem? (i := 657) (by decide +kernel)⟩
theorem lw_p22 : lw_okq (⟨"NetUnfolder$Search", "forgetIdle", "()V"⟩, 8) := ⟨⟨by decide +kernel, by decide +kernel⟩, List.mem_of_getElem? (i := 227) (by decide +kernel), List.mem_of_getElem? (i := 664) (by decide +kernel), List.mem_of_getElem? (i := 665) (by decide +kernel)⟩
theorem lw_p23 : lw_okq (⟨"NetUnfolder$Search", "forcedBy", "(I)I"⟩, 8) := ⟨⟨by decide +kernel, by decide +kernel⟩, List.mem_of_getElem? (i := 227) (by decide +kernel), List.mem_of_getElem? (i := 668) (by decide +kernel), List.mem_of_getElem? (i := 669) (by decide +kernel)⟩
theorem lw_p24 : lw_okq (⟨"NetUnfolder$Search", "decide", "(I)V"⟩, 8) := ⟨⟨by decide +kernel, by decide +kernel⟩, List.mem_of_getElem? (i := 227) (by decide +kernel), List.mem_of_getElem? (i := 681) (by decide +kernel), List.mem_of_getElem? (i := 682) (by decide +kernel)⟩
theorem lw_p25 : lw_okq (⟨"NetUnfolderModel", "forget", "()V"⟩, 28) := ⟨⟨by decide +kernel, by decide +kernel⟩, List.mem_of_getElem? (i := 715) (by decide +kernel), List.mem_of_getElem? (i := 818) (by decide +kernel), List.mem_of_getElem? (i := 819) (by decide +kernel)⟩
theorem lw_p26 : lw_okq (⟨"NetUnfolderModel", "condition", "(III)V"⟩, 28) := ⟨⟨by decide +kernel, by decide +kernel⟩, List.mem_of_getElem? (i := 715) (by decide +kernel), List.mem_of_getElem? (i := 834) (by decide +kernel), List.mem_of_getElem? (i := 835) (by decide +kernel)⟩
theorem lw_p27 : lw_okq (⟨"NetUnfolderModel", "together", "(II)Z"⟩, 28) := ⟨⟨by decide +kernel, by decide +kernel⟩, List.mem_of_getElem? (i := 715) (by decide +kernel), List.mem_of_getElem? (i := 838) (by decide +kernel), List.mem_of_getElem? (i := 839) (by decide +kernel)⟩
theorem lw_p28 : lw_okq (⟨"NetUnfolderModel", "takenBy", "(J)J"⟩, 28) := ⟨⟨by decide +kernel, by decide +kernel⟩, List.mem_of_getElem? (i := 715) (by decide +kernel), List.mem_of_getElem? (i := 842) (by decide +kernel), List.mem_of_getElem? (i := 843) (by decide +kernel)⟩
theorem lw_p29 : lw_okq (⟨"NetUnfolderModel", "search", "()V"⟩, 28) := ⟨⟨by decide +kernel, by decide +kernel⟩, List.mem_of_getElem? (i := 715) (by decide +kernel), List.mem_of_getElem? (i := 850) (by decide +kernel), List.mem_of_getElem? (i := 851) (by decide +kernel)⟩
theorem lw_p30 : lw_okq (⟨"NetUnfolderModel", "choices", "(I)V"⟩, 28) := ⟨⟨by decide +kernel, by decide +kernel⟩, List.mem_of_getElem? (i := 715) (by decide +kernel), List.mem_of_getElem? (i := 854) (by decide +kernel), List.mem_of_getElem? (i := 855) (by decide +kernel)⟩
theorem lw_p31 : lw_okq (⟨"NetUnfolderModel", "further", "(IIJ)I"⟩, 28) := ⟨⟨by decide +kernel, by decide +kernel⟩, List.mem_of_getElem? (i := 715) (by decide +kernel), List.mem_of_getElem? (i := 864) (by decide +kernel), List.mem_of_getElem? (i := 865) (by decide +kernel)⟩
def lw_privs_2 : List (MethodName × Nat) := [(⟨"NetUnfolder$Search", "begin", "()V"⟩, 8), (⟨"NetUnfolder$Search", "propagate", "()I"⟩, 8), (⟨"NetUnfolder$Search", "assign", "(IZI)V"⟩, 8), (⟨"NetUnfolder$Search", "learnFrom", "(I)V"⟩, 8), (⟨"NetUnfolder$Search", "levelBelow", "(J)I"⟩, 8), (⟨"NetUnfolder$Search", "goBack", "(I)V"⟩, 8), (⟨"NetUnfolder$Search", "forgetIdle", "()V"⟩, 8), (⟨"NetUnfolder$Search", "forcedBy", "(I)I"⟩, 8), (⟨"NetUnfolder$Search", "decide", "(I)V"⟩, 8), (⟨"NetUnfolderModel", "forget", "()V"⟩, 28), (⟨"NetUnfolderModel", "condition", "(III)V"⟩, 28), (⟨"NetUnfolderModel", "together", "(II)Z"⟩, 28), (⟨"NetUnfolderModel", "takenBy", "(J)J"⟩, 28), (⟨"NetUnfolderModel", "search", "()V"⟩, 28), (⟨"NetUnfolderModel", "choices", "(I)V"⟩, 28), (⟨"NetUnfolderModel", "further", "(IIJ)I"⟩, 28)]
theorem lw_r2 : ∀ q ∈ lw_privs_2, lw_okq q := List.forall_mem_cons.mpr ⟨lw_p16, List.forall_mem_cons.mpr ⟨lw_p17, List.forall_mem_cons.mpr ⟨lw_p18, List.forall_mem_cons.mpr ⟨lw_p19, List.forall_mem_cons.mpr ⟨lw_p20, List.forall_mem_cons.mpr ⟨lw_p21, List.forall_mem_cons.mpr ⟨lw_p22, List.forall_mem_cons.mpr ⟨lw_p23, List.forall_mem_cons.mpr ⟨lw_p24, List.forall_mem_cons.mpr ⟨lw_p25, List.forall_mem_cons.mpr ⟨lw_p26, List.forall_mem_cons.mpr ⟨lw_p27, List.forall_mem_cons.mpr ⟨lw_p28, List.forall_mem_cons.mpr ⟨lw_p29, List.forall_mem_cons.mpr ⟨lw_p30, List.forall_mem_cons.mpr ⟨lw_p31, fun _ h => absurd h List.not_mem_nil⟩⟩⟩⟩⟩⟩⟩⟩⟩⟩⟩⟩⟩⟩⟩⟩
theorem lw_p32 : lw_okq (⟨"NetUnfolderModel", "found", "(II)V"⟩, 28) := ⟨⟨by decide +kernel, by decide +kernel⟩, List.mem_of_getElem? (i := 715) (by decide +kernel), List.mem_of_getElem? (i := 868) (by decide +kernel), List.mem_of_getElem? (i := 869) (by decide +kernel)⟩
theorem lw_p33 : lw_okq (⟨"NetUnfolderModel", "isThere", "(II)Z"⟩, 28) := ⟨⟨by decide +kernel, by decide +kernel⟩, List.mem_of_getElem? (i := 715) (by decide +kernel), List.mem_of_getElem? (i := 872) (by decide +kernel), List.mem_of_getElem? (i := 873) (by decide +kernel)⟩
theorem lw_p34 : lw_okq (⟨"NetUnfolderModel", "setOf", "(I)J"⟩, 28) := ⟨⟨by decide +kernel, by decide +kernel⟩, List.mem_of_getElem? (i := 715) (by decide +kernel), List.mem_of_getElem? (i := 876) (by decide +kernel), List.mem_of_getElem? (i := 877) (by decide +kernel)⟩
theorem lw_p35 : lw_okq (⟨"NetUnfolderModel", "behindAll", "(I)I"⟩, 28) := ⟨⟨by decide +kernel, by decide +kernel⟩, List.mem_of_getElem? (i := 715) (by decide +kernel), List.mem_of_getElem? (i := 880) (by decide +kernel), List.mem_of_getElem? (i := 881) (by decide +kernel)⟩
theorem lw_p36 : lw_okq (⟨"NetUnfolderModel", "rankOf", "(II)J"⟩, 28) := ⟨⟨by decide +kernel, by decide +kernel⟩, List.mem_of_getElem? (i := 715) (by decide +kernel), List.mem_of_getElem? (i := 884) (by decide +kernel), List.mem_of_getElem? (i := 885) (by decide +kernel)⟩
theorem lw_p37 : lw_okq (⟨"NetUnfolderModel", "twice", "()I"⟩, 28) := ⟨⟨by decide +kernel, by decide +kernel⟩, List.mem_of_getElem? (i := 715) (by decide +kernel), List.mem_of_getElem? (i := 890) (by decide +kernel), List.mem_of_getElem? (i := 891) (by decide +kernel)⟩
theorem lw_p38 : lw_okq (⟨"NetUnfolderModel", "besideLeast", "()J"⟩, 28) := ⟨⟨by decide +kernel, by decide +kernel⟩, List.mem_of_getElem? (i := 715) (by decide +kernel), List.mem_of_getElem? (i := 894) (by decide +kernel), List.mem_of_getElem? (i := 895) (by decide +kernel)⟩
theorem lw_p39 : lw_okq (⟨"NetUnfolderModel", "addWay", "(J)V"⟩, 28) := ⟨⟨by decide +kernel, by decide +kernel⟩, List.mem_of_getElem? (i := 715) (by decide +kernel), List.mem_of_getElem? (i := 898) (by decide +kernel), List.mem_of_getElem? (i := 899) (by decide +kernel)⟩
theorem lw_p40 : lw_okq (⟨"NetUnfolderModel", "come", "()Z"⟩, 28) := ⟨⟨by decide +kernel, by decide +kernel⟩, List.mem_of_getElem? (i := 715) (by decide +kernel), List.mem_of_getElem? (i := 902) (by decide +kernel), List.mem_of_getElem? (i := 903) (by decide +kernel)⟩
theorem lw_p41 : lw_okq (⟨"NetUnfolderModel", "markingOf", "(J)I"⟩, 28) := ⟨⟨by decide +kernel, by decide +kernel⟩, List.mem_of_getElem? (i := 715) (by decide +kernel), List.mem_of_getElem? (i := 906) (by decide +kernel), List.mem_of_getElem? (i := 907) (by decide +kernel)⟩
theorem lw_p42 : lw_okq (⟨"NetUnfolderModel", "answer", "(I)I"⟩, 28) := ⟨⟨by decide +kernel, by decide +kernel⟩, List.mem_of_getElem? (i := 715) (by decide +kernel), List.mem_of_getElem? (i := 917) (by decide +kernel), List.mem_of_getElem? (i := 918) (by decide +kernel)⟩
theorem lw_p43 : lw_okq (⟨"NetUnfolderModel", "stuck", "(I)Z"⟩, 28) := ⟨⟨by decide +kernel, by decide +kernel⟩, List.mem_of_getElem? (i := 715) (by decide +kernel), List.mem_of_getElem? (i := 921) (by decide +kernel), List.mem_of_getElem? (i := 922) (by decide +kernel)⟩
theorem lw_p44 : lw_okq (⟨"NetUnfolderModel", "fits", "(JI)Z"⟩, 28) := ⟨⟨by decide +kernel, by decide +kernel⟩, List.mem_of_getElem? (i := 715) (by decide +kernel), List.mem_of_getElem? (i := 925) (by decide +kernel), List.mem_of_getElem? (i := 926) (by decide +kernel)⟩
theorem lw_p45 : lw_okq (⟨"NetUnfolderModel", "refuse", "(I)I"⟩, 28) := ⟨⟨by decide +kernel, by decide +kernel⟩, List.mem_of_getElem? (i := 715) (by decide +kernel), List.mem_of_getElem? (i := 941) (by decide +kernel), List.mem_of_getElem? (i := 942) (by decide +kernel)⟩
def lw_privs_3 : List (MethodName × Nat) := [(⟨"NetUnfolderModel", "found", "(II)V"⟩, 28), (⟨"NetUnfolderModel", "isThere", "(II)Z"⟩, 28), (⟨"NetUnfolderModel", "setOf", "(I)J"⟩, 28), (⟨"NetUnfolderModel", "behindAll", "(I)I"⟩, 28), (⟨"NetUnfolderModel", "rankOf", "(II)J"⟩, 28), (⟨"NetUnfolderModel", "twice", "()I"⟩, 28), (⟨"NetUnfolderModel", "besideLeast", "()J"⟩, 28), (⟨"NetUnfolderModel", "addWay", "(J)V"⟩, 28), (⟨"NetUnfolderModel", "come", "()Z"⟩, 28), (⟨"NetUnfolderModel", "markingOf", "(J)I"⟩, 28), (⟨"NetUnfolderModel", "answer", "(I)I"⟩, 28), (⟨"NetUnfolderModel", "stuck", "(I)Z"⟩, 28), (⟨"NetUnfolderModel", "fits", "(JI)Z"⟩, 28), (⟨"NetUnfolderModel", "refuse", "(I)I"⟩, 28)]
theorem lw_r3 : ∀ q ∈ lw_privs_3, lw_okq q := List.forall_mem_cons.mpr ⟨lw_p32, List.forall_mem_cons.mpr ⟨lw_p33, List.forall_mem_cons.mpr ⟨lw_p34, List.forall_mem_cons.mpr ⟨lw_p35, List.forall_mem_cons.mpr ⟨lw_p36, List.forall_mem_cons.mpr ⟨lw_p37, List.forall_mem_cons.mpr ⟨lw_p38, List.forall_mem_cons.mpr ⟨lw_p39, List.forall_mem_cons.mpr ⟨lw_p40, List.forall_mem_cons.mpr ⟨lw_p41, List.forall_mem_cons.mpr ⟨lw_p42, List.forall_mem_cons.mpr ⟨lw_p43, List.forall_mem_cons.mpr ⟨lw_p44, List.forall_mem_cons.mpr ⟨lw_p45, fun _ h => absurd h List.not_mem_nil⟩⟩⟩⟩⟩⟩⟩⟩⟩⟩⟩⟩⟩⟩
def lw_privs : List (MethodName × Nat) := lw_privs_1 ++ (lw_privs_2 ++ (lw_privs_3))
def lw_tbl : List Cond := k2_sels lw_privs ++ tables_1
theorem lw_privs_ok : ∀ q ∈ lw_privs, lw_okq q := by
  show ∀ q ∈ lw_privs_1 ++ (lw_privs_2 ++ (lw_privs_3)), lw_okq q
  exact List.forall_mem_append.mpr ⟨lw_r1, List.forall_mem_append.mpr ⟨lw_r2, lw_r3⟩⟩
-- ===== end of PART A; then your names; then what follows =====
/-! The words of the tables that a call keeps: one list for all methods. -/
def wsA : List Cond := lw_tbl.filter goodWord
theorem wA_t {w : Cond} (h : w ∈ tables_1) (g : goodWord w = true) : w ∈ wsA := List.mem_filter.mpr ⟨List.mem_append_right _ h, g⟩
theorem wA_1 {w : Cond} (h : w ∈ tables_1_1) (g : goodWord w = true) : w ∈ wsA := wA_t (List.mem_append_left _ h) g
theorem wA_2 {w : Cond} (h : w ∈ tables_1_2) (g : goodWord w = true) : w ∈ wsA := wA_t (List.mem_append_right _ (List.mem_append_left _ h)) g
theorem wA_3 {w : Cond} (h : w ∈ tables_1_3) (g : goodWord w = true) : w ∈ wsA := wA_t (List.mem_append_right _ (List.mem_append_right _ (List.mem_append_left _ h))) g
theorem wA_4 {w : Cond} (h : w ∈ tables_1_4) (g : goodWord w = true) : w ∈ wsA := wA_t (List.mem_append_right _ (List.mem_append_right _ (List.mem_append_right _ (List.mem_append_left _ h)))) g
theorem wA_5 {w : Cond} (h : w ∈ tables_1_5) (g : goodWord w = true) : w ∈ wsA := wA_t (List.mem_append_right _ (List.mem_append_right _ (List.mem_append_right _ (List.mem_append_right _ h)))) g
theorem wA_s {y : MethodName} {n : Nat} (h : (y, n) ∈ lw_privs) (g : goodWord (.selects y.cls y y) = true) : Cond.selects y.cls y y ∈ wsA := List.mem_filter.mpr ⟨List.mem_append_left _ (List.mem_map.mpr ⟨(y, n), h, rfl⟩), g⟩
theorem wA_tbl {w : Cond} (h : w ∈ wsA) : w ∈ lw_tbl := (List.mem_filter.mp h).1
theorem wA_good {w : Cond} (h : w ∈ wsA) : (w.onTables && w.keeps) = true ∨ ∃ ty, w = .arrayClass ty := good_of_word (List.mem_filter.mp h).2
theorem goodA {c : Cond} (h : c ∈ wsA) : GoodIn wsA (c :: wsA) := fun w hw => (List.mem_cons.mp hw).elim (fun e => e ▸ ⟨h, wA_good h⟩) (fun h2 => ⟨h2, wA_good h2⟩)
theorem goodA0 : GoodIn wsA wsA := fun w hw => ⟨hw, wA_good hw⟩
end
section
/-! Methods that throw, and methods with handlers: rows of my own over the library's (Stand.ctorThrow0, Stand.outOfThrown, Stand.catchAt). -/
/-- the contract of a method that throws: from Pc it throws x, 'Qc args s x t'; at most mc cells of ms slots are new; no old cell changes -/
def tx_Met (l : Launch) (y : MethodName) (ws : List Cond) (rm : Room) (Pc : Array Value → State → Prop) (Qc : Array Value → State → Addr → State → Prop) (mc ms : Nat) : Prop :=
  MetFree l y (headSpec ws rm) Pc (fun _ _ _ _ _ => True) (fun a st o t => ∃ x, o = .threw x ∧ Qc a st x t ∧ st.WarmedH t.vm ∧ st.sameButNew ({ t with vm := st.vm } : State) [] mc ms)
def tx_MQ (below : List Frame) (Qc : Array Value → State → Addr → State → Prop) (a : Array Value) (s : State) (mc ms : Nat) : State → Prop := fun t =>
  t.status = .running ∧ ∃ x, Ended t below (.threw x) ∧ Qc a s x t ∧ s.WarmedH t.vm ∧ s.sameButNew ({ t with vm := s.vm } : State) [] mc ms
theorem tx_old {s t : State} {k n : Nat} (h : s.sameButNew t [] k n) (q : Nat) (hq : q < s.heap.size) : t.heap[q]? = s.heap[q]? := by
  obtain ⟨-, -, -, -, -, h6⟩ := h
  obtain ⟨c', h1, h2, h3, h4⟩ := h6 q s.heap[q] (Array.getElem?_eq_getElem hq)
  rw [h1, Array.getElem?_eq_getElem hq]
  have e : c'.slots = s.heap[q].slots := Array.ext_getElem? fun i => h4 i (by simp)
  rw [h2, e]
section TX
variable {p : Program} {l : Launch} {e : Env} {R : Room} {s : State} {m : MethodId} {args : Array Value} {below : List Frame} {meth : Method} {c : Code} {H : Heap} {locs : List Loc} {cells slots : Nat} {Q : State → Prop}
theorem tx_Met.ofW {y : MethodName} {ws ws' : List Cond} {rm : Room} {Pc : Array Value → State → Prop} {Qc : Array Value → State → Addr → State → Prop} {mc ms : Nat} {cc : ByteArray} {maxL : Nat} {ret : Option FieldType}
    (hy : plainName y.cls = true) (hw : ws = Cond.code y cc maxL ret :: ws')
    (body : ∀ p e s m args below meth c s₁, BodyLoose p l y (headSpec ws rm) cc maxL ret e s m args below meth c s₁ → c.maxLocals = maxL → Pc args s →
      W p l e (headSpec ws rm).room s m args below meth c s.heap [] 0 0 (tx_MQ below Qc args s mc ms) (entryFrame m args maxL)) : tx_Met l y ws rm Pc Qc mc ms := by
  refine MetFree.of_bodyS (code := cc) (maxLocals := maxL) (ret := ret) hy ?_ ?_
  · intro args s m h hn
    obtain ⟨meth, c, h1, h2, h3, h4, h5, h6, -, -⟩ := Cond.code_spec hn (atoms_spec (ws := ws) h _ (by rw [hw]; exact List.mem_cons_self))
    exact ⟨meth, c, h1, h2, h3, h4, h5, h6⟩
  · intro p e s m args below meth c s₁ B hml hP _
    have hh0 : s₁.heap = s.heap := by rw [B.state]; rfl
    obtain ⟨t, a1, b1, x, b2, b3, b4, b5⟩ := body p e s m args below meth c s₁ B hml hP s₁ hh0 (Stand.of_body B)
    exact ⟨t, .threw x, a1, b1, b2, x, rfl, b3, b4, b5⟩
/-- 'new X(); athrow' from behind the 'new' and 'dup': it throws -/
theorem tx_throw0 {cc : ByteArray} {Qc : Array Value → State → Addr → State → Prop} (hexec : p.tables.exec = Jvm.exec) (hb : c.code = cc) (htr : e.platform.stackTraces = false) {own cls : String} {names : List String} {ic : Nat}
    (hown : s.vm.findClass own = some m.cls) (hcls : Bundle.fit cls = true) (hnames : ∀ n ∈ names, Bundle.fit n = true)
    (h : ∀ a ∈ Bundle.ownAtoms0 own ic cls names, a.before args s = true)
    {a : Addr} {cX : ClassId} {kX : Class} (hfoundX : s.vm.findClass cls = some cX) (hkX : s.vm.classes[cX]? = some kX) (hcell : H[a]? = some (freshCell cX kX)) (hnew : s.heap.size ≤ a)
    {pc : Nat} {ls : Array Slot} {rest : List Value} (hsize : ls.size = c.maxLocals)
    (hd6 : decode cc pc = .ok (.invokespecial ic, 3)) (hd9 : decode cc (pc + 3) = .ok (.athrow, 1)) (hout : c.exceptionTable.isEmpty = true)
    (hRframes : names.length + 3 < R.frames) (hRlocals : 2 * (F0 m pc ls (.ref a :: .ref a :: rest)).monitorRoom + ((Value.ref a :: rest).map fun v => v.category).sum + (13 * (names.length + 1) + 41) ≤ R.locals) (hlocks : meth.locks = false)
    (hq : ∀ U : State, s.WarmedH U.vm → (∃ ce, U.heap[a]? = some ce ∧ ce.vm = .none ∧ s.vm.findClass cls = some ce.cls) → Qc args s a U) :
    W p l e R s m args below meth c H [] cells slots (tx_MQ below Qc args s cells slots) (F0 m pc ls (.ref a :: .ref a :: rest)) := by
  intro T hT X
  subst hT; subst hb
  obtain ⟨U, st, hrun, hend, hW, hsame, ce, hce, K⟩ := X.ctorThrow0 hexec htr hown hcls hnames h (fun x hx => by cases hx) hfoundX hkX hcell hnew (g := F0 m pc ls (.ref a :: .ref a :: rest)) rfl hsize rfl rfl rfl hd6 hd9
    (fun x hx => by
      have : c.exceptionTable.toList = [] := by simpa using hout
      rw [this] at hx; cases hx) hRframes hRlocals hlocks
  exact ⟨U, st, hrun, a, hend, hq U hW ⟨ce, hce, K.vm, K.cls⟩, hW, hsame⟩
end TX
end
section
/-! A handler whose class may be unresolved yet: the search resolves it. -/
section TC
variable {e : Env} {s : State} {f : JFrame} {a : Addr} {Q : Handler → Pre} {E : CtlPost} {d : Bool} {acts : List Action}
theorem tx_goCold {x : ExceptionTableEntry} {t : List ExceptionTableEntry} {c : ClassId} {cell : Cell} (hx : covers x f.pc = true) (h0 : x.catchType ≠ 0)
    (hcl : s.vm.ClassLinks e.platform f.method.cls x.catchType c) (hcell : s.heap[a]? = some cell) (hobj : ∀ k, cell.vm ≠ .statics k)
    (hk : ∃ k, (s.vm.noted f.method.cls x.catchType (.cls c)).classes[cell.cls]? = some k) (hc : ∃ k, (s.vm.noted f.method.cls x.catchType (.cls c)).classes[c]? = some k) :
    Sem.wp (findHandler.go f a (x :: t)) Q E e d acts s ↔
      if (s.vm.noted f.method.cls x.catchType (.cls c)).assignable cell.cls c = true then Q (.found x.handlerPc) d acts (s.setVm (s.vm.noted f.method.cls x.catchType (.cls c))) else Sem.wp (findHandler.go f a t) Q E e d acts (s.setVm (s.vm.noted f.method.cls x.catchType (.cls c))) := by
  simp only [covers] at hx
  obtain ⟨ha, ht⟩ := (resolveClass_links e.toSetting hcl).op (op := VmOp.resolveClass f.method.cls x.catchType) rfl
  have hsz : (s.vm.noted f.method.cls x.catchType (.cls c)).classes.size ≤ s.vm.classes.size := by no_record
  have hcell' : (s.setVm (s.vm.noted f.method.cls x.catchType (.cls c))).heap[a]? = some cell := hcell
  cases hfit : (s.vm.noted f.method.cls x.catchType (.cls c)).assignable cell.cls c <;>
    simp [findHandler.go, hx, h0, ha, ht, hsz, hcell, hobj, hk, hc, hfit, VmOp.dirties, VmOp.acts]
end TC
end
section
/-! A call that throws, caught by a handler of the caller; a static method with handlers, called. -/
def tx_Finds (e : Env) (s : State) (f : JFrame) (a : Addr) (h : Handler) (s' : State) : Prop :=
  ∀ (Q : Handler → Pre) (E : CtlPost) (d : Bool) (acts : List Action), Sem.wp (findHandler f a) Q E e d acts s ↔ Q h d acts s'
theorem tx_stepCatch {e : Env} {s s' : State} {a : Addr} {f : JFrame} {r : List Frame} {pc : Nat} (hfind : tx_Finds e s f a (.found pc) s') :
    (stepThrowing e s a (.java f :: r)).Is (s'.setFrames (.java { f with pc := pc, stack := [.ref a] } :: r)) [] := by
  simp only [stepThrowing, searchFrame, vmDo]
  generalize hr : Sem.go _ e false [] s = res
  obtain ⟨as, rfl, ha⟩ := Sem.eq_ok_of hr (a := Handler.found pc) (s' := s') (acts' := []) (by simp [hfind _ _ _ _])
  exact ⟨rfl, ha⟩
theorem tx_caught {tb : Tables} {e : Env} {s target : State} {g : JFrame} {c : Code} {below : List Frame} {a : Addr} (h : At s g.method c below) {pc : Nat} {vm' : Vm}
    (hfind : tx_Finds e ((s.setTop g).pushFrame (.throwing a)) g a (.found pc) (((s.setVm vm').setTop g).pushFrame (.throwing a)))
    (hrest : Steps tb e below ((s.setVm vm').setTop { g with pc := pc, stack := [.ref a] }) target) :
    Steps tb e below ((s.setTop g).pushFrame (.throwing a)) target := by
  obtain ⟨hgo, hw⟩ := h.throwing a
  refine Steps.head hgo hw ?_
  rw [stepThread_throwing (frames_entered h.top _), (tx_stepCatch hfind).1]
  obtain ⟨g₀, hg⟩ := Option.isSome_iff_exists.mp h.top
  obtain ⟨r, hr⟩ := State.topJava?_eq_some.mp hg
  have hr' : (s.setVm vm').frames = .java g₀ :: r := hr
  rw [State.pushFrame, State.setFrames_setFrames, State.setTop_of_frames _ hr', State.setFrames_setFrames]
  rw [State.setTop_of_frames _ hr'] at hrest
  rw [hr]
  exact hrest
section TD
variable {p : Program} {l : Launch} {e : Env} {R : Room} {s : State} {m : MethodId} {args : Array Value} {below : List Frame} {meth : Method} {c : Code} {T : State} {locs : List Loc} {cells slots : Nat}
theorem tx_entry (X : Stand p l e R s m args below meth c T locs cells slots) {own name : String} (hown : s.vm.findClass own = some m.cls) {en : ExceptionTableEntry} (hlink : (Cond.classLink own en.catchType name).before args s = true) (h0 : en.catchType ≠ 0)
    {g : JFrame} (hg : g.method = m) (hcov : covers en g.pc = true) {x : Addr} {ce : Cell} (hcell : T.heap[x]? = some ce) (hvm : ce.vm = .none) {cls : String} (hcls : s.vm.findClass cls = some ce.cls) {cT : ClassId} (hcT : s.vm.findClass name = some cT) :
    ∃ vm', Stand p l e R s m args below meth c (T.setVm vm') locs cells slots ∧ ∀ (t : List ExceptionTableEntry) (Q : Handler → Pre) (E : CtlPost) (d : Bool) (acts : List Action), Sem.wp (findHandler.go g x (en :: t)) Q E e d acts ((T.setTop g).pushFrame (.throwing x)) ↔
      if s.vm.assignable ce.cls cT = true then Q (.found en.handlerPc) d acts (((T.setVm vm').setTop g).pushFrame (.throwing x)) else Sem.wp (findHandler.go g x t) Q E e d acts (((T.setVm vm').setTop g).pushFrame (.throwing x)) := by
  have hpl : e.platform.magicAccessors = ({} : Platform).magicAccessors := by rw [X.admits.platform]
  obtain ⟨c', hc', hcl⟩ := Cond.classLink_spec hown hlink e.platform hpl
  cases hcT.symm.trans hc'
  obtain ⟨dk, _, _, kt, hd, _, _, _, _, hkt, _, hopen⟩ := hcl.here
  have hcl₀ := X.warmed.classLinks hcl
  have hW' : s.WarmedH (T.vm.noted m.cls en.catchType (.cls cT)) := X.warmed.noted hd hopen (State.rightAt_cls hcl)
  obtain ⟨ks, hks⟩ := Vm.classAt_of_findClass hcls
  obtain ⟨ks', hks', -⟩ := hW'.alike.2.2 _ _ hks
  obtain ⟨kt', hkt', -⟩ := hW'.alike.2.2 _ _ hkt
  refine ⟨_, X.noted hW', fun t Q E d acts => ?_⟩
  subst hg
  have hv : ((T.setTop g).pushFrame (.throwing x)).vm = T.vm := Stand.throwing_vm T g x
  have hh : ((T.setTop g).pushFrame (.throwing x)).heap = T.heap := Stand.throwing_heap T g x
  have key := tx_goCold (e := e) (s := (T.setTop g).pushFrame (.throwing x)) (f := g) (a := x) (Q := Q) (E := E) (d := d) (acts := acts) (x := en) (t := t) (c := cT) (cell := ce) hcov h0 (by rw [hv]; exact hcl₀) (by rw [hh]; exact hcell) (fun k hk => by rw [hvm] at hk; cases hk) (by rw [hv]; exact ⟨ks', hks'⟩) (by rw [hv]; exact ⟨kt', hkt'⟩)
  rw [key, hv, hW'.alike.assignable]
  rfl
/-- the first entry catches -/
theorem tx_catch1 (X : Stand p l e R s m args below meth c T locs cells slots) {own name : String} (hown : s.vm.findClass own = some m.cls) {st en hd ct : Nat} {rest : List (Nat × Nat × Nat × Nat)} (htab : c.exceptionTable.toList.map (fun h => (h.startPc, h.endPc, h.handlerPc, h.catchType)) = (st, en, hd, ct) :: rest) (hlink : (Cond.classLink own ct name).before args s = true) (h0 : ct ≠ 0)
    {g : JFrame} (hg : g.method = m) (h1 : st ≤ g.pc) (h2 : g.pc < en) {x : Addr} {ce : Cell} (hcell : T.heap[x]? = some ce) (hvm : ce.vm = .none) {cls : String} (hcls : s.vm.findClass cls = some ce.cls) {cT : ClassId} (hcT : s.vm.findClass name = some cT) (hasg : s.vm.assignable ce.cls cT = true) :
    ∃ vm', Stand p l e R s m args below meth c (T.setVm vm') locs cells slots ∧ ∀ target, Steps p.tables e below ((T.setVm vm').setTop { g with pc := hd, stack := [.ref x] }) target → Steps p.tables e below ((T.setTop g).pushFrame (.throwing x)) target := by
  cases htl : c.exceptionTable.toList with
  | nil => rw [htl] at htab; cases htab
  | cons y ys =>
    rw [htl, List.map_cons] at htab
    injection htab with e1 e2
    simp only [Prod.mk.injEq] at e1
    obtain ⟨rfl, rfl, rfl, rfl⟩ := e1
    obtain ⟨vm', X', hgo⟩ := tx_entry X hown hlink h0 hg (by simp only [covers, Bool.and_eq_true, decide_eq_true_eq]; exact ⟨h1, h2⟩) hcell hvm hcls hcT
    refine ⟨vm', X', fun target hrest => ?_⟩
    subst hg
    refine tx_caught X.here (vm' := vm') (fun Q E d acts => ?_) hrest
    rw [W.findHandler_eq (meth := meth) (code := c) (by rw [Stand.throwing_vm]; exact X.method') X.code, htl, hgo, if_pos hasg]
/-- the first entry is passed, the second catches -/
theorem tx_catch2 (X : Stand p l e R s m args below meth c T locs cells slots) {own name name2 : String} (hown : s.vm.findClass own = some m.cls) {st en hd ct st2 en2 hd2 ct2 : Nat} {rest : List (Nat × Nat × Nat × Nat)} (htab : c.exceptionTable.toList.map (fun h => (h.startPc, h.endPc, h.handlerPc, h.catchType)) = (st, en, hd, ct) :: (st2, en2, hd2, ct2) :: rest) (hlink : (Cond.classLink own ct name).before args s = true) (h0 : ct ≠ 0) (hlink2 : (Cond.classLink own ct2 name2).before args s = true) (h02 : ct2 ≠ 0)
    {g : JFrame} (hg : g.method = m) (h1 : st ≤ g.pc) (h2 : g.pc < en) (h12 : st2 ≤ g.pc) (h22 : g.pc < en2) {x : Addr} {ce : Cell} (hcell : T.heap[x]? = some ce) (hvm : ce.vm = .none) {cls : String} (hcls : s.vm.findClass cls = some ce.cls) {cT cT2 : ClassId} (hcT : s.vm.findClass name = some cT) (hno : s.vm.assignable ce.cls cT = false) (hcT2 : s.vm.findClass name2 = some cT2) (hasg : s.vm.assignable ce.cls cT2 = true) :
    ∃ vm', Stand p l e R s m args below meth c (T.setVm vm') locs cells slots ∧ ∀ target, Steps p.tables e below ((T.setVm vm').setTop { g with pc := hd2, stack := [.ref x] }) target → Steps p.tables e below ((T.setTop g).pushFrame (.throwing x)) target := by
  cases htl : c.exceptionTable.toList with
  | nil => rw [htl] at htab; cases htab
  | cons y ys =>
    cases ys with
    | nil => rw [htl] at htab; simp at htab
    | cons z zs =>
      rw [htl, List.map_cons, List.map_cons] at htab
      injection htab with e1 e2
      injection e2 with e2 e3
      simp only [Prod.mk.injEq] at e1 e2
      obtain ⟨rfl, rfl, rfl, rfl⟩ := e1
      obtain ⟨rfl, rfl, rfl, rfl⟩ := e2
      obtain ⟨vm₁, X₁, hgo₁⟩ := tx_entry X hown hlink h0 hg (by simp only [covers, Bool.and_eq_true, decide_eq_true_eq]; exact ⟨h1, h2⟩) hcell hvm hcls hcT
      obtain ⟨vm₂, X₂, hgo₂⟩ := tx_entry X₁ hown hlink2 h02 hg (by simp only [covers, Bool.and_eq_true, decide_eq_true_eq]; exact ⟨h12, h22⟩) (show (T.setVm vm₁).heap[x]? = some ce from hcell) hvm hcls hcT2
      refine ⟨vm₂, X₂, fun target hrest => ?_⟩
      subst hg
      refine tx_caught X.here (vm' := vm₂) (fun Q E d acts => ?_) hrest
      rw [W.findHandler_eq (meth := meth) (code := c) (by rw [Stand.throwing_vm]; exact X.method') X.code, htl, hgo₁, if_neg (by rw [hno]; decide), hgo₂, if_pos hasg]
      rfl
/-- what an 'invokevirtual' of a method that throws comes to: the note over the caller's frame -/
theorem tx_callV (X : Stand p l e R s m args below meth c T locs cells slots) {cc bytes : ByteArray} {nL maxL n mc ms index : Nat} {ret : Option FieldType} {own C : String} {y : MethodName} {Ts ws : List Cond} {rm : Room} {Pc : Array Value → State → Prop} {Qc : Array Value → State → Addr → State → Prop} {b : Addr} {As rest : List Value} {H : Heap}
    (S : CallFix p m c cc nL s args Ts own) (hM : tx_Met l y ws rm Pc Qc mc ms) (cw : CallW R s args own C index y bytes maxL ret ws rm mc ms n) (hp : PreV s H C b Pc As) (hT : T.heap = H)
    {g : JFrame} (hg : g.method = m) (hn : As.length = n) (hsize : g.locals.size = nL) (hstack : g.stack = As.reverse ++ .ref b :: rest) (hW : 2 * g.monitorRoom + (rest.map fun v => v.category).sum ≤ 8) (hdg : decode cc g.pc = .ok (.invokevirtual index, 3)) (hf : cells + mc ≤ R.cells ∧ slots + ms ≤ R.slots) :
    ∃ (x : Addr) (st₀ t T' : State), st₀.heap = H ∧ Stand p l e R s m args below meth c T' (locs ++ []) (cells + mc) (slots + ms) ∧ T'.heap = t.heap ∧ Qc (Value.ref b :: As).toArray st₀ x t ∧ st₀.vm.Alike s.vm ∧ (∀ q : Nat, q < H.size → t.heap[q]? = H[q]?) ∧
      ∀ target, Steps p.tables e below ((T'.setTop { g with stack := rest }).pushFrame (.throwing x)) target → Steps p.tables e below (T.setTop g) target := by
  obtain ⟨⟨hrc, hrs, hfr, hlo, hws, hcw, hcode, hini, hy, hlen, hlink⟩, hinst, hsel⟩ := cw
  obtain ⟨hx, hb, hml, hown, -⟩ := S
  obtain ⟨hblind, ⟨cellB, hcB, hoB, hkB⟩, hPc⟩ := hp
  subst hb
  obtain ⟨mk, methM, hnamed, hmethM, hstM, habM⟩ := Cond.instanceMethod_spec hinst
  obtain ⟨methM', cM, hmethM', hcM, -, hlM, -, -, -, hsigM⟩ := Cond.code_spec hnamed hcode
  cases hmethM.symm.trans hmethM'
  obtain ⟨c2, r2, m2, q1, q2, q3, q4, kP, hkP, hkPi⟩ := Cond.selects_spec hsel
  cases hkB.symm.trans q1
  cases (State.methodFound?_of_named hnamed hy).symm.trans q2
  cases hnamed.symm.trans q3
  have hselP : selectMethod e.platform s.vm cellB.cls mk = .method mk := by rw [Launch.admits_selectMethod X.admits]; exact q4
  obtain ⟨vm₁, X₁, hstep₁⟩ := X.invokevirtual hx hown hlink hnamed hmethM hstM hkP hkPi hy (a := b) (cell := cellB) (by rw [hT]; exact hcB)
    (fun z h => by rw [h] at hoB; cases hoB) hselP hmethM habM hkP hkPi (g := g) hg (argsL := As) (rest := rest) (hn.trans (hlen _ hsigM)) hstack hdg
  subst hg
  have hnU : (T.setVm vm₁).methodNamed? y = some mk := X₁.named hnamed
  obtain ⟨methY, cY, hmY, hcY, -, hlY, -, -, -, -⟩ := Cond.code_spec hnU (hws _ hcw (Value.ref b :: As).toArray (T.setVm vm₁) X₁.warmed)
  obtain ⟨kY, hkY, -⟩ := className_of_methodNamed hnU
  have hinitY : kY.init = .initialized := Cond.initialized_spec (args := #[]) (findClass_of_methodNamed hnU) hkY (word_at X₁.warmed (Or.inl (by first | rfl | simp [Cond.onTables, Cond.keeps, Cond.steady])) hini)
  have h := X₁.here
  have happ : (headSpec ws rm).appliesLoose y e.platform ((T.setVm vm₁).calling { g with stack := rest } mk (Value.ref b :: As).toArray) = true :=
    Spec.appliesLoose_calling (g := { g with stack := rest }) h hdg hnU hkY hinitY
      (X₁.room_calling (g := { g with stack := rest }) (R' := (headSpec ws rm).room) (hsize.trans hml.symm) hmY hcY hfr (by rw [hlY]; show 2 * JFrame.monitorRoom { g with stack := rest } + (rest.map fun v => v.category).sum + (maxL + 11) + rm.locals ≤ R.locals; have : JFrame.monitorRoom { g with stack := rest } = g.monitorRoom := rfl; omega) (by show cells + rm.cells ≤ R.cells; rw [hrc]; exact hf.1) (by show slots + rm.slots ≤ R.slots; rw [hrs]; exact hf.2))
      (atoms_intro fun w hw => hws w hw _ _ X₁.warmed)
  obtain ⟨mid, hmid⟩ := h.above
  have hfr2 : ((T.setVm vm₁).setTop { g with stack := rest }).frames = (.java { g with stack := rest } :: mid) ++ below := by rw [State.frames_setTop' _ h.top, hmid]; rfl
  obtain ⟨o, t, hsteps, -, hend, x, rfl, hq, hWt, hsame⟩ := Steps.callFree hM p X₁.admits X₁.cas X₁.clock (acts := []) hfr2 happ (hblind _ _ _ _ (hPc (T.setVm vm₁) hT X₁.warmed)) trivial
  rw [State.frames_setTop' _ h.top, X₁.tail] at hend
  obtain ⟨T', X', hWT, hsT, htT⟩ := X₁.outOfThrown (g := { g with stack := rest }) rfl (mk := mk) (a := (Value.ref b :: As).toArray) (t := t) hend hWt hsame
  refine ⟨x, (T.setVm vm₁).calling { g with stack := rest } mk (Value.ref b :: As).toArray, t, T', hT, X', ?_, hq, ?_, ?_, fun target hrest => ?_⟩
  · rw [htT]; exact (Stand.throwing_heap T' _ x).symm
  · exact X₁.warmed.alike.symm
  · intro q hq'
    have := tx_old hsame q (by show q < T.heap.size; rw [hT]; exact hq')
    rw [show t.heap[q]? = _ from this, ← hT]; rfl
  · refine hstep₁ _ fun acts => ?_
    rw [doInvoke_state]
    exact hsteps.trans (by rw [htT]; exact hrest)
end TD
end
section
/-! The same in the walk's form. -/
theorem hm_tab {p : Program} {l : Launch} {x : MethodName} {S : Spec} {code : ByteArray} {maxLocals : Nat} {ret : Option FieldType} {e : Env} {s : State} {m : MethodId} {args : Array Value} {below : List Frame}
    {meth : Method} {c : Code} {s₁ : State} {hh : List (Nat × Nat × Nat × Nat)} (B : BodyLoose p l x S code maxLocals ret e s m args below meth c s₁) (h : (Cond.codeWith x code maxLocals ret hh).before args s = true) :
    c.exceptionTable.toList.map (fun h => (h.startPc, h.endPc, h.handlerPc, h.catchType)) = hh := by
  obtain ⟨m', meth', c', hn', hm', hc', -, -, ht', -⟩ := Cond.codeWith_spec h
  cases B.named.symm.trans hn'
  cases B.method.symm.trans hm'
  cases (Stand.of_body B).code.symm.trans hc'
  exact ht'
theorem hm_size {H H1 : Heap} (h : ∀ q : Nat, q < H.size → H1[q]? = H[q]?) : H.size ≤ H1.size := by
  apply Nat.le_of_not_lt
  intro hlt
  have := h H1.size hlt
  rw [Array.getElem?_eq_getElem hlt] at this
  simp at this
section TE
variable {p : Program} {l : Launch} {e : Env} {R : Room} {s : State} {m : MethodId} {args : Array Value} {below : List Frame} {meth : Method} {c : Code} {H : Heap} {locs : List Loc} {cells slots : Nat} {Q : State → Prop} {pc : Nat} {ls : Array Slot} {rest : List Value} {cc : ByteArray}
theorem tx_callCatch1 {bytes : ByteArray} {nL maxL n mc ms index : Nat} {ret : Option FieldType} {own C : String} {y : MethodName} {Ts ws : List Cond} {rm : Room} {Pc : Array Value → State → Prop} {Qc : Array Value → State → Addr → State → Prop} {b : Addr} {As : List Value}
    (S : CallFix p m c cc nL s args Ts own) (hM : tx_Met l y ws rm Pc Qc mc ms) (cw : CallW R s args own C index y bytes maxL ret ws rm mc ms n) (hp : PreV s H C b Pc As)
    (hn : As.length = n) (hsize : ls.size = nL) (hW : 2 * (F0 m pc ls (As.reverse ++ .ref b :: rest)).monitorRoom + (rest.map fun v => v.category).sum ≤ 8) (hdg : decode cc pc = .ok (.invokevirtual index, 3)) (hf : cells + mc ≤ R.cells ∧ slots + ms ≤ R.slots)
    {st en hd ct : Nat} {rs : List (Nat × Nat × Nat × Nat)} (htab : c.exceptionTable.toList.map (fun h => (h.startPc, h.endPc, h.handlerPc, h.catchType)) = (st, en, hd, ct) :: rs) {cls name : String} (hlink : (Cond.classLink own ct name).before args s = true) (h0 : ct ≠ 0) (h1 : st ≤ pc) (h2 : pc < en)
    (hQ : ∀ a u x t, Qc a u x t → ∃ ce : Cell, t.heap[x]? = some ce ∧ ce.vm = .none ∧ u.vm.findClass cls = some ce.cls) (hcast : (Cond.castable cls name).before args s = true)
    (kk : ∀ (x : Nat) (H1 : Heap), (∀ q : Nat, q < H.size → H1[q]? = H[q]?) → W p l e R s m args below meth c H1 locs (cells + mc) (slots + ms) Q (F0 m hd ls [.ref x])) :
    W p l e R s m args below meth c H locs cells slots Q (F0 m pc ls (As.reverse ++ .ref b :: rest)) := by
  intro T hT X
  obtain ⟨x, st₀, t, T', hs0, X', hh, hq, hal, hold, hst⟩ := tx_callV X S hM cw hp hT (g := F0 m pc ls (As.reverse ++ .ref b :: rest)) rfl hn hsize rfl hW hdg hf
  obtain ⟨ce, hce, hvm, hcl⟩ := hQ _ _ _ _ hq
  rw [List.append_nil] at X'
  obtain ⟨cA, cT, hcA, hcT, hasg⟩ := Cond.castable_spec hcast
  have hcls : s.vm.findClass cls = some ce.cls := by rw [hal.findClass]; exact hcl
  cases hcA.symm.trans hcls
  obtain ⟨vm', X'', st2⟩ := tx_catch1 X' S.2.2.2.1 htab hlink h0 (g := F0 m pc ls rest) rfl h1 h2 (by rw [hh]; exact hce) hvm hcls hcT hasg
  obtain ⟨t2, a1, b1⟩ := kk x t.heap hold (T'.setVm vm') hh X''
  exact ⟨t2, hst t2 (st2 t2 a1), b1⟩
theorem tx_callCatch2 {bytes : ByteArray} {nL maxL n mc ms index : Nat} {ret : Option FieldType} {own C : String} {y : MethodName} {Ts ws : List Cond} {rm : Room} {Pc : Array Value → State → Prop} {Qc : Array Value → State → Addr → State → Prop} {b : Addr} {As : List Value}
    (S : CallFix p m c cc nL s args Ts own) (hM : tx_Met l y ws rm Pc Qc mc ms) (cw : CallW R s args own C index y bytes maxL ret ws rm mc ms n) (hp : PreV s H C b Pc As)
    (hn : As.length = n) (hsize : ls.size = nL) (hW : 2 * (F0 m pc ls (As.reverse ++ .ref b :: rest)).monitorRoom + (rest.map fun v => v.category).sum ≤ 8) (hdg : decode cc pc = .ok (.invokevirtual index, 3)) (hf : cells + mc ≤ R.cells ∧ slots + ms ≤ R.slots)
    {st en hd ct st2 en2 hd2 ct2 : Nat} {rs : List (Nat × Nat × Nat × Nat)} (htab : c.exceptionTable.toList.map (fun h => (h.startPc, h.endPc, h.handlerPc, h.catchType)) = (st, en, hd, ct) :: (st2, en2, hd2, ct2) :: rs) {cls name name2 : String} (hlink : (Cond.classLink own ct name).before args s = true) (h0 : ct ≠ 0) (hlink2 : (Cond.classLink own ct2 name2).before args s = true) (h02 : ct2 ≠ 0) (h1 : st ≤ pc) (h2 : pc < en) (h12 : st2 ≤ pc) (h22 : pc < en2)
    (hQ : ∀ a u x t, Qc a u x t → ∃ ce : Cell, t.heap[x]? = some ce ∧ ce.vm = .none ∧ u.vm.findClass cls = some ce.cls) (hno : va_Nc cls name s) (hcast : (Cond.castable cls name2).before args s = true)
    (kk : ∀ (x : Nat) (H1 : Heap), (∀ q : Nat, q < H.size → H1[q]? = H[q]?) → W p l e R s m args below meth c H1 locs (cells + mc) (slots + ms) Q (F0 m hd2 ls [.ref x])) :
    W p l e R s m args below meth c H locs cells slots Q (F0 m pc ls (As.reverse ++ .ref b :: rest)) := by
  intro T hT X
  obtain ⟨x, st₀, t, T', hs0, X', hh, hq, hal, hold, hst⟩ := tx_callV X S hM cw hp hT (g := F0 m pc ls (As.reverse ++ .ref b :: rest)) rfl hn hsize rfl hW hdg hf
  obtain ⟨ce, hce, hvm, hcl⟩ := hQ _ _ _ _ hq
  rw [List.append_nil] at X'
  obtain ⟨cA, cT, hcA, hcT, hasg⟩ := Cond.castable_spec hcast
  have hcls : s.vm.findClass cls = some ce.cls := by rw [hal.findClass]; exact hcl
  cases hcA.symm.trans hcls
  obtain ⟨cB, cT1, hcB, hcT1, hna⟩ := hno
  cases hcB.symm.trans hcls
  obtain ⟨vm', X'', st3⟩ := tx_catch2 X' S.2.2.2.1 htab hlink h0 hlink2 h02 (g := F0 m pc ls rest) rfl h1 h2 h12 h22 (by rw [hh]; exact hce) hvm hcls hcT1 hna hcT hasg
  obtain ⟨t2, a1, b1⟩ := kk x t.heap hold (T'.setVm vm') hh X''
  exact ⟨t2, hst t2 (st3 t2 a1), b1⟩
/-- the call of a static method with handlers -/
theorem hm_runS {bytes : ByteArray} {nL maxL n mc ms index : Nat} {ret : Option FieldType} {own : String} {y : MethodName} {Ts ws : List Cond} {rm : Room} {Pc : Array Value → State → Prop} {Qc : Array Value → State → Outcome → State → Prop} {free : Addr → Prop} {As : List Value} {g : JFrame} {hh : List (Nat × Nat × Nat × Nat)}
    (S : CallFix p m c cc nL s args Ts own) (hM : Met l y ws rm Pc Qc mc ms free) (hrc : rm.cells = mc) (hrs : rm.slots = ms) (hRm : rm.frames + 1 ≤ R.frames ∧ 8 + (maxL + 11) + rm.locals ≤ R.locals) (hG : GoodIn Ts ws) (hcw : Cond.codeWith y bytes maxL ret hh ∈ ws)
    (hl : (Cond.methodLink own index y).before args s = true) (hstat : (Cond.static y).before args s = true) (hini : (Cond.initialized y.cls).before args s = true) (hy : y.cls ≠ "java/lang/invoke/MethodHandle" ∧ y.cls ≠ "java/lang/invoke/VarHandle") (hlen : (parseMethodDescriptor y.desc).map (fun d => d.parameters.length) = some n) (hp : PreS s H Pc As)
    (hg : g.method = m) (hn : As.length = n) (hsize : g.locals.size = nL) (hstack : g.stack = As.reverse ++ rest) (hW : 2 * g.monitorRoom + (rest.map fun v => v.category).sum ≤ 8) (hdg : decode cc g.pc = .ok (.invokestatic index, 3)) (hf : cells + mc ≤ R.cells ∧ slots + ms ≤ R.slots) :
    va_Run p l e R s m args below meth c H locs cells slots mc ms g rest (Qc As.toArray) (free) := by
  obtain ⟨hx, hb, hml, ho, ht⟩ := S
  have hws := pay_in ht hG
  have hK : Back l R p e below s args y 3 8 (PreOf R mc ms Pc) (PostOf Qc mc ms free) := va_backW (bytes := bytes) (maxL := maxL) (ret := ret) (hh := hh) hM hp.1 hrc hrs hRm.1 hRm.2 hws hcw (fun a' U hW => word_at hW (Or.inl (by first | rfl | simp [Cond.onTables, Cond.keeps, Cond.steady])) hini)
  intro T hT X
  obtain ⟨mk, methM, cM, hnamed, hmethM, -, -, -, -, -, -, hsigM⟩ := Cond.codeWith_spec (ht _ (hG _ hcw).1)
  have hstatic : methM.isStatic = true := Cond.static_spec hnamed hmethM hstat
  obtain ⟨kP, hkP, -⟩ := className_of_methodNamed hnamed
  have hinitP : kP.init = .initialized := Cond.initialized_spec (findClass_of_methodNamed hnamed) hkP hini
  have hlen' : As.length = methM.sig.parameters.length := by
    rw [hsigM] at hlen
    simpa [hn] using hlen.symm
  obtain ⟨vm₁, X₁, hstep₁⟩ := X.invokestatic hx ho hl hnamed hmethM hstatic hkP hinitP hy (g := g) hg (argsL := As) (rest := rest) hlen' hstack (by rw [hb]; exact hdg)
  obtain ⟨v, ⟨U', l2, c2, s2⟩, X', ⟨g', mk', t, L, e1, e2, hq, h1, hL, h2, h3⟩, hsteps⟩ := hK m meth c ⟨T.setVm vm₁, locs, cells, slots⟩ { g with stack := rest } (.invokestatic index) mk As.toArray X₁ hg (hsize.trans hml.symm) (by rw [hb]; exact hdg) hW (X₁.named hnamed) ⟨hf.1, hf.2, hp.2 (T.setVm vm₁) hT X₁.warmed⟩
  dsimp only [Pt.U, Pt.locs, Pt.cells, Pt.slots] at X' e1 e2 h1 h2 h3 hsteps
  subst h1; subst h2; subst h3
  exact ⟨v, (T.setVm vm₁).calling g' mk' As.toArray, t, U', L, hT, X', hL, e1, e2, hq, fun target h => hstep₁ _ fun acts => by rw [doInvoke_state]; exact hsteps.trans h⟩
end TE
/-- 'a reference or null' of a static, out of its world's word -/
theorem tx_isRef {C n d : String} {A : Nat → Prop} {s : State} {args : Array Value} (h : va_Zq C n d A s s.heap) : (Cond.isRef (.static C n d)).before args s = true := by
  rcases h with h | ⟨t, h⟩
  · obtain ⟨cf, kf, fi, f, a, cell, h1, h2, h3, h4, h5, h6, h7, -⟩ := h
    simp [Cond.before, Cond.holds, Cond.value, Term.eval, State.fieldNamed?, h1, h2, h4, h5, h6, h7]
  · obtain ⟨cf, kf, fi, f, a, cell, h1, h2, h3, h4, h5, h6, h7, -⟩ := h
    simp [Cond.before, Cond.holds, Cond.value, Term.eval, State.fieldNamed?, h1, h2, h4, h5, h6, h7]
end
section
/-! Small rows of my own: a computed number by its value; a new array of a known class; the words of a call. -/
section RX
variable {p : Program} {l : Launch} {e : Env} {R : Room} {s : State} {m : MethodId} {args : Array Value} {below : List Frame} {meth : Method} {c : Code} {H : Heap} {locs : List Loc} {cells slots : Nat} {Q : State → Prop} {pc : Nat} {ls : Array Slot} {rest : List Value} {cc : ByteArray}
theorem ci_i {x : Int32} (y : Int32) (h : x = y) (k : W p l e R s m args below meth c H locs cells slots Q (F0 m pc ls (.int y :: rest))) : W p l e R s m args below meth c H locs cells slots Q (F0 m pc ls (.int x :: rest)) := h ▸ k
theorem ci_l {x : Int64} (y : Int64) (h : x = y) (k : W p l e R s m args below meth c H locs cells slots Q (F0 m pc ls (.long y :: rest))) : W p l e R s m args below meth c H locs cells slots Q (F0 m pc ls (.long x :: rest)) := h ▸ k
variable {D : va_G} {cl : List vw_C} {tys : List (ClassId × FieldType)} {ws : va_W} {A : Nat → Prop} {H0 : Heap}
theorem nx_newaI (hexec : p.tables.exec = Jvm.exec) (hb : c.code = cc) (harr : (Cond.arrayClass .int).before args s = true) (hK : va_K D cl tys s) (hP : va_P D cl ws H) (hD : va_D A ws) (hS : va_S A H0 H locs) (hA : ∀ q, H0.size ≤ q → A q)
    (t0 : Nat) {cA : ClassId} (ht : tys[t0]? = some (cA, .int)) {n : Int32} {N' : Nat} (hn : ¬ n < 0) (hN : n.toNatClampNeg = N') (hbytes : N' * componentBytes .int ≤ 536870912) (hcells : cells + 1 ≤ R.cells) (hslots : slots + N' ≤ R.slots) (hdg : decode cc pc = .ok (.newarray .int, 2))
    (kk : ∀ (q : Nat) (H1 : Heap), va_P D cl (ws ++ [(q, .inl (cA, N', .inl (fun _ => 0)))]) H1 → va_D A (ws ++ [(q, .inl (cA, N', .inl (fun _ => 0)))]) → va_S A H0 H1 locs →
      W p l e R s m args below meth c H1 locs (cells + 1) (slots + N') Q (F0 m (pc + 2) ls (.ref q :: rest))) : W p l e R s m args below meth c H locs cells slots Q (F0 m pc ls (.int n :: rest)) := by
  refine va_newa (atype := .int) (ty := .int) hexec hb harr rfl hK hP hD hS hA (a0 := (N', .inl (fun _ => 0))) (fun cA => rfl) hn hN hbytes hcells hslots hdg (fun q cA' H1 hK' hP' hD' hS' => ?_)
  have e : cA' = cA := Option.some.inj (((hK'.2 tys.length (cA', .int) (by simp)).2).symm.trans (hK.2 t0 _ ht).2)
  subst e
  exact kk q H1 hP' hD' hS'
theorem nx_newaJ (hexec : p.tables.exec = Jvm.exec) (hb : c.code = cc) (harr : (Cond.arrayClass .long).before args s = true) (hK : va_K D cl tys s) (hP : va_P D cl ws H) (hD : va_D A ws) (hS : va_S A H0 H locs) (hA : ∀ q, H0.size ≤ q → A q)
    (t0 : Nat) {cA : ClassId} (ht : tys[t0]? = some (cA, .long)) {n : Int32} {N' : Nat} (hn : ¬ n < 0) (hN : n.toNatClampNeg = N') (hbytes : N' * componentBytes .long ≤ 536870912) (hcells : cells + 1 ≤ R.cells) (hslots : slots + N' ≤ R.slots) (hdg : decode cc pc = .ok (.newarray .long, 2))
    (kk : ∀ (q : Nat) (H1 : Heap), va_P D cl (ws ++ [(q, .inl (cA, N', .inr (.inl (fun _ => 0))))]) H1 → va_D A (ws ++ [(q, .inl (cA, N', .inr (.inl (fun _ => 0))))]) → va_S A H0 H1 locs →
      W p l e R s m args below meth c H1 locs (cells + 1) (slots + N') Q (F0 m (pc + 2) ls (.ref q :: rest))) : W p l e R s m args below meth c H locs cells slots Q (F0 m pc ls (.int n :: rest)) := by
  refine va_newa (atype := .long) (ty := .long) hexec hb harr rfl hK hP hD hS hA (a0 := (N', .inr (.inl (fun _ => 0)))) (fun cA => rfl) hn hN hbytes hcells hslots hdg (fun q cA' H1 hK' hP' hD' hS' => ?_)
  have e : cA' = cA := Option.some.inj (((hK'.2 tys.length (cA', .long) (by simp)).2).symm.trans (hK.2 t0 _ ht).2)
  subst e
  exact kk q H1 hP' hD' hS'
theorem nx_newaZ (hexec : p.tables.exec = Jvm.exec) (hb : c.code = cc) (harr : (Cond.arrayClass .boolean).before args s = true) (hK : va_K D cl tys s) (hP : va_P D cl ws H) (hD : va_D A ws) (hS : va_S A H0 H locs) (hA : ∀ q, H0.size ≤ q → A q)
    (t0 : Nat) {cA : ClassId} (ht : tys[t0]? = some (cA, .boolean)) {n : Int32} {N' : Nat} (hn : ¬ n < 0) (hN : n.toNatClampNeg = N') (hbytes : N' * componentBytes .boolean ≤ 536870912) (hcells : cells + 1 ≤ R.cells) (hslots : slots + N' ≤ R.slots) (hdg : decode cc pc = .ok (.newarray .boolean, 2))
    (kk : ∀ (q : Nat) (H1 : Heap), va_P D cl (ws ++ [(q, .inl (cA, N', .inl (fun _ => 0)))]) H1 → va_D A (ws ++ [(q, .inl (cA, N', .inl (fun _ => 0)))]) → va_S A H0 H1 locs →
      W p l e R s m args below meth c H1 locs (cells + 1) (slots + N') Q (F0 m (pc + 2) ls (.ref q :: rest))) : W p l e R s m args below meth c H locs cells slots Q (F0 m pc ls (.int n :: rest)) := by
  refine va_newa (atype := .boolean) (ty := .boolean) hexec hb harr rfl hK hP hD hS hA (a0 := (N', .inl (fun _ => 0))) (fun cA => rfl) hn hN hbytes hcells hslots hdg (fun q cA' H1 hK' hP' hD' hS' => ?_)
  have e : cA' = cA := Option.some.inj (((hK'.2 tys.length (cA', .boolean) (by simp)).2).symm.trans (hK.2 t0 _ ht).2)
  subst e
  exact kk q H1 hP' hD' hS'
end RX
theorem good_S {own : String} {idx : Nat} {y : MethodName} {c : Cond} (h1 : Cond.methodLink own idx y ∈ wsA) (h2 : Cond.static y ∈ wsA) (h3 : Cond.initialized y.cls ∈ wsA) (h4 : c ∈ wsA) : GoodIn wsA (va_wsS own idx y (c :: wsA)) := by
  intro w hw
  rcases List.mem_append.mp (show w ∈ [Cond.methodLink own idx y, .static y, .initialized y.cls] ++ (c :: wsA) from hw) with h | h
  · simp only [List.mem_cons, List.not_mem_nil, or_false] at h
    rcases h with rfl | rfl | rfl
    · exact ⟨h1, wA_good h1⟩
    · exact ⟨h2, wA_good h2⟩
    · exact ⟨h3, wA_good h3⟩
  · exact goodA h4 w h
theorem good_V {own C : String} {idx : Nat} {y : MethodName} {c : Cond} (h1 : Cond.methodLink own idx y ∈ wsA) (h2 : Cond.instanceMethod y ∈ wsA) (h3 : Cond.selects C y y ∈ wsA) (h5 : Cond.initialized C ∈ wsA) (h4 : c ∈ wsA) : GoodIn wsA (wsV own idx C y (c :: wsA)) := by
  intro w hw
  rcases List.mem_append.mp (show w ∈ [Cond.methodLink own idx y, .instanceMethod y, .selects C y y, .initialized C] ++ (c :: wsA) from hw) with h | h
  · simp only [List.mem_cons, List.not_mem_nil, or_false] at h
    rcases h with rfl | rfl | rfl | rfl
    · exact ⟨h1, wA_good h1⟩
    · exact ⟨h2, wA_good h2⟩
    · exact ⟨h3, wA_good h3⟩
    · exact ⟨h5, wA_good h5⟩
  · exact goodA h4 w h
end
section
/-! Int32 facts as Int facts, and back. -/
section IX
variable {x c : Int32} {k : Int}
theorem fa_lt (hk : c.toInt = k) (h : x < c) : x.toInt < k := hk ▸ Int32.lt_iff_toInt_lt.mp h
theorem fa_nlt (hk : c.toInt = k) (h : ¬ x < c) : k ≤ x.toInt := by rw [Int32.lt_iff_toInt_lt, hk] at h; omega
theorem fa_le (hk : c.toInt = k) (h : x ≤ c) : x.toInt ≤ k := hk ▸ Int32.le_iff_toInt_le.mp h
theorem fa_nle (hk : c.toInt = k) (h : ¬ x ≤ c) : k < x.toInt := by rw [Int32.le_iff_toInt_le, hk] at h; omega
theorem fa_eq (hk : c.toInt = k) (h : x = c) : x.toInt = k := by rw [h, hk]
theorem fa_ne (hk : c.toInt = k) (h : ¬ x = c) : ¬ x.toInt = k := fun e => h (Int32.toInt_inj.mp (by rw [e, hk]))
theorem fb_lt (hk : c.toInt = k) (h : c < x) : k < x.toInt := hk ▸ Int32.lt_iff_toInt_lt.mp h
theorem fb_nlt (hk : c.toInt = k) (h : ¬ c < x) : x.toInt ≤ k := by rw [Int32.lt_iff_toInt_lt, hk] at h; omega
theorem fb_le (hk : c.toInt = k) (h : c ≤ x) : k ≤ x.toInt := hk ▸ Int32.le_iff_toInt_le.mp h
theorem fb_nle (hk : c.toInt = k) (h : ¬ c ≤ x) : x.toInt < k := by rw [Int32.le_iff_toInt_le, hk] at h; omega
theorem ga_lt (hk : c.toInt = k) (h : x.toInt < k) : x < c := Int32.lt_iff_toInt_lt.mpr (by rw [hk]; exact h)
theorem ga_nlt (hk : c.toInt = k) (h : k ≤ x.toInt) : ¬ x < c := by rw [Int32.lt_iff_toInt_lt, hk]; omega
theorem ga_le (hk : c.toInt = k) (h : x.toInt ≤ k) : x ≤ c := Int32.le_iff_toInt_le.mpr (by rw [hk]; exact h)
theorem ga_nle (hk : c.toInt = k) (h : k < x.toInt) : ¬ x ≤ c := by rw [Int32.le_iff_toInt_le, hk]; omega
theorem ga_eq (hk : c.toInt = k) (h : x.toInt = k) : x = c := Int32.toInt_inj.mp (by rw [h, hk])
theorem ga_ne (hk : c.toInt = k) (h : ¬ x.toInt = k) : ¬ x = c := fun e => h (by rw [e, hk])
theorem gb_lt (hk : c.toInt = k) (h : k < x.toInt) : c < x := Int32.lt_iff_toInt_lt.mpr (by rw [hk]; exact h)
theorem gb_nlt (hk : c.toInt = k) (h : x.toInt ≤ k) : ¬ c < x := by rw [Int32.lt_iff_toInt_lt, hk]; omega
theorem gb_le (hk : c.toInt = k) (h : k ≤ x.toInt) : c ≤ x := Int32.le_iff_toInt_le.mpr (by rw [hk]; exact h)
theorem gb_nle (hk : c.toInt = k) (h : x.toInt < k) : ¬ c ≤ x := by rw [Int32.le_iff_toInt_le, hk]; omega
end IX
theorem pu_free {A : Nat → Prop} {H0 H : Heap} {locs : List Loc} (hS : va_S A H0 H locs) (hA : ∀ q, H0.size ≤ q → A q) : ∀ q, va_A [] H.size q → A q := by
  intro q h
  rcases h with ⟨k, e, h⟩ | h
  · simp at h
  · exact hA q (Nat.le_trans hS.1 h)
theorem pu_keep {D : va_G} {cl : List vw_C} {ws : va_W} {H H1 : Heap} (hP : va_P D cl ws H) (hk : ∀ q : Nat, q < H.size → ¬ va_A [] H.size q → H1[q]? = H[q]?) : va_P D cl ws H1 :=
  hP.kept fun k q hq => hk q.1 (hP k q hq).lt (by
    rintro (⟨k, e, h⟩ | h)
    · simp at h
    · exact absurd (hP _ q hq).lt (Nat.not_lt.mpr h))
theorem pu_keep2 {D : va_G} {cl : List vw_C} {ws : va_W} {H H1 : Heap} (hP : va_P D cl ws H) (hk : ∀ q : Nat, q < H.size → H1[q]? = H[q]?) : va_P D cl ws H1 :=
  hP.kept fun k q hq => hk q.1 (hP k q hq).lt
theorem pu_S {A : Nat → Prop} {H0 H H1 : Heap} {locs : List Loc} (hS : va_S A H0 H locs) (hk : ∀ q : Nat, q < H.size → H1[q]? = H[q]?) : va_S A H0 H1 locs :=
  ⟨Nat.le_trans hS.1 (hm_size hk), fun q h1 h2 => (hk q (Nat.lt_of_lt_of_le h1 hS.1)).trans (hS.2.1 q h1 h2), hS.2.2⟩
theorem pu_P {D : va_G} {cl : List vw_C} {H : Heap} : va_P D cl [] H := fun k q h => by simp at h
theorem pu_D {A : Nat → Prop} : va_D A [] := ⟨fun i j p q h => by simp at h, fun k q h => by simp at h⟩
/-- the two statics that Throwable's constructor reads -/
def ZqA (A : Nat → Prop) (U : State) (H : Heap) : Prop := va_Zq "java/lang/Throwable" "UNASSIGNED_STACK" "[Ljava/lang/StackTraceElement;" A U H ∧ va_Zq "java/lang/Throwable" "SUPPRESSED_SENTINEL" "Ljava/util/List;" A U H
theorem ZqA.moved {A : Nat → Prop} {u U : State} {H : Heap} (hvm : u.vm.Alike U.vm) (h : ZqA A u H) : ZqA A U H := ⟨va_Zq.moved hvm h.1, va_Zq.moved hvm h.2⟩
theorem ZqA.kept {A : Nat → Prop} {U : State} {H H1 : Heap} (h : ZqA A U H) (hq : ∀ a : Nat, a < H.size → ¬ A a → H1[a]? = H[a]?) : ZqA A U H1 := ⟨va_Zq.kept h.1 hq, va_Zq.kept h.2 hq⟩
theorem ZqA.narrow {A B : Nat → Prop} {U : State} {H : Heap} (h : ZqA A U H) (hAB : ∀ q, B q → A q) : ZqA B U H := ⟨va_Zq.narrow h.1 hAB, va_Zq.narrow h.2 hAB⟩
theorem nw_isM : True := trivial
theorem up_L0 (k : Nat) : vp_updL (fun _ => 0) k 0 = fun _ => 0 := by funext j; simp [vp_updL]
theorem up_I0 (k : Nat) : upd (fun _ => 0) k 0 = fun _ => 0 := by funext j; simp [upd]
def tx_Q (cls : String) : Array Value → State → Addr → State → Prop := fun _ u x t => ∃ ce : Cell, t.heap[x]? = some ce ∧ ce.vm = .none ∧ u.vm.findClass cls = some ce.cls
end
section
/-! What 'throw new X()' asks of the state: words of the tables, two statics of Throwable. -/
def Stz (C n d : String) (A : Nat → Prop) (U : State) (H : Heap) : Prop := ∃ (c : ClassId) (k : Class) (i : Nat) (f : Field) (a : Nat) (cell : Cell) (v : Value), U.vm.findClass C = some c ∧ U.fieldFound? C n d = some (c, k, i, f) ∧ f.isStatic = true ∧ k.statics = some a ∧ H[a]? = some cell ∧ cell.vm.isStatics = true ∧ cell.cls = c ∧ f.slot < cell.slots.size ∧ k.staticTypes[f.slot]? = some f.type ∧ cell.slots[f.slot]? = some v ∧ v.isRef = true ∧ ¬ A a
theorem Stz.moved {C n d : String} {A : Nat → Prop} {u U : State} {H : Heap} (hvm : u.vm.Alike U.vm) (h : Stz C n d A u H) : Stz C n d A U H := by
  obtain ⟨c, k, i, f, a, cell, v, h1, h2, h3, h4, h5, h6, h7, h8, h9, h10⟩ := h
  obtain ⟨k', hi', he⟩ := State.fieldFound?_setVm hvm h2
  exact ⟨c, k', i, f, a, cell, v, by rw [hvm.findClass]; exact h1, hi', h3, by rw [he]; exact h4, h5, h6, h7, h8, by rw [he]; exact h9, h10⟩
theorem Stz.kept {C n d : String} {A : Nat → Prop} {U : State} {H H1 : Heap} (h : Stz C n d A U H) (hq : ∀ a : Nat, a < H.size → ¬ A a → H1[a]? = H[a]?) : Stz C n d A U H1 := by
  obtain ⟨c, k, i, f, a, cell, v, h1, h2, h3, h4, h5, h6, h7, h8, h9, h10, h11, h12⟩ := h
  exact ⟨c, k, i, f, a, cell, v, h1, h2, h3, h4, by rw [hq a (Array.getElem?_eq_some_iff.mp h5).1 h12]; exact h5, h6, h7, h8, h9, h10, h11, h12⟩
theorem Stz.narrow {C n d : String} {A B : Nat → Prop} {U : State} {H : Heap} (h : Stz C n d A U H) (hAB : ∀ q, B q → A q) : Stz C n d B U H := by
  obtain ⟨c, k, i, f, a, cell, v, h1, h2, h3, h4, h5, h6, h7, h8, h9, h10, h11, h12⟩ := h
  exact ⟨c, k, i, f, a, cell, v, h1, h2, h3, h4, h5, h6, h7, h8, h9, h10, h11, fun z => h12 (hAB a z)⟩
theorem Stz.lays {C n d : String} {A : Nat → Prop} {s : State} {args : Array Value} (h : Stz C n d A s s.heap) : (Cond.laysStatic C n d).before args s = true := by
  obtain ⟨c, k, i, f, a, cell, v, h1, h2, h3, h4, h5, h6, h7, h8, h9, -⟩ := h
  simp [Cond.before, Cond.holds, Cond.value, h1, h2, h3, h4, h5, h6, h7, h8, h9]
theorem Stz.isRef {C n d : String} {A : Nat → Prop} {s : State} {args : Array Value} (h : Stz C n d A s s.heap) : (Cond.isRef (.static C n d)).before args s = true := by
  obtain ⟨c, k, i, f, a, cell, v, h1, h2, h3, h4, h5, h6, h7, h8, h9, h10, h11, -⟩ := h
  cases v <;> simp [Value.isRef] at h11 <;> simp [Cond.before, Cond.holds, Cond.value, Term.eval, State.fieldNamed?, h2, h3, h4, h5, h6, h10]
theorem Stz.of {C n d : String} {A : Nat → Prop} {s : State} {args : Array Value} (hl : (Cond.laysStatic C n d).before args s = true) (hr : (Cond.isRef (.static C n d)).before args s = true) (hA : ∀ a : Nat, a < s.heap.size → ¬ A a) : Stz C n d A s s.heap := by
  obtain ⟨c, k, i, f, a, cell, hc, hi, hst, ha, hcell, hs, hcls, hlt, hty⟩ := Cond.laysStatic_spec hl
  obtain ⟨u, hu⟩ := Cond.staticRefV (args := args) (first := s) (o := none) (idx := []) hi hst ha hcell hs hr
  exact ⟨c, k, i, f, a, cell, u.v, hc, hi, hst, ha, hcell, hs, hcls, hlt, hty, hu, u.2, hA a (Array.getElem?_eq_some_iff.mp hcell).1⟩
def faceW (w : Cond) : Bool := w.faceAtom && w.onTables
def xsA : List Cond := lw_tbl.filter faceW
theorem xs_warm {w : Cond} (hw : w ∈ xsA) {s U : State} (hW : s.WarmedH U.vm) (h : va_Nw w s) : va_Nw w U := by
  have hf := (List.mem_filter.mp hw).2
  simp only [faceW, Bool.and_eq_true] at hf
  exact va_tabs hf.2 (rfl : (s.setVm U.vm).vm = U.vm) (Cond.faceAtom_setVm (args := #[]) hW.alike w hf.1 h)
/-- what a throw needs of the state -/
def ThA (A : Nat → Prop) (U : State) (H : Heap) : Prop := Stz "java/lang/Throwable" "UNASSIGNED_STACK" "[Ljava/lang/StackTraceElement;" A U H ∧ Stz "java/lang/Throwable" "SUPPRESSED_SENTINEL" "Ljava/util/List;" A U H ∧ (∀ w ∈ xsA, va_Nw w U) ∧ va_Nc "java/lang/IllegalStateException" "java/lang/IllegalArgumentException" U
theorem ThA.warm {A : Nat → Prop} {s U : State} {H : Heap} (hW : s.WarmedH U.vm) (h : ThA A s H) : ThA A U H := ⟨h.1.moved hW.alike, h.2.1.moved hW.alike, fun w hw => xs_warm hw hW (h.2.2.1 w hw), va_Nc.moved hW.alike h.2.2.2⟩
theorem ThA.kept {A : Nat → Prop} {U : State} {H H1 : Heap} (h : ThA A U H) (hq : ∀ a : Nat, a < H.size → ¬ A a → H1[a]? = H[a]?) : ThA A U H1 := ⟨h.1.kept hq, h.2.1.kept hq, h.2.2⟩
theorem ThA.narrow {A B : Nat → Prop} {U : State} {H : Heap} (h : ThA A U H) (hAB : ∀ q, B q → A q) : ThA B U H := ⟨h.1.narrow hAB, h.2.1.narrow hAB, h.2.2⟩
theorem ThA.same {A : Nat → Prop} {u U : State} {H : Heap} (hv : u.vm = U.vm) (h : ThA A u H) : ThA A U H := ⟨h.1.moved (by rw [hv]; exact Vm.Alike.refl _), h.2.1.moved (by rw [hv]; exact Vm.Alike.refl _), fun w hw => va_Nw.same (by have := (List.mem_filter.mp hw).2; simp only [faceW, Bool.and_eq_true] at this; exact this.2) hv (h.2.2.1 w hw), va_Nc.moved (by rw [hv]; exact Vm.Alike.refl _) h.2.2.2⟩
def own_ok (a : Cond) : Prop := a ∈ wsA ∨ a ∈ xsA ∨ a = Cond.laysStatic "java/lang/Throwable" "UNASSIGNED_STACK" "[Ljava/lang/StackTraceElement;" ∨ a = Cond.laysStatic "java/lang/Throwable" "SUPPRESSED_SENTINEL" "Ljava/util/List;" ∨ a = Cond.isRef (.static "java/lang/Throwable" "UNASSIGNED_STACK" "[Ljava/lang/StackTraceElement;") ∨ a = Cond.isRef (.static "java/lang/Throwable" "SUPPRESSED_SENTINEL" "Ljava/util/List;")
theorem own_before {a : Cond} {A : Nat → Prop} {s : State} {args : Array Value} (h : own_ok a) (ht : ∀ w ∈ wsA, w.before args s = true) (hT : ThA A s s.heap) : a.before args s = true := by
  rcases h with h | h | rfl | rfl | rfl | rfl
  · exact ht a h
  · exact va_Nw.use (by have := (List.mem_filter.mp h).2; simp only [faceW, Bool.and_eq_true] at this; exact this.2) (hT.2.2.1 a h)
  · exact hT.1.lays
  · exact hT.2.1.lays
  · exact hT.1.isRef
  · exact hT.2.1.isRef
set_option maxRecDepth 100000 in
set_option maxHeartbeats 4000000 in
theorem oa_IAE : ∀ a ∈ Bundle.ownAtoms0 "NetUnfolder" 52 "java/lang/IllegalArgumentException" ["java/lang/RuntimeException", "java/lang/Exception"], own_ok a := by unfold own_ok; decide +kernel
set_option maxRecDepth 100000 in
set_option maxHeartbeats 4000000 in
theorem oa_ISE : ∀ a ∈ Bundle.ownAtoms0 "NetUnfolder" 59 "java/lang/IllegalStateException" ["java/lang/RuntimeException", "java/lang/Exception"], own_ok a := by unfold own_ok; decide +kernel
theorem xc_IAE : Cond.castable "java/lang/IllegalArgumentException" "java/lang/IllegalArgumentException" ∈ xsA := by decide +kernel
theorem xc_ISE : Cond.castable "java/lang/IllegalStateException" "java/lang/IllegalStateException" ∈ xsA := by decide +kernel
end
section
/-! Names: the classes' fields, the methods' names, the words in wsA, decode rows: printed by my program (wip/gen). -/
def T_NU : u_T := fun k => match k with
  | 0 => ("NetUnfolder", "net", "LNetUnfolder$Net;", true)
  | 1 => ("NetUnfolder", "prefix", "LNetUnfolder$Prefix;", true)
  | 2 => ("NetUnfolder", "latest", "LNetUnfolder$Way;", true)
  | 3 => ("NetUnfolder", "unfolding", "LNetUnfolder$Unfolding;", true)
  | _ => ("NetUnfolder", "question", "LNetUnfolder$Question;", true)
def ty_NU : Nat → FieldType := fun k => match k with
  | 0 => .object "NetUnfolder$Net"
  | 1 => .object "NetUnfolder$Prefix"
  | 2 => .object "NetUnfolder$Way"
  | 3 => .object "NetUnfolder$Unfolding"
  | _ => .object "NetUnfolder$Question"
theorem nm_NU : ∀ a, a < 5 → ∀ b, b < 5 → a ≠ b → (T_NU a).2.1 ≠ (T_NU b).2.1 := by decide +kernel
theorem ok_NU : ∀ k, k < 5 → parseFieldDescriptor (T_NU k).2.2.1 = some (ty_NU k) := by decide +kernel
def T_Ne : u_T := fun k => match k with
  | 0 => ("NetUnfolder$Net", "preset", "[I", true)
  | 1 => ("NetUnfolder$Net", "postset", "[I", true)
  | 2 => ("NetUnfolder$Net", "size", "I", false)
  | _ => ("NetUnfolder$Net", "first", "I", false)
def ty_Ne : Nat → FieldType := fun k => match k with
  | 0 => .array .int
  | 1 => .array .int
  | 2 => .int
  | _ => .int
theorem nm_Ne : ∀ a, a < 4 → ∀ b, b < 4 → a ≠ b → (T_Ne a).2.1 ≠ (T_Ne b).2.1 := by decide +kernel
theorem ok_Ne : ∀ k, k < 4 → parseFieldDescriptor (T_Ne k).2.2.1 = some (ty_Ne k) := by decide +kernel
def T_Pf : u_T := fun k => match k with
  | 0 => ("NetUnfolder$Prefix", "conditions", "I", false)
  | 1 => ("NetUnfolder$Prefix", "place", "[I", true)
  | 2 => ("NetUnfolder$Prefix", "maker", "[I", true)
  | 3 => ("NetUnfolder$Prefix", "takers", "[I", true)
  | 4 => ("NetUnfolder$Prefix", "beside", "[J", true)
  | 5 => ("NetUnfolder$Prefix", "ofPlace", "[J", true)
  | 6 => ("NetUnfolder$Prefix", "events", "I", false)
  | 7 => ("NetUnfolder$Prefix", "transition", "[I", true)
  | 8 => ("NetUnfolder$Prefix", "taken", "[J", true)
  | 9 => ("NetUnfolder$Prefix", "causes", "[I", true)
  | 10 => ("NetUnfolder$Prefix", "marking", "[I", true)
  | 11 => ("NetUnfolder$Prefix", "rank", "[J", true)
  | 12 => ("NetUnfolder$Prefix", "cutOffs", "I", false)
  | _ => ("NetUnfolder$Prefix", "whole", "Z", false)
def ty_Pf : Nat → FieldType := fun k => match k with
  | 0 => .int
  | 1 => .array .int
  | 2 => .array .int
  | 3 => .array .int
  | 4 => .array .long
  | 5 => .array .long
  | 6 => .int
  | 7 => .array .int
  | 8 => .array .long
  | 9 => .array .int
  | 10 => .array .int
  | 11 => .array .long
  | 12 => .int
  | _ => .boolean
theorem nm_Pf : ∀ a, a < 14 → ∀ b, b < 14 → a ≠ b → (T_Pf a).2.1 ≠ (T_Pf b).2.1 := by decide +kernel
theorem ok_Pf : ∀ k, k < 14 → parseFieldDescriptor (T_Pf k).2.2.1 = some (ty_Pf k) := by decide +kernel
def T_Wa : u_T := fun k => match k with
  | 0 => ("NetUnfolder$Way", "steps", "[I", true)
  | _ => ("NetUnfolder$Way", "length", "I", false)
def ty_Wa : Nat → FieldType := fun k => match k with
  | 0 => .array .int
  | _ => .int
theorem nm_Wa : ∀ a, a < 2 → ∀ b, b < 2 → a ≠ b → (T_Wa a).2.1 ≠ (T_Wa b).2.1 := by decide +kernel
theorem ok_Wa : ∀ k, k < 2 → parseFieldDescriptor (T_Wa k).2.2.1 = some (ty_Wa k) := by decide +kernel
def T_Un : u_T := fun k => match k with
  | 0 => ("NetUnfolder$Unfolding", "net", "LNetUnfolder$Net;", true)
  | 1 => ("NetUnfolder$Unfolding", "prefix", "LNetUnfolder$Prefix;", true)
  | 2 => ("NetUnfolder$Unfolding", "way", "LNetUnfolder$Way;", true)
  | _ => ("NetUnfolder$Unfolding", "possible", "LNetUnfolder$Possible;", true)
def ty_Un : Nat → FieldType := fun k => match k with
  | 0 => .object "NetUnfolder$Net"
  | 1 => .object "NetUnfolder$Prefix"
  | 2 => .object "NetUnfolder$Way"
  | _ => .object "NetUnfolder$Possible"
theorem nm_Un : ∀ a, a < 4 → ∀ b, b < 4 → a ≠ b → (T_Un a).2.1 ≠ (T_Un b).2.1 := by decide +kernel
theorem ok_Un : ∀ k, k < 4 → parseFieldDescriptor (T_Un k).2.2.1 = some (ty_Un k) := by decide +kernel
def T_Po : u_T := fun k => match k with
  | 0 => ("NetUnfolder$Possible", "prefix", "LNetUnfolder$Prefix;", true)
  | 1 => ("NetUnfolder$Possible", "size", "I", false)
  | 2 => ("NetUnfolder$Possible", "transition", "[I", true)
  | 3 => ("NetUnfolder$Possible", "taken", "[J", true)
  | _ => ("NetUnfolder$Possible", "rank", "[J", true)
def ty_Po : Nat → FieldType := fun k => match k with
  | 0 => .object "NetUnfolder$Prefix"
  | 1 => .int
  | 2 => .array .int
  | 3 => .array .long
  | _ => .array .long
theorem nm_Po : ∀ a, a < 5 → ∀ b, b < 5 → a ≠ b → (T_Po a).2.1 ≠ (T_Po b).2.1 := by decide +kernel
theorem ok_Po : ∀ k, k < 5 → parseFieldDescriptor (T_Po k).2.2.1 = some (ty_Po k) := by decide +kernel
def T_Qu : u_T := fun k => match k with
  | 0 => ("NetUnfolder$Question", "net", "LNetUnfolder$Net;", true)
  | 1 => ("NetUnfolder$Question", "prefix", "LNetUnfolder$Prefix;", true)
  | 2 => ("NetUnfolder$Question", "way", "LNetUnfolder$Way;", true)
  | 3 => ("NetUnfolder$Question", "clauses", "LNetUnfolder$Clauses;", true)
  | 4 => ("NetUnfolder$Question", "search", "LNetUnfolder$Search;", true)
  | _ => ("NetUnfolder$Question", "usable", "I", false)
def ty_Qu : Nat → FieldType := fun k => match k with
  | 0 => .object "NetUnfolder$Net"
  | 1 => .object "NetUnfolder$Prefix"
  | 2 => .object "NetUnfolder$Way"
  | 3 => .object "NetUnfolder$Clauses"
  | 4 => .object "NetUnfolder$Search"
  | _ => .int
theorem nm_Qu : ∀ a, a < 6 → ∀ b, b < 6 → a ≠ b → (T_Qu a).2.1 ≠ (T_Qu b).2.1 := by decide +kernel
theorem ok_Qu : ∀ k, k < 6 → parseFieldDescriptor (T_Qu k).2.2.1 = some (ty_Qu k) := by decide +kernel
def T_Cs : u_T := fun k => match k with
  | 0 => ("NetUnfolder$Clauses", "yes", "[J", true)
  | 1 => ("NetUnfolder$Clauses", "no", "[J", true)
  | 2 => ("NetUnfolder$Clauses", "size", "I", false)
  | _ => ("NetUnfolder$Clauses", "given", "I", false)
def ty_Cs : Nat → FieldType := fun k => match k with
  | 0 => .array .long
  | 1 => .array .long
  | 2 => .int
  | _ => .int
theorem nm_Cs : ∀ a, a < 4 → ∀ b, b < 4 → a ≠ b → (T_Cs a).2.1 ≠ (T_Cs b).2.1 := by decide +kernel
theorem ok_Cs : ∀ k, k < 4 → parseFieldDescriptor (T_Cs k).2.2.1 = some (ty_Cs k) := by decide +kernel
def T_Se : u_T := fun k => match k with
  | 0 => ("NetUnfolder$Search", "clauses", "LNetUnfolder$Clauses;", true)
  | 1 => ("NetUnfolder$Search", "yes", "J", false)
  | 2 => ("NetUnfolder$Search", "no", "J", false)
  | 3 => ("NetUnfolder$Search", "level", "I", false)
  | 4 => ("NetUnfolder$Search", "setAt", "[J", true)
  | 5 => ("NetUnfolder$Search", "trail", "[I", true)
  | 6 => ("NetUnfolder$Search", "trailSize", "I", false)
  | _ => ("NetUnfolder$Search", "reason", "[I", true)
def ty_Se : Nat → FieldType := fun k => match k with
  | 0 => .object "NetUnfolder$Clauses"
  | 1 => .long
  | 2 => .long
  | 3 => .int
  | 4 => .array .long
  | 5 => .array .int
  | 6 => .int
  | _ => .array .int
theorem nm_Se : ∀ a, a < 8 → ∀ b, b < 8 → a ≠ b → (T_Se a).2.1 ≠ (T_Se b).2.1 := by decide +kernel
theorem ok_Se : ∀ k, k < 8 → parseFieldDescriptor (T_Se k).2.2.1 = some (ty_Se k) := by decide +kernel
def T_Mo : u_T := fun k => match k with
  | 0 => ("NetUnfolderModel", "thrown", "I", false)
  | 1 => ("NetUnfolderModel", "transitions", "I", false)
  | 2 => ("NetUnfolderModel", "pre", "[I", true)
  | 3 => ("NetUnfolderModel", "post", "[I", true)
  | 4 => ("NetUnfolderModel", "first", "I", false)
  | 5 => ("NetUnfolderModel", "conditions", "I", false)
  | 6 => ("NetUnfolderModel", "place", "[I", true)
  | 7 => ("NetUnfolderModel", "maker", "[I", true)
  | 8 => ("NetUnfolderModel", "behind", "[I", true)
  | 9 => ("NetUnfolderModel", "beside", "[J", true)
  | 10 => ("NetUnfolderModel", "events", "I", false)
  | 11 => ("NetUnfolderModel", "transition", "[I", true)
  | 12 => ("NetUnfolderModel", "causes", "[I", true)
  | 13 => ("NetUnfolderModel", "taken", "[J", true)
  | 14 => ("NetUnfolderModel", "takes", "[I", true)
  | 15 => ("NetUnfolderModel", "rank", "[J", true)
  | 16 => ("NetUnfolderModel", "marking", "[I", true)
  | 17 => ("NetUnfolderModel", "cut", "[Z", true)
  | 18 => ("NetUnfolderModel", "whole", "Z", false)
  | 19 => ("NetUnfolderModel", "possible", "I", false)
  | 20 => ("NetUnfolderModel", "chosen", "[I", true)
  | 21 => ("NetUnfolderModel", "open", "[J", true)
  | 22 => ("NetUnfolderModel", "leastRank", "J", false)
  | 23 => ("NetUnfolderModel", "leastTransition", "I", false)
  | 24 => ("NetUnfolderModel", "leastMany", "I", false)
  | 25 => ("NetUnfolderModel", "least", "[I", true)
  | 26 => ("NetUnfolderModel", "length", "I", false)
  | _ => ("NetUnfolderModel", "way", "[I", true)
def ty_Mo : Nat → FieldType := fun k => match k with
  | 0 => .int
  | 1 => .int
  | 2 => .array .int
  | 3 => .array .int
  | 4 => .int
  | 5 => .int
  | 6 => .array .int
  | 7 => .array .int
  | 8 => .array .int
  | 9 => .array .long
  | 10 => .int
  | 11 => .array .int
  | 12 => .array .int
  | 13 => .array .long
  | 14 => .array .int
  | 15 => .array .long
  | 16 => .array .int
  | 17 => .array .boolean
  | 18 => .boolean
  | 19 => .int
  | 20 => .array .int
  | 21 => .array .long
  | 22 => .long
  | 23 => .int
  | 24 => .int
  | 25 => .array .int
  | 26 => .int
  | _ => .array .int
theorem nm_Mo : ∀ a, a < 28 → ∀ b, b < 28 → a ≠ b → (T_Mo a).2.1 ≠ (T_Mo b).2.1 := by decide +kernel
theorem ok_Mo : ∀ k, k < 28 → parseFieldDescriptor (T_Mo k).2.2.1 = some (ty_Mo k) := by decide +kernel
abbrev clA : List vw_C := [("NetUnfolder", T_NU, 5), ("NetUnfolder$Net", T_Ne, 4), ("NetUnfolder$Prefix", T_Pf, 14), ("NetUnfolder$Way", T_Wa, 2), ("NetUnfolder$Unfolding", T_Un, 4), ("NetUnfolder$Possible", T_Po, 5), ("NetUnfolder$Question", T_Qu, 6), ("NetUnfolder$Clauses", T_Cs, 4), ("NetUnfolder$Search", T_Se, 8), ("NetUnfolderModel", T_Mo, 28)]
abbrev y_Ne_init : MethodName := { cls := "NetUnfolder$Net", name := "<init>", desc := "()V" }
abbrev y_Wa_init : MethodName := { cls := "NetUnfolder$Way", name := "<init>", desc := "()V" }
abbrev y_Pf_init : MethodName := { cls := "NetUnfolder$Prefix", name := "<init>", desc := "()V" }
abbrev y_Po_init : MethodName := { cls := "NetUnfolder$Possible", name := "<init>", desc := "(LNetUnfolder$Prefix;)V" }
abbrev y_Un_init : MethodName := { cls := "NetUnfolder$Unfolding", name := "<init>", desc := "(LNetUnfolder$Net;LNetUnfolder$Prefix;LNetUnfolder$Way;)V" }
abbrev y_Cs_init : MethodName := { cls := "NetUnfolder$Clauses", name := "<init>", desc := "()V" }
abbrev y_Se_init : MethodName := { cls := "NetUnfolder$Search", name := "<init>", desc := "(LNetUnfolder$Clauses;)V" }
abbrev y_Qu_init : MethodName := { cls := "NetUnfolder$Question", name := "<init>", desc := "(LNetUnfolder$Net;LNetUnfolder$Prefix;LNetUnfolder$Way;)V" }
abbrev y_NU_init : MethodName := { cls := "NetUnfolder", name := "<init>", desc := "()V" }
abbrev y_Mo_init : MethodName := { cls := "NetUnfolderModel", name := "<init>", desc := "()V" }
abbrev y_NU_isMarking : MethodName := { cls := "NetUnfolder", name := "isMarking", desc := "(I)Z" }
abbrev y_NU_has : MethodName := { cls := "NetUnfolder", name := "has", desc := "(JI)Z" }
abbrev y_Ig_bitCount : MethodName := { cls := "java/lang/Integer", name := "bitCount", desc := "(I)I" }
abbrev y_Mo_outside : MethodName := { cls := "NetUnfolderModel", name := "outside", desc := "(III)Z" }
abbrev y_Ar_fill : MethodName := { cls := "java/util/Arrays", name := "fill", desc := "([JJ)V" }
abbrev y_Pf_wipe : MethodName := { cls := "NetUnfolder$Prefix", name := "wipe", desc := "()V" }
abbrev y_Wa_drop : MethodName := { cls := "NetUnfolder$Way", name := "drop", desc := "()V" }
abbrev y_Ne_wipe : MethodName := { cls := "NetUnfolder$Net", name := "wipe", desc := "()V" }
abbrev y_Ne_add : MethodName := { cls := "NetUnfolder$Net", name := "add", desc := "(II)I" }
abbrev y_NU_dropPrefixAndWay : MethodName := { cls := "NetUnfolder", name := "dropPrefixAndWay", desc := "()V" }
abbrev y_Pf_allConditions : MethodName := { cls := "NetUnfolder$Prefix", name := "allConditions", desc := "()J" }
abbrev y_Pf_addConditions : MethodName := { cls := "NetUnfolder$Prefix", name := "addConditions", desc := "(IIJ)J" }
abbrev y_Po_wipe : MethodName := { cls := "NetUnfolder$Possible", name := "wipe", desc := "()V" }
abbrev y_Po_tooMany : MethodName := { cls := "NetUnfolder$Possible", name := "tooMany", desc := "()Z" }
abbrev y_Un_findPossible : MethodName := { cls := "NetUnfolder$Unfolding", name := "findPossible", desc := "(JJ)V" }
abbrev y_Un_begin : MethodName := { cls := "NetUnfolder$Unfolding", name := "begin", desc := "()V" }
abbrev y_Un_run : MethodName := { cls := "NetUnfolder$Unfolding", name := "run", desc := "()I" }
abbrev y_NU_clear : MethodName := { cls := "NetUnfolder", name := "clear", desc := "()V" }
abbrev y_NU_unfold : MethodName := { cls := "NetUnfolder", name := "unfold", desc := "()I" }
abbrev y_NU_transition : MethodName := { cls := "NetUnfolder", name := "transition", desc := "(II)I" }
abbrev y_NU_first : MethodName := { cls := "NetUnfolder", name := "first", desc := "(I)V" }
abbrev y_Wa_step : MethodName := { cls := "NetUnfolder$Way", name := "step", desc := "(I)I" }
abbrev y_NU_way : MethodName := { cls := "NetUnfolder", name := "way", desc := "(I)I" }
abbrev y_NU_count : MethodName := { cls := "NetUnfolder", name := "count", desc := "(I)I" }
abbrev y_NU_event : MethodName := { cls := "NetUnfolder", name := "event", desc := "(II)I" }
abbrev y_NU_takes : MethodName := { cls := "NetUnfolder", name := "takes", desc := "(II)I" }
abbrev y_NU_condition : MethodName := { cls := "NetUnfolder", name := "condition", desc := "(II)I" }
abbrev y_NU_concurrent : MethodName := { cls := "NetUnfolder", name := "concurrent", desc := "(II)Z" }
abbrev y_NU_reach : MethodName := { cls := "NetUnfolder", name := "reach", desc := "(I)I" }
abbrev y_NU_deadlock : MethodName := { cls := "NetUnfolder", name := "deadlock", desc := "()I" }
abbrev y_NU_play : MethodName := { cls := "NetUnfolder", name := "play", desc := "(I)I" }
def NwA (U : State) : Prop := va_Nw (Jvm.Cond.methodLinkNest "NetUnfolder" (9 : Nat) ({ cls := "NetUnfolder$Net", name := "<init>", desc := "()V" } : Jvm.MethodName) "NetUnfolder") U ∧ va_Nw (Jvm.Cond.methodLinkNest "NetUnfolder" (18 : Nat) ({ cls := "NetUnfolder$Prefix", name := "<init>", desc := "()V" } : Jvm.MethodName) "NetUnfolder") U ∧ va_Nw (Jvm.Cond.methodLinkNest "NetUnfolder" (25 : Nat) ({ cls := "NetUnfolder$Way", name := "<init>", desc := "()V" } : Jvm.MethodName) "NetUnfolder") U ∧ va_Nw (Jvm.Cond.methodLinkNest "NetUnfolder$Question" (11 : Nat) ({ cls := "NetUnfolder$Clauses", name := "<init>", desc := "()V" } : Jvm.MethodName) "NetUnfolder") U ∧ va_Nw (Jvm.Cond.methodLinkNest "NetUnfolder$Prefix" (63 : Nat) ({ cls := "NetUnfolder", name := "has", desc := "(JI)Z" } : Jvm.MethodName) "NetUnfolder") U ∧ va_Nw (Jvm.Cond.methodLinkNest "NetUnfolder$Unfolding" (103 : Nat) ({ cls := "NetUnfolder", name := "has", desc := "(JI)Z" } : Jvm.MethodName) "NetUnfolder") U ∧ va_Nw (Jvm.Cond.methodLinkNest "NetUnfolder$Prefix" (83 : Nat) ({ cls := "NetUnfolder", name := "least", desc := "(J)I" } : Jvm.MethodName) "NetUnfolder") U ∧ va_Nw (Jvm.Cond.methodLinkNest "NetUnfolder$Question" (42 : Nat) ({ cls := "NetUnfolder", name := "has", desc := "(JI)Z" } : Jvm.MethodName) "NetUnfolder") U ∧ va_Nw (Jvm.Cond.methodLinkNest "NetUnfolder$Search" (55 : Nat) ({ cls := "NetUnfolder", name := "least", desc := "(J)I" } : Jvm.MethodName) "NetUnfolder") U ∧ va_Nw (Jvm.Cond.methodLinkNest "NetUnfolder$Search" (30 : Nat) ({ cls := "NetUnfolder", name := "has", desc := "(JI)Z" } : Jvm.MethodName) "NetUnfolder") U
theorem NwA.warm {s U : State} (hW : s.WarmedH U.vm) (h : NwA s) : NwA U := ⟨va_Nw.warmM hW h.1, va_Nw.warmM hW h.2.1, va_Nw.warmM hW h.2.2.1, va_Nw.warmM hW h.2.2.2.1, va_Nw.warmM hW h.2.2.2.2.1, va_Nw.warmM hW h.2.2.2.2.2.1, va_Nw.warmM hW h.2.2.2.2.2.2.1, va_Nw.warmM hW h.2.2.2.2.2.2.2.1, va_Nw.warmM hW h.2.2.2.2.2.2.2.2.1, va_Nw.warmM hW h.2.2.2.2.2.2.2.2.2⟩
theorem NwA.same {u U : State} (h : u.vm = U.vm) (hN : NwA u) : NwA U := ⟨va_Nw.same rfl h hN.1, va_Nw.same rfl h hN.2.1, va_Nw.same rfl h hN.2.2.1, va_Nw.same rfl h hN.2.2.2.1, va_Nw.same rfl h hN.2.2.2.2.1, va_Nw.same rfl h hN.2.2.2.2.2.1, va_Nw.same rfl h hN.2.2.2.2.2.2.1, va_Nw.same rfl h hN.2.2.2.2.2.2.2.1, va_Nw.same rfl h hN.2.2.2.2.2.2.2.2.1, va_Nw.same rfl h hN.2.2.2.2.2.2.2.2.2⟩
set_option maxRecDepth 20000 in
theorem wd_1_1 : (Jvm.Cond.initialized "NetUnfolder") ∈ wsA := wA_1 (List.mem_of_getElem? (i := 1) rfl) rfl
set_option maxRecDepth 20000 in
theorem wd_1_2 : (Jvm.Cond.initialized "NetUnfolder$Net") ∈ wsA := wA_1 (List.mem_of_getElem? (i := 2) rfl) rfl
set_option maxRecDepth 20000 in
theorem wd_1_3 : (Jvm.Cond.initialized "NetUnfolder$Prefix") ∈ wsA := wA_1 (List.mem_of_getElem? (i := 3) rfl) rfl
set_option maxRecDepth 20000 in
theorem wd_1_4 : (Jvm.Cond.initialized "NetUnfolder$Way") ∈ wsA := wA_1 (List.mem_of_getElem? (i := 4) rfl) rfl
set_option maxRecDepth 20000 in
theorem wd_1_5 : (Jvm.Cond.initialized "NetUnfolder$Unfolding") ∈ wsA := wA_1 (List.mem_of_getElem? (i := 5) rfl) rfl
set_option maxRecDepth 20000 in
theorem wd_1_6 : (Jvm.Cond.initialized "NetUnfolder$Possible") ∈ wsA := wA_1 (List.mem_of_getElem? (i := 6) rfl) rfl
set_option maxRecDepth 20000 in
theorem wd_1_7 : (Jvm.Cond.initialized "NetUnfolder$Question") ∈ wsA := wA_1 (List.mem_of_getElem? (i := 7) rfl) rfl
set_option maxRecDepth 20000 in
theorem wd_1_8 : (Jvm.Cond.initialized "NetUnfolder$Clauses") ∈ wsA := wA_1 (List.mem_of_getElem? (i := 8) rfl) rfl
set_option maxRecDepth 20000 in
theorem wd_1_9 : (Jvm.Cond.initialized "NetUnfolder$Search") ∈ wsA := wA_1 (List.mem_of_getElem? (i := 9) rfl) rfl
set_option maxRecDepth 20000 in
theorem wd_1_14 : (Jvm.Cond.initialized "java/lang/IllegalArgumentException") ∈ wsA := wA_1 (List.mem_of_getElem? (i := 14) rfl) rfl
set_option maxRecDepth 20000 in
theorem wd_1_15 : (Jvm.Cond.initialized "java/lang/IllegalStateException") ∈ wsA := wA_1 (List.mem_of_getElem? (i := 15) rfl) rfl
set_option maxRecDepth 20000 in
theorem wd_1_16 : (Jvm.Cond.initialized "java/util/Arrays") ∈ wsA := wA_1 (List.mem_of_getElem? (i := 16) rfl) rfl
set_option maxRecDepth 20000 in
theorem wd_1_17 : (Jvm.Cond.initialized "java/lang/Integer") ∈ wsA := wA_1 (List.mem_of_getElem? (i := 17) rfl) rfl
set_option maxRecDepth 20000 in
theorem wd_1_24 : (Jvm.Cond.methodLink "NetUnfolder" (1 : Nat) ({ cls := "java/lang/Object", name := "<init>", desc := "()V" } : Jvm.MethodName)) ∈ wsA := wA_1 (List.mem_of_getElem? (i := 24) rfl) rfl
set_option maxRecDepth 20000 in
theorem wd_1_25 : (Jvm.Cond.instanceMethod ({ cls := "java/lang/Object", name := "<init>", desc := "()V" } : Jvm.MethodName)) ∈ wsA := wA_1 (List.mem_of_getElem? (i := 25) rfl) rfl
set_option maxRecDepth 20000 in
theorem wd_1_26 : (Jvm.Cond.code ({ cls := "java/lang/Object", name := "<init>", desc := "()V" } : Jvm.MethodName) object_method_1_code (1 : Nat) (Option.none : Option Jvm.ClassFile.FieldType)) ∈ wsA := wA_1 (List.mem_of_getElem? (i := 26) rfl) rfl
set_option maxRecDepth 20000 in
theorem wd_1_27 : (Jvm.Cond.classLink "NetUnfolder" (7 : Nat) "NetUnfolder$Net") ∈ wsA := wA_1 (List.mem_of_getElem? (i := 27) rfl) rfl
set_option maxRecDepth 20000 in
theorem wd_1_28 : (Jvm.Cond.instantiable "NetUnfolder$Net" (4 : Nat)) ∈ wsA := wA_1 (List.mem_of_getElem? (i := 28) rfl) rfl
set_option maxRecDepth 20000 in
theorem wd_1_30 : (Jvm.Cond.instanceMethod ({ cls := "NetUnfolder$Net", name := "<init>", desc := "()V" } : Jvm.MethodName)) ∈ wsA := wA_1 (List.mem_of_getElem? (i := 30) rfl) rfl
set_option maxRecDepth 20000 in
theorem wd_1_31 : (Jvm.Cond.code ({ cls := "NetUnfolder$Net", name := "<init>", desc := "()V" } : Jvm.MethodName) prog_3_method_1_code (1 : Nat) (Option.none : Option Jvm.ClassFile.FieldType)) ∈ wsA := wA_1 (List.mem_of_getElem? (i := 31) rfl) rfl
set_option maxRecDepth 20000 in
theorem wd_1_32 : (Jvm.Cond.methodLink "NetUnfolder$Net" (3 : Nat) ({ cls := "java/lang/Object", name := "<init>", desc := "()V" } : Jvm.MethodName)) ∈ wsA := wA_1 (List.mem_of_getElem? (i := 32) rfl) rfl
set_option maxRecDepth 20000 in
theorem wd_1_33 : (Jvm.Cond.fieldLink "NetUnfolder$Net" (9 : Nat) "NetUnfolder$Net" "preset" "[I") ∈ wsA := wA_1 (List.mem_of_getElem? (i := 33) rfl) rfl
set_option maxRecDepth 20000 in
theorem wd_1_36 : (Jvm.Cond.fieldLink "NetUnfolder$Net" (15 : Nat) "NetUnfolder$Net" "postset" "[I") ∈ wsA := wA_1 (List.mem_of_getElem? (i := 36) rfl) rfl
set_option maxRecDepth 20000 in
theorem wd_1_38 : (Jvm.Cond.fieldLink "NetUnfolder$Net" (18 : Nat) "NetUnfolder$Net" "size" "I") ∈ wsA := wA_1 (List.mem_of_getElem? (i := 38) rfl) rfl
set_option maxRecDepth 20000 in
theorem wd_1_39 : (Jvm.Cond.fieldLink "NetUnfolder" (53 : Nat) "NetUnfolder$Net" "size" "I") ∈ wsA := wA_1 (List.mem_of_getElem? (i := 39) rfl) rfl
set_option maxRecDepth 20000 in
theorem wd_1_41 : (Jvm.Cond.fieldLink "NetUnfolder$Unfolding" (158 : Nat) "NetUnfolder$Net" "size" "I") ∈ wsA := wA_1 (List.mem_of_getElem? (i := 41) rfl) rfl
set_option maxRecDepth 20000 in
theorem wd_1_42 : (Jvm.Cond.fieldLink "NetUnfolder$Net" (22 : Nat) "NetUnfolder$Net" "first" "I") ∈ wsA := wA_1 (List.mem_of_getElem? (i := 42) rfl) rfl
set_option maxRecDepth 20000 in
theorem wd_1_43 : (Jvm.Cond.fieldLink "NetUnfolder$Unfolding" (72 : Nat) "NetUnfolder$Net" "first" "I") ∈ wsA := wA_1 (List.mem_of_getElem? (i := 43) rfl) rfl
set_option maxRecDepth 20000 in
theorem wd_1_44 : (Jvm.Cond.fieldLink "NetUnfolder" (67 : Nat) "NetUnfolder$Net" "first" "I") ∈ wsA := wA_1 (List.mem_of_getElem? (i := 44) rfl) rfl
set_option maxRecDepth 20000 in
theorem wd_1_46 : (Jvm.Cond.laysFinal "NetUnfolder$Net" "NetUnfolder$Net" "preset" "[I") ∈ wsA := wA_1 (List.mem_of_getElem? (i := 46) rfl) rfl
set_option maxRecDepth 20000 in
theorem wd_1_48 : (Jvm.Cond.laysFinal "NetUnfolder$Net" "NetUnfolder$Net" "postset" "[I") ∈ wsA := wA_1 (List.mem_of_getElem? (i := 48) rfl) rfl
set_option maxRecDepth 20000 in
theorem wd_1_50 : (Jvm.Cond.lays "NetUnfolder$Net" "NetUnfolder$Net" "size" "I") ∈ wsA := wA_1 (List.mem_of_getElem? (i := 50) rfl) rfl
set_option maxRecDepth 20000 in
theorem wd_1_52 : (Jvm.Cond.lays "NetUnfolder$Net" "NetUnfolder$Net" "first" "I") ∈ wsA := wA_1 (List.mem_of_getElem? (i := 52) rfl) rfl
set_option maxRecDepth 20000 in
theorem wd_1_55 : (Jvm.Cond.arrayClass Jvm.ClassFile.FieldType.int) ∈ wsA := wA_1 (List.mem_of_getElem? (i := 55) rfl) rfl
set_option maxRecDepth 20000 in
theorem wd_1_56 : (Jvm.Cond.classLink "NetUnfolder" (16 : Nat) "NetUnfolder$Prefix") ∈ wsA := wA_1 (List.mem_of_getElem? (i := 56) rfl) rfl
set_option maxRecDepth 20000 in
theorem wd_1_57 : (Jvm.Cond.instantiable "NetUnfolder$Prefix" (14 : Nat)) ∈ wsA := wA_1 (List.mem_of_getElem? (i := 57) rfl) rfl
set_option maxRecDepth 20000 in
theorem wd_1_59 : (Jvm.Cond.instanceMethod ({ cls := "NetUnfolder$Prefix", name := "<init>", desc := "()V" } : Jvm.MethodName)) ∈ wsA := wA_1 (List.mem_of_getElem? (i := 59) rfl) rfl
set_option maxRecDepth 20000 in
theorem wd_1_60 : (Jvm.Cond.code ({ cls := "NetUnfolder$Prefix", name := "<init>", desc := "()V" } : Jvm.MethodName) prog_5_method_1_code (1 : Nat) (Option.none : Option Jvm.ClassFile.FieldType)) ∈ wsA := wA_1 (List.mem_of_getElem? (i := 60) rfl) rfl
set_option maxRecDepth 20000 in
theorem wd_1_61 : (Jvm.Cond.methodLink "NetUnfolder$Prefix" (3 : Nat) ({ cls := "java/lang/Object", name := "<init>", desc := "()V" } : Jvm.MethodName)) ∈ wsA := wA_1 (List.mem_of_getElem? (i := 61) rfl) rfl
set_option maxRecDepth 20000 in
theorem wd_1_62 : (Jvm.Cond.fieldLink "NetUnfolder$Prefix" (43 : Nat) "NetUnfolder$Prefix" "conditions" "I") ∈ wsA := wA_1 (List.mem_of_getElem? (i := 62) rfl) rfl
set_option maxRecDepth 20000 in
theorem wd_1_65 : (Jvm.Cond.fieldLink "NetUnfolder" (104 : Nat) "NetUnfolder$Prefix" "conditions" "I") ∈ wsA := wA_1 (List.mem_of_getElem? (i := 65) rfl) rfl
set_option maxRecDepth 20000 in
theorem wd_1_66 : (Jvm.Cond.fieldLink "NetUnfolder$Prefix" (9 : Nat) "NetUnfolder$Prefix" "place" "[I") ∈ wsA := wA_1 (List.mem_of_getElem? (i := 66) rfl) rfl
set_option maxRecDepth 20000 in
theorem wd_1_70 : (Jvm.Cond.fieldLink "NetUnfolder$Prefix" (15 : Nat) "NetUnfolder$Prefix" "maker" "[I") ∈ wsA := wA_1 (List.mem_of_getElem? (i := 70) rfl) rfl
set_option maxRecDepth 20000 in
theorem wd_1_73 : (Jvm.Cond.fieldLink "NetUnfolder$Prefix" (18 : Nat) "NetUnfolder$Prefix" "takers" "[I") ∈ wsA := wA_1 (List.mem_of_getElem? (i := 73) rfl) rfl
set_option maxRecDepth 20000 in
theorem wd_1_76 : (Jvm.Cond.fieldLink "NetUnfolder$Prefix" (21 : Nat) "NetUnfolder$Prefix" "beside" "[J") ∈ wsA := wA_1 (List.mem_of_getElem? (i := 76) rfl) rfl
set_option maxRecDepth 20000 in
theorem wd_1_79 : (Jvm.Cond.fieldLink "NetUnfolder$Prefix" (25 : Nat) "NetUnfolder$Prefix" "ofPlace" "[J") ∈ wsA := wA_1 (List.mem_of_getElem? (i := 79) rfl) rfl
set_option maxRecDepth 20000 in
theorem wd_1_82 : (Jvm.Cond.fieldLink "NetUnfolder$Prefix" (53 : Nat) "NetUnfolder$Prefix" "events" "I") ∈ wsA := wA_1 (List.mem_of_getElem? (i := 82) rfl) rfl
set_option maxRecDepth 20000 in
theorem wd_1_83 : (Jvm.Cond.fieldLink "NetUnfolder$Unfolding" (49 : Nat) "NetUnfolder$Prefix" "events" "I") ∈ wsA := wA_1 (List.mem_of_getElem? (i := 83) rfl) rfl
set_option maxRecDepth 20000 in
theorem wd_1_85 : (Jvm.Cond.fieldLink "NetUnfolder" (101 : Nat) "NetUnfolder$Prefix" "events" "I") ∈ wsA := wA_1 (List.mem_of_getElem? (i := 85) rfl) rfl
set_option maxRecDepth 20000 in
theorem wd_1_86 : (Jvm.Cond.fieldLink "NetUnfolder$Prefix" (28 : Nat) "NetUnfolder$Prefix" "transition" "[I") ∈ wsA := wA_1 (List.mem_of_getElem? (i := 86) rfl) rfl
set_option maxRecDepth 20000 in
theorem wd_1_90 : (Jvm.Cond.fieldLink "NetUnfolder$Prefix" (31 : Nat) "NetUnfolder$Prefix" "taken" "[J") ∈ wsA := wA_1 (List.mem_of_getElem? (i := 90) rfl) rfl
set_option maxRecDepth 20000 in
theorem wd_1_92 : (Jvm.Cond.fieldLink "NetUnfolder$Prefix" (34 : Nat) "NetUnfolder$Prefix" "causes" "[I") ∈ wsA := wA_1 (List.mem_of_getElem? (i := 92) rfl) rfl
set_option maxRecDepth 20000 in
theorem wd_1_95 : (Jvm.Cond.fieldLink "NetUnfolder$Prefix" (37 : Nat) "NetUnfolder$Prefix" "marking" "[I") ∈ wsA := wA_1 (List.mem_of_getElem? (i := 95) rfl) rfl
set_option maxRecDepth 20000 in
theorem wd_1_98 : (Jvm.Cond.fieldLink "NetUnfolder$Prefix" (40 : Nat) "NetUnfolder$Prefix" "rank" "[J") ∈ wsA := wA_1 (List.mem_of_getElem? (i := 98) rfl) rfl
set_option maxRecDepth 20000 in
theorem wd_1_100 : (Jvm.Cond.fieldLink "NetUnfolder$Prefix" (56 : Nat) "NetUnfolder$Prefix" "cutOffs" "I") ∈ wsA := wA_1 (List.mem_of_getElem? (i := 100) rfl) rfl
set_option maxRecDepth 20000 in
theorem wd_1_103 : (Jvm.Cond.fieldLink "NetUnfolder" (107 : Nat) "NetUnfolder$Prefix" "cutOffs" "I") ∈ wsA := wA_1 (List.mem_of_getElem? (i := 103) rfl) rfl
set_option maxRecDepth 20000 in
theorem wd_1_104 : (Jvm.Cond.fieldLink "NetUnfolder$Prefix" (59 : Nat) "NetUnfolder$Prefix" "whole" "Z") ∈ wsA := wA_1 (List.mem_of_getElem? (i := 104) rfl) rfl
set_option maxRecDepth 20000 in
theorem wd_1_105 : (Jvm.Cond.fieldLink "NetUnfolder$Unfolding" (43 : Nat) "NetUnfolder$Prefix" "whole" "Z") ∈ wsA := wA_1 (List.mem_of_getElem? (i := 105) rfl) rfl
set_option maxRecDepth 20000 in
theorem wd_1_106 : (Jvm.Cond.fieldLink "NetUnfolder" (77 : Nat) "NetUnfolder$Prefix" "whole" "Z") ∈ wsA := wA_1 (List.mem_of_getElem? (i := 106) rfl) rfl
set_option maxRecDepth 20000 in
theorem wd_1_107 : (Jvm.Cond.lays "NetUnfolder$Prefix" "NetUnfolder$Prefix" "conditions" "I") ∈ wsA := wA_1 (List.mem_of_getElem? (i := 107) rfl) rfl
set_option maxRecDepth 20000 in
theorem wd_1_109 : (Jvm.Cond.laysFinal "NetUnfolder$Prefix" "NetUnfolder$Prefix" "place" "[I") ∈ wsA := wA_1 (List.mem_of_getElem? (i := 109) rfl) rfl
set_option maxRecDepth 20000 in
theorem wd_1_111 : (Jvm.Cond.laysFinal "NetUnfolder$Prefix" "NetUnfolder$Prefix" "maker" "[I") ∈ wsA := wA_1 (List.mem_of_getElem? (i := 111) rfl) rfl
set_option maxRecDepth 20000 in
theorem wd_1_113 : (Jvm.Cond.laysFinal "NetUnfolder$Prefix" "NetUnfolder$Prefix" "takers" "[I") ∈ wsA := wA_1 (List.mem_of_getElem? (i := 113) rfl) rfl
set_option maxRecDepth 20000 in
theorem wd_1_115 : (Jvm.Cond.laysFinal "NetUnfolder$Prefix" "NetUnfolder$Prefix" "beside" "[J") ∈ wsA := wA_1 (List.mem_of_getElem? (i := 115) rfl) rfl
set_option maxRecDepth 20000 in
theorem wd_1_117 : (Jvm.Cond.laysFinal "NetUnfolder$Prefix" "NetUnfolder$Prefix" "ofPlace" "[J") ∈ wsA := wA_1 (List.mem_of_getElem? (i := 117) rfl) rfl
set_option maxRecDepth 20000 in
theorem wd_1_119 : (Jvm.Cond.lays "NetUnfolder$Prefix" "NetUnfolder$Prefix" "events" "I") ∈ wsA := wA_1 (List.mem_of_getElem? (i := 119) rfl) rfl
set_option maxRecDepth 20000 in
theorem wd_1_121 : (Jvm.Cond.laysFinal "NetUnfolder$Prefix" "NetUnfolder$Prefix" "transition" "[I") ∈ wsA := wA_1 (List.mem_of_getElem? (i := 121) rfl) rfl
set_option maxRecDepth 20000 in
theorem wd_1_123 : (Jvm.Cond.laysFinal "NetUnfolder$Prefix" "NetUnfolder$Prefix" "taken" "[J") ∈ wsA := wA_1 (List.mem_of_getElem? (i := 123) rfl) rfl
set_option maxRecDepth 20000 in
theorem wd_1_125 : (Jvm.Cond.laysFinal "NetUnfolder$Prefix" "NetUnfolder$Prefix" "causes" "[I") ∈ wsA := wA_1 (List.mem_of_getElem? (i := 125) rfl) rfl
set_option maxRecDepth 20000 in
theorem wd_1_127 : (Jvm.Cond.laysFinal "NetUnfolder$Prefix" "NetUnfolder$Prefix" "marking" "[I") ∈ wsA := wA_1 (List.mem_of_getElem? (i := 127) rfl) rfl
set_option maxRecDepth 20000 in
theorem wd_1_129 : (Jvm.Cond.laysFinal "NetUnfolder$Prefix" "NetUnfolder$Prefix" "rank" "[J") ∈ wsA := wA_1 (List.mem_of_getElem? (i := 129) rfl) rfl
set_option maxRecDepth 20000 in
theorem wd_1_131 : (Jvm.Cond.lays "NetUnfolder$Prefix" "NetUnfolder$Prefix" "cutOffs" "I") ∈ wsA := wA_1 (List.mem_of_getElem? (i := 131) rfl) rfl
set_option maxRecDepth 20000 in
theorem wd_1_133 : (Jvm.Cond.lays "NetUnfolder$Prefix" "NetUnfolder$Prefix" "whole" "Z") ∈ wsA := wA_1 (List.mem_of_getElem? (i := 133) rfl) rfl
set_option maxRecDepth 20000 in
theorem wd_1_136 : (Jvm.Cond.arrayClass Jvm.ClassFile.FieldType.long) ∈ wsA := wA_1 (List.mem_of_getElem? (i := 136) rfl) rfl
set_option maxRecDepth 20000 in
theorem wd_1_137 : (Jvm.Cond.classLink "NetUnfolder" (23 : Nat) "NetUnfolder$Way") ∈ wsA := wA_1 (List.mem_of_getElem? (i := 137) rfl) rfl
set_option maxRecDepth 20000 in
theorem wd_1_138 : (Jvm.Cond.instantiable "NetUnfolder$Way" (2 : Nat)) ∈ wsA := wA_1 (List.mem_of_getElem? (i := 138) rfl) rfl
set_option maxRecDepth 20000 in
theorem wd_1_140 : (Jvm.Cond.instanceMethod ({ cls := "NetUnfolder$Way", name := "<init>", desc := "()V" } : Jvm.MethodName)) ∈ wsA := wA_1 (List.mem_of_getElem? (i := 140) rfl) rfl
set_option maxRecDepth 20000 in
theorem wd_1_141 : (Jvm.Cond.code ({ cls := "NetUnfolder$Way", name := "<init>", desc := "()V" } : Jvm.MethodName) prog_9_method_1_code (1 : Nat) (Option.none : Option Jvm.ClassFile.FieldType)) ∈ wsA := wA_1 (List.mem_of_getElem? (i := 141) rfl) rfl
set_option maxRecDepth 20000 in
theorem wd_1_142 : (Jvm.Cond.methodLink "NetUnfolder$Way" (3 : Nat) ({ cls := "java/lang/Object", name := "<init>", desc := "()V" } : Jvm.MethodName)) ∈ wsA := wA_1 (List.mem_of_getElem? (i := 142) rfl) rfl
set_option maxRecDepth 20000 in
theorem wd_1_143 : (Jvm.Cond.fieldLink "NetUnfolder$Way" (9 : Nat) "NetUnfolder$Way" "steps" "[I") ∈ wsA := wA_1 (List.mem_of_getElem? (i := 143) rfl) rfl
set_option maxRecDepth 20000 in
theorem wd_1_144 : (Jvm.Cond.fieldLink "NetUnfolder$Way" (15 : Nat) "NetUnfolder$Way" "length" "I") ∈ wsA := wA_1 (List.mem_of_getElem? (i := 144) rfl) rfl
set_option maxRecDepth 20000 in
theorem wd_1_146 : (Jvm.Cond.fieldLink "NetUnfolder" (91 : Nat) "NetUnfolder$Way" "length" "I") ∈ wsA := wA_1 (List.mem_of_getElem? (i := 146) rfl) rfl
set_option maxRecDepth 20000 in
theorem wd_1_147 : (Jvm.Cond.laysFinal "NetUnfolder$Way" "NetUnfolder$Way" "steps" "[I") ∈ wsA := wA_1 (List.mem_of_getElem? (i := 147) rfl) rfl
set_option maxRecDepth 20000 in
theorem wd_1_149 : (Jvm.Cond.lays "NetUnfolder$Way" "NetUnfolder$Way" "length" "I") ∈ wsA := wA_1 (List.mem_of_getElem? (i := 149) rfl) rfl
set_option maxRecDepth 20000 in
theorem wd_1_152 : (Jvm.Cond.classLink "NetUnfolder" (30 : Nat) "NetUnfolder$Unfolding") ∈ wsA := wA_1 (List.mem_of_getElem? (i := 152) rfl) rfl
set_option maxRecDepth 20000 in
theorem wd_1_153 : (Jvm.Cond.instantiable "NetUnfolder$Unfolding" (4 : Nat)) ∈ wsA := wA_1 (List.mem_of_getElem? (i := 153) rfl) rfl
set_option maxRecDepth 20000 in
theorem wd_1_154 : (Jvm.Cond.methodLink "NetUnfolder" (32 : Nat) ({ cls := "NetUnfolder$Unfolding", name := "<init>", desc := "(LNetUnfolder$Net;LNetUnfolder$Prefix;LNetUnfolder$Way;)V" } : Jvm.MethodName)) ∈ wsA := wA_1 (List.mem_of_getElem? (i := 154) rfl) rfl
set_option maxRecDepth 20000 in
theorem wd_1_155 : (Jvm.Cond.instanceMethod ({ cls := "NetUnfolder$Unfolding", name := "<init>", desc := "(LNetUnfolder$Net;LNetUnfolder$Prefix;LNetUnfolder$Way;)V" } : Jvm.MethodName)) ∈ wsA := wA_1 (List.mem_of_getElem? (i := 155) rfl) rfl
set_option maxRecDepth 20000 in
theorem wd_1_156 : (Jvm.Cond.code ({ cls := "NetUnfolder$Unfolding", name := "<init>", desc := "(LNetUnfolder$Net;LNetUnfolder$Prefix;LNetUnfolder$Way;)V" } : Jvm.MethodName) prog_8_method_1_code (4 : Nat) (Option.none : Option Jvm.ClassFile.FieldType)) ∈ wsA := wA_1 (List.mem_of_getElem? (i := 156) rfl) rfl
set_option maxRecDepth 20000 in
theorem wd_1_157 : (Jvm.Cond.methodLink "NetUnfolder$Unfolding" (3 : Nat) ({ cls := "java/lang/Object", name := "<init>", desc := "()V" } : Jvm.MethodName)) ∈ wsA := wA_1 (List.mem_of_getElem? (i := 157) rfl) rfl
set_option maxRecDepth 20000 in
theorem wd_1_158 : (Jvm.Cond.classLink "NetUnfolder$Unfolding" (23 : Nat) "NetUnfolder$Possible") ∈ wsA := wA_1 (List.mem_of_getElem? (i := 158) rfl) rfl
set_option maxRecDepth 20000 in
theorem wd_1_159 : (Jvm.Cond.instantiable "NetUnfolder$Possible" (5 : Nat)) ∈ wsA := wA_1 (List.mem_of_getElem? (i := 159) rfl) rfl
set_option maxRecDepth 20000 in
theorem wd_1_160 : (Jvm.Cond.methodLink "NetUnfolder$Unfolding" (25 : Nat) ({ cls := "NetUnfolder$Possible", name := "<init>", desc := "(LNetUnfolder$Prefix;)V" } : Jvm.MethodName)) ∈ wsA := wA_1 (List.mem_of_getElem? (i := 160) rfl) rfl
set_option maxRecDepth 20000 in
theorem wd_1_161 : (Jvm.Cond.instanceMethod ({ cls := "NetUnfolder$Possible", name := "<init>", desc := "(LNetUnfolder$Prefix;)V" } : Jvm.MethodName)) ∈ wsA := wA_1 (List.mem_of_getElem? (i := 161) rfl) rfl
set_option maxRecDepth 20000 in
theorem wd_1_162 : (Jvm.Cond.code ({ cls := "NetUnfolder$Possible", name := "<init>", desc := "(LNetUnfolder$Prefix;)V" } : Jvm.MethodName) prog_4_method_1_code (2 : Nat) (Option.none : Option Jvm.ClassFile.FieldType)) ∈ wsA := wA_1 (List.mem_of_getElem? (i := 162) rfl) rfl
set_option maxRecDepth 20000 in
theorem wd_1_163 : (Jvm.Cond.methodLink "NetUnfolder$Possible" (3 : Nat) ({ cls := "java/lang/Object", name := "<init>", desc := "()V" } : Jvm.MethodName)) ∈ wsA := wA_1 (List.mem_of_getElem? (i := 163) rfl) rfl
set_option maxRecDepth 20000 in
theorem wd_1_164 : (Jvm.Cond.fieldLink "NetUnfolder$Possible" (22 : Nat) "NetUnfolder$Possible" "prefix" "LNetUnfolder$Prefix;") ∈ wsA := wA_1 (List.mem_of_getElem? (i := 164) rfl) rfl
set_option maxRecDepth 20000 in
theorem wd_1_165 : (Jvm.Cond.fieldLink "NetUnfolder$Possible" (26 : Nat) "NetUnfolder$Possible" "size" "I") ∈ wsA := wA_1 (List.mem_of_getElem? (i := 165) rfl) rfl
set_option maxRecDepth 20000 in
theorem wd_1_166 : (Jvm.Cond.fieldLink "NetUnfolder$Unfolding" (39 : Nat) "NetUnfolder$Possible" "size" "I") ∈ wsA := wA_1 (List.mem_of_getElem? (i := 166) rfl) rfl
set_option maxRecDepth 20000 in
theorem wd_1_167 : (Jvm.Cond.fieldLink "NetUnfolder$Possible" (9 : Nat) "NetUnfolder$Possible" "transition" "[I") ∈ wsA := wA_1 (List.mem_of_getElem? (i := 167) rfl) rfl
set_option maxRecDepth 20000 in
theorem wd_1_169 : (Jvm.Cond.fieldLink "NetUnfolder$Possible" (15 : Nat) "NetUnfolder$Possible" "taken" "[J") ∈ wsA := wA_1 (List.mem_of_getElem? (i := 169) rfl) rfl
set_option maxRecDepth 20000 in
theorem wd_1_171 : (Jvm.Cond.fieldLink "NetUnfolder$Possible" (19 : Nat) "NetUnfolder$Possible" "rank" "[J") ∈ wsA := wA_1 (List.mem_of_getElem? (i := 171) rfl) rfl
set_option maxRecDepth 20000 in
theorem wd_1_173 : (Jvm.Cond.laysFinal "NetUnfolder$Possible" "NetUnfolder$Possible" "prefix" "LNetUnfolder$Prefix;") ∈ wsA := wA_1 (List.mem_of_getElem? (i := 173) rfl) rfl
set_option maxRecDepth 20000 in
theorem wd_1_175 : (Jvm.Cond.lays "NetUnfolder$Possible" "NetUnfolder$Possible" "size" "I") ∈ wsA := wA_1 (List.mem_of_getElem? (i := 175) rfl) rfl
set_option maxRecDepth 20000 in
theorem wd_1_177 : (Jvm.Cond.laysFinal "NetUnfolder$Possible" "NetUnfolder$Possible" "transition" "[I") ∈ wsA := wA_1 (List.mem_of_getElem? (i := 177) rfl) rfl
set_option maxRecDepth 20000 in
theorem wd_1_179 : (Jvm.Cond.laysFinal "NetUnfolder$Possible" "NetUnfolder$Possible" "taken" "[J") ∈ wsA := wA_1 (List.mem_of_getElem? (i := 179) rfl) rfl
set_option maxRecDepth 20000 in
theorem wd_1_181 : (Jvm.Cond.laysFinal "NetUnfolder$Possible" "NetUnfolder$Possible" "rank" "[J") ∈ wsA := wA_1 (List.mem_of_getElem? (i := 181) rfl) rfl
set_option maxRecDepth 20000 in
theorem wd_1_184 : (Jvm.Cond.fieldLink "NetUnfolder$Unfolding" (9 : Nat) "NetUnfolder$Unfolding" "net" "LNetUnfolder$Net;") ∈ wsA := wA_1 (List.mem_of_getElem? (i := 184) rfl) rfl
set_option maxRecDepth 20000 in
theorem wd_1_185 : (Jvm.Cond.fieldLink "NetUnfolder$Unfolding" (15 : Nat) "NetUnfolder$Unfolding" "prefix" "LNetUnfolder$Prefix;") ∈ wsA := wA_1 (List.mem_of_getElem? (i := 185) rfl) rfl
set_option maxRecDepth 20000 in
theorem wd_1_186 : (Jvm.Cond.fieldLink "NetUnfolder$Unfolding" (19 : Nat) "NetUnfolder$Unfolding" "way" "LNetUnfolder$Way;") ∈ wsA := wA_1 (List.mem_of_getElem? (i := 186) rfl) rfl
set_option maxRecDepth 20000 in
theorem wd_1_187 : (Jvm.Cond.fieldLink "NetUnfolder$Unfolding" (28 : Nat) "NetUnfolder$Unfolding" "possible" "LNetUnfolder$Possible;") ∈ wsA := wA_1 (List.mem_of_getElem? (i := 187) rfl) rfl
set_option maxRecDepth 20000 in
theorem wd_1_188 : (Jvm.Cond.laysFinal "NetUnfolder$Unfolding" "NetUnfolder$Unfolding" "net" "LNetUnfolder$Net;") ∈ wsA := wA_1 (List.mem_of_getElem? (i := 188) rfl) rfl
set_option maxRecDepth 20000 in
theorem wd_1_190 : (Jvm.Cond.laysFinal "NetUnfolder$Unfolding" "NetUnfolder$Unfolding" "prefix" "LNetUnfolder$Prefix;") ∈ wsA := wA_1 (List.mem_of_getElem? (i := 190) rfl) rfl
set_option maxRecDepth 20000 in
theorem wd_1_192 : (Jvm.Cond.laysFinal "NetUnfolder$Unfolding" "NetUnfolder$Unfolding" "way" "LNetUnfolder$Way;") ∈ wsA := wA_1 (List.mem_of_getElem? (i := 192) rfl) rfl
set_option maxRecDepth 20000 in
theorem wd_1_194 : (Jvm.Cond.laysFinal "NetUnfolder$Unfolding" "NetUnfolder$Unfolding" "possible" "LNetUnfolder$Possible;") ∈ wsA := wA_1 (List.mem_of_getElem? (i := 194) rfl) rfl
set_option maxRecDepth 20000 in
theorem wd_1_197 : (Jvm.Cond.classLink "NetUnfolder" (39 : Nat) "NetUnfolder$Question") ∈ wsA := wA_1 (List.mem_of_getElem? (i := 197) rfl) rfl
set_option maxRecDepth 20000 in
theorem wd_1_198 : (Jvm.Cond.instantiable "NetUnfolder$Question" (6 : Nat)) ∈ wsA := wA_1 (List.mem_of_getElem? (i := 198) rfl) rfl
set_option maxRecDepth 20000 in
theorem wd_1_199 : (Jvm.Cond.methodLink "NetUnfolder" (41 : Nat) ({ cls := "NetUnfolder$Question", name := "<init>", desc := "(LNetUnfolder$Net;LNetUnfolder$Prefix;LNetUnfolder$Way;)V" } : Jvm.MethodName)) ∈ wsA := wA_1 (List.mem_of_getElem? (i := 199) rfl) rfl
set_option maxRecDepth 20000 in
theorem wd_1_200 : (Jvm.Cond.instanceMethod ({ cls := "NetUnfolder$Question", name := "<init>", desc := "(LNetUnfolder$Net;LNetUnfolder$Prefix;LNetUnfolder$Way;)V" } : Jvm.MethodName)) ∈ wsA := wA_1 (List.mem_of_getElem? (i := 200) rfl) rfl
set_option maxRecDepth 20000 in
theorem wd_1_201 : (Jvm.Cond.code ({ cls := "NetUnfolder$Question", name := "<init>", desc := "(LNetUnfolder$Net;LNetUnfolder$Prefix;LNetUnfolder$Way;)V" } : Jvm.MethodName) prog_6_method_1_code (4 : Nat) (Option.none : Option Jvm.ClassFile.FieldType)) ∈ wsA := wA_1 (List.mem_of_getElem? (i := 201) rfl) rfl
set_option maxRecDepth 20000 in
theorem wd_1_202 : (Jvm.Cond.methodLink "NetUnfolder$Question" (3 : Nat) ({ cls := "java/lang/Object", name := "<init>", desc := "()V" } : Jvm.MethodName)) ∈ wsA := wA_1 (List.mem_of_getElem? (i := 202) rfl) rfl
set_option maxRecDepth 20000 in
theorem wd_1_203 : (Jvm.Cond.classLink "NetUnfolder$Question" (9 : Nat) "NetUnfolder$Clauses") ∈ wsA := wA_1 (List.mem_of_getElem? (i := 203) rfl) rfl
set_option maxRecDepth 20000 in
theorem wd_1_204 : (Jvm.Cond.instantiable "NetUnfolder$Clauses" (4 : Nat)) ∈ wsA := wA_1 (List.mem_of_getElem? (i := 204) rfl) rfl
set_option maxRecDepth 20000 in
theorem wd_1_206 : (Jvm.Cond.instanceMethod ({ cls := "NetUnfolder$Clauses", name := "<init>", desc := "()V" } : Jvm.MethodName)) ∈ wsA := wA_1 (List.mem_of_getElem? (i := 206) rfl) rfl
set_option maxRecDepth 20000 in
theorem wd_1_207 : (Jvm.Cond.code ({ cls := "NetUnfolder$Clauses", name := "<init>", desc := "()V" } : Jvm.MethodName) prog_2_method_1_code (1 : Nat) (Option.none : Option Jvm.ClassFile.FieldType)) ∈ wsA := wA_1 (List.mem_of_getElem? (i := 207) rfl) rfl
set_option maxRecDepth 20000 in
theorem wd_1_208 : (Jvm.Cond.methodLink "NetUnfolder$Clauses" (3 : Nat) ({ cls := "java/lang/Object", name := "<init>", desc := "()V" } : Jvm.MethodName)) ∈ wsA := wA_1 (List.mem_of_getElem? (i := 208) rfl) rfl
set_option maxRecDepth 20000 in
theorem wd_1_209 : (Jvm.Cond.fieldLink "NetUnfolder$Clauses" (11 : Nat) "NetUnfolder$Clauses" "yes" "[J") ∈ wsA := wA_1 (List.mem_of_getElem? (i := 209) rfl) rfl
set_option maxRecDepth 20000 in
theorem wd_1_211 : (Jvm.Cond.fieldLink "NetUnfolder$Clauses" (15 : Nat) "NetUnfolder$Clauses" "no" "[J") ∈ wsA := wA_1 (List.mem_of_getElem? (i := 211) rfl) rfl
set_option maxRecDepth 20000 in
theorem wd_1_217 : (Jvm.Cond.laysFinal "NetUnfolder$Clauses" "NetUnfolder$Clauses" "yes" "[J") ∈ wsA := wA_1 (List.mem_of_getElem? (i := 217) rfl) rfl
set_option maxRecDepth 20000 in
theorem wd_1_219 : (Jvm.Cond.laysFinal "NetUnfolder$Clauses" "NetUnfolder$Clauses" "no" "[J") ∈ wsA := wA_1 (List.mem_of_getElem? (i := 219) rfl) rfl
set_option maxRecDepth 20000 in
theorem wd_1_221 : (Jvm.Cond.lays "NetUnfolder$Clauses" "NetUnfolder$Clauses" "size" "I") ∈ wsA := wA_1 (List.mem_of_getElem? (i := 221) rfl) rfl
set_option maxRecDepth 20000 in
theorem wd_1_223 : (Jvm.Cond.lays "NetUnfolder$Clauses" "NetUnfolder$Clauses" "given" "I") ∈ wsA := wA_1 (List.mem_of_getElem? (i := 223) rfl) rfl
set_option maxRecDepth 20000 in
theorem wd_1_226 : (Jvm.Cond.classLink "NetUnfolder$Question" (18 : Nat) "NetUnfolder$Search") ∈ wsA := wA_1 (List.mem_of_getElem? (i := 226) rfl) rfl
set_option maxRecDepth 20000 in
theorem wd_1_227 : (Jvm.Cond.instantiable "NetUnfolder$Search" (8 : Nat)) ∈ wsA := wA_1 (List.mem_of_getElem? (i := 227) rfl) rfl
set_option maxRecDepth 20000 in
theorem wd_1_228 : (Jvm.Cond.methodLink "NetUnfolder$Question" (20 : Nat) ({ cls := "NetUnfolder$Search", name := "<init>", desc := "(LNetUnfolder$Clauses;)V" } : Jvm.MethodName)) ∈ wsA := wA_1 (List.mem_of_getElem? (i := 228) rfl) rfl
set_option maxRecDepth 20000 in
theorem wd_1_229 : (Jvm.Cond.instanceMethod ({ cls := "NetUnfolder$Search", name := "<init>", desc := "(LNetUnfolder$Clauses;)V" } : Jvm.MethodName)) ∈ wsA := wA_1 (List.mem_of_getElem? (i := 229) rfl) rfl
set_option maxRecDepth 20000 in
theorem wd_1_230 : (Jvm.Cond.code ({ cls := "NetUnfolder$Search", name := "<init>", desc := "(LNetUnfolder$Clauses;)V" } : Jvm.MethodName) prog_7_method_1_code (2 : Nat) (Option.none : Option Jvm.ClassFile.FieldType)) ∈ wsA := wA_1 (List.mem_of_getElem? (i := 230) rfl) rfl
set_option maxRecDepth 20000 in
theorem wd_1_231 : (Jvm.Cond.methodLink "NetUnfolder$Search" (3 : Nat) ({ cls := "java/lang/Object", name := "<init>", desc := "()V" } : Jvm.MethodName)) ∈ wsA := wA_1 (List.mem_of_getElem? (i := 231) rfl) rfl
set_option maxRecDepth 20000 in
theorem wd_1_232 : (Jvm.Cond.fieldLink "NetUnfolder$Search" (22 : Nat) "NetUnfolder$Search" "clauses" "LNetUnfolder$Clauses;") ∈ wsA := wA_1 (List.mem_of_getElem? (i := 232) rfl) rfl
set_option maxRecDepth 20000 in
theorem wd_1_236 : (Jvm.Cond.fieldLink "NetUnfolder$Search" (11 : Nat) "NetUnfolder$Search" "setAt" "[J") ∈ wsA := wA_1 (List.mem_of_getElem? (i := 236) rfl) rfl
set_option maxRecDepth 20000 in
theorem wd_1_237 : (Jvm.Cond.fieldLink "NetUnfolder$Search" (15 : Nat) "NetUnfolder$Search" "trail" "[I") ∈ wsA := wA_1 (List.mem_of_getElem? (i := 237) rfl) rfl
set_option maxRecDepth 20000 in
theorem wd_1_239 : (Jvm.Cond.fieldLink "NetUnfolder$Search" (19 : Nat) "NetUnfolder$Search" "reason" "[I") ∈ wsA := wA_1 (List.mem_of_getElem? (i := 239) rfl) rfl
set_option maxRecDepth 20000 in
theorem wd_2_0 : (Jvm.Cond.laysFinal "NetUnfolder$Search" "NetUnfolder$Search" "clauses" "LNetUnfolder$Clauses;") ∈ wsA := wA_2 (List.mem_of_getElem? (i := 0) rfl) rfl
set_option maxRecDepth 20000 in
theorem wd_2_2 : (Jvm.Cond.lays "NetUnfolder$Search" "NetUnfolder$Search" "yes" "J") ∈ wsA := wA_2 (List.mem_of_getElem? (i := 2) rfl) rfl
set_option maxRecDepth 20000 in
theorem wd_2_4 : (Jvm.Cond.lays "NetUnfolder$Search" "NetUnfolder$Search" "no" "J") ∈ wsA := wA_2 (List.mem_of_getElem? (i := 4) rfl) rfl
set_option maxRecDepth 20000 in
theorem wd_2_6 : (Jvm.Cond.lays "NetUnfolder$Search" "NetUnfolder$Search" "level" "I") ∈ wsA := wA_2 (List.mem_of_getElem? (i := 6) rfl) rfl
set_option maxRecDepth 20000 in
theorem wd_2_8 : (Jvm.Cond.laysFinal "NetUnfolder$Search" "NetUnfolder$Search" "setAt" "[J") ∈ wsA := wA_2 (List.mem_of_getElem? (i := 8) rfl) rfl
set_option maxRecDepth 20000 in
theorem wd_2_10 : (Jvm.Cond.laysFinal "NetUnfolder$Search" "NetUnfolder$Search" "trail" "[I") ∈ wsA := wA_2 (List.mem_of_getElem? (i := 10) rfl) rfl
set_option maxRecDepth 20000 in
theorem wd_2_12 : (Jvm.Cond.lays "NetUnfolder$Search" "NetUnfolder$Search" "trailSize" "I") ∈ wsA := wA_2 (List.mem_of_getElem? (i := 12) rfl) rfl
set_option maxRecDepth 20000 in
theorem wd_2_14 : (Jvm.Cond.laysFinal "NetUnfolder$Search" "NetUnfolder$Search" "reason" "[I") ∈ wsA := wA_2 (List.mem_of_getElem? (i := 14) rfl) rfl
set_option maxRecDepth 20000 in
theorem wd_2_17 : (Jvm.Cond.fieldLink "NetUnfolder$Question" (27 : Nat) "NetUnfolder$Question" "net" "LNetUnfolder$Net;") ∈ wsA := wA_2 (List.mem_of_getElem? (i := 17) rfl) rfl
set_option maxRecDepth 20000 in
theorem wd_2_18 : (Jvm.Cond.fieldLink "NetUnfolder$Question" (31 : Nat) "NetUnfolder$Question" "prefix" "LNetUnfolder$Prefix;") ∈ wsA := wA_2 (List.mem_of_getElem? (i := 18) rfl) rfl
set_option maxRecDepth 20000 in
theorem wd_2_19 : (Jvm.Cond.fieldLink "NetUnfolder$Question" (35 : Nat) "NetUnfolder$Question" "way" "LNetUnfolder$Way;") ∈ wsA := wA_2 (List.mem_of_getElem? (i := 19) rfl) rfl
set_option maxRecDepth 20000 in
theorem wd_2_20 : (Jvm.Cond.fieldLink "NetUnfolder$Question" (12 : Nat) "NetUnfolder$Question" "clauses" "LNetUnfolder$Clauses;") ∈ wsA := wA_2 (List.mem_of_getElem? (i := 20) rfl) rfl
set_option maxRecDepth 20000 in
theorem wd_2_21 : (Jvm.Cond.fieldLink "NetUnfolder$Question" (23 : Nat) "NetUnfolder$Question" "search" "LNetUnfolder$Search;") ∈ wsA := wA_2 (List.mem_of_getElem? (i := 21) rfl) rfl
set_option maxRecDepth 20000 in
theorem wd_2_23 : (Jvm.Cond.laysFinal "NetUnfolder$Question" "NetUnfolder$Question" "net" "LNetUnfolder$Net;") ∈ wsA := wA_2 (List.mem_of_getElem? (i := 23) rfl) rfl
set_option maxRecDepth 20000 in
theorem wd_2_25 : (Jvm.Cond.laysFinal "NetUnfolder$Question" "NetUnfolder$Question" "prefix" "LNetUnfolder$Prefix;") ∈ wsA := wA_2 (List.mem_of_getElem? (i := 25) rfl) rfl
set_option maxRecDepth 20000 in
theorem wd_2_27 : (Jvm.Cond.laysFinal "NetUnfolder$Question" "NetUnfolder$Question" "way" "LNetUnfolder$Way;") ∈ wsA := wA_2 (List.mem_of_getElem? (i := 27) rfl) rfl
set_option maxRecDepth 20000 in
theorem wd_2_29 : (Jvm.Cond.laysFinal "NetUnfolder$Question" "NetUnfolder$Question" "clauses" "LNetUnfolder$Clauses;") ∈ wsA := wA_2 (List.mem_of_getElem? (i := 29) rfl) rfl
set_option maxRecDepth 20000 in
theorem wd_2_31 : (Jvm.Cond.laysFinal "NetUnfolder$Question" "NetUnfolder$Question" "search" "LNetUnfolder$Search;") ∈ wsA := wA_2 (List.mem_of_getElem? (i := 31) rfl) rfl
set_option maxRecDepth 20000 in
theorem wd_2_33 : (Jvm.Cond.lays "NetUnfolder$Question" "NetUnfolder$Question" "usable" "I") ∈ wsA := wA_2 (List.mem_of_getElem? (i := 33) rfl) rfl
set_option maxRecDepth 20000 in
theorem wd_2_36 : (Jvm.Cond.fieldLink "NetUnfolder" (10 : Nat) "NetUnfolder" "net" "LNetUnfolder$Net;") ∈ wsA := wA_2 (List.mem_of_getElem? (i := 36) rfl) rfl
set_option maxRecDepth 20000 in
theorem wd_2_37 : (Jvm.Cond.fieldLink "NetUnfolder" (19 : Nat) "NetUnfolder" "prefix" "LNetUnfolder$Prefix;") ∈ wsA := wA_2 (List.mem_of_getElem? (i := 37) rfl) rfl
set_option maxRecDepth 20000 in
theorem wd_2_38 : (Jvm.Cond.fieldLink "NetUnfolder" (26 : Nat) "NetUnfolder" "latest" "LNetUnfolder$Way;") ∈ wsA := wA_2 (List.mem_of_getElem? (i := 38) rfl) rfl
set_option maxRecDepth 20000 in
theorem wd_2_39 : (Jvm.Cond.fieldLink "NetUnfolder" (35 : Nat) "NetUnfolder" "unfolding" "LNetUnfolder$Unfolding;") ∈ wsA := wA_2 (List.mem_of_getElem? (i := 39) rfl) rfl
set_option maxRecDepth 20000 in
theorem wd_2_40 : (Jvm.Cond.fieldLink "NetUnfolder" (42 : Nat) "NetUnfolder" "question" "LNetUnfolder$Question;") ∈ wsA := wA_2 (List.mem_of_getElem? (i := 40) rfl) rfl
set_option maxRecDepth 20000 in
theorem wd_2_41 : (Jvm.Cond.laysFinal "NetUnfolder" "NetUnfolder" "net" "LNetUnfolder$Net;") ∈ wsA := wA_2 (List.mem_of_getElem? (i := 41) rfl) rfl
set_option maxRecDepth 20000 in
theorem wd_2_43 : (Jvm.Cond.laysFinal "NetUnfolder" "NetUnfolder" "prefix" "LNetUnfolder$Prefix;") ∈ wsA := wA_2 (List.mem_of_getElem? (i := 43) rfl) rfl
set_option maxRecDepth 20000 in
theorem wd_2_45 : (Jvm.Cond.laysFinal "NetUnfolder" "NetUnfolder" "latest" "LNetUnfolder$Way;") ∈ wsA := wA_2 (List.mem_of_getElem? (i := 45) rfl) rfl
set_option maxRecDepth 20000 in
theorem wd_2_47 : (Jvm.Cond.laysFinal "NetUnfolder" "NetUnfolder" "unfolding" "LNetUnfolder$Unfolding;") ∈ wsA := wA_2 (List.mem_of_getElem? (i := 47) rfl) rfl
set_option maxRecDepth 20000 in
theorem wd_2_49 : (Jvm.Cond.laysFinal "NetUnfolder" "NetUnfolder" "question" "LNetUnfolder$Question;") ∈ wsA := wA_2 (List.mem_of_getElem? (i := 49) rfl) rfl
set_option maxRecDepth 20000 in
theorem wd_2_56 : (Jvm.Cond.methodLink "NetUnfolder" (60 : Nat) ({ cls := "NetUnfolder", name := "dropPrefixAndWay", desc := "()V" } : Jvm.MethodName)) ∈ wsA := wA_2 (List.mem_of_getElem? (i := 56) rfl) rfl
set_option maxRecDepth 20000 in
theorem wd_2_58 : (Jvm.Cond.instanceMethod ({ cls := "NetUnfolder", name := "dropPrefixAndWay", desc := "()V" } : Jvm.MethodName)) ∈ wsA := wA_2 (List.mem_of_getElem? (i := 58) rfl) rfl
set_option maxRecDepth 20000 in
theorem wd_2_59 : (Jvm.Cond.code ({ cls := "NetUnfolder", name := "dropPrefixAndWay", desc := "()V" } : Jvm.MethodName) prog_1_method_15_code (1 : Nat) (Option.none : Option Jvm.ClassFile.FieldType)) ∈ wsA := wA_2 (List.mem_of_getElem? (i := 59) rfl) rfl
set_option maxRecDepth 20000 in
theorem wd_2_60 : (Jvm.Cond.methodLink "NetUnfolder" (148 : Nat) ({ cls := "NetUnfolder$Prefix", name := "wipe", desc := "()V" } : Jvm.MethodName)) ∈ wsA := wA_2 (List.mem_of_getElem? (i := 60) rfl) rfl
set_option maxRecDepth 20000 in
theorem wd_2_61 : (Jvm.Cond.instanceMethod ({ cls := "NetUnfolder$Prefix", name := "wipe", desc := "()V" } : Jvm.MethodName)) ∈ wsA := wA_2 (List.mem_of_getElem? (i := 61) rfl) rfl
set_option maxRecDepth 20000 in
theorem wd_2_62 : (Jvm.Cond.selects "NetUnfolder$Prefix" ({ cls := "NetUnfolder$Prefix", name := "wipe", desc := "()V" } : Jvm.MethodName) ({ cls := "NetUnfolder$Prefix", name := "wipe", desc := "()V" } : Jvm.MethodName)) ∈ wsA := wA_2 (List.mem_of_getElem? (i := 62) rfl) rfl
set_option maxRecDepth 20000 in
theorem wd_2_63 : (Jvm.Cond.code ({ cls := "NetUnfolder$Prefix", name := "wipe", desc := "()V" } : Jvm.MethodName) prog_5_method_2_code (1 : Nat) (Option.none : Option Jvm.ClassFile.FieldType)) ∈ wsA := wA_2 (List.mem_of_getElem? (i := 63) rfl) rfl
set_option maxRecDepth 20000 in
theorem wd_2_64 : (Jvm.Cond.methodLink "NetUnfolder$Prefix" (47 : Nat) ({ cls := "java/util/Arrays", name := "fill", desc := "([JJ)V" } : Jvm.MethodName)) ∈ wsA := wA_2 (List.mem_of_getElem? (i := 64) rfl) rfl
set_option maxRecDepth 20000 in
theorem wd_2_65 : (Jvm.Cond.static ({ cls := "java/util/Arrays", name := "fill", desc := "([JJ)V" } : Jvm.MethodName)) ∈ wsA := wA_2 (List.mem_of_getElem? (i := 65) rfl) rfl
set_option maxRecDepth 20000 in
theorem wd_2_66 : (Jvm.Cond.code ({ cls := "java/util/Arrays", name := "fill", desc := "([JJ)V" } : Jvm.MethodName) prog_19_method_101_code (5 : Nat) (Option.none : Option Jvm.ClassFile.FieldType)) ∈ wsA := wA_2 (List.mem_of_getElem? (i := 66) rfl) rfl
set_option maxRecDepth 20000 in
theorem wd_2_67 : (Jvm.Cond.methodLink "NetUnfolder" (149 : Nat) ({ cls := "NetUnfolder$Way", name := "drop", desc := "()V" } : Jvm.MethodName)) ∈ wsA := wA_2 (List.mem_of_getElem? (i := 67) rfl) rfl
set_option maxRecDepth 20000 in
theorem wd_2_68 : (Jvm.Cond.instanceMethod ({ cls := "NetUnfolder$Way", name := "drop", desc := "()V" } : Jvm.MethodName)) ∈ wsA := wA_2 (List.mem_of_getElem? (i := 68) rfl) rfl
set_option maxRecDepth 20000 in
theorem wd_2_69 : (Jvm.Cond.selects "NetUnfolder$Way" ({ cls := "NetUnfolder$Way", name := "drop", desc := "()V" } : Jvm.MethodName) ({ cls := "NetUnfolder$Way", name := "drop", desc := "()V" } : Jvm.MethodName)) ∈ wsA := wA_2 (List.mem_of_getElem? (i := 69) rfl) rfl
set_option maxRecDepth 20000 in
theorem wd_2_70 : (Jvm.Cond.code ({ cls := "NetUnfolder$Way", name := "drop", desc := "()V" } : Jvm.MethodName) prog_9_method_2_code (1 : Nat) (Option.none : Option Jvm.ClassFile.FieldType)) ∈ wsA := wA_2 (List.mem_of_getElem? (i := 70) rfl) rfl
set_option maxRecDepth 20000 in
theorem wd_2_71 : (Jvm.Cond.methodLink "NetUnfolder" (70 : Nat) ({ cls := "NetUnfolder$Net", name := "wipe", desc := "()V" } : Jvm.MethodName)) ∈ wsA := wA_2 (List.mem_of_getElem? (i := 71) rfl) rfl
set_option maxRecDepth 20000 in
theorem wd_2_72 : (Jvm.Cond.instanceMethod ({ cls := "NetUnfolder$Net", name := "wipe", desc := "()V" } : Jvm.MethodName)) ∈ wsA := wA_2 (List.mem_of_getElem? (i := 72) rfl) rfl
set_option maxRecDepth 20000 in
theorem wd_2_73 : (Jvm.Cond.selects "NetUnfolder$Net" ({ cls := "NetUnfolder$Net", name := "wipe", desc := "()V" } : Jvm.MethodName) ({ cls := "NetUnfolder$Net", name := "wipe", desc := "()V" } : Jvm.MethodName)) ∈ wsA := wA_2 (List.mem_of_getElem? (i := 73) rfl) rfl
set_option maxRecDepth 20000 in
theorem wd_2_74 : (Jvm.Cond.code ({ cls := "NetUnfolder$Net", name := "wipe", desc := "()V" } : Jvm.MethodName) prog_3_method_2_code (1 : Nat) (Option.none : Option Jvm.ClassFile.FieldType)) ∈ wsA := wA_2 (List.mem_of_getElem? (i := 74) rfl) rfl
set_option maxRecDepth 20000 in
theorem wd_2_79 : (Jvm.Cond.methodLink "NetUnfolder" (73 : Nat) ({ cls := "NetUnfolder$Unfolding", name := "run", desc := "()I" } : Jvm.MethodName)) ∈ wsA := wA_2 (List.mem_of_getElem? (i := 79) rfl) rfl
set_option maxRecDepth 20000 in
theorem wd_2_80 : (Jvm.Cond.instanceMethod ({ cls := "NetUnfolder$Unfolding", name := "run", desc := "()I" } : Jvm.MethodName)) ∈ wsA := wA_2 (List.mem_of_getElem? (i := 80) rfl) rfl
set_option maxRecDepth 20000 in
theorem wd_2_81 : (Jvm.Cond.selects "NetUnfolder$Unfolding" ({ cls := "NetUnfolder$Unfolding", name := "run", desc := "()I" } : Jvm.MethodName) ({ cls := "NetUnfolder$Unfolding", name := "run", desc := "()I" } : Jvm.MethodName)) ∈ wsA := wA_2 (List.mem_of_getElem? (i := 81) rfl) rfl
set_option maxRecDepth 20000 in
theorem wd_2_82 : (Jvm.Cond.code ({ cls := "NetUnfolder$Unfolding", name := "run", desc := "()I" } : Jvm.MethodName) prog_8_method_2_code (4 : Nat) (Option.some Jvm.ClassFile.FieldType.int)) ∈ wsA := wA_2 (List.mem_of_getElem? (i := 82) rfl) rfl
set_option maxRecDepth 20000 in
theorem wd_2_83 : (Jvm.Cond.methodLink "NetUnfolder$Unfolding" (32 : Nat) ({ cls := "NetUnfolder$Unfolding", name := "begin", desc := "()V" } : Jvm.MethodName)) ∈ wsA := wA_2 (List.mem_of_getElem? (i := 83) rfl) rfl
set_option maxRecDepth 20000 in
theorem wd_2_85 : (Jvm.Cond.instanceMethod ({ cls := "NetUnfolder$Unfolding", name := "begin", desc := "()V" } : Jvm.MethodName)) ∈ wsA := wA_2 (List.mem_of_getElem? (i := 85) rfl) rfl
set_option maxRecDepth 20000 in
theorem wd_2_86 : (Jvm.Cond.code ({ cls := "NetUnfolder$Unfolding", name := "begin", desc := "()V" } : Jvm.MethodName) prog_8_method_3_code (3 : Nat) (Option.none : Option Jvm.ClassFile.FieldType)) ∈ wsA := wA_2 (List.mem_of_getElem? (i := 86) rfl) rfl
set_option maxRecDepth 20000 in
theorem wd_2_87 : (Jvm.Cond.methodLink "NetUnfolder$Unfolding" (68 : Nat) ({ cls := "NetUnfolder$Prefix", name := "wipe", desc := "()V" } : Jvm.MethodName)) ∈ wsA := wA_2 (List.mem_of_getElem? (i := 87) rfl) rfl
set_option maxRecDepth 20000 in
theorem wd_2_88 : (Jvm.Cond.methodLink "NetUnfolder$Unfolding" (71 : Nat) ({ cls := "NetUnfolder$Possible", name := "wipe", desc := "()V" } : Jvm.MethodName)) ∈ wsA := wA_2 (List.mem_of_getElem? (i := 88) rfl) rfl
set_option maxRecDepth 20000 in
theorem wd_2_89 : (Jvm.Cond.instanceMethod ({ cls := "NetUnfolder$Possible", name := "wipe", desc := "()V" } : Jvm.MethodName)) ∈ wsA := wA_2 (List.mem_of_getElem? (i := 89) rfl) rfl
set_option maxRecDepth 20000 in
theorem wd_2_90 : (Jvm.Cond.selects "NetUnfolder$Possible" ({ cls := "NetUnfolder$Possible", name := "wipe", desc := "()V" } : Jvm.MethodName) ({ cls := "NetUnfolder$Possible", name := "wipe", desc := "()V" } : Jvm.MethodName)) ∈ wsA := wA_2 (List.mem_of_getElem? (i := 90) rfl) rfl
set_option maxRecDepth 20000 in
theorem wd_2_91 : (Jvm.Cond.code ({ cls := "NetUnfolder$Possible", name := "wipe", desc := "()V" } : Jvm.MethodName) prog_4_method_2_code (1 : Nat) (Option.none : Option Jvm.ClassFile.FieldType)) ∈ wsA := wA_2 (List.mem_of_getElem? (i := 91) rfl) rfl
set_option maxRecDepth 20000 in
theorem wd_2_92 : (Jvm.Cond.methodLink "NetUnfolder$Unfolding" (77 : Nat) ({ cls := "NetUnfolder$Prefix", name := "addConditions", desc := "(IIJ)J" } : Jvm.MethodName)) ∈ wsA := wA_2 (List.mem_of_getElem? (i := 92) rfl) rfl
set_option maxRecDepth 20000 in
theorem wd_2_93 : (Jvm.Cond.instanceMethod ({ cls := "NetUnfolder$Prefix", name := "addConditions", desc := "(IIJ)J" } : Jvm.MethodName)) ∈ wsA := wA_2 (List.mem_of_getElem? (i := 93) rfl) rfl
set_option maxRecDepth 20000 in
theorem wd_2_94 : (Jvm.Cond.selects "NetUnfolder$Prefix" ({ cls := "NetUnfolder$Prefix", name := "addConditions", desc := "(IIJ)J" } : Jvm.MethodName) ({ cls := "NetUnfolder$Prefix", name := "addConditions", desc := "(IIJ)J" } : Jvm.MethodName)) ∈ wsA := wA_2 (List.mem_of_getElem? (i := 94) rfl) rfl
set_option maxRecDepth 20000 in
theorem wd_2_95 : (Jvm.Cond.code ({ cls := "NetUnfolder$Prefix", name := "addConditions", desc := "(IIJ)J" } : Jvm.MethodName) prog_5_method_5_code (10 : Nat) (Option.some Jvm.ClassFile.FieldType.long)) ∈ wsA := wA_2 (List.mem_of_getElem? (i := 95) rfl) rfl
set_option maxRecDepth 20000 in
theorem wd_2_96 : (Jvm.Cond.methodLink "NetUnfolder$Prefix" (67 : Nat) ({ cls := "NetUnfolder$Prefix", name := "allConditions", desc := "()J" } : Jvm.MethodName)) ∈ wsA := wA_2 (List.mem_of_getElem? (i := 96) rfl) rfl
set_option maxRecDepth 20000 in
theorem wd_2_97 : (Jvm.Cond.instanceMethod ({ cls := "NetUnfolder$Prefix", name := "allConditions", desc := "()J" } : Jvm.MethodName)) ∈ wsA := wA_2 (List.mem_of_getElem? (i := 97) rfl) rfl
set_option maxRecDepth 20000 in
theorem wd_2_98 : (Jvm.Cond.selects "NetUnfolder$Prefix" ({ cls := "NetUnfolder$Prefix", name := "allConditions", desc := "()J" } : Jvm.MethodName) ({ cls := "NetUnfolder$Prefix", name := "allConditions", desc := "()J" } : Jvm.MethodName)) ∈ wsA := wA_2 (List.mem_of_getElem? (i := 98) rfl) rfl
set_option maxRecDepth 20000 in
theorem wd_2_99 : (Jvm.Cond.code ({ cls := "NetUnfolder$Prefix", name := "allConditions", desc := "()J" } : Jvm.MethodName) prog_5_method_4_code (1 : Nat) (Option.some Jvm.ClassFile.FieldType.long)) ∈ wsA := wA_2 (List.mem_of_getElem? (i := 99) rfl) rfl
set_option maxRecDepth 20000 in
theorem wd_2_101 : (Jvm.Cond.static ({ cls := "NetUnfolder", name := "has", desc := "(JI)Z" } : Jvm.MethodName)) ∈ wsA := wA_2 (List.mem_of_getElem? (i := 101) rfl) rfl
set_option maxRecDepth 20000 in
theorem wd_2_102 : (Jvm.Cond.code ({ cls := "NetUnfolder", name := "has", desc := "(JI)Z" } : Jvm.MethodName) prog_1_method_17_code (3 : Nat) (Option.some Jvm.ClassFile.FieldType.boolean)) ∈ wsA := wA_2 (List.mem_of_getElem? (i := 102) rfl) rfl
set_option maxRecDepth 20000 in
theorem wd_2_103 : (Jvm.Cond.constantLong "NetUnfolder$Prefix" (71 : Nat) (-1 : Int64)) ∈ wsA := wA_2 (List.mem_of_getElem? (i := 103) rfl) rfl
set_option maxRecDepth 20000 in
theorem wd_2_104 : (Jvm.Cond.methodLink "NetUnfolder$Unfolding" (81 : Nat) ({ cls := "NetUnfolder$Unfolding", name := "findPossible", desc := "(JJ)V" } : Jvm.MethodName)) ∈ wsA := wA_2 (List.mem_of_getElem? (i := 104) rfl) rfl
set_option maxRecDepth 20000 in
theorem wd_2_106 : (Jvm.Cond.instanceMethod ({ cls := "NetUnfolder$Unfolding", name := "findPossible", desc := "(JJ)V" } : Jvm.MethodName)) ∈ wsA := wA_2 (List.mem_of_getElem? (i := 106) rfl) rfl
set_option maxRecDepth 20000 in
theorem wd_2_107 : (Jvm.Cond.code ({ cls := "NetUnfolder$Unfolding", name := "findPossible", desc := "(JJ)V" } : Jvm.MethodName) prog_8_method_9_code (6 : Nat) (Option.none : Option Jvm.ClassFile.FieldType)) ∈ wsA := wA_2 (List.mem_of_getElem? (i := 107) rfl) rfl
set_option maxRecDepth 20000 in
theorem wd_2_112 : (Jvm.Cond.methodLink "NetUnfolder$Unfolding" (35 : Nat) ({ cls := "NetUnfolder$Possible", name := "tooMany", desc := "()Z" } : Jvm.MethodName)) ∈ wsA := wA_2 (List.mem_of_getElem? (i := 112) rfl) rfl
set_option maxRecDepth 20000 in
theorem wd_2_113 : (Jvm.Cond.instanceMethod ({ cls := "NetUnfolder$Possible", name := "tooMany", desc := "()Z" } : Jvm.MethodName)) ∈ wsA := wA_2 (List.mem_of_getElem? (i := 113) rfl) rfl
set_option maxRecDepth 20000 in
theorem wd_2_114 : (Jvm.Cond.selects "NetUnfolder$Possible" ({ cls := "NetUnfolder$Possible", name := "tooMany", desc := "()Z" } : Jvm.MethodName) ({ cls := "NetUnfolder$Possible", name := "tooMany", desc := "()Z" } : Jvm.MethodName)) ∈ wsA := wA_2 (List.mem_of_getElem? (i := 114) rfl) rfl
set_option maxRecDepth 20000 in
theorem wd_2_115 : (Jvm.Cond.code ({ cls := "NetUnfolder$Possible", name := "tooMany", desc := "()Z" } : Jvm.MethodName) prog_4_method_3_code (1 : Nat) (Option.some Jvm.ClassFile.FieldType.boolean)) ∈ wsA := wA_2 (List.mem_of_getElem? (i := 115) rfl) rfl
set_option maxRecDepth 20000 in
theorem wd_2_125 : (Jvm.Cond.static ({ cls := "java/lang/Integer", name := "bitCount", desc := "(I)I" } : Jvm.MethodName)) ∈ wsA := wA_2 (List.mem_of_getElem? (i := 125) rfl) rfl
set_option maxRecDepth 20000 in
theorem wd_2_126 : (Jvm.Cond.code ({ cls := "java/lang/Integer", name := "bitCount", desc := "(I)I" } : Jvm.MethodName) prog_15_method_49_code (1 : Nat) (Option.some Jvm.ClassFile.FieldType.int)) ∈ wsA := wA_2 (List.mem_of_getElem? (i := 126) rfl) rfl
set_option maxRecDepth 20000 in
theorem wd_2_127 : (Jvm.Cond.constant "java/lang/Integer" (265 : Nat) (1431655765 : Int32)) ∈ wsA := wA_2 (List.mem_of_getElem? (i := 127) rfl) rfl
set_option maxRecDepth 20000 in
theorem wd_2_128 : (Jvm.Cond.constant "java/lang/Integer" (266 : Nat) (858993459 : Int32)) ∈ wsA := wA_2 (List.mem_of_getElem? (i := 128) rfl) rfl
set_option maxRecDepth 20000 in
theorem wd_2_129 : (Jvm.Cond.constant "java/lang/Integer" (267 : Nat) (252645135 : Int32)) ∈ wsA := wA_2 (List.mem_of_getElem? (i := 129) rfl) rfl
set_option maxRecDepth 20000 in
theorem wd_2_198 : (Jvm.Cond.methodLink "NetUnfolder" (88 : Nat) ({ cls := "NetUnfolder$Way", name := "step", desc := "(I)I" } : Jvm.MethodName)) ∈ wsA := wA_2 (List.mem_of_getElem? (i := 198) rfl) rfl
set_option maxRecDepth 20000 in
theorem wd_2_199 : (Jvm.Cond.instanceMethod ({ cls := "NetUnfolder$Way", name := "step", desc := "(I)I" } : Jvm.MethodName)) ∈ wsA := wA_2 (List.mem_of_getElem? (i := 199) rfl) rfl
set_option maxRecDepth 20000 in
theorem wd_2_200 : (Jvm.Cond.selects "NetUnfolder$Way" ({ cls := "NetUnfolder$Way", name := "step", desc := "(I)I" } : Jvm.MethodName) ({ cls := "NetUnfolder$Way", name := "step", desc := "(I)I" } : Jvm.MethodName)) ∈ wsA := wA_2 (List.mem_of_getElem? (i := 200) rfl) rfl
set_option maxRecDepth 20000 in
theorem wd_2_201 : (Jvm.Cond.code ({ cls := "NetUnfolder$Way", name := "step", desc := "(I)I" } : Jvm.MethodName) prog_9_method_5_code (2 : Nat) (Option.some Jvm.ClassFile.FieldType.int)) ∈ wsA := wA_2 (List.mem_of_getElem? (i := 201) rfl) rfl
set_option maxRecDepth 20000 in
theorem wd_2_206 : (Jvm.Cond.methodLink "NetUnfolder" (110 : Nat) ({ cls := "java/lang/Integer", name := "bitCount", desc := "(I)I" } : Jvm.MethodName)) ∈ wsA := wA_2 (List.mem_of_getElem? (i := 206) rfl) rfl
set_option maxRecDepth 20000 in
theorem wd_3_10 : (Jvm.Cond.methodLink "NetUnfolder" (46 : Nat) ({ cls := "NetUnfolder", name := "isMarking", desc := "(I)Z" } : Jvm.MethodName)) ∈ wsA := wA_3 (List.mem_of_getElem? (i := 10) rfl) rfl
set_option maxRecDepth 20000 in
theorem wd_3_11 : (Jvm.Cond.static ({ cls := "NetUnfolder", name := "isMarking", desc := "(I)Z" } : Jvm.MethodName)) ∈ wsA := wA_3 (List.mem_of_getElem? (i := 11) rfl) rfl
set_option maxRecDepth 20000 in
theorem wd_3_12 : (Jvm.Cond.code ({ cls := "NetUnfolder", name := "isMarking", desc := "(I)Z" } : Jvm.MethodName) prog_1_method_16_code (1 : Nat) (Option.some Jvm.ClassFile.FieldType.boolean)) ∈ wsA := wA_3 (List.mem_of_getElem? (i := 12) rfl) rfl
set_option maxRecDepth 20000 in
theorem wd_3_13 : (Jvm.Cond.classLink "NetUnfolder" (50 : Nat) "java/lang/IllegalArgumentException") ∈ wsA := wA_3 (List.mem_of_getElem? (i := 13) rfl) rfl
set_option maxRecDepth 20000 in
theorem wd_3_14 : (Jvm.Cond.instantiable "java/lang/IllegalArgumentException" (6 : Nat)) ∈ wsA := wA_3 (List.mem_of_getElem? (i := 14) rfl) rfl
set_option maxRecDepth 20000 in
theorem wd_3_75 : (Jvm.Cond.classLink "NetUnfolder" (57 : Nat) "java/lang/IllegalStateException") ∈ wsA := wA_3 (List.mem_of_getElem? (i := 75) rfl) rfl
set_option maxRecDepth 20000 in
theorem wd_3_76 : (Jvm.Cond.instantiable "java/lang/IllegalStateException" (6 : Nat)) ∈ wsA := wA_3 (List.mem_of_getElem? (i := 76) rfl) rfl
set_option maxRecDepth 20000 in
theorem wd_3_90 : (Jvm.Cond.methodLink "NetUnfolder" (63 : Nat) ({ cls := "NetUnfolder$Net", name := "add", desc := "(II)I" } : Jvm.MethodName)) ∈ wsA := wA_3 (List.mem_of_getElem? (i := 90) rfl) rfl
set_option maxRecDepth 20000 in
theorem wd_3_91 : (Jvm.Cond.instanceMethod ({ cls := "NetUnfolder$Net", name := "add", desc := "(II)I" } : Jvm.MethodName)) ∈ wsA := wA_3 (List.mem_of_getElem? (i := 91) rfl) rfl
set_option maxRecDepth 20000 in
theorem wd_3_92 : (Jvm.Cond.selects "NetUnfolder$Net" ({ cls := "NetUnfolder$Net", name := "add", desc := "(II)I" } : Jvm.MethodName) ({ cls := "NetUnfolder$Net", name := "add", desc := "(II)I" } : Jvm.MethodName)) ∈ wsA := wA_3 (List.mem_of_getElem? (i := 92) rfl) rfl
set_option maxRecDepth 20000 in
theorem wd_3_93 : (Jvm.Cond.code ({ cls := "NetUnfolder$Net", name := "add", desc := "(II)I" } : Jvm.MethodName) prog_3_method_3_code (3 : Nat) (Option.some Jvm.ClassFile.FieldType.int)) ∈ wsA := wA_3 (List.mem_of_getElem? (i := 93) rfl) rfl
set_option maxRecDepth 20000 in
theorem wd_3_239 : (Jvm.Cond.methodLink "NetUnfolderModel" (1 : Nat) ({ cls := "java/lang/Object", name := "<init>", desc := "()V" } : Jvm.MethodName)) ∈ wsA := wA_3 (List.mem_of_getElem? (i := 239) rfl) rfl
set_option maxRecDepth 20000 in
theorem wd_4_2 : (Jvm.Cond.fieldLink "NetUnfolderModel" (7 : Nat) "NetUnfolderModel" "pre" "[I") ∈ wsA := wA_4 (List.mem_of_getElem? (i := 2) rfl) rfl
set_option maxRecDepth 20000 in
theorem wd_4_3 : (Jvm.Cond.fieldLink "NetUnfolderModel" (13 : Nat) "NetUnfolderModel" "post" "[I") ∈ wsA := wA_4 (List.mem_of_getElem? (i := 3) rfl) rfl
set_option maxRecDepth 20000 in
theorem wd_4_6 : (Jvm.Cond.fieldLink "NetUnfolderModel" (16 : Nat) "NetUnfolderModel" "place" "[I") ∈ wsA := wA_4 (List.mem_of_getElem? (i := 6) rfl) rfl
set_option maxRecDepth 20000 in
theorem wd_4_7 : (Jvm.Cond.fieldLink "NetUnfolderModel" (19 : Nat) "NetUnfolderModel" "maker" "[I") ∈ wsA := wA_4 (List.mem_of_getElem? (i := 7) rfl) rfl
set_option maxRecDepth 20000 in
theorem wd_4_8 : (Jvm.Cond.fieldLink "NetUnfolderModel" (22 : Nat) "NetUnfolderModel" "behind" "[I") ∈ wsA := wA_4 (List.mem_of_getElem? (i := 8) rfl) rfl
set_option maxRecDepth 20000 in
theorem wd_4_9 : (Jvm.Cond.fieldLink "NetUnfolderModel" (25 : Nat) "NetUnfolderModel" "beside" "[J") ∈ wsA := wA_4 (List.mem_of_getElem? (i := 9) rfl) rfl
set_option maxRecDepth 20000 in
theorem wd_4_11 : (Jvm.Cond.fieldLink "NetUnfolderModel" (29 : Nat) "NetUnfolderModel" "transition" "[I") ∈ wsA := wA_4 (List.mem_of_getElem? (i := 11) rfl) rfl
set_option maxRecDepth 20000 in
theorem wd_4_12 : (Jvm.Cond.fieldLink "NetUnfolderModel" (32 : Nat) "NetUnfolderModel" "causes" "[I") ∈ wsA := wA_4 (List.mem_of_getElem? (i := 12) rfl) rfl
set_option maxRecDepth 20000 in
theorem wd_4_13 : (Jvm.Cond.fieldLink "NetUnfolderModel" (35 : Nat) "NetUnfolderModel" "taken" "[J") ∈ wsA := wA_4 (List.mem_of_getElem? (i := 13) rfl) rfl
set_option maxRecDepth 20000 in
theorem wd_4_14 : (Jvm.Cond.fieldLink "NetUnfolderModel" (38 : Nat) "NetUnfolderModel" "takes" "[I") ∈ wsA := wA_4 (List.mem_of_getElem? (i := 14) rfl) rfl
set_option maxRecDepth 20000 in
theorem wd_4_15 : (Jvm.Cond.fieldLink "NetUnfolderModel" (41 : Nat) "NetUnfolderModel" "rank" "[J") ∈ wsA := wA_4 (List.mem_of_getElem? (i := 15) rfl) rfl
set_option maxRecDepth 20000 in
theorem wd_4_16 : (Jvm.Cond.fieldLink "NetUnfolderModel" (44 : Nat) "NetUnfolderModel" "marking" "[I") ∈ wsA := wA_4 (List.mem_of_getElem? (i := 16) rfl) rfl
set_option maxRecDepth 20000 in
theorem wd_4_17 : (Jvm.Cond.fieldLink "NetUnfolderModel" (47 : Nat) "NetUnfolderModel" "cut" "[Z") ∈ wsA := wA_4 (List.mem_of_getElem? (i := 17) rfl) rfl
set_option maxRecDepth 20000 in
theorem wd_4_20 : (Jvm.Cond.fieldLink "NetUnfolderModel" (51 : Nat) "NetUnfolderModel" "chosen" "[I") ∈ wsA := wA_4 (List.mem_of_getElem? (i := 20) rfl) rfl
set_option maxRecDepth 20000 in
theorem wd_4_21 : (Jvm.Cond.fieldLink "NetUnfolderModel" (54 : Nat) "NetUnfolderModel" "open" "[J") ∈ wsA := wA_4 (List.mem_of_getElem? (i := 21) rfl) rfl
set_option maxRecDepth 20000 in
theorem wd_4_25 : (Jvm.Cond.fieldLink "NetUnfolderModel" (57 : Nat) "NetUnfolderModel" "least" "[I") ∈ wsA := wA_4 (List.mem_of_getElem? (i := 25) rfl) rfl
set_option maxRecDepth 20000 in
theorem wd_4_26 : (Jvm.Cond.fieldLink "NetUnfolderModel" (63 : Nat) "NetUnfolderModel" "length" "I") ∈ wsA := wA_4 (List.mem_of_getElem? (i := 26) rfl) rfl
set_option maxRecDepth 20000 in
theorem wd_4_27 : (Jvm.Cond.fieldLink "NetUnfolderModel" (60 : Nat) "NetUnfolderModel" "way" "[I") ∈ wsA := wA_4 (List.mem_of_getElem? (i := 27) rfl) rfl
set_option maxRecDepth 20000 in
theorem wd_4_28 : (Jvm.Cond.lays "NetUnfolderModel" "NetUnfolderModel" "thrown" "I") ∈ wsA := wA_4 (List.mem_of_getElem? (i := 28) rfl) rfl
set_option maxRecDepth 20000 in
theorem wd_4_30 : (Jvm.Cond.lays "NetUnfolderModel" "NetUnfolderModel" "transitions" "I") ∈ wsA := wA_4 (List.mem_of_getElem? (i := 30) rfl) rfl
set_option maxRecDepth 20000 in
theorem wd_4_32 : (Jvm.Cond.laysFinal "NetUnfolderModel" "NetUnfolderModel" "pre" "[I") ∈ wsA := wA_4 (List.mem_of_getElem? (i := 32) rfl) rfl
set_option maxRecDepth 20000 in
theorem wd_4_34 : (Jvm.Cond.laysFinal "NetUnfolderModel" "NetUnfolderModel" "post" "[I") ∈ wsA := wA_4 (List.mem_of_getElem? (i := 34) rfl) rfl
set_option maxRecDepth 20000 in
theorem wd_4_36 : (Jvm.Cond.lays "NetUnfolderModel" "NetUnfolderModel" "first" "I") ∈ wsA := wA_4 (List.mem_of_getElem? (i := 36) rfl) rfl
set_option maxRecDepth 20000 in
theorem wd_4_38 : (Jvm.Cond.lays "NetUnfolderModel" "NetUnfolderModel" "conditions" "I") ∈ wsA := wA_4 (List.mem_of_getElem? (i := 38) rfl) rfl
set_option maxRecDepth 20000 in
theorem wd_4_40 : (Jvm.Cond.laysFinal "NetUnfolderModel" "NetUnfolderModel" "place" "[I") ∈ wsA := wA_4 (List.mem_of_getElem? (i := 40) rfl) rfl
set_option maxRecDepth 20000 in
theorem wd_4_42 : (Jvm.Cond.laysFinal "NetUnfolderModel" "NetUnfolderModel" "maker" "[I") ∈ wsA := wA_4 (List.mem_of_getElem? (i := 42) rfl) rfl
set_option maxRecDepth 20000 in
theorem wd_4_44 : (Jvm.Cond.laysFinal "NetUnfolderModel" "NetUnfolderModel" "behind" "[I") ∈ wsA := wA_4 (List.mem_of_getElem? (i := 44) rfl) rfl
set_option maxRecDepth 20000 in
theorem wd_4_46 : (Jvm.Cond.laysFinal "NetUnfolderModel" "NetUnfolderModel" "beside" "[J") ∈ wsA := wA_4 (List.mem_of_getElem? (i := 46) rfl) rfl
set_option maxRecDepth 20000 in
theorem wd_4_48 : (Jvm.Cond.lays "NetUnfolderModel" "NetUnfolderModel" "events" "I") ∈ wsA := wA_4 (List.mem_of_getElem? (i := 48) rfl) rfl
set_option maxRecDepth 20000 in
theorem wd_4_50 : (Jvm.Cond.laysFinal "NetUnfolderModel" "NetUnfolderModel" "transition" "[I") ∈ wsA := wA_4 (List.mem_of_getElem? (i := 50) rfl) rfl
set_option maxRecDepth 20000 in
theorem wd_4_52 : (Jvm.Cond.laysFinal "NetUnfolderModel" "NetUnfolderModel" "causes" "[I") ∈ wsA := wA_4 (List.mem_of_getElem? (i := 52) rfl) rfl
set_option maxRecDepth 20000 in
theorem wd_4_54 : (Jvm.Cond.laysFinal "NetUnfolderModel" "NetUnfolderModel" "taken" "[J") ∈ wsA := wA_4 (List.mem_of_getElem? (i := 54) rfl) rfl
set_option maxRecDepth 20000 in
theorem wd_4_56 : (Jvm.Cond.laysFinal "NetUnfolderModel" "NetUnfolderModel" "takes" "[I") ∈ wsA := wA_4 (List.mem_of_getElem? (i := 56) rfl) rfl
set_option maxRecDepth 20000 in
theorem wd_4_58 : (Jvm.Cond.laysFinal "NetUnfolderModel" "NetUnfolderModel" "rank" "[J") ∈ wsA := wA_4 (List.mem_of_getElem? (i := 58) rfl) rfl
set_option maxRecDepth 20000 in
theorem wd_4_60 : (Jvm.Cond.laysFinal "NetUnfolderModel" "NetUnfolderModel" "marking" "[I") ∈ wsA := wA_4 (List.mem_of_getElem? (i := 60) rfl) rfl
set_option maxRecDepth 20000 in
theorem wd_4_62 : (Jvm.Cond.laysFinal "NetUnfolderModel" "NetUnfolderModel" "cut" "[Z") ∈ wsA := wA_4 (List.mem_of_getElem? (i := 62) rfl) rfl
set_option maxRecDepth 20000 in
theorem wd_4_64 : (Jvm.Cond.lays "NetUnfolderModel" "NetUnfolderModel" "whole" "Z") ∈ wsA := wA_4 (List.mem_of_getElem? (i := 64) rfl) rfl
set_option maxRecDepth 20000 in
theorem wd_4_66 : (Jvm.Cond.lays "NetUnfolderModel" "NetUnfolderModel" "possible" "I") ∈ wsA := wA_4 (List.mem_of_getElem? (i := 66) rfl) rfl
set_option maxRecDepth 20000 in
theorem wd_4_68 : (Jvm.Cond.laysFinal "NetUnfolderModel" "NetUnfolderModel" "chosen" "[I") ∈ wsA := wA_4 (List.mem_of_getElem? (i := 68) rfl) rfl
set_option maxRecDepth 20000 in
theorem wd_4_70 : (Jvm.Cond.laysFinal "NetUnfolderModel" "NetUnfolderModel" "open" "[J") ∈ wsA := wA_4 (List.mem_of_getElem? (i := 70) rfl) rfl
set_option maxRecDepth 20000 in
theorem wd_4_72 : (Jvm.Cond.lays "NetUnfolderModel" "NetUnfolderModel" "leastRank" "J") ∈ wsA := wA_4 (List.mem_of_getElem? (i := 72) rfl) rfl
set_option maxRecDepth 20000 in
theorem wd_4_74 : (Jvm.Cond.lays "NetUnfolderModel" "NetUnfolderModel" "leastTransition" "I") ∈ wsA := wA_4 (List.mem_of_getElem? (i := 74) rfl) rfl
set_option maxRecDepth 20000 in
theorem wd_4_76 : (Jvm.Cond.lays "NetUnfolderModel" "NetUnfolderModel" "leastMany" "I") ∈ wsA := wA_4 (List.mem_of_getElem? (i := 76) rfl) rfl
set_option maxRecDepth 20000 in
theorem wd_4_78 : (Jvm.Cond.laysFinal "NetUnfolderModel" "NetUnfolderModel" "least" "[I") ∈ wsA := wA_4 (List.mem_of_getElem? (i := 78) rfl) rfl
set_option maxRecDepth 20000 in
theorem wd_4_80 : (Jvm.Cond.lays "NetUnfolderModel" "NetUnfolderModel" "length" "I") ∈ wsA := wA_4 (List.mem_of_getElem? (i := 80) rfl) rfl
set_option maxRecDepth 20000 in
theorem wd_4_82 : (Jvm.Cond.laysFinal "NetUnfolderModel" "NetUnfolderModel" "way" "[I") ∈ wsA := wA_4 (List.mem_of_getElem? (i := 82) rfl) rfl
set_option maxRecDepth 20000 in
theorem wd_4_85 : (Jvm.Cond.arrayClass Jvm.ClassFile.FieldType.boolean) ∈ wsA := wA_4 (List.mem_of_getElem? (i := 85) rfl) rfl
set_option maxRecDepth 20000 in
theorem ws_Un_findPossible : Cond.selects "NetUnfolder$Unfolding" y_Un_findPossible y_Un_findPossible ∈ wsA := wA_s (y := y_Un_findPossible) (n := 4) (by decide +kernel) rfl
set_option maxRecDepth 20000 in
theorem ws_Un_begin : Cond.selects "NetUnfolder$Unfolding" y_Un_begin y_Un_begin ∈ wsA := wA_s (y := y_Un_begin) (n := 4) (by decide +kernel) rfl
set_option maxRecDepth 20000 in
theorem ws_NU_dropPrefixAndWay : Cond.selects "NetUnfolder" y_NU_dropPrefixAndWay y_NU_dropPrefixAndWay ∈ wsA := wA_s (y := y_NU_dropPrefixAndWay) (n := 5) (by decide +kernel) rfl
theorem in_NU : ∀ w ∈ u_ws "NetUnfolder" T_NU 5, w ∈ wsA := by
  show ∀ w ∈ ([(Jvm.Cond.laysFinal "NetUnfolder" "NetUnfolder" "net" "LNetUnfolder$Net;"), (Jvm.Cond.laysFinal "NetUnfolder" "NetUnfolder" "prefix" "LNetUnfolder$Prefix;"), (Jvm.Cond.laysFinal "NetUnfolder" "NetUnfolder" "latest" "LNetUnfolder$Way;"), (Jvm.Cond.laysFinal "NetUnfolder" "NetUnfolder" "unfolding" "LNetUnfolder$Unfolding;"), (Jvm.Cond.laysFinal "NetUnfolder" "NetUnfolder" "question" "LNetUnfolder$Question;")] : List Cond), w ∈ wsA
  exact List.forall_mem_cons.mpr ⟨wd_2_41, List.forall_mem_cons.mpr ⟨wd_2_43, List.forall_mem_cons.mpr ⟨wd_2_45, List.forall_mem_cons.mpr ⟨wd_2_47, List.forall_mem_cons.mpr ⟨wd_2_49, fun _ h => absurd h List.not_mem_nil⟩⟩⟩⟩⟩
theorem in_Ne : ∀ w ∈ u_ws "NetUnfolder$Net" T_Ne 4, w ∈ wsA := by
  show ∀ w ∈ ([(Jvm.Cond.laysFinal "NetUnfolder$Net" "NetUnfolder$Net" "preset" "[I"), (Jvm.Cond.laysFinal "NetUnfolder$Net" "NetUnfolder$Net" "postset" "[I"), (Jvm.Cond.lays "NetUnfolder$Net" "NetUnfolder$Net" "size" "I"), (Jvm.Cond.lays "NetUnfolder$Net" "NetUnfolder$Net" "first" "I")] : List Cond), w ∈ wsA
  exact List.forall_mem_cons.mpr ⟨wd_1_46, List.forall_mem_cons.mpr ⟨wd_1_48, List.forall_mem_cons.mpr ⟨wd_1_50, List.forall_mem_cons.mpr ⟨wd_1_52, fun _ h => absurd h List.not_mem_nil⟩⟩⟩⟩
theorem in_Pf : ∀ w ∈ u_ws "NetUnfolder$Prefix" T_Pf 14, w ∈ wsA := by
  show ∀ w ∈ ([(Jvm.Cond.lays "NetUnfolder$Prefix" "NetUnfolder$Prefix" "conditions" "I"), (Jvm.Cond.laysFinal "NetUnfolder$Prefix" "NetUnfolder$Prefix" "place" "[I"), (Jvm.Cond.laysFinal "NetUnfolder$Prefix" "NetUnfolder$Prefix" "maker" "[I"), (Jvm.Cond.laysFinal "NetUnfolder$Prefix" "NetUnfolder$Prefix" "takers" "[I"), (Jvm.Cond.laysFinal "NetUnfolder$Prefix" "NetUnfolder$Prefix" "beside" "[J"), (Jvm.Cond.laysFinal "NetUnfolder$Prefix" "NetUnfolder$Prefix" "ofPlace" "[J"), (Jvm.Cond.lays "NetUnfolder$Prefix" "NetUnfolder$Prefix" "events" "I"), (Jvm.Cond.laysFinal "NetUnfolder$Prefix" "NetUnfolder$Prefix" "transition" "[I"), (Jvm.Cond.laysFinal "NetUnfolder$Prefix" "NetUnfolder$Prefix" "taken" "[J"), (Jvm.Cond.laysFinal "NetUnfolder$Prefix" "NetUnfolder$Prefix" "causes" "[I"), (Jvm.Cond.laysFinal "NetUnfolder$Prefix" "NetUnfolder$Prefix" "marking" "[I"), (Jvm.Cond.laysFinal "NetUnfolder$Prefix" "NetUnfolder$Prefix" "rank" "[J"), (Jvm.Cond.lays "NetUnfolder$Prefix" "NetUnfolder$Prefix" "cutOffs" "I"), (Jvm.Cond.lays "NetUnfolder$Prefix" "NetUnfolder$Prefix" "whole" "Z")] : List Cond), w ∈ wsA
  exact List.forall_mem_cons.mpr ⟨wd_1_107, List.forall_mem_cons.mpr ⟨wd_1_109, List.forall_mem_cons.mpr ⟨wd_1_111, List.forall_mem_cons.mpr ⟨wd_1_113, List.forall_mem_cons.mpr ⟨wd_1_115, List.forall_mem_cons.mpr ⟨wd_1_117, List.forall_mem_cons.mpr ⟨wd_1_119, List.forall_mem_cons.mpr ⟨wd_1_121, List.forall_mem_cons.mpr ⟨wd_1_123, List.forall_mem_cons.mpr ⟨wd_1_125, List.forall_mem_cons.mpr ⟨wd_1_127, List.forall_mem_cons.mpr ⟨wd_1_129, List.forall_mem_cons.mpr ⟨wd_1_131, List.forall_mem_cons.mpr ⟨wd_1_133, fun _ h => absurd h List.not_mem_nil⟩⟩⟩⟩⟩⟩⟩⟩⟩⟩⟩⟩⟩⟩
theorem in_Wa : ∀ w ∈ u_ws "NetUnfolder$Way" T_Wa 2, w ∈ wsA := by
  show ∀ w ∈ ([(Jvm.Cond.laysFinal "NetUnfolder$Way" "NetUnfolder$Way" "steps" "[I"), (Jvm.Cond.lays "NetUnfolder$Way" "NetUnfolder$Way" "length" "I")] : List Cond), w ∈ wsA
  exact List.forall_mem_cons.mpr ⟨wd_1_147, List.forall_mem_cons.mpr ⟨wd_1_149, fun _ h => absurd h List.not_mem_nil⟩⟩
theorem in_Un : ∀ w ∈ u_ws "NetUnfolder$Unfolding" T_Un 4, w ∈ wsA := by
  show ∀ w ∈ ([(Jvm.Cond.laysFinal "NetUnfolder$Unfolding" "NetUnfolder$Unfolding" "net" "LNetUnfolder$Net;"), (Jvm.Cond.laysFinal "NetUnfolder$Unfolding" "NetUnfolder$Unfolding" "prefix" "LNetUnfolder$Prefix;"), (Jvm.Cond.laysFinal "NetUnfolder$Unfolding" "NetUnfolder$Unfolding" "way" "LNetUnfolder$Way;"), (Jvm.Cond.laysFinal "NetUnfolder$Unfolding" "NetUnfolder$Unfolding" "possible" "LNetUnfolder$Possible;")] : List Cond), w ∈ wsA
  exact List.forall_mem_cons.mpr ⟨wd_1_188, List.forall_mem_cons.mpr ⟨wd_1_190, List.forall_mem_cons.mpr ⟨wd_1_192, List.forall_mem_cons.mpr ⟨wd_1_194, fun _ h => absurd h List.not_mem_nil⟩⟩⟩⟩
theorem in_Po : ∀ w ∈ u_ws "NetUnfolder$Possible" T_Po 5, w ∈ wsA := by
  show ∀ w ∈ ([(Jvm.Cond.laysFinal "NetUnfolder$Possible" "NetUnfolder$Possible" "prefix" "LNetUnfolder$Prefix;"), (Jvm.Cond.lays "NetUnfolder$Possible" "NetUnfolder$Possible" "size" "I"), (Jvm.Cond.laysFinal "NetUnfolder$Possible" "NetUnfolder$Possible" "transition" "[I"), (Jvm.Cond.laysFinal "NetUnfolder$Possible" "NetUnfolder$Possible" "taken" "[J"), (Jvm.Cond.laysFinal "NetUnfolder$Possible" "NetUnfolder$Possible" "rank" "[J")] : List Cond), w ∈ wsA
  exact List.forall_mem_cons.mpr ⟨wd_1_173, List.forall_mem_cons.mpr ⟨wd_1_175, List.forall_mem_cons.mpr ⟨wd_1_177, List.forall_mem_cons.mpr ⟨wd_1_179, List.forall_mem_cons.mpr ⟨wd_1_181, fun _ h => absurd h List.not_mem_nil⟩⟩⟩⟩⟩
theorem in_Qu : ∀ w ∈ u_ws "NetUnfolder$Question" T_Qu 6, w ∈ wsA := by
  show ∀ w ∈ ([(Jvm.Cond.laysFinal "NetUnfolder$Question" "NetUnfolder$Question" "net" "LNetUnfolder$Net;"), (Jvm.Cond.laysFinal "NetUnfolder$Question" "NetUnfolder$Question" "prefix" "LNetUnfolder$Prefix;"), (Jvm.Cond.laysFinal "NetUnfolder$Question" "NetUnfolder$Question" "way" "LNetUnfolder$Way;"), (Jvm.Cond.laysFinal "NetUnfolder$Question" "NetUnfolder$Question" "clauses" "LNetUnfolder$Clauses;"), (Jvm.Cond.laysFinal "NetUnfolder$Question" "NetUnfolder$Question" "search" "LNetUnfolder$Search;"), (Jvm.Cond.lays "NetUnfolder$Question" "NetUnfolder$Question" "usable" "I")] : List Cond), w ∈ wsA
  exact List.forall_mem_cons.mpr ⟨wd_2_23, List.forall_mem_cons.mpr ⟨wd_2_25, List.forall_mem_cons.mpr ⟨wd_2_27, List.forall_mem_cons.mpr ⟨wd_2_29, List.forall_mem_cons.mpr ⟨wd_2_31, List.forall_mem_cons.mpr ⟨wd_2_33, fun _ h => absurd h List.not_mem_nil⟩⟩⟩⟩⟩⟩
theorem in_Cs : ∀ w ∈ u_ws "NetUnfolder$Clauses" T_Cs 4, w ∈ wsA := by
  show ∀ w ∈ ([(Jvm.Cond.laysFinal "NetUnfolder$Clauses" "NetUnfolder$Clauses" "yes" "[J"), (Jvm.Cond.laysFinal "NetUnfolder$Clauses" "NetUnfolder$Clauses" "no" "[J"), (Jvm.Cond.lays "NetUnfolder$Clauses" "NetUnfolder$Clauses" "size" "I"), (Jvm.Cond.lays "NetUnfolder$Clauses" "NetUnfolder$Clauses" "given" "I")] : List Cond), w ∈ wsA
  exact List.forall_mem_cons.mpr ⟨wd_1_217, List.forall_mem_cons.mpr ⟨wd_1_219, List.forall_mem_cons.mpr ⟨wd_1_221, List.forall_mem_cons.mpr ⟨wd_1_223, fun _ h => absurd h List.not_mem_nil⟩⟩⟩⟩
theorem in_Se : ∀ w ∈ u_ws "NetUnfolder$Search" T_Se 8, w ∈ wsA := by
  show ∀ w ∈ ([(Jvm.Cond.laysFinal "NetUnfolder$Search" "NetUnfolder$Search" "clauses" "LNetUnfolder$Clauses;"), (Jvm.Cond.lays "NetUnfolder$Search" "NetUnfolder$Search" "yes" "J"), (Jvm.Cond.lays "NetUnfolder$Search" "NetUnfolder$Search" "no" "J"), (Jvm.Cond.lays "NetUnfolder$Search" "NetUnfolder$Search" "level" "I"), (Jvm.Cond.laysFinal "NetUnfolder$Search" "NetUnfolder$Search" "setAt" "[J"), (Jvm.Cond.laysFinal "NetUnfolder$Search" "NetUnfolder$Search" "trail" "[I"), (Jvm.Cond.lays "NetUnfolder$Search" "NetUnfolder$Search" "trailSize" "I"), (Jvm.Cond.laysFinal "NetUnfolder$Search" "NetUnfolder$Search" "reason" "[I")] : List Cond), w ∈ wsA
  exact List.forall_mem_cons.mpr ⟨wd_2_0, List.forall_mem_cons.mpr ⟨wd_2_2, List.forall_mem_cons.mpr ⟨wd_2_4, List.forall_mem_cons.mpr ⟨wd_2_6, List.forall_mem_cons.mpr ⟨wd_2_8, List.forall_mem_cons.mpr ⟨wd_2_10, List.forall_mem_cons.mpr ⟨wd_2_12, List.forall_mem_cons.mpr ⟨wd_2_14, fun _ h => absurd h List.not_mem_nil⟩⟩⟩⟩⟩⟩⟩⟩
theorem in_Mo : ∀ w ∈ u_ws "NetUnfolderModel" T_Mo 28, w ∈ wsA := by
  show ∀ w ∈ ([(Jvm.Cond.lays "NetUnfolderModel" "NetUnfolderModel" "thrown" "I"), (Jvm.Cond.lays "NetUnfolderModel" "NetUnfolderModel" "transitions" "I"), (Jvm.Cond.laysFinal "NetUnfolderModel" "NetUnfolderModel" "pre" "[I"), (Jvm.Cond.laysFinal "NetUnfolderModel" "NetUnfolderModel" "post" "[I"), (Jvm.Cond.lays "NetUnfolderModel" "NetUnfolderModel" "first" "I"), (Jvm.Cond.lays "NetUnfolderModel" "NetUnfolderModel" "conditions" "I"), (Jvm.Cond.laysFinal "NetUnfolderModel" "NetUnfolderModel" "place" "[I"), (Jvm.Cond.laysFinal "NetUnfolderModel" "NetUnfolderModel" "maker" "[I"), (Jvm.Cond.laysFinal "NetUnfolderModel" "NetUnfolderModel" "behind" "[I"), (Jvm.Cond.laysFinal "NetUnfolderModel" "NetUnfolderModel" "beside" "[J"), (Jvm.Cond.lays "NetUnfolderModel" "NetUnfolderModel" "events" "I"), (Jvm.Cond.laysFinal "NetUnfolderModel" "NetUnfolderModel" "transition" "[I"), (Jvm.Cond.laysFinal "NetUnfolderModel" "NetUnfolderModel" "causes" "[I"), (Jvm.Cond.laysFinal "NetUnfolderModel" "NetUnfolderModel" "taken" "[J"), (Jvm.Cond.laysFinal "NetUnfolderModel" "NetUnfolderModel" "takes" "[I"), (Jvm.Cond.laysFinal "NetUnfolderModel" "NetUnfolderModel" "rank" "[J"), (Jvm.Cond.laysFinal "NetUnfolderModel" "NetUnfolderModel" "marking" "[I"), (Jvm.Cond.laysFinal "NetUnfolderModel" "NetUnfolderModel" "cut" "[Z"), (Jvm.Cond.lays "NetUnfolderModel" "NetUnfolderModel" "whole" "Z"), (Jvm.Cond.lays "NetUnfolderModel" "NetUnfolderModel" "possible" "I"), (Jvm.Cond.laysFinal "NetUnfolderModel" "NetUnfolderModel" "chosen" "[I"), (Jvm.Cond.laysFinal "NetUnfolderModel" "NetUnfolderModel" "open" "[J"), (Jvm.Cond.lays "NetUnfolderModel" "NetUnfolderModel" "leastRank" "J"), (Jvm.Cond.lays "NetUnfolderModel" "NetUnfolderModel" "leastTransition" "I"), (Jvm.Cond.lays "NetUnfolderModel" "NetUnfolderModel" "leastMany" "I"), (Jvm.Cond.laysFinal "NetUnfolderModel" "NetUnfolderModel" "least" "[I"), (Jvm.Cond.lays "NetUnfolderModel" "NetUnfolderModel" "length" "I"), (Jvm.Cond.laysFinal "NetUnfolderModel" "NetUnfolderModel" "way" "[I")] : List Cond), w ∈ wsA
  exact List.forall_mem_cons.mpr ⟨wd_4_28, List.forall_mem_cons.mpr ⟨wd_4_30, List.forall_mem_cons.mpr ⟨wd_4_32, List.forall_mem_cons.mpr ⟨wd_4_34, List.forall_mem_cons.mpr ⟨wd_4_36, List.forall_mem_cons.mpr ⟨wd_4_38, List.forall_mem_cons.mpr ⟨wd_4_40, List.forall_mem_cons.mpr ⟨wd_4_42, List.forall_mem_cons.mpr ⟨wd_4_44, List.forall_mem_cons.mpr ⟨wd_4_46, List.forall_mem_cons.mpr ⟨wd_4_48, List.forall_mem_cons.mpr ⟨wd_4_50, List.forall_mem_cons.mpr ⟨wd_4_52, List.forall_mem_cons.mpr ⟨wd_4_54, List.forall_mem_cons.mpr ⟨wd_4_56, List.forall_mem_cons.mpr ⟨wd_4_58, List.forall_mem_cons.mpr ⟨wd_4_60, List.forall_mem_cons.mpr ⟨wd_4_62, List.forall_mem_cons.mpr ⟨wd_4_64, List.forall_mem_cons.mpr ⟨wd_4_66, List.forall_mem_cons.mpr ⟨wd_4_68, List.forall_mem_cons.mpr ⟨wd_4_70, List.forall_mem_cons.mpr ⟨wd_4_72, List.forall_mem_cons.mpr ⟨wd_4_74, List.forall_mem_cons.mpr ⟨wd_4_76, List.forall_mem_cons.mpr ⟨wd_4_78, List.forall_mem_cons.mpr ⟨wd_4_80, List.forall_mem_cons.mpr ⟨wd_4_82, fun _ h => absurd h List.not_mem_nil⟩⟩⟩⟩⟩⟩⟩⟩⟩⟩⟩⟩⟩⟩⟩⟩⟩⟩⟩⟩⟩⟩⟩⟩⟩⟩⟩⟩
end
section
theorem d_Ne_init_0 : decode prog_3_method_1_code 0 = .ok (.aload_n 0, 1) := by decide +kernel
theorem d_Ne_init_1 : decode prog_3_method_1_code 1 = .ok (.invokespecial 3, 3) := by decide +kernel
theorem d_Ne_init_4 : decode prog_3_method_1_code 4 = .ok (.aload_n 0, 1) := by decide +kernel
theorem d_Ne_init_5 : decode prog_3_method_1_code 5 = .ok (.bipush 8, 2) := by decide +kernel
theorem d_Ne_init_7 : decode prog_3_method_1_code 7 = .ok (.newarray .int, 2) := by decide +kernel
theorem d_Ne_init_9 : decode prog_3_method_1_code 9 = .ok (.putfield 9, 3) := by decide +kernel
theorem d_Ne_init_12 : decode prog_3_method_1_code 12 = .ok (.aload_n 0, 1) := by decide +kernel
theorem d_Ne_init_13 : decode prog_3_method_1_code 13 = .ok (.bipush 8, 2) := by decide +kernel
theorem d_Ne_init_15 : decode prog_3_method_1_code 15 = .ok (.newarray .int, 2) := by decide +kernel
theorem d_Ne_init_17 : decode prog_3_method_1_code 17 = .ok (.putfield 15, 3) := by decide +kernel
theorem d_Ne_init_20 : decode prog_3_method_1_code 20 = .ok (.return_, 1) := by decide +kernel
theorem d_Wa_init_0 : decode prog_9_method_1_code 0 = .ok (.aload_n 0, 1) := by decide +kernel
theorem d_Wa_init_1 : decode prog_9_method_1_code 1 = .ok (.invokespecial 3, 3) := by decide +kernel
theorem d_Wa_init_4 : decode prog_9_method_1_code 4 = .ok (.aload_n 0, 1) := by decide +kernel
theorem d_Wa_init_5 : decode prog_9_method_1_code 5 = .ok (.bipush 31, 2) := by decide +kernel
theorem d_Wa_init_7 : decode prog_9_method_1_code 7 = .ok (.newarray .int, 2) := by decide +kernel
theorem d_Wa_init_9 : decode prog_9_method_1_code 9 = .ok (.putfield 9, 3) := by decide +kernel
theorem d_Wa_init_12 : decode prog_9_method_1_code 12 = .ok (.aload_n 0, 1) := by decide +kernel
theorem d_Wa_init_13 : decode prog_9_method_1_code 13 = .ok (.iconst (-1), 1) := by decide +kernel
theorem d_Wa_init_14 : decode prog_9_method_1_code 14 = .ok (.putfield 15, 3) := by decide +kernel
theorem d_Wa_init_17 : decode prog_9_method_1_code 17 = .ok (.return_, 1) := by decide +kernel
theorem d_Pf_init_0 : decode prog_5_method_1_code 0 = .ok (.aload_n 0, 1) := by decide +kernel
theorem d_Pf_init_1 : decode prog_5_method_1_code 1 = .ok (.invokespecial 3, 3) := by decide +kernel
theorem d_Pf_init_4 : decode prog_5_method_1_code 4 = .ok (.aload_n 0, 1) := by decide +kernel
theorem d_Pf_init_5 : decode prog_5_method_1_code 5 = .ok (.bipush 60, 2) := by decide +kernel
theorem d_Pf_init_7 : decode prog_5_method_1_code 7 = .ok (.newarray .int, 2) := by decide +kernel
theorem d_Pf_init_9 : decode prog_5_method_1_code 9 = .ok (.putfield 9, 3) := by decide +kernel
theorem d_Pf_init_12 : decode prog_5_method_1_code 12 = .ok (.aload_n 0, 1) := by decide +kernel
theorem d_Pf_init_13 : decode prog_5_method_1_code 13 = .ok (.bipush 60, 2) := by decide +kernel
theorem d_Pf_init_15 : decode prog_5_method_1_code 15 = .ok (.newarray .int, 2) := by decide +kernel
theorem d_Pf_init_17 : decode prog_5_method_1_code 17 = .ok (.putfield 15, 3) := by decide +kernel
theorem d_Pf_init_20 : decode prog_5_method_1_code 20 = .ok (.aload_n 0, 1) := by decide +kernel
theorem d_Pf_init_21 : decode prog_5_method_1_code 21 = .ok (.bipush 60, 2) := by decide +kernel
theorem d_Pf_init_23 : decode prog_5_method_1_code 23 = .ok (.newarray .int, 2) := by decide +kernel
theorem d_Pf_init_25 : decode prog_5_method_1_code 25 = .ok (.putfield 18, 3) := by decide +kernel
theorem d_Pf_init_28 : decode prog_5_method_1_code 28 = .ok (.aload_n 0, 1) := by decide +kernel
theorem d_Pf_init_29 : decode prog_5_method_1_code 29 = .ok (.bipush 60, 2) := by decide +kernel
theorem d_Pf_init_31 : decode prog_5_method_1_code 31 = .ok (.newarray .long, 2) := by decide +kernel
theorem d_Pf_init_33 : decode prog_5_method_1_code 33 = .ok (.putfield 21, 3) := by decide +kernel
theorem d_Pf_init_36 : decode prog_5_method_1_code 36 = .ok (.aload_n 0, 1) := by decide +kernel
theorem d_Pf_init_37 : decode prog_5_method_1_code 37 = .ok (.bipush 8, 2) := by decide +kernel
theorem d_Pf_init_39 : decode prog_5_method_1_code 39 = .ok (.newarray .long, 2) := by decide +kernel
theorem d_Pf_init_41 : decode prog_5_method_1_code 41 = .ok (.putfield 25, 3) := by decide +kernel
theorem d_Pf_init_44 : decode prog_5_method_1_code 44 = .ok (.aload_n 0, 1) := by decide +kernel
theorem d_Pf_init_45 : decode prog_5_method_1_code 45 = .ok (.bipush 30, 2) := by decide +kernel
theorem d_Pf_init_47 : decode prog_5_method_1_code 47 = .ok (.newarray .int, 2) := by decide +kernel
theorem d_Pf_init_49 : decode prog_5_method_1_code 49 = .ok (.putfield 28, 3) := by decide +kernel
theorem d_Pf_init_52 : decode prog_5_method_1_code 52 = .ok (.aload_n 0, 1) := by decide +kernel
theorem d_Pf_init_53 : decode prog_5_method_1_code 53 = .ok (.bipush 30, 2) := by decide +kernel
theorem d_Pf_init_55 : decode prog_5_method_1_code 55 = .ok (.newarray .long, 2) := by decide +kernel
theorem d_Pf_init_57 : decode prog_5_method_1_code 57 = .ok (.putfield 31, 3) := by decide +kernel
theorem d_Pf_init_60 : decode prog_5_method_1_code 60 = .ok (.aload_n 0, 1) := by decide +kernel
theorem d_Pf_init_61 : decode prog_5_method_1_code 61 = .ok (.bipush 30, 2) := by decide +kernel
theorem d_Pf_init_63 : decode prog_5_method_1_code 63 = .ok (.newarray .int, 2) := by decide +kernel
theorem d_Pf_init_65 : decode prog_5_method_1_code 65 = .ok (.putfield 34, 3) := by decide +kernel
theorem d_Pf_init_68 : decode prog_5_method_1_code 68 = .ok (.aload_n 0, 1) := by decide +kernel
theorem d_Pf_init_69 : decode prog_5_method_1_code 69 = .ok (.bipush 30, 2) := by decide +kernel
theorem d_Pf_init_71 : decode prog_5_method_1_code 71 = .ok (.newarray .int, 2) := by decide +kernel
theorem d_Pf_init_73 : decode prog_5_method_1_code 73 = .ok (.putfield 37, 3) := by decide +kernel
theorem d_Pf_init_76 : decode prog_5_method_1_code 76 = .ok (.aload_n 0, 1) := by decide +kernel
theorem d_Pf_init_77 : decode prog_5_method_1_code 77 = .ok (.bipush 30, 2) := by decide +kernel
theorem d_Pf_init_79 : decode prog_5_method_1_code 79 = .ok (.newarray .long, 2) := by decide +kernel
theorem d_Pf_init_81 : decode prog_5_method_1_code 81 = .ok (.putfield 40, 3) := by decide +kernel
theorem d_Pf_init_84 : decode prog_5_method_1_code 84 = .ok (.return_, 1) := by decide +kernel
theorem d_Po_init_0 : decode prog_4_method_1_code 0 = .ok (.aload_n 0, 1) := by decide +kernel
theorem d_Po_init_1 : decode prog_4_method_1_code 1 = .ok (.invokespecial 3, 3) := by decide +kernel
theorem d_Po_init_4 : decode prog_4_method_1_code 4 = .ok (.aload_n 0, 1) := by decide +kernel
theorem d_Po_init_5 : decode prog_4_method_1_code 5 = .ok (.sipush 201, 3) := by decide +kernel
theorem d_Po_init_8 : decode prog_4_method_1_code 8 = .ok (.newarray .int, 2) := by decide +kernel
theorem d_Po_init_10 : decode prog_4_method_1_code 10 = .ok (.putfield 9, 3) := by decide +kernel
theorem d_Po_init_13 : decode prog_4_method_1_code 13 = .ok (.aload_n 0, 1) := by decide +kernel
theorem d_Po_init_14 : decode prog_4_method_1_code 14 = .ok (.sipush 201, 3) := by decide +kernel
theorem d_Po_init_17 : decode prog_4_method_1_code 17 = .ok (.newarray .long, 2) := by decide +kernel
theorem d_Po_init_19 : decode prog_4_method_1_code 19 = .ok (.putfield 15, 3) := by decide +kernel
theorem d_Po_init_22 : decode prog_4_method_1_code 22 = .ok (.aload_n 0, 1) := by decide +kernel
theorem d_Po_init_23 : decode prog_4_method_1_code 23 = .ok (.sipush 201, 3) := by decide +kernel
theorem d_Po_init_26 : decode prog_4_method_1_code 26 = .ok (.newarray .long, 2) := by decide +kernel
theorem d_Po_init_28 : decode prog_4_method_1_code 28 = .ok (.putfield 19, 3) := by decide +kernel
theorem d_Po_init_31 : decode prog_4_method_1_code 31 = .ok (.aload_n 0, 1) := by decide +kernel
theorem d_Po_init_32 : decode prog_4_method_1_code 32 = .ok (.aload_n 1, 1) := by decide +kernel
theorem d_Po_init_33 : decode prog_4_method_1_code 33 = .ok (.putfield 22, 3) := by decide +kernel
theorem d_Po_init_36 : decode prog_4_method_1_code 36 = .ok (.return_, 1) := by decide +kernel
theorem d_Un_init_0 : decode prog_8_method_1_code 0 = .ok (.aload_n 0, 1) := by decide +kernel
theorem d_Un_init_1 : decode prog_8_method_1_code 1 = .ok (.invokespecial 3, 3) := by decide +kernel
theorem d_Un_init_4 : decode prog_8_method_1_code 4 = .ok (.aload_n 0, 1) := by decide +kernel
theorem d_Un_init_5 : decode prog_8_method_1_code 5 = .ok (.aload_n 1, 1) := by decide +kernel
theorem d_Un_init_6 : decode prog_8_method_1_code 6 = .ok (.putfield 9, 3) := by decide +kernel
theorem d_Un_init_9 : decode prog_8_method_1_code 9 = .ok (.aload_n 0, 1) := by decide +kernel
theorem d_Un_init_10 : decode prog_8_method_1_code 10 = .ok (.aload_n 2, 1) := by decide +kernel
theorem d_Un_init_11 : decode prog_8_method_1_code 11 = .ok (.putfield 15, 3) := by decide +kernel
theorem d_Un_init_14 : decode prog_8_method_1_code 14 = .ok (.aload_n 0, 1) := by decide +kernel
theorem d_Un_init_15 : decode prog_8_method_1_code 15 = .ok (.aload_n 3, 1) := by decide +kernel
theorem d_Un_init_16 : decode prog_8_method_1_code 16 = .ok (.putfield 19, 3) := by decide +kernel
theorem d_Un_init_19 : decode prog_8_method_1_code 19 = .ok (.aload_n 0, 1) := by decide +kernel
theorem d_Un_init_20 : decode prog_8_method_1_code 20 = .ok (.new 23, 3) := by decide +kernel
theorem d_Un_init_23 : decode prog_8_method_1_code 23 = .ok (.dup, 1) := by decide +kernel
theorem d_Un_init_24 : decode prog_8_method_1_code 24 = .ok (.aload_n 2, 1) := by decide +kernel
theorem d_Un_init_25 : decode prog_8_method_1_code 25 = .ok (.invokespecial 25, 3) := by decide +kernel
theorem d_Un_init_28 : decode prog_8_method_1_code 28 = .ok (.putfield 28, 3) := by decide +kernel
theorem d_Un_init_31 : decode prog_8_method_1_code 31 = .ok (.return_, 1) := by decide +kernel
theorem d_Cs_init_0 : decode prog_2_method_1_code 0 = .ok (.aload_n 0, 1) := by decide +kernel
theorem d_Cs_init_1 : decode prog_2_method_1_code 1 = .ok (.invokespecial 3, 3) := by decide +kernel
theorem d_Cs_init_4 : decode prog_2_method_1_code 4 = .ok (.aload_n 0, 1) := by decide +kernel
theorem d_Cs_init_5 : decode prog_2_method_1_code 5 = .ok (.sipush 815, 3) := by decide +kernel
theorem d_Cs_init_8 : decode prog_2_method_1_code 8 = .ok (.newarray .long, 2) := by decide +kernel
theorem d_Cs_init_10 : decode prog_2_method_1_code 10 = .ok (.putfield 11, 3) := by decide +kernel
theorem d_Cs_init_13 : decode prog_2_method_1_code 13 = .ok (.aload_n 0, 1) := by decide +kernel
theorem d_Cs_init_14 : decode prog_2_method_1_code 14 = .ok (.sipush 815, 3) := by decide +kernel
theorem d_Cs_init_17 : decode prog_2_method_1_code 17 = .ok (.newarray .long, 2) := by decide +kernel
theorem d_Cs_init_19 : decode prog_2_method_1_code 19 = .ok (.putfield 15, 3) := by decide +kernel
theorem d_Cs_init_22 : decode prog_2_method_1_code 22 = .ok (.return_, 1) := by decide +kernel
theorem d_Se_init_0 : decode prog_7_method_1_code 0 = .ok (.aload_n 0, 1) := by decide +kernel
theorem d_Se_init_1 : decode prog_7_method_1_code 1 = .ok (.invokespecial 3, 3) := by decide +kernel
theorem d_Se_init_4 : decode prog_7_method_1_code 4 = .ok (.aload_n 0, 1) := by decide +kernel
theorem d_Se_init_5 : decode prog_7_method_1_code 5 = .ok (.bipush 39, 2) := by decide +kernel
theorem d_Se_init_7 : decode prog_7_method_1_code 7 = .ok (.newarray .long, 2) := by decide +kernel
theorem d_Se_init_9 : decode prog_7_method_1_code 9 = .ok (.putfield 11, 3) := by decide +kernel
theorem d_Se_init_12 : decode prog_7_method_1_code 12 = .ok (.aload_n 0, 1) := by decide +kernel
theorem d_Se_init_13 : decode prog_7_method_1_code 13 = .ok (.bipush 38, 2) := by decide +kernel
theorem d_Se_init_15 : decode prog_7_method_1_code 15 = .ok (.newarray .int, 2) := by decide +kernel
theorem d_Se_init_17 : decode prog_7_method_1_code 17 = .ok (.putfield 15, 3) := by decide +kernel
theorem d_Se_init_20 : decode prog_7_method_1_code 20 = .ok (.aload_n 0, 1) := by decide +kernel
theorem d_Se_init_21 : decode prog_7_method_1_code 21 = .ok (.bipush 38, 2) := by decide +kernel
theorem d_Se_init_23 : decode prog_7_method_1_code 23 = .ok (.newarray .int, 2) := by decide +kernel
theorem d_Se_init_25 : decode prog_7_method_1_code 25 = .ok (.putfield 19, 3) := by decide +kernel
theorem d_Se_init_28 : decode prog_7_method_1_code 28 = .ok (.aload_n 0, 1) := by decide +kernel
theorem d_Se_init_29 : decode prog_7_method_1_code 29 = .ok (.aload_n 1, 1) := by decide +kernel
theorem d_Se_init_30 : decode prog_7_method_1_code 30 = .ok (.putfield 22, 3) := by decide +kernel
theorem d_Se_init_33 : decode prog_7_method_1_code 33 = .ok (.return_, 1) := by decide +kernel
theorem d_Qu_init_0 : decode prog_6_method_1_code 0 = .ok (.aload_n 0, 1) := by decide +kernel
theorem d_Qu_init_1 : decode prog_6_method_1_code 1 = .ok (.invokespecial 3, 3) := by decide +kernel
theorem d_Qu_init_4 : decode prog_6_method_1_code 4 = .ok (.aload_n 0, 1) := by decide +kernel
theorem d_Qu_init_5 : decode prog_6_method_1_code 5 = .ok (.new 9, 3) := by decide +kernel
theorem d_Qu_init_8 : decode prog_6_method_1_code 8 = .ok (.dup, 1) := by decide +kernel
theorem d_Qu_init_9 : decode prog_6_method_1_code 9 = .ok (.invokespecial 11, 3) := by decide +kernel
theorem d_Qu_init_12 : decode prog_6_method_1_code 12 = .ok (.putfield 12, 3) := by decide +kernel
theorem d_Qu_init_15 : decode prog_6_method_1_code 15 = .ok (.aload_n 0, 1) := by decide +kernel
theorem d_Qu_init_16 : decode prog_6_method_1_code 16 = .ok (.new 18, 3) := by decide +kernel
theorem d_Qu_init_19 : decode prog_6_method_1_code 19 = .ok (.dup, 1) := by decide +kernel
theorem d_Qu_init_20 : decode prog_6_method_1_code 20 = .ok (.aload_n 0, 1) := by decide +kernel
theorem d_Qu_init_21 : decode prog_6_method_1_code 21 = .ok (.getfield 12, 3) := by decide +kernel
theorem d_Qu_init_24 : decode prog_6_method_1_code 24 = .ok (.invokespecial 20, 3) := by decide +kernel
theorem d_Qu_init_27 : decode prog_6_method_1_code 27 = .ok (.putfield 23, 3) := by decide +kernel
theorem d_Qu_init_30 : decode prog_6_method_1_code 30 = .ok (.aload_n 0, 1) := by decide +kernel
theorem d_Qu_init_31 : decode prog_6_method_1_code 31 = .ok (.aload_n 1, 1) := by decide +kernel
theorem d_Qu_init_32 : decode prog_6_method_1_code 32 = .ok (.putfield 27, 3) := by decide +kernel
theorem d_Qu_init_35 : decode prog_6_method_1_code 35 = .ok (.aload_n 0, 1) := by decide +kernel
theorem d_Qu_init_36 : decode prog_6_method_1_code 36 = .ok (.aload_n 2, 1) := by decide +kernel
theorem d_Qu_init_37 : decode prog_6_method_1_code 37 = .ok (.putfield 31, 3) := by decide +kernel
theorem d_Qu_init_40 : decode prog_6_method_1_code 40 = .ok (.aload_n 0, 1) := by decide +kernel
theorem d_Qu_init_41 : decode prog_6_method_1_code 41 = .ok (.aload_n 3, 1) := by decide +kernel
theorem d_Qu_init_42 : decode prog_6_method_1_code 42 = .ok (.putfield 35, 3) := by decide +kernel
theorem d_Qu_init_45 : decode prog_6_method_1_code 45 = .ok (.return_, 1) := by decide +kernel
theorem d_NU_init_0 : decode prog_1_method_1_code 0 = .ok (.aload_n 0, 1) := by decide +kernel
theorem d_NU_init_1 : decode prog_1_method_1_code 1 = .ok (.invokespecial 1, 3) := by decide +kernel
theorem d_NU_init_4 : decode prog_1_method_1_code 4 = .ok (.aload_n 0, 1) := by decide +kernel
theorem d_NU_init_5 : decode prog_1_method_1_code 5 = .ok (.new 7, 3) := by decide +kernel
theorem d_NU_init_8 : decode prog_1_method_1_code 8 = .ok (.dup, 1) := by decide +kernel
theorem d_NU_init_9 : decode prog_1_method_1_code 9 = .ok (.invokespecial 9, 3) := by decide +kernel
theorem d_NU_init_12 : decode prog_1_method_1_code 12 = .ok (.putfield 10, 3) := by decide +kernel
theorem d_NU_init_15 : decode prog_1_method_1_code 15 = .ok (.aload_n 0, 1) := by decide +kernel
theorem d_NU_init_16 : decode prog_1_method_1_code 16 = .ok (.new 16, 3) := by decide +kernel
theorem d_NU_init_19 : decode prog_1_method_1_code 19 = .ok (.dup, 1) := by decide +kernel
theorem d_NU_init_20 : decode prog_1_method_1_code 20 = .ok (.invokespecial 18, 3) := by decide +kernel
theorem d_NU_init_23 : decode prog_1_method_1_code 23 = .ok (.putfield 19, 3) := by decide +kernel
theorem d_NU_init_26 : decode prog_1_method_1_code 26 = .ok (.aload_n 0, 1) := by decide +kernel
theorem d_NU_init_27 : decode prog_1_method_1_code 27 = .ok (.new 23, 3) := by decide +kernel
theorem d_NU_init_30 : decode prog_1_method_1_code 30 = .ok (.dup, 1) := by decide +kernel
theorem d_NU_init_31 : decode prog_1_method_1_code 31 = .ok (.invokespecial 25, 3) := by decide +kernel
theorem d_NU_init_34 : decode prog_1_method_1_code 34 = .ok (.putfield 26, 3) := by decide +kernel
theorem d_NU_init_37 : decode prog_1_method_1_code 37 = .ok (.aload_n 0, 1) := by decide +kernel
theorem d_NU_init_38 : decode prog_1_method_1_code 38 = .ok (.new 30, 3) := by decide +kernel
theorem d_NU_init_41 : decode prog_1_method_1_code 41 = .ok (.dup, 1) := by decide +kernel
theorem d_NU_init_42 : decode prog_1_method_1_code 42 = .ok (.aload_n 0, 1) := by decide +kernel
theorem d_NU_init_43 : decode prog_1_method_1_code 43 = .ok (.getfield 10, 3) := by decide +kernel
theorem d_NU_init_46 : decode prog_1_method_1_code 46 = .ok (.aload_n 0, 1) := by decide +kernel
theorem d_NU_init_47 : decode prog_1_method_1_code 47 = .ok (.getfield 19, 3) := by decide +kernel
theorem d_NU_init_50 : decode prog_1_method_1_code 50 = .ok (.aload_n 0, 1) := by decide +kernel
theorem d_NU_init_51 : decode prog_1_method_1_code 51 = .ok (.getfield 26, 3) := by decide +kernel
theorem d_NU_init_54 : decode prog_1_method_1_code 54 = .ok (.invokespecial 32, 3) := by decide +kernel
theorem d_NU_init_57 : decode prog_1_method_1_code 57 = .ok (.putfield 35, 3) := by decide +kernel
theorem d_NU_init_60 : decode prog_1_method_1_code 60 = .ok (.aload_n 0, 1) := by decide +kernel
theorem d_NU_init_61 : decode prog_1_method_1_code 61 = .ok (.new 39, 3) := by decide +kernel
theorem d_NU_init_64 : decode prog_1_method_1_code 64 = .ok (.dup, 1) := by decide +kernel
theorem d_NU_init_65 : decode prog_1_method_1_code 65 = .ok (.aload_n 0, 1) := by decide +kernel
theorem d_NU_init_66 : decode prog_1_method_1_code 66 = .ok (.getfield 10, 3) := by decide +kernel
theorem d_NU_init_69 : decode prog_1_method_1_code 69 = .ok (.aload_n 0, 1) := by decide +kernel
theorem d_NU_init_70 : decode prog_1_method_1_code 70 = .ok (.getfield 19, 3) := by decide +kernel
theorem d_NU_init_73 : decode prog_1_method_1_code 73 = .ok (.aload_n 0, 1) := by decide +kernel
theorem d_NU_init_74 : decode prog_1_method_1_code 74 = .ok (.getfield 26, 3) := by decide +kernel
theorem d_NU_init_77 : decode prog_1_method_1_code 77 = .ok (.invokespecial 41, 3) := by decide +kernel
theorem d_NU_init_80 : decode prog_1_method_1_code 80 = .ok (.putfield 42, 3) := by decide +kernel
theorem d_NU_init_83 : decode prog_1_method_1_code 83 = .ok (.return_, 1) := by decide +kernel
theorem d_Mo_init_0 : decode prog_11_method_1_code 0 = .ok (.aload_n 0, 1) := by decide +kernel
theorem d_Mo_init_1 : decode prog_11_method_1_code 1 = .ok (.invokespecial 1, 3) := by decide +kernel
theorem d_Mo_init_4 : decode prog_11_method_1_code 4 = .ok (.aload_n 0, 1) := by decide +kernel
theorem d_Mo_init_5 : decode prog_11_method_1_code 5 = .ok (.bipush 8, 2) := by decide +kernel
theorem d_Mo_init_7 : decode prog_11_method_1_code 7 = .ok (.newarray .int, 2) := by decide +kernel
theorem d_Mo_init_9 : decode prog_11_method_1_code 9 = .ok (.putfield 7, 3) := by decide +kernel
theorem d_Mo_init_12 : decode prog_11_method_1_code 12 = .ok (.aload_n 0, 1) := by decide +kernel
theorem d_Mo_init_13 : decode prog_11_method_1_code 13 = .ok (.bipush 8, 2) := by decide +kernel
theorem d_Mo_init_15 : decode prog_11_method_1_code 15 = .ok (.newarray .int, 2) := by decide +kernel
theorem d_Mo_init_17 : decode prog_11_method_1_code 17 = .ok (.putfield 13, 3) := by decide +kernel
theorem d_Mo_init_20 : decode prog_11_method_1_code 20 = .ok (.aload_n 0, 1) := by decide +kernel
theorem d_Mo_init_21 : decode prog_11_method_1_code 21 = .ok (.bipush 60, 2) := by decide +kernel
theorem d_Mo_init_23 : decode prog_11_method_1_code 23 = .ok (.newarray .int, 2) := by decide +kernel
theorem d_Mo_init_25 : decode prog_11_method_1_code 25 = .ok (.putfield 16, 3) := by decide +kernel
theorem d_Mo_init_28 : decode prog_11_method_1_code 28 = .ok (.aload_n 0, 1) := by decide +kernel
theorem d_Mo_init_29 : decode prog_11_method_1_code 29 = .ok (.bipush 60, 2) := by decide +kernel
theorem d_Mo_init_31 : decode prog_11_method_1_code 31 = .ok (.newarray .int, 2) := by decide +kernel
theorem d_Mo_init_33 : decode prog_11_method_1_code 33 = .ok (.putfield 19, 3) := by decide +kernel
theorem d_Mo_init_36 : decode prog_11_method_1_code 36 = .ok (.aload_n 0, 1) := by decide +kernel
theorem d_Mo_init_37 : decode prog_11_method_1_code 37 = .ok (.bipush 60, 2) := by decide +kernel
theorem d_Mo_init_39 : decode prog_11_method_1_code 39 = .ok (.newarray .int, 2) := by decide +kernel
theorem d_Mo_init_41 : decode prog_11_method_1_code 41 = .ok (.putfield 22, 3) := by decide +kernel
theorem d_Mo_init_44 : decode prog_11_method_1_code 44 = .ok (.aload_n 0, 1) := by decide +kernel
theorem d_Mo_init_45 : decode prog_11_method_1_code 45 = .ok (.bipush 60, 2) := by decide +kernel
theorem d_Mo_init_47 : decode prog_11_method_1_code 47 = .ok (.newarray .long, 2) := by decide +kernel
theorem d_Mo_init_49 : decode prog_11_method_1_code 49 = .ok (.putfield 25, 3) := by decide +kernel
theorem d_Mo_init_52 : decode prog_11_method_1_code 52 = .ok (.aload_n 0, 1) := by decide +kernel
theorem d_Mo_init_53 : decode prog_11_method_1_code 53 = .ok (.bipush 30, 2) := by decide +kernel
theorem d_Mo_init_55 : decode prog_11_method_1_code 55 = .ok (.newarray .int, 2) := by decide +kernel
theorem d_Mo_init_57 : decode prog_11_method_1_code 57 = .ok (.putfield 29, 3) := by decide +kernel
theorem d_Mo_init_60 : decode prog_11_method_1_code 60 = .ok (.aload_n 0, 1) := by decide +kernel
theorem d_Mo_init_61 : decode prog_11_method_1_code 61 = .ok (.bipush 30, 2) := by decide +kernel
theorem d_Mo_init_63 : decode prog_11_method_1_code 63 = .ok (.newarray .int, 2) := by decide +kernel
theorem d_Mo_init_65 : decode prog_11_method_1_code 65 = .ok (.putfield 32, 3) := by decide +kernel
theorem d_Mo_init_68 : decode prog_11_method_1_code 68 = .ok (.aload_n 0, 1) := by decide +kernel
theorem d_Mo_init_69 : decode prog_11_method_1_code 69 = .ok (.bipush 30, 2) := by decide +kernel
theorem d_Mo_init_71 : decode prog_11_method_1_code 71 = .ok (.newarray .long, 2) := by decide +kernel
theorem d_Mo_init_73 : decode prog_11_method_1_code 73 = .ok (.putfield 35, 3) := by decide +kernel
theorem d_Mo_init_76 : decode prog_11_method_1_code 76 = .ok (.aload_n 0, 1) := by decide +kernel
theorem d_Mo_init_77 : decode prog_11_method_1_code 77 = .ok (.sipush 240, 3) := by decide +kernel
theorem d_Mo_init_80 : decode prog_11_method_1_code 80 = .ok (.newarray .int, 2) := by decide +kernel
theorem d_Mo_init_82 : decode prog_11_method_1_code 82 = .ok (.putfield 38, 3) := by decide +kernel
theorem d_Mo_init_85 : decode prog_11_method_1_code 85 = .ok (.aload_n 0, 1) := by decide +kernel
theorem d_Mo_init_86 : decode prog_11_method_1_code 86 = .ok (.bipush 30, 2) := by decide +kernel
theorem d_Mo_init_88 : decode prog_11_method_1_code 88 = .ok (.newarray .long, 2) := by decide +kernel
theorem d_Mo_init_90 : decode prog_11_method_1_code 90 = .ok (.putfield 41, 3) := by decide +kernel
theorem d_Mo_init_93 : decode prog_11_method_1_code 93 = .ok (.aload_n 0, 1) := by decide +kernel
theorem d_Mo_init_94 : decode prog_11_method_1_code 94 = .ok (.bipush 30, 2) := by decide +kernel
theorem d_Mo_init_96 : decode prog_11_method_1_code 96 = .ok (.newarray .int, 2) := by decide +kernel
theorem d_Mo_init_98 : decode prog_11_method_1_code 98 = .ok (.putfield 44, 3) := by decide +kernel
theorem d_Mo_init_101 : decode prog_11_method_1_code 101 = .ok (.aload_n 0, 1) := by decide +kernel
theorem d_Mo_init_102 : decode prog_11_method_1_code 102 = .ok (.bipush 30, 2) := by decide +kernel
theorem d_Mo_init_104 : decode prog_11_method_1_code 104 = .ok (.newarray .boolean, 2) := by decide +kernel
theorem d_Mo_init_106 : decode prog_11_method_1_code 106 = .ok (.putfield 47, 3) := by decide +kernel
theorem d_Mo_init_109 : decode prog_11_method_1_code 109 = .ok (.aload_n 0, 1) := by decide +kernel
theorem d_Mo_init_110 : decode prog_11_method_1_code 110 = .ok (.bipush 8, 2) := by decide +kernel
theorem d_Mo_init_112 : decode prog_11_method_1_code 112 = .ok (.newarray .int, 2) := by decide +kernel
theorem d_Mo_init_114 : decode prog_11_method_1_code 114 = .ok (.putfield 51, 3) := by decide +kernel
theorem d_Mo_init_117 : decode prog_11_method_1_code 117 = .ok (.aload_n 0, 1) := by decide +kernel
theorem d_Mo_init_118 : decode prog_11_method_1_code 118 = .ok (.bipush 9, 2) := by decide +kernel
theorem d_Mo_init_120 : decode prog_11_method_1_code 120 = .ok (.newarray .long, 2) := by decide +kernel
theorem d_Mo_init_122 : decode prog_11_method_1_code 122 = .ok (.putfield 54, 3) := by decide +kernel
theorem d_Mo_init_125 : decode prog_11_method_1_code 125 = .ok (.aload_n 0, 1) := by decide +kernel
theorem d_Mo_init_126 : decode prog_11_method_1_code 126 = .ok (.bipush 8, 2) := by decide +kernel
theorem d_Mo_init_128 : decode prog_11_method_1_code 128 = .ok (.newarray .int, 2) := by decide +kernel
theorem d_Mo_init_130 : decode prog_11_method_1_code 130 = .ok (.putfield 57, 3) := by decide +kernel
theorem d_Mo_init_133 : decode prog_11_method_1_code 133 = .ok (.aload_n 0, 1) := by decide +kernel
theorem d_Mo_init_134 : decode prog_11_method_1_code 134 = .ok (.bipush 62, 2) := by decide +kernel
theorem d_Mo_init_136 : decode prog_11_method_1_code 136 = .ok (.newarray .int, 2) := by decide +kernel
theorem d_Mo_init_138 : decode prog_11_method_1_code 138 = .ok (.putfield 60, 3) := by decide +kernel
theorem d_Mo_init_141 : decode prog_11_method_1_code 141 = .ok (.aload_n 0, 1) := by decide +kernel
theorem d_Mo_init_142 : decode prog_11_method_1_code 142 = .ok (.iconst (-1), 1) := by decide +kernel
theorem d_Mo_init_143 : decode prog_11_method_1_code 143 = .ok (.putfield 63, 3) := by decide +kernel
theorem d_Mo_init_146 : decode prog_11_method_1_code 146 = .ok (.return_, 1) := by decide +kernel
theorem d_NU_isMarking_0 : decode prog_1_method_16_code 0 = .ok (.iload_n 0, 1) := by decide +kernel
theorem d_NU_isMarking_1 : decode prog_1_method_16_code 1 = .ok (.ifCond .lt 14, 3) := by decide +kernel
theorem d_NU_isMarking_4 : decode prog_1_method_16_code 4 = .ok (.iload_n 0, 1) := by decide +kernel
theorem d_NU_isMarking_5 : decode prog_1_method_16_code 5 = .ok (.sipush 255, 3) := by decide +kernel
theorem d_NU_isMarking_8 : decode prog_1_method_16_code 8 = .ok (.if_icmp .gt 7, 3) := by decide +kernel
theorem d_NU_isMarking_11 : decode prog_1_method_16_code 11 = .ok (.iconst 1, 1) := by decide +kernel
theorem d_NU_isMarking_12 : decode prog_1_method_16_code 12 = .ok (.goto 4, 3) := by decide +kernel
theorem d_NU_isMarking_15 : decode prog_1_method_16_code 15 = .ok (.iconst 0, 1) := by decide +kernel
theorem d_NU_isMarking_16 : decode prog_1_method_16_code 16 = .ok (.ireturn, 1) := by decide +kernel
theorem d_NU_has_0 : decode prog_1_method_17_code 0 = .ok (.lload_n 0, 1) := by decide +kernel
theorem d_NU_has_1 : decode prog_1_method_17_code 1 = .ok (.iload_n 2, 1) := by decide +kernel
theorem d_NU_has_2 : decode prog_1_method_17_code 2 = .ok (.lushr, 1) := by decide +kernel
theorem d_NU_has_3 : decode prog_1_method_17_code 3 = .ok (.lconst 1, 1) := by decide +kernel
theorem d_NU_has_4 : decode prog_1_method_17_code 4 = .ok (.land, 1) := by decide +kernel
theorem d_NU_has_5 : decode prog_1_method_17_code 5 = .ok (.lconst 0, 1) := by decide +kernel
theorem d_NU_has_6 : decode prog_1_method_17_code 6 = .ok (.lcmp, 1) := by decide +kernel
theorem d_NU_has_7 : decode prog_1_method_17_code 7 = .ok (.ifCond .eq 7, 3) := by decide +kernel
theorem d_NU_has_10 : decode prog_1_method_17_code 10 = .ok (.iconst 1, 1) := by decide +kernel
theorem d_NU_has_11 : decode prog_1_method_17_code 11 = .ok (.goto 4, 3) := by decide +kernel
theorem d_NU_has_14 : decode prog_1_method_17_code 14 = .ok (.iconst 0, 1) := by decide +kernel
theorem d_NU_has_15 : decode prog_1_method_17_code 15 = .ok (.ireturn, 1) := by decide +kernel
theorem d_Ig_bitCount_0 : decode prog_15_method_49_code 0 = .ok (.iload_n 0, 1) := by decide +kernel
theorem d_Ig_bitCount_1 : decode prog_15_method_49_code 1 = .ok (.iload_n 0, 1) := by decide +kernel
theorem d_Ig_bitCount_2 : decode prog_15_method_49_code 2 = .ok (.iconst 1, 1) := by decide +kernel
theorem d_Ig_bitCount_3 : decode prog_15_method_49_code 3 = .ok (.iushr, 1) := by decide +kernel
theorem d_Ig_bitCount_4 : decode prog_15_method_49_code 4 = .ok (.ldc_w 265, 3) := by decide +kernel
theorem d_Ig_bitCount_7 : decode prog_15_method_49_code 7 = .ok (.iand, 1) := by decide +kernel
theorem d_Ig_bitCount_8 : decode prog_15_method_49_code 8 = .ok (.isub, 1) := by decide +kernel
theorem d_Ig_bitCount_9 : decode prog_15_method_49_code 9 = .ok (.istore_n 0, 1) := by decide +kernel
theorem d_Ig_bitCount_10 : decode prog_15_method_49_code 10 = .ok (.iload_n 0, 1) := by decide +kernel
theorem d_Ig_bitCount_11 : decode prog_15_method_49_code 11 = .ok (.ldc_w 266, 3) := by decide +kernel
theorem d_Ig_bitCount_14 : decode prog_15_method_49_code 14 = .ok (.iand, 1) := by decide +kernel
theorem d_Ig_bitCount_15 : decode prog_15_method_49_code 15 = .ok (.iload_n 0, 1) := by decide +kernel
theorem d_Ig_bitCount_16 : decode prog_15_method_49_code 16 = .ok (.iconst 2, 1) := by decide +kernel
theorem d_Ig_bitCount_17 : decode prog_15_method_49_code 17 = .ok (.iushr, 1) := by decide +kernel
theorem d_Ig_bitCount_18 : decode prog_15_method_49_code 18 = .ok (.ldc_w 266, 3) := by decide +kernel
theorem d_Ig_bitCount_21 : decode prog_15_method_49_code 21 = .ok (.iand, 1) := by decide +kernel
theorem d_Ig_bitCount_22 : decode prog_15_method_49_code 22 = .ok (.iadd, 1) := by decide +kernel
theorem d_Ig_bitCount_23 : decode prog_15_method_49_code 23 = .ok (.istore_n 0, 1) := by decide +kernel
theorem d_Ig_bitCount_24 : decode prog_15_method_49_code 24 = .ok (.iload_n 0, 1) := by decide +kernel
theorem d_Ig_bitCount_25 : decode prog_15_method_49_code 25 = .ok (.iload_n 0, 1) := by decide +kernel
theorem d_Ig_bitCount_26 : decode prog_15_method_49_code 26 = .ok (.iconst 4, 1) := by decide +kernel
theorem d_Ig_bitCount_27 : decode prog_15_method_49_code 27 = .ok (.iushr, 1) := by decide +kernel
theorem d_Ig_bitCount_28 : decode prog_15_method_49_code 28 = .ok (.iadd, 1) := by decide +kernel
theorem d_Ig_bitCount_29 : decode prog_15_method_49_code 29 = .ok (.ldc_w 267, 3) := by decide +kernel
theorem d_Ig_bitCount_32 : decode prog_15_method_49_code 32 = .ok (.iand, 1) := by decide +kernel
theorem d_Ig_bitCount_33 : decode prog_15_method_49_code 33 = .ok (.istore_n 0, 1) := by decide +kernel
theorem d_Ig_bitCount_34 : decode prog_15_method_49_code 34 = .ok (.iload_n 0, 1) := by decide +kernel
theorem d_Ig_bitCount_35 : decode prog_15_method_49_code 35 = .ok (.iload_n 0, 1) := by decide +kernel
theorem d_Ig_bitCount_36 : decode prog_15_method_49_code 36 = .ok (.bipush 8, 2) := by decide +kernel
theorem d_Ig_bitCount_38 : decode prog_15_method_49_code 38 = .ok (.iushr, 1) := by decide +kernel
theorem d_Ig_bitCount_39 : decode prog_15_method_49_code 39 = .ok (.iadd, 1) := by decide +kernel
theorem d_Ig_bitCount_40 : decode prog_15_method_49_code 40 = .ok (.istore_n 0, 1) := by decide +kernel
theorem d_Ig_bitCount_41 : decode prog_15_method_49_code 41 = .ok (.iload_n 0, 1) := by decide +kernel
theorem d_Ig_bitCount_42 : decode prog_15_method_49_code 42 = .ok (.iload_n 0, 1) := by decide +kernel
theorem d_Ig_bitCount_43 : decode prog_15_method_49_code 43 = .ok (.bipush 16, 2) := by decide +kernel
theorem d_Ig_bitCount_45 : decode prog_15_method_49_code 45 = .ok (.iushr, 1) := by decide +kernel
theorem d_Ig_bitCount_46 : decode prog_15_method_49_code 46 = .ok (.iadd, 1) := by decide +kernel
theorem d_Ig_bitCount_47 : decode prog_15_method_49_code 47 = .ok (.istore_n 0, 1) := by decide +kernel
theorem d_Ig_bitCount_48 : decode prog_15_method_49_code 48 = .ok (.iload_n 0, 1) := by decide +kernel
theorem d_Ig_bitCount_49 : decode prog_15_method_49_code 49 = .ok (.bipush 63, 2) := by decide +kernel
theorem d_Ig_bitCount_51 : decode prog_15_method_49_code 51 = .ok (.iand, 1) := by decide +kernel
theorem d_Ig_bitCount_52 : decode prog_15_method_49_code 52 = .ok (.ireturn, 1) := by decide +kernel
theorem d_Mo_outside_0 : decode prog_11_method_4_code 0 = .ok (.iload_n 0, 1) := by decide +kernel
theorem d_Mo_outside_1 : decode prog_11_method_4_code 1 = .ok (.iload_n 1, 1) := by decide +kernel
theorem d_Mo_outside_2 : decode prog_11_method_4_code 2 = .ok (.if_icmp .lt 8, 3) := by decide +kernel
theorem d_Mo_outside_5 : decode prog_11_method_4_code 5 = .ok (.iload_n 0, 1) := by decide +kernel
theorem d_Mo_outside_6 : decode prog_11_method_4_code 6 = .ok (.iload_n 2, 1) := by decide +kernel
theorem d_Mo_outside_7 : decode prog_11_method_4_code 7 = .ok (.if_icmp .le 7, 3) := by decide +kernel
theorem d_Mo_outside_10 : decode prog_11_method_4_code 10 = .ok (.iconst 1, 1) := by decide +kernel
theorem d_Mo_outside_11 : decode prog_11_method_4_code 11 = .ok (.goto 4, 3) := by decide +kernel
theorem d_Mo_outside_14 : decode prog_11_method_4_code 14 = .ok (.iconst 0, 1) := by decide +kernel
theorem d_Mo_outside_15 : decode prog_11_method_4_code 15 = .ok (.ireturn, 1) := by decide +kernel
theorem d_Ar_fill_0 : decode prog_19_method_101_code 0 = .ok (.iconst 0, 1) := by decide +kernel
theorem d_Ar_fill_1 : decode prog_19_method_101_code 1 = .ok (.istore_n 3, 1) := by decide +kernel
theorem d_Ar_fill_2 : decode prog_19_method_101_code 2 = .ok (.aload_n 0, 1) := by decide +kernel
theorem d_Ar_fill_3 : decode prog_19_method_101_code 3 = .ok (.arraylength, 1) := by decide +kernel
theorem d_Ar_fill_4 : decode prog_19_method_101_code 4 = .ok (.istore 4, 2) := by decide +kernel
theorem d_Ar_fill_6 : decode prog_19_method_101_code 6 = .ok (.iload_n 3, 1) := by decide +kernel
theorem d_Ar_fill_7 : decode prog_19_method_101_code 7 = .ok (.iload 4, 2) := by decide +kernel
theorem d_Ar_fill_9 : decode prog_19_method_101_code 9 = .ok (.if_icmp .ge 13, 3) := by decide +kernel
theorem d_Ar_fill_12 : decode prog_19_method_101_code 12 = .ok (.aload_n 0, 1) := by decide +kernel
theorem d_Ar_fill_13 : decode prog_19_method_101_code 13 = .ok (.iload_n 3, 1) := by decide +kernel
theorem d_Ar_fill_14 : decode prog_19_method_101_code 14 = .ok (.lload_n 1, 1) := by decide +kernel
theorem d_Ar_fill_15 : decode prog_19_method_101_code 15 = .ok (.lastore, 1) := by decide +kernel
theorem d_Ar_fill_16 : decode prog_19_method_101_code 16 = .ok (.iinc 3 1, 3) := by decide +kernel
theorem d_Ar_fill_19 : decode prog_19_method_101_code 19 = .ok (.goto (-13), 3) := by decide +kernel
theorem d_Ar_fill_22 : decode prog_19_method_101_code 22 = .ok (.return_, 1) := by decide +kernel
theorem d_Pf_wipe_0 : decode prog_5_method_2_code 0 = .ok (.aload_n 0, 1) := by decide +kernel
theorem d_Pf_wipe_1 : decode prog_5_method_2_code 1 = .ok (.iconst 0, 1) := by decide +kernel
theorem d_Pf_wipe_2 : decode prog_5_method_2_code 2 = .ok (.putfield 43, 3) := by decide +kernel
theorem d_Pf_wipe_5 : decode prog_5_method_2_code 5 = .ok (.aload_n 0, 1) := by decide +kernel
theorem d_Pf_wipe_6 : decode prog_5_method_2_code 6 = .ok (.getfield 25, 3) := by decide +kernel
theorem d_Pf_wipe_9 : decode prog_5_method_2_code 9 = .ok (.lconst 0, 1) := by decide +kernel
theorem d_Pf_wipe_10 : decode prog_5_method_2_code 10 = .ok (.invokestatic 47, 3) := by decide +kernel
theorem d_Pf_wipe_13 : decode prog_5_method_2_code 13 = .ok (.aload_n 0, 1) := by decide +kernel
theorem d_Pf_wipe_14 : decode prog_5_method_2_code 14 = .ok (.iconst 0, 1) := by decide +kernel
theorem d_Pf_wipe_15 : decode prog_5_method_2_code 15 = .ok (.putfield 53, 3) := by decide +kernel
theorem d_Pf_wipe_18 : decode prog_5_method_2_code 18 = .ok (.aload_n 0, 1) := by decide +kernel
theorem d_Pf_wipe_19 : decode prog_5_method_2_code 19 = .ok (.iconst 0, 1) := by decide +kernel
theorem d_Pf_wipe_20 : decode prog_5_method_2_code 20 = .ok (.putfield 56, 3) := by decide +kernel
theorem d_Pf_wipe_23 : decode prog_5_method_2_code 23 = .ok (.aload_n 0, 1) := by decide +kernel
theorem d_Pf_wipe_24 : decode prog_5_method_2_code 24 = .ok (.iconst 0, 1) := by decide +kernel
theorem d_Pf_wipe_25 : decode prog_5_method_2_code 25 = .ok (.putfield 59, 3) := by decide +kernel
theorem d_Pf_wipe_28 : decode prog_5_method_2_code 28 = .ok (.return_, 1) := by decide +kernel
theorem d_Wa_drop_0 : decode prog_9_method_2_code 0 = .ok (.aload_n 0, 1) := by decide +kernel
theorem d_Wa_drop_1 : decode prog_9_method_2_code 1 = .ok (.iconst (-1), 1) := by decide +kernel
theorem d_Wa_drop_2 : decode prog_9_method_2_code 2 = .ok (.putfield 15, 3) := by decide +kernel
theorem d_Wa_drop_5 : decode prog_9_method_2_code 5 = .ok (.return_, 1) := by decide +kernel
theorem d_Ne_wipe_0 : decode prog_3_method_2_code 0 = .ok (.aload_n 0, 1) := by decide +kernel
theorem d_Ne_wipe_1 : decode prog_3_method_2_code 1 = .ok (.iconst 0, 1) := by decide +kernel
theorem d_Ne_wipe_2 : decode prog_3_method_2_code 2 = .ok (.putfield 18, 3) := by decide +kernel
theorem d_Ne_wipe_5 : decode prog_3_method_2_code 5 = .ok (.aload_n 0, 1) := by decide +kernel
theorem d_Ne_wipe_6 : decode prog_3_method_2_code 6 = .ok (.iconst 0, 1) := by decide +kernel
theorem d_Ne_wipe_7 : decode prog_3_method_2_code 7 = .ok (.putfield 22, 3) := by decide +kernel
theorem d_Ne_wipe_10 : decode prog_3_method_2_code 10 = .ok (.return_, 1) := by decide +kernel
theorem d_Ne_add_0 : decode prog_3_method_3_code 0 = .ok (.aload_n 0, 1) := by decide +kernel
theorem d_Ne_add_1 : decode prog_3_method_3_code 1 = .ok (.getfield 9, 3) := by decide +kernel
theorem d_Ne_add_4 : decode prog_3_method_3_code 4 = .ok (.aload_n 0, 1) := by decide +kernel
theorem d_Ne_add_5 : decode prog_3_method_3_code 5 = .ok (.getfield 18, 3) := by decide +kernel
theorem d_Ne_add_8 : decode prog_3_method_3_code 8 = .ok (.iload_n 1, 1) := by decide +kernel
theorem d_Ne_add_9 : decode prog_3_method_3_code 9 = .ok (.iastore, 1) := by decide +kernel
theorem d_Ne_add_10 : decode prog_3_method_3_code 10 = .ok (.aload_n 0, 1) := by decide +kernel
theorem d_Ne_add_11 : decode prog_3_method_3_code 11 = .ok (.getfield 15, 3) := by decide +kernel
theorem d_Ne_add_14 : decode prog_3_method_3_code 14 = .ok (.aload_n 0, 1) := by decide +kernel
theorem d_Ne_add_15 : decode prog_3_method_3_code 15 = .ok (.getfield 18, 3) := by decide +kernel
theorem d_Ne_add_18 : decode prog_3_method_3_code 18 = .ok (.iload_n 2, 1) := by decide +kernel
theorem d_Ne_add_19 : decode prog_3_method_3_code 19 = .ok (.iastore, 1) := by decide +kernel
theorem d_Ne_add_20 : decode prog_3_method_3_code 20 = .ok (.aload_n 0, 1) := by decide +kernel
theorem d_Ne_add_21 : decode prog_3_method_3_code 21 = .ok (.dup, 1) := by decide +kernel
theorem d_Ne_add_22 : decode prog_3_method_3_code 22 = .ok (.getfield 18, 3) := by decide +kernel
theorem d_Ne_add_25 : decode prog_3_method_3_code 25 = .ok (.iconst 1, 1) := by decide +kernel
theorem d_Ne_add_26 : decode prog_3_method_3_code 26 = .ok (.iadd, 1) := by decide +kernel
end
section
theorem d_Ne_add_27 : decode prog_3_method_3_code 27 = .ok (.putfield 18, 3) := by decide +kernel
theorem d_Ne_add_30 : decode prog_3_method_3_code 30 = .ok (.aload_n 0, 1) := by decide +kernel
theorem d_Ne_add_31 : decode prog_3_method_3_code 31 = .ok (.getfield 18, 3) := by decide +kernel
theorem d_Ne_add_34 : decode prog_3_method_3_code 34 = .ok (.iconst 1, 1) := by decide +kernel
theorem d_Ne_add_35 : decode prog_3_method_3_code 35 = .ok (.isub, 1) := by decide +kernel
theorem d_Ne_add_36 : decode prog_3_method_3_code 36 = .ok (.ireturn, 1) := by decide +kernel
theorem d_NU_dropPrefixAndWay_0 : decode prog_1_method_15_code 0 = .ok (.aload_n 0, 1) := by decide +kernel
theorem d_NU_dropPrefixAndWay_1 : decode prog_1_method_15_code 1 = .ok (.getfield 19, 3) := by decide +kernel
theorem d_NU_dropPrefixAndWay_4 : decode prog_1_method_15_code 4 = .ok (.invokevirtual 148, 3) := by decide +kernel
theorem d_NU_dropPrefixAndWay_7 : decode prog_1_method_15_code 7 = .ok (.aload_n 0, 1) := by decide +kernel
theorem d_NU_dropPrefixAndWay_8 : decode prog_1_method_15_code 8 = .ok (.getfield 26, 3) := by decide +kernel
theorem d_NU_dropPrefixAndWay_11 : decode prog_1_method_15_code 11 = .ok (.invokevirtual 149, 3) := by decide +kernel
theorem d_NU_dropPrefixAndWay_14 : decode prog_1_method_15_code 14 = .ok (.return_, 1) := by decide +kernel
theorem d_Pf_allConditions_0 : decode prog_5_method_4_code 0 = .ok (.lconst 1, 1) := by decide +kernel
theorem d_Pf_allConditions_1 : decode prog_5_method_4_code 1 = .ok (.aload_n 0, 1) := by decide +kernel
theorem d_Pf_allConditions_2 : decode prog_5_method_4_code 2 = .ok (.getfield 43, 3) := by decide +kernel
theorem d_Pf_allConditions_5 : decode prog_5_method_4_code 5 = .ok (.lshl, 1) := by decide +kernel
theorem d_Pf_allConditions_6 : decode prog_5_method_4_code 6 = .ok (.lconst 1, 1) := by decide +kernel
theorem d_Pf_allConditions_7 : decode prog_5_method_4_code 7 = .ok (.lsub, 1) := by decide +kernel
theorem d_Pf_allConditions_8 : decode prog_5_method_4_code 8 = .ok (.lreturn, 1) := by decide +kernel
theorem d_Pf_addConditions_0 : decode prog_5_method_5_code 0 = .ok (.aload_n 0, 1) := by decide +kernel
theorem d_Pf_addConditions_1 : decode prog_5_method_5_code 1 = .ok (.invokevirtual 67, 3) := by decide +kernel
theorem d_Pf_addConditions_4 : decode prog_5_method_5_code 4 = .ok (.lstore 5, 2) := by decide +kernel
theorem d_Pf_addConditions_6 : decode prog_5_method_5_code 6 = .ok (.iconst 0, 1) := by decide +kernel
theorem d_Pf_addConditions_7 : decode prog_5_method_5_code 7 = .ok (.istore 7, 2) := by decide +kernel
theorem d_Pf_addConditions_9 : decode prog_5_method_5_code 9 = .ok (.iload 7, 2) := by decide +kernel
theorem d_Pf_addConditions_11 : decode prog_5_method_5_code 11 = .ok (.bipush 8, 2) := by decide +kernel
theorem d_Pf_addConditions_13 : decode prog_5_method_5_code 13 = .ok (.if_icmp .ge 85, 3) := by decide +kernel
theorem d_Pf_addConditions_16 : decode prog_5_method_5_code 16 = .ok (.iload_n 1, 1) := by decide +kernel
theorem d_Pf_addConditions_17 : decode prog_5_method_5_code 17 = .ok (.i2l, 1) := by decide +kernel
theorem d_Pf_addConditions_18 : decode prog_5_method_5_code 18 = .ok (.iload 7, 2) := by decide +kernel
theorem d_Pf_addConditions_20 : decode prog_5_method_5_code 20 = .ok (.invokestatic 63, 3) := by decide +kernel
theorem d_Pf_addConditions_23 : decode prog_5_method_5_code 23 = .ok (.ifCond .eq 69, 3) := by decide +kernel
theorem d_Pf_addConditions_26 : decode prog_5_method_5_code 26 = .ok (.aload_n 0, 1) := by decide +kernel
theorem d_Pf_addConditions_27 : decode prog_5_method_5_code 27 = .ok (.getfield 43, 3) := by decide +kernel
theorem d_Pf_addConditions_30 : decode prog_5_method_5_code 30 = .ok (.bipush 60, 2) := by decide +kernel
theorem d_Pf_addConditions_32 : decode prog_5_method_5_code 32 = .ok (.if_icmp .ge 60, 3) := by decide +kernel
theorem d_Pf_addConditions_35 : decode prog_5_method_5_code 35 = .ok (.aload_n 0, 1) := by decide +kernel
theorem d_Pf_addConditions_36 : decode prog_5_method_5_code 36 = .ok (.getfield 9, 3) := by decide +kernel
theorem d_Pf_addConditions_39 : decode prog_5_method_5_code 39 = .ok (.aload_n 0, 1) := by decide +kernel
theorem d_Pf_addConditions_40 : decode prog_5_method_5_code 40 = .ok (.getfield 43, 3) := by decide +kernel
theorem d_Pf_addConditions_43 : decode prog_5_method_5_code 43 = .ok (.iload 7, 2) := by decide +kernel
theorem d_Pf_addConditions_45 : decode prog_5_method_5_code 45 = .ok (.iastore, 1) := by decide +kernel
theorem d_Pf_addConditions_46 : decode prog_5_method_5_code 46 = .ok (.aload_n 0, 1) := by decide +kernel
theorem d_Pf_addConditions_47 : decode prog_5_method_5_code 47 = .ok (.getfield 15, 3) := by decide +kernel
theorem d_Pf_addConditions_50 : decode prog_5_method_5_code 50 = .ok (.aload_n 0, 1) := by decide +kernel
theorem d_Pf_addConditions_51 : decode prog_5_method_5_code 51 = .ok (.getfield 43, 3) := by decide +kernel
theorem d_Pf_addConditions_54 : decode prog_5_method_5_code 54 = .ok (.iload_n 2, 1) := by decide +kernel
theorem d_Pf_addConditions_55 : decode prog_5_method_5_code 55 = .ok (.iastore, 1) := by decide +kernel
theorem d_Pf_addConditions_56 : decode prog_5_method_5_code 56 = .ok (.aload_n 0, 1) := by decide +kernel
theorem d_Pf_addConditions_57 : decode prog_5_method_5_code 57 = .ok (.getfield 18, 3) := by decide +kernel
theorem d_Pf_addConditions_60 : decode prog_5_method_5_code 60 = .ok (.aload_n 0, 1) := by decide +kernel
theorem d_Pf_addConditions_61 : decode prog_5_method_5_code 61 = .ok (.getfield 43, 3) := by decide +kernel
theorem d_Pf_addConditions_64 : decode prog_5_method_5_code 64 = .ok (.iconst 0, 1) := by decide +kernel
theorem d_Pf_addConditions_65 : decode prog_5_method_5_code 65 = .ok (.iastore, 1) := by decide +kernel
theorem d_Pf_addConditions_66 : decode prog_5_method_5_code 66 = .ok (.aload_n 0, 1) := by decide +kernel
theorem d_Pf_addConditions_67 : decode prog_5_method_5_code 67 = .ok (.getfield 25, 3) := by decide +kernel
theorem d_Pf_addConditions_70 : decode prog_5_method_5_code 70 = .ok (.iload 7, 2) := by decide +kernel
theorem d_Pf_addConditions_72 : decode prog_5_method_5_code 72 = .ok (.dup2, 1) := by decide +kernel
theorem d_Pf_addConditions_73 : decode prog_5_method_5_code 73 = .ok (.laload, 1) := by decide +kernel
theorem d_Pf_addConditions_74 : decode prog_5_method_5_code 74 = .ok (.lconst 1, 1) := by decide +kernel
theorem d_Pf_addConditions_75 : decode prog_5_method_5_code 75 = .ok (.aload_n 0, 1) := by decide +kernel
theorem d_Pf_addConditions_76 : decode prog_5_method_5_code 76 = .ok (.getfield 43, 3) := by decide +kernel
theorem d_Pf_addConditions_79 : decode prog_5_method_5_code 79 = .ok (.lshl, 1) := by decide +kernel
theorem d_Pf_addConditions_80 : decode prog_5_method_5_code 80 = .ok (.lor, 1) := by decide +kernel
theorem d_Pf_addConditions_81 : decode prog_5_method_5_code 81 = .ok (.lastore, 1) := by decide +kernel
theorem d_Pf_addConditions_82 : decode prog_5_method_5_code 82 = .ok (.aload_n 0, 1) := by decide +kernel
theorem d_Pf_addConditions_83 : decode prog_5_method_5_code 83 = .ok (.dup, 1) := by decide +kernel
theorem d_Pf_addConditions_84 : decode prog_5_method_5_code 84 = .ok (.getfield 43, 3) := by decide +kernel
theorem d_Pf_addConditions_87 : decode prog_5_method_5_code 87 = .ok (.iconst 1, 1) := by decide +kernel
theorem d_Pf_addConditions_88 : decode prog_5_method_5_code 88 = .ok (.iadd, 1) := by decide +kernel
theorem d_Pf_addConditions_89 : decode prog_5_method_5_code 89 = .ok (.putfield 43, 3) := by decide +kernel
theorem d_Pf_addConditions_92 : decode prog_5_method_5_code 92 = .ok (.iinc 7 1, 3) := by decide +kernel
theorem d_Pf_addConditions_95 : decode prog_5_method_5_code 95 = .ok (.goto (-86), 3) := by decide +kernel
theorem d_Pf_addConditions_98 : decode prog_5_method_5_code 98 = .ok (.aload_n 0, 1) := by decide +kernel
theorem d_Pf_addConditions_99 : decode prog_5_method_5_code 99 = .ok (.invokevirtual 67, 3) := by decide +kernel
theorem d_Pf_addConditions_102 : decode prog_5_method_5_code 102 = .ok (.lload 5, 2) := by decide +kernel
theorem d_Pf_addConditions_104 : decode prog_5_method_5_code 104 = .ok (.ldc2_w 71, 3) := by decide +kernel
theorem d_Pf_addConditions_107 : decode prog_5_method_5_code 107 = .ok (.lxor, 1) := by decide +kernel
theorem d_Pf_addConditions_108 : decode prog_5_method_5_code 108 = .ok (.land, 1) := by decide +kernel
theorem d_Pf_addConditions_109 : decode prog_5_method_5_code 109 = .ok (.lstore 7, 2) := by decide +kernel
theorem d_Pf_addConditions_111 : decode prog_5_method_5_code 111 = .ok (.iconst 0, 1) := by decide +kernel
theorem d_Pf_addConditions_112 : decode prog_5_method_5_code 112 = .ok (.istore 9, 2) := by decide +kernel
theorem d_Pf_addConditions_114 : decode prog_5_method_5_code 114 = .ok (.iload 9, 2) := by decide +kernel
theorem d_Pf_addConditions_116 : decode prog_5_method_5_code 116 = .ok (.aload_n 0, 1) := by decide +kernel
theorem d_Pf_addConditions_117 : decode prog_5_method_5_code 117 = .ok (.getfield 43, 3) := by decide +kernel
theorem d_Pf_addConditions_120 : decode prog_5_method_5_code 120 = .ok (.if_icmp .ge 63, 3) := by decide +kernel
theorem d_Pf_addConditions_123 : decode prog_5_method_5_code 123 = .ok (.lload 7, 2) := by decide +kernel
theorem d_Pf_addConditions_125 : decode prog_5_method_5_code 125 = .ok (.iload 9, 2) := by decide +kernel
theorem d_Pf_addConditions_127 : decode prog_5_method_5_code 127 = .ok (.invokestatic 63, 3) := by decide +kernel
theorem d_Pf_addConditions_130 : decode prog_5_method_5_code 130 = .ok (.ifCond .eq 26, 3) := by decide +kernel
theorem d_Pf_addConditions_133 : decode prog_5_method_5_code 133 = .ok (.aload_n 0, 1) := by decide +kernel
theorem d_Pf_addConditions_134 : decode prog_5_method_5_code 134 = .ok (.getfield 21, 3) := by decide +kernel
theorem d_Pf_addConditions_137 : decode prog_5_method_5_code 137 = .ok (.iload 9, 2) := by decide +kernel
theorem d_Pf_addConditions_139 : decode prog_5_method_5_code 139 = .ok (.lload_n 3, 1) := by decide +kernel
theorem d_Pf_addConditions_140 : decode prog_5_method_5_code 140 = .ok (.lload 7, 2) := by decide +kernel
theorem d_Pf_addConditions_142 : decode prog_5_method_5_code 142 = .ok (.lor, 1) := by decide +kernel
theorem d_Pf_addConditions_143 : decode prog_5_method_5_code 143 = .ok (.lconst 1, 1) := by decide +kernel
theorem d_Pf_addConditions_144 : decode prog_5_method_5_code 144 = .ok (.iload 9, 2) := by decide +kernel
theorem d_Pf_addConditions_146 : decode prog_5_method_5_code 146 = .ok (.lshl, 1) := by decide +kernel
theorem d_Pf_addConditions_147 : decode prog_5_method_5_code 147 = .ok (.ldc2_w 71, 3) := by decide +kernel
theorem d_Pf_addConditions_150 : decode prog_5_method_5_code 150 = .ok (.lxor, 1) := by decide +kernel
theorem d_Pf_addConditions_151 : decode prog_5_method_5_code 151 = .ok (.land, 1) := by decide +kernel
theorem d_Pf_addConditions_152 : decode prog_5_method_5_code 152 = .ok (.lastore, 1) := by decide +kernel
theorem d_Pf_addConditions_153 : decode prog_5_method_5_code 153 = .ok (.goto 24, 3) := by decide +kernel
theorem d_Pf_addConditions_156 : decode prog_5_method_5_code 156 = .ok (.lload_n 3, 1) := by decide +kernel
theorem d_Pf_addConditions_157 : decode prog_5_method_5_code 157 = .ok (.iload 9, 2) := by decide +kernel
theorem d_Pf_addConditions_159 : decode prog_5_method_5_code 159 = .ok (.invokestatic 63, 3) := by decide +kernel
theorem d_Pf_addConditions_162 : decode prog_5_method_5_code 162 = .ok (.ifCond .eq 15, 3) := by decide +kernel
theorem d_Pf_addConditions_165 : decode prog_5_method_5_code 165 = .ok (.aload_n 0, 1) := by decide +kernel
theorem d_Pf_addConditions_166 : decode prog_5_method_5_code 166 = .ok (.getfield 21, 3) := by decide +kernel
theorem d_Pf_addConditions_169 : decode prog_5_method_5_code 169 = .ok (.iload 9, 2) := by decide +kernel
theorem d_Pf_addConditions_171 : decode prog_5_method_5_code 171 = .ok (.dup2, 1) := by decide +kernel
theorem d_Pf_addConditions_172 : decode prog_5_method_5_code 172 = .ok (.laload, 1) := by decide +kernel
theorem d_Pf_addConditions_173 : decode prog_5_method_5_code 173 = .ok (.lload 7, 2) := by decide +kernel
theorem d_Pf_addConditions_175 : decode prog_5_method_5_code 175 = .ok (.lor, 1) := by decide +kernel
theorem d_Pf_addConditions_176 : decode prog_5_method_5_code 176 = .ok (.lastore, 1) := by decide +kernel
theorem d_Pf_addConditions_177 : decode prog_5_method_5_code 177 = .ok (.iinc 9 1, 3) := by decide +kernel
theorem d_Pf_addConditions_180 : decode prog_5_method_5_code 180 = .ok (.goto (-66), 3) := by decide +kernel
theorem d_Pf_addConditions_183 : decode prog_5_method_5_code 183 = .ok (.lload 7, 2) := by decide +kernel
theorem d_Pf_addConditions_185 : decode prog_5_method_5_code 185 = .ok (.lreturn, 1) := by decide +kernel
theorem d_Po_wipe_0 : decode prog_4_method_2_code 0 = .ok (.aload_n 0, 1) := by decide +kernel
theorem d_Po_wipe_1 : decode prog_4_method_2_code 1 = .ok (.iconst 0, 1) := by decide +kernel
theorem d_Po_wipe_2 : decode prog_4_method_2_code 2 = .ok (.putfield 26, 3) := by decide +kernel
theorem d_Po_wipe_5 : decode prog_4_method_2_code 5 = .ok (.return_, 1) := by decide +kernel
theorem d_Po_tooMany_0 : decode prog_4_method_3_code 0 = .ok (.aload_n 0, 1) := by decide +kernel
theorem d_Po_tooMany_1 : decode prog_4_method_3_code 1 = .ok (.getfield 26, 3) := by decide +kernel
theorem d_Po_tooMany_4 : decode prog_4_method_3_code 4 = .ok (.sipush 200, 3) := by decide +kernel
theorem d_Po_tooMany_7 : decode prog_4_method_3_code 7 = .ok (.if_icmp .le 7, 3) := by decide +kernel
theorem d_Po_tooMany_10 : decode prog_4_method_3_code 10 = .ok (.iconst 1, 1) := by decide +kernel
theorem d_Po_tooMany_11 : decode prog_4_method_3_code 11 = .ok (.goto 4, 3) := by decide +kernel
theorem d_Po_tooMany_14 : decode prog_4_method_3_code 14 = .ok (.iconst 0, 1) := by decide +kernel
theorem d_Po_tooMany_15 : decode prog_4_method_3_code 15 = .ok (.ireturn, 1) := by decide +kernel
theorem d_Un_findPossible_0 : decode prog_8_method_9_code 0 = .ok (.iconst 0, 1) := by decide +kernel
theorem d_Un_findPossible_1 : decode prog_8_method_9_code 1 = .ok (.istore 5, 2) := by decide +kernel
theorem d_Un_findPossible_3 : decode prog_8_method_9_code 3 = .ok (.iload 5, 2) := by decide +kernel
theorem d_Un_findPossible_5 : decode prog_8_method_9_code 5 = .ok (.aload_n 0, 1) := by decide +kernel
theorem d_Un_findPossible_6 : decode prog_8_method_9_code 6 = .ok (.getfield 9, 3) := by decide +kernel
theorem d_Un_findPossible_9 : decode prog_8_method_9_code 9 = .ok (.getfield 158, 3) := by decide +kernel
theorem d_Un_findPossible_12 : decode prog_8_method_9_code 12 = .ok (.if_icmp .ge 19, 3) := by decide +kernel
theorem d_Un_findPossible_15 : decode prog_8_method_9_code 15 = .ok (.aload_n 0, 1) := by decide +kernel
theorem d_Un_findPossible_16 : decode prog_8_method_9_code 16 = .ok (.iload 5, 2) := by decide +kernel
theorem d_Un_findPossible_18 : decode prog_8_method_9_code 18 = .ok (.iconst 0, 1) := by decide +kernel
theorem d_Un_findPossible_19 : decode prog_8_method_9_code 19 = .ok (.lload_n 1, 1) := by decide +kernel
theorem d_Un_findPossible_20 : decode prog_8_method_9_code 20 = .ok (.lconst 0, 1) := by decide +kernel
theorem d_Un_findPossible_21 : decode prog_8_method_9_code 21 = .ok (.lload_n 3, 1) := by decide +kernel
theorem d_Un_findPossible_22 : decode prog_8_method_9_code 22 = .ok (.invokevirtual 159, 3) := by decide +kernel
theorem d_Un_findPossible_25 : decode prog_8_method_9_code 25 = .ok (.iinc 5 1, 3) := by decide +kernel
theorem d_Un_findPossible_28 : decode prog_8_method_9_code 28 = .ok (.goto (-25), 3) := by decide +kernel
theorem d_Un_findPossible_31 : decode prog_8_method_9_code 31 = .ok (.return_, 1) := by decide +kernel
theorem d_Un_begin_0 : decode prog_8_method_3_code 0 = .ok (.aload_n 0, 1) := by decide +kernel
theorem d_Un_begin_1 : decode prog_8_method_3_code 1 = .ok (.getfield 15, 3) := by decide +kernel
theorem d_Un_begin_4 : decode prog_8_method_3_code 4 = .ok (.invokevirtual 68, 3) := by decide +kernel
theorem d_Un_begin_7 : decode prog_8_method_3_code 7 = .ok (.aload_n 0, 1) := by decide +kernel
theorem d_Un_begin_8 : decode prog_8_method_3_code 8 = .ok (.getfield 28, 3) := by decide +kernel
theorem d_Un_begin_11 : decode prog_8_method_3_code 11 = .ok (.invokevirtual 71, 3) := by decide +kernel
theorem d_Un_begin_14 : decode prog_8_method_3_code 14 = .ok (.aload_n 0, 1) := by decide +kernel
theorem d_Un_begin_15 : decode prog_8_method_3_code 15 = .ok (.getfield 15, 3) := by decide +kernel
theorem d_Un_begin_18 : decode prog_8_method_3_code 18 = .ok (.aload_n 0, 1) := by decide +kernel
theorem d_Un_begin_19 : decode prog_8_method_3_code 19 = .ok (.getfield 9, 3) := by decide +kernel
theorem d_Un_begin_22 : decode prog_8_method_3_code 22 = .ok (.getfield 72, 3) := by decide +kernel
theorem d_Un_begin_25 : decode prog_8_method_3_code 25 = .ok (.iconst (-1), 1) := by decide +kernel
theorem d_Un_begin_26 : decode prog_8_method_3_code 26 = .ok (.lconst 0, 1) := by decide +kernel
theorem d_Un_begin_27 : decode prog_8_method_3_code 27 = .ok (.invokevirtual 77, 3) := by decide +kernel
theorem d_Un_begin_30 : decode prog_8_method_3_code 30 = .ok (.lstore_n 1, 1) := by decide +kernel
theorem d_Un_begin_31 : decode prog_8_method_3_code 31 = .ok (.aload_n 0, 1) := by decide +kernel
theorem d_Un_begin_32 : decode prog_8_method_3_code 32 = .ok (.lload_n 1, 1) := by decide +kernel
theorem d_Un_begin_33 : decode prog_8_method_3_code 33 = .ok (.lload_n 1, 1) := by decide +kernel
theorem d_Un_begin_34 : decode prog_8_method_3_code 34 = .ok (.invokevirtual 81, 3) := by decide +kernel
theorem d_Un_begin_37 : decode prog_8_method_3_code 37 = .ok (.return_, 1) := by decide +kernel
theorem d_Un_run_0 : decode prog_8_method_2_code 0 = .ok (.aload_n 0, 1) := by decide +kernel
theorem d_Un_run_1 : decode prog_8_method_2_code 1 = .ok (.invokevirtual 32, 3) := by decide +kernel
theorem d_Un_run_4 : decode prog_8_method_2_code 4 = .ok (.iconst 0, 1) := by decide +kernel
theorem d_Un_run_5 : decode prog_8_method_2_code 5 = .ok (.istore_n 1, 1) := by decide +kernel
theorem d_Un_run_6 : decode prog_8_method_2_code 6 = .ok (.iload_n 1, 1) := by decide +kernel
theorem d_Un_run_7 : decode prog_8_method_2_code 7 = .ok (.bipush 30, 2) := by decide +kernel
theorem d_Un_run_9 : decode prog_8_method_2_code 9 = .ok (.if_icmp .gt 87, 3) := by decide +kernel
theorem d_Un_run_12 : decode prog_8_method_2_code 12 = .ok (.aload_n 0, 1) := by decide +kernel
theorem d_Un_run_13 : decode prog_8_method_2_code 13 = .ok (.getfield 28, 3) := by decide +kernel
theorem d_Un_run_16 : decode prog_8_method_2_code 16 = .ok (.invokevirtual 35, 3) := by decide +kernel
theorem d_Un_run_19 : decode prog_8_method_2_code 19 = .ok (.ifCond .eq 6, 3) := by decide +kernel
theorem d_Un_run_22 : decode prog_8_method_2_code 22 = .ok (.bipush (-3), 2) := by decide +kernel
theorem d_Un_run_24 : decode prog_8_method_2_code 24 = .ok (.ireturn, 1) := by decide +kernel
theorem d_Un_run_25 : decode prog_8_method_2_code 25 = .ok (.aload_n 0, 1) := by decide +kernel
theorem d_Un_run_26 : decode prog_8_method_2_code 26 = .ok (.getfield 28, 3) := by decide +kernel
theorem d_Un_run_29 : decode prog_8_method_2_code 29 = .ok (.getfield 39, 3) := by decide +kernel
theorem d_Un_run_32 : decode prog_8_method_2_code 32 = .ok (.ifCond .ne 19, 3) := by decide +kernel
theorem d_Un_run_35 : decode prog_8_method_2_code 35 = .ok (.aload_n 0, 1) := by decide +kernel
theorem d_Un_run_36 : decode prog_8_method_2_code 36 = .ok (.getfield 15, 3) := by decide +kernel
theorem d_Un_run_39 : decode prog_8_method_2_code 39 = .ok (.iconst 1, 1) := by decide +kernel
theorem d_Un_run_40 : decode prog_8_method_2_code 40 = .ok (.putfield 43, 3) := by decide +kernel
theorem d_Un_run_43 : decode prog_8_method_2_code 43 = .ok (.aload_n 0, 1) := by decide +kernel
theorem d_Un_run_44 : decode prog_8_method_2_code 44 = .ok (.getfield 15, 3) := by decide +kernel
theorem d_Un_run_47 : decode prog_8_method_2_code 47 = .ok (.getfield 49, 3) := by decide +kernel
theorem d_Un_run_50 : decode prog_8_method_2_code 50 = .ok (.ireturn, 1) := by decide +kernel
theorem d_Un_run_51 : decode prog_8_method_2_code 51 = .ok (.aload_n 0, 1) := by decide +kernel
theorem d_Un_run_52 : decode prog_8_method_2_code 52 = .ok (.getfield 28, 3) := by decide +kernel
theorem d_Un_run_55 : decode prog_8_method_2_code 55 = .ok (.invokevirtual 52, 3) := by decide +kernel
theorem d_Un_run_58 : decode prog_8_method_2_code 58 = .ok (.istore_n 2, 1) := by decide +kernel
theorem d_Un_run_59 : decode prog_8_method_2_code 59 = .ok (.aload_n 0, 1) := by decide +kernel
theorem d_Un_run_60 : decode prog_8_method_2_code 60 = .ok (.iload_n 2, 1) := by decide +kernel
theorem d_Un_run_61 : decode prog_8_method_2_code 61 = .ok (.invokevirtual 56, 3) := by decide +kernel
theorem d_Un_run_64 : decode prog_8_method_2_code 64 = .ok (.istore_n 3, 1) := by decide +kernel
theorem d_Un_run_65 : decode prog_8_method_2_code 65 = .ok (.iload_n 3, 1) := by decide +kernel
theorem d_Un_run_66 : decode prog_8_method_2_code 66 = .ok (.iconst (-1), 1) := by decide +kernel
theorem d_Un_run_67 : decode prog_8_method_2_code 67 = .ok (.if_icmp .eq 12, 3) := by decide +kernel
theorem d_Un_run_70 : decode prog_8_method_2_code 70 = .ok (.aload_n 0, 1) := by decide +kernel
theorem d_Un_run_71 : decode prog_8_method_2_code 71 = .ok (.iload_n 2, 1) := by decide +kernel
theorem d_Un_run_72 : decode prog_8_method_2_code 72 = .ok (.iload_n 3, 1) := by decide +kernel
theorem d_Un_run_73 : decode prog_8_method_2_code 73 = .ok (.invokevirtual 60, 3) := by decide +kernel
theorem d_Un_run_76 : decode prog_8_method_2_code 76 = .ok (.bipush (-2), 2) := by decide +kernel
theorem d_Un_run_78 : decode prog_8_method_2_code 78 = .ok (.ireturn, 1) := by decide +kernel
theorem d_Un_run_79 : decode prog_8_method_2_code 79 = .ok (.aload_n 0, 1) := by decide +kernel
theorem d_Un_run_80 : decode prog_8_method_2_code 80 = .ok (.iload_n 2, 1) := by decide +kernel
theorem d_Un_run_81 : decode prog_8_method_2_code 81 = .ok (.invokevirtual 64, 3) := by decide +kernel
theorem d_Un_run_84 : decode prog_8_method_2_code 84 = .ok (.ifCond .ne 6, 3) := by decide +kernel
theorem d_Un_run_87 : decode prog_8_method_2_code 87 = .ok (.bipush (-3), 2) := by decide +kernel
theorem d_Un_run_89 : decode prog_8_method_2_code 89 = .ok (.ireturn, 1) := by decide +kernel
theorem d_Un_run_90 : decode prog_8_method_2_code 90 = .ok (.iinc 1 1, 3) := by decide +kernel
theorem d_Un_run_93 : decode prog_8_method_2_code 93 = .ok (.goto (-87), 3) := by decide +kernel
theorem d_Un_run_96 : decode prog_8_method_2_code 96 = .ok (.bipush (-3), 2) := by decide +kernel
theorem d_Un_run_98 : decode prog_8_method_2_code 98 = .ok (.ireturn, 1) := by decide +kernel
theorem d_NU_clear_0 : decode prog_1_method_4_code 0 = .ok (.aload_n 0, 1) := by decide +kernel
theorem d_NU_clear_1 : decode prog_1_method_4_code 1 = .ok (.invokevirtual 60, 3) := by decide +kernel
theorem d_NU_clear_4 : decode prog_1_method_4_code 4 = .ok (.aload_n 0, 1) := by decide +kernel
theorem d_NU_clear_5 : decode prog_1_method_4_code 5 = .ok (.getfield 10, 3) := by decide +kernel
theorem d_NU_clear_8 : decode prog_1_method_4_code 8 = .ok (.invokevirtual 70, 3) := by decide +kernel
theorem d_NU_clear_11 : decode prog_1_method_4_code 11 = .ok (.return_, 1) := by decide +kernel
theorem d_NU_unfold_0 : decode prog_1_method_5_code 0 = .ok (.aload_n 0, 1) := by decide +kernel
theorem d_NU_unfold_1 : decode prog_1_method_5_code 1 = .ok (.getfield 35, 3) := by decide +kernel
theorem d_NU_unfold_4 : decode prog_1_method_5_code 4 = .ok (.invokevirtual 73, 3) := by decide +kernel
theorem d_NU_unfold_7 : decode prog_1_method_5_code 7 = .ok (.istore_n 1, 1) := by decide +kernel
theorem d_NU_unfold_8 : decode prog_1_method_5_code 8 = .ok (.iload_n 1, 1) := by decide +kernel
theorem d_NU_unfold_9 : decode prog_1_method_5_code 9 = .ok (.bipush (-3), 2) := by decide +kernel
theorem d_NU_unfold_11 : decode prog_1_method_5_code 11 = .ok (.if_icmp .ne 7, 3) := by decide +kernel
theorem d_NU_unfold_14 : decode prog_1_method_5_code 14 = .ok (.aload_n 0, 1) := by decide +kernel
theorem d_NU_unfold_15 : decode prog_1_method_5_code 15 = .ok (.invokevirtual 60, 3) := by decide +kernel
theorem d_NU_unfold_18 : decode prog_1_method_5_code 18 = .ok (.iload_n 1, 1) := by decide +kernel
theorem d_NU_unfold_19 : decode prog_1_method_5_code 19 = .ok (.ireturn, 1) := by decide +kernel
theorem d_NU_transition_0 : decode prog_1_method_2_code 0 = .ok (.iload_n 1, 1) := by decide +kernel
theorem d_NU_transition_1 : decode prog_1_method_2_code 1 = .ok (.ifCond .eq 17, 3) := by decide +kernel
theorem d_NU_transition_4 : decode prog_1_method_2_code 4 = .ok (.iload_n 1, 1) := by decide +kernel
theorem d_NU_transition_5 : decode prog_1_method_2_code 5 = .ok (.invokestatic 46, 3) := by decide +kernel
theorem d_NU_transition_8 : decode prog_1_method_2_code 8 = .ok (.ifCond .eq 10, 3) := by decide +kernel
theorem d_NU_transition_11 : decode prog_1_method_2_code 11 = .ok (.iload_n 2, 1) := by decide +kernel
theorem d_NU_transition_12 : decode prog_1_method_2_code 12 = .ok (.invokestatic 46, 3) := by decide +kernel
theorem d_NU_transition_15 : decode prog_1_method_2_code 15 = .ok (.ifCond .ne 11, 3) := by decide +kernel
theorem d_NU_transition_18 : decode prog_1_method_2_code 18 = .ok (.new 50, 3) := by decide +kernel
theorem d_NU_transition_21 : decode prog_1_method_2_code 21 = .ok (.dup, 1) := by decide +kernel
theorem d_NU_transition_22 : decode prog_1_method_2_code 22 = .ok (.invokespecial 52, 3) := by decide +kernel
theorem d_NU_transition_25 : decode prog_1_method_2_code 25 = .ok (.athrow, 1) := by decide +kernel
theorem d_NU_transition_26 : decode prog_1_method_2_code 26 = .ok (.aload_n 0, 1) := by decide +kernel
theorem d_NU_transition_27 : decode prog_1_method_2_code 27 = .ok (.getfield 10, 3) := by decide +kernel
theorem d_NU_transition_30 : decode prog_1_method_2_code 30 = .ok (.getfield 53, 3) := by decide +kernel
theorem d_NU_transition_33 : decode prog_1_method_2_code 33 = .ok (.bipush 8, 2) := by decide +kernel
theorem d_NU_transition_35 : decode prog_1_method_2_code 35 = .ok (.if_icmp .lt 11, 3) := by decide +kernel
theorem d_NU_transition_38 : decode prog_1_method_2_code 38 = .ok (.new 57, 3) := by decide +kernel
theorem d_NU_transition_41 : decode prog_1_method_2_code 41 = .ok (.dup, 1) := by decide +kernel
theorem d_NU_transition_42 : decode prog_1_method_2_code 42 = .ok (.invokespecial 59, 3) := by decide +kernel
theorem d_NU_transition_45 : decode prog_1_method_2_code 45 = .ok (.athrow, 1) := by decide +kernel
theorem d_NU_transition_46 : decode prog_1_method_2_code 46 = .ok (.aload_n 0, 1) := by decide +kernel
theorem d_NU_transition_47 : decode prog_1_method_2_code 47 = .ok (.invokevirtual 60, 3) := by decide +kernel
theorem d_NU_transition_50 : decode prog_1_method_2_code 50 = .ok (.aload_n 0, 1) := by decide +kernel
theorem d_NU_transition_51 : decode prog_1_method_2_code 51 = .ok (.getfield 10, 3) := by decide +kernel
theorem d_NU_transition_54 : decode prog_1_method_2_code 54 = .ok (.iload_n 1, 1) := by decide +kernel
theorem d_NU_transition_55 : decode prog_1_method_2_code 55 = .ok (.iload_n 2, 1) := by decide +kernel
theorem d_NU_transition_56 : decode prog_1_method_2_code 56 = .ok (.invokevirtual 63, 3) := by decide +kernel
theorem d_NU_transition_59 : decode prog_1_method_2_code 59 = .ok (.ireturn, 1) := by decide +kernel
theorem d_NU_first_0 : decode prog_1_method_3_code 0 = .ok (.iload_n 1, 1) := by decide +kernel
theorem d_NU_first_1 : decode prog_1_method_3_code 1 = .ok (.invokestatic 46, 3) := by decide +kernel
theorem d_NU_first_4 : decode prog_1_method_3_code 4 = .ok (.ifCond .ne 11, 3) := by decide +kernel
theorem d_NU_first_7 : decode prog_1_method_3_code 7 = .ok (.new 50, 3) := by decide +kernel
theorem d_NU_first_10 : decode prog_1_method_3_code 10 = .ok (.dup, 1) := by decide +kernel
theorem d_NU_first_11 : decode prog_1_method_3_code 11 = .ok (.invokespecial 52, 3) := by decide +kernel
theorem d_NU_first_14 : decode prog_1_method_3_code 14 = .ok (.athrow, 1) := by decide +kernel
theorem d_NU_first_15 : decode prog_1_method_3_code 15 = .ok (.aload_n 0, 1) := by decide +kernel
theorem d_NU_first_16 : decode prog_1_method_3_code 16 = .ok (.invokevirtual 60, 3) := by decide +kernel
theorem d_NU_first_19 : decode prog_1_method_3_code 19 = .ok (.aload_n 0, 1) := by decide +kernel
theorem d_NU_first_20 : decode prog_1_method_3_code 20 = .ok (.getfield 10, 3) := by decide +kernel
theorem d_NU_first_23 : decode prog_1_method_3_code 23 = .ok (.iload_n 1, 1) := by decide +kernel
theorem d_NU_first_24 : decode prog_1_method_3_code 24 = .ok (.putfield 67, 3) := by decide +kernel
theorem d_NU_first_27 : decode prog_1_method_3_code 27 = .ok (.return_, 1) := by decide +kernel
theorem d_Wa_step_0 : decode prog_9_method_5_code 0 = .ok (.iload_n 1, 1) := by decide +kernel
theorem d_Wa_step_1 : decode prog_9_method_5_code 1 = .ok (.ifCond .lt 20, 3) := by decide +kernel
theorem d_Wa_step_4 : decode prog_9_method_5_code 4 = .ok (.iload_n 1, 1) := by decide +kernel
theorem d_Wa_step_5 : decode prog_9_method_5_code 5 = .ok (.aload_n 0, 1) := by decide +kernel
theorem d_Wa_step_6 : decode prog_9_method_5_code 6 = .ok (.getfield 15, 3) := by decide +kernel
theorem d_Wa_step_9 : decode prog_9_method_5_code 9 = .ok (.if_icmp .ge 12, 3) := by decide +kernel
theorem d_Wa_step_12 : decode prog_9_method_5_code 12 = .ok (.aload_n 0, 1) := by decide +kernel
theorem d_Wa_step_13 : decode prog_9_method_5_code 13 = .ok (.getfield 9, 3) := by decide +kernel
theorem d_Wa_step_16 : decode prog_9_method_5_code 16 = .ok (.iload_n 1, 1) := by decide +kernel
theorem d_Wa_step_17 : decode prog_9_method_5_code 17 = .ok (.iaload, 1) := by decide +kernel
theorem d_Wa_step_18 : decode prog_9_method_5_code 18 = .ok (.goto 4, 3) := by decide +kernel
theorem d_Wa_step_21 : decode prog_9_method_5_code 21 = .ok (.iconst (-1), 1) := by decide +kernel
theorem d_Wa_step_22 : decode prog_9_method_5_code 22 = .ok (.ireturn, 1) := by decide +kernel
theorem d_NU_way_0 : decode prog_1_method_8_code 0 = .ok (.aload_n 0, 1) := by decide +kernel
theorem d_NU_way_1 : decode prog_1_method_8_code 1 = .ok (.getfield 26, 3) := by decide +kernel
theorem d_NU_way_4 : decode prog_1_method_8_code 4 = .ok (.iload_n 1, 1) := by decide +kernel
theorem d_NU_way_5 : decode prog_1_method_8_code 5 = .ok (.invokevirtual 88, 3) := by decide +kernel
theorem d_NU_way_8 : decode prog_1_method_8_code 8 = .ok (.ireturn, 1) := by decide +kernel
theorem d_NU_count_0 : decode prog_1_method_10_code 0 = .ok (.iload_n 1, 1) := by decide +kernel
theorem d_NU_count_1 : decode prog_1_method_10_code 1 = .ok (.tableswitch 66 0 3 #[31, 39, 47, 58], 31) := by decide +kernel
theorem d_NU_count_32 : decode prog_1_method_10_code 32 = .ok (.aload_n 0, 1) := by decide +kernel
theorem d_NU_count_33 : decode prog_1_method_10_code 33 = .ok (.getfield 19, 3) := by decide +kernel
theorem d_NU_count_36 : decode prog_1_method_10_code 36 = .ok (.getfield 101, 3) := by decide +kernel
theorem d_NU_count_39 : decode prog_1_method_10_code 39 = .ok (.ireturn, 1) := by decide +kernel
theorem d_NU_count_40 : decode prog_1_method_10_code 40 = .ok (.aload_n 0, 1) := by decide +kernel
theorem d_NU_count_41 : decode prog_1_method_10_code 41 = .ok (.getfield 19, 3) := by decide +kernel
theorem d_NU_count_44 : decode prog_1_method_10_code 44 = .ok (.getfield 104, 3) := by decide +kernel
theorem d_NU_count_47 : decode prog_1_method_10_code 47 = .ok (.ireturn, 1) := by decide +kernel
theorem d_NU_count_48 : decode prog_1_method_10_code 48 = .ok (.aload_n 0, 1) := by decide +kernel
theorem d_NU_count_49 : decode prog_1_method_10_code 49 = .ok (.getfield 19, 3) := by decide +kernel
theorem d_NU_count_52 : decode prog_1_method_10_code 52 = .ok (.getfield 107, 3) := by decide +kernel
theorem d_NU_count_55 : decode prog_1_method_10_code 55 = .ok (.invokestatic 110, 3) := by decide +kernel
theorem d_NU_count_58 : decode prog_1_method_10_code 58 = .ok (.ireturn, 1) := by decide +kernel
theorem d_NU_count_59 : decode prog_1_method_10_code 59 = .ok (.aload_n 0, 1) := by decide +kernel
theorem d_NU_count_60 : decode prog_1_method_10_code 60 = .ok (.getfield 26, 3) := by decide +kernel
theorem d_NU_count_63 : decode prog_1_method_10_code 63 = .ok (.getfield 91, 3) := by decide +kernel
theorem d_NU_count_66 : decode prog_1_method_10_code 66 = .ok (.ireturn, 1) := by decide +kernel
theorem d_NU_count_67 : decode prog_1_method_10_code 67 = .ok (.iconst (-1), 1) := by decide +kernel
theorem d_NU_count_68 : decode prog_1_method_10_code 68 = .ok (.ireturn, 1) := by decide +kernel
theorem d_NU_event_0 : decode prog_1_method_11_code 0 = .ok (.iload_n 1, 1) := by decide +kernel
theorem d_NU_event_1 : decode prog_1_method_11_code 1 = .ok (.ifCond .lt 14, 3) := by decide +kernel
theorem d_NU_event_4 : decode prog_1_method_11_code 4 = .ok (.iload_n 1, 1) := by decide +kernel
theorem d_NU_event_5 : decode prog_1_method_11_code 5 = .ok (.aload_n 0, 1) := by decide +kernel
theorem d_NU_event_6 : decode prog_1_method_11_code 6 = .ok (.getfield 19, 3) := by decide +kernel
theorem d_NU_event_9 : decode prog_1_method_11_code 9 = .ok (.getfield 101, 3) := by decide +kernel
theorem d_NU_event_12 : decode prog_1_method_11_code 12 = .ok (.if_icmp .lt 5, 3) := by decide +kernel
theorem d_NU_event_15 : decode prog_1_method_11_code 15 = .ok (.iconst (-1), 1) := by decide +kernel
theorem d_NU_event_16 : decode prog_1_method_11_code 16 = .ok (.ireturn, 1) := by decide +kernel
theorem d_NU_event_17 : decode prog_1_method_11_code 17 = .ok (.iload_n 2, 1) := by decide +kernel
theorem d_NU_event_18 : decode prog_1_method_11_code 18 = .ok (.tableswitch 80 0 3 #[30, 40, 53, 63], 30) := by decide +kernel
theorem d_NU_event_48 : decode prog_1_method_11_code 48 = .ok (.aload_n 0, 1) := by decide +kernel
theorem d_NU_event_49 : decode prog_1_method_11_code 49 = .ok (.getfield 19, 3) := by decide +kernel
theorem d_NU_event_52 : decode prog_1_method_11_code 52 = .ok (.getfield 115, 3) := by decide +kernel
theorem d_NU_event_55 : decode prog_1_method_11_code 55 = .ok (.iload_n 1, 1) := by decide +kernel
theorem d_NU_event_56 : decode prog_1_method_11_code 56 = .ok (.iaload, 1) := by decide +kernel
theorem d_NU_event_57 : decode prog_1_method_11_code 57 = .ok (.ireturn, 1) := by decide +kernel
theorem d_NU_event_58 : decode prog_1_method_11_code 58 = .ok (.aload_n 0, 1) := by decide +kernel
theorem d_NU_event_59 : decode prog_1_method_11_code 59 = .ok (.getfield 19, 3) := by decide +kernel
theorem d_NU_event_62 : decode prog_1_method_11_code 62 = .ok (.getfield 119, 3) := by decide +kernel
theorem d_NU_event_65 : decode prog_1_method_11_code 65 = .ok (.iload_n 1, 1) := by decide +kernel
theorem d_NU_event_66 : decode prog_1_method_11_code 66 = .ok (.iaload, 1) := by decide +kernel
theorem d_NU_event_67 : decode prog_1_method_11_code 67 = .ok (.invokestatic 110, 3) := by decide +kernel
theorem d_NU_event_70 : decode prog_1_method_11_code 70 = .ok (.ireturn, 1) := by decide +kernel
theorem d_NU_event_71 : decode prog_1_method_11_code 71 = .ok (.aload_n 0, 1) := by decide +kernel
theorem d_NU_event_72 : decode prog_1_method_11_code 72 = .ok (.getfield 19, 3) := by decide +kernel
theorem d_NU_event_75 : decode prog_1_method_11_code 75 = .ok (.getfield 122, 3) := by decide +kernel
theorem d_NU_event_78 : decode prog_1_method_11_code 78 = .ok (.iload_n 1, 1) := by decide +kernel
theorem d_NU_event_79 : decode prog_1_method_11_code 79 = .ok (.iaload, 1) := by decide +kernel
theorem d_NU_event_80 : decode prog_1_method_11_code 80 = .ok (.ireturn, 1) := by decide +kernel
theorem d_NU_event_81 : decode prog_1_method_11_code 81 = .ok (.aload_n 0, 1) := by decide +kernel
theorem d_NU_event_82 : decode prog_1_method_11_code 82 = .ok (.getfield 19, 3) := by decide +kernel
theorem d_NU_event_85 : decode prog_1_method_11_code 85 = .ok (.iload_n 1, 1) := by decide +kernel
theorem d_NU_event_86 : decode prog_1_method_11_code 86 = .ok (.invokevirtual 125, 3) := by decide +kernel
theorem d_NU_event_89 : decode prog_1_method_11_code 89 = .ok (.ifCond .eq 7, 3) := by decide +kernel
theorem d_NU_event_92 : decode prog_1_method_11_code 92 = .ok (.iconst 1, 1) := by decide +kernel
theorem d_NU_event_93 : decode prog_1_method_11_code 93 = .ok (.goto 4, 3) := by decide +kernel
theorem d_NU_event_96 : decode prog_1_method_11_code 96 = .ok (.iconst 0, 1) := by decide +kernel
theorem d_NU_event_97 : decode prog_1_method_11_code 97 = .ok (.ireturn, 1) := by decide +kernel
theorem d_NU_event_98 : decode prog_1_method_11_code 98 = .ok (.iconst (-1), 1) := by decide +kernel
theorem d_NU_event_99 : decode prog_1_method_11_code 99 = .ok (.ireturn, 1) := by decide +kernel
theorem d_NU_takes_0 : decode prog_1_method_12_code 0 = .ok (.iload_n 1, 1) := by decide +kernel
theorem d_NU_takes_1 : decode prog_1_method_12_code 1 = .ok (.ifCond .lt 14, 3) := by decide +kernel
theorem d_NU_takes_4 : decode prog_1_method_12_code 4 = .ok (.iload_n 1, 1) := by decide +kernel
theorem d_NU_takes_5 : decode prog_1_method_12_code 5 = .ok (.aload_n 0, 1) := by decide +kernel
theorem d_NU_takes_6 : decode prog_1_method_12_code 6 = .ok (.getfield 19, 3) := by decide +kernel
theorem d_NU_takes_9 : decode prog_1_method_12_code 9 = .ok (.getfield 101, 3) := by decide +kernel
theorem d_NU_takes_12 : decode prog_1_method_12_code 12 = .ok (.if_icmp .lt 5, 3) := by decide +kernel
theorem d_NU_takes_15 : decode prog_1_method_12_code 15 = .ok (.iconst (-1), 1) := by decide +kernel
theorem d_NU_takes_16 : decode prog_1_method_12_code 16 = .ok (.ireturn, 1) := by decide +kernel
theorem d_NU_takes_17 : decode prog_1_method_12_code 17 = .ok (.aload_n 0, 1) := by decide +kernel
theorem d_NU_takes_18 : decode prog_1_method_12_code 18 = .ok (.getfield 19, 3) := by decide +kernel
theorem d_NU_takes_21 : decode prog_1_method_12_code 21 = .ok (.iload_n 1, 1) := by decide +kernel
theorem d_NU_takes_22 : decode prog_1_method_12_code 22 = .ok (.iload_n 2, 1) := by decide +kernel
theorem d_NU_takes_23 : decode prog_1_method_12_code 23 = .ok (.invokevirtual 128, 3) := by decide +kernel
theorem d_NU_takes_26 : decode prog_1_method_12_code 26 = .ok (.ireturn, 1) := by decide +kernel
theorem d_NU_condition_0 : decode prog_1_method_13_code 0 = .ok (.iload_n 1, 1) := by decide +kernel
theorem d_NU_condition_1 : decode prog_1_method_13_code 1 = .ok (.ifCond .lt 14, 3) := by decide +kernel
theorem d_NU_condition_4 : decode prog_1_method_13_code 4 = .ok (.iload_n 1, 1) := by decide +kernel
theorem d_NU_condition_5 : decode prog_1_method_13_code 5 = .ok (.aload_n 0, 1) := by decide +kernel
theorem d_NU_condition_6 : decode prog_1_method_13_code 6 = .ok (.getfield 19, 3) := by decide +kernel
theorem d_NU_condition_9 : decode prog_1_method_13_code 9 = .ok (.getfield 104, 3) := by decide +kernel
theorem d_NU_condition_12 : decode prog_1_method_13_code 12 = .ok (.if_icmp .lt 5, 3) := by decide +kernel
theorem d_NU_condition_15 : decode prog_1_method_13_code 15 = .ok (.iconst (-1), 1) := by decide +kernel
theorem d_NU_condition_16 : decode prog_1_method_13_code 16 = .ok (.ireturn, 1) := by decide +kernel
theorem d_NU_condition_17 : decode prog_1_method_13_code 17 = .ok (.iload_n 2, 1) := by decide +kernel
theorem d_NU_condition_18 : decode prog_1_method_13_code 18 = .ok (.tableswitch 59 0 2 #[26, 36, 46], 26) := by decide +kernel
theorem d_NU_condition_44 : decode prog_1_method_13_code 44 = .ok (.aload_n 0, 1) := by decide +kernel
theorem d_NU_condition_45 : decode prog_1_method_13_code 45 = .ok (.getfield 19, 3) := by decide +kernel
theorem d_NU_condition_48 : decode prog_1_method_13_code 48 = .ok (.getfield 131, 3) := by decide +kernel
theorem d_NU_condition_51 : decode prog_1_method_13_code 51 = .ok (.iload_n 1, 1) := by decide +kernel
theorem d_NU_condition_52 : decode prog_1_method_13_code 52 = .ok (.iaload, 1) := by decide +kernel
theorem d_NU_condition_53 : decode prog_1_method_13_code 53 = .ok (.ireturn, 1) := by decide +kernel
theorem d_NU_condition_54 : decode prog_1_method_13_code 54 = .ok (.aload_n 0, 1) := by decide +kernel
theorem d_NU_condition_55 : decode prog_1_method_13_code 55 = .ok (.getfield 19, 3) := by decide +kernel
theorem d_NU_condition_58 : decode prog_1_method_13_code 58 = .ok (.getfield 134, 3) := by decide +kernel
theorem d_NU_condition_61 : decode prog_1_method_13_code 61 = .ok (.iload_n 1, 1) := by decide +kernel
theorem d_NU_condition_62 : decode prog_1_method_13_code 62 = .ok (.iaload, 1) := by decide +kernel
theorem d_NU_condition_63 : decode prog_1_method_13_code 63 = .ok (.ireturn, 1) := by decide +kernel
end
section
theorem d_NU_condition_64 : decode prog_1_method_13_code 64 = .ok (.aload_n 0, 1) := by decide +kernel
theorem d_NU_condition_65 : decode prog_1_method_13_code 65 = .ok (.getfield 19, 3) := by decide +kernel
theorem d_NU_condition_68 : decode prog_1_method_13_code 68 = .ok (.getfield 137, 3) := by decide +kernel
theorem d_NU_condition_71 : decode prog_1_method_13_code 71 = .ok (.iload_n 1, 1) := by decide +kernel
theorem d_NU_condition_72 : decode prog_1_method_13_code 72 = .ok (.iaload, 1) := by decide +kernel
theorem d_NU_condition_73 : decode prog_1_method_13_code 73 = .ok (.invokestatic 110, 3) := by decide +kernel
theorem d_NU_condition_76 : decode prog_1_method_13_code 76 = .ok (.ireturn, 1) := by decide +kernel
theorem d_NU_condition_77 : decode prog_1_method_13_code 77 = .ok (.iconst (-1), 1) := by decide +kernel
theorem d_NU_condition_78 : decode prog_1_method_13_code 78 = .ok (.ireturn, 1) := by decide +kernel
theorem d_NU_concurrent_0 : decode prog_1_method_14_code 0 = .ok (.iload_n 1, 1) := by decide +kernel
theorem d_NU_concurrent_1 : decode prog_1_method_14_code 1 = .ok (.ifCond .lt 29, 3) := by decide +kernel
theorem d_NU_concurrent_4 : decode prog_1_method_14_code 4 = .ok (.iload_n 1, 1) := by decide +kernel
theorem d_NU_concurrent_5 : decode prog_1_method_14_code 5 = .ok (.aload_n 0, 1) := by decide +kernel
theorem d_NU_concurrent_6 : decode prog_1_method_14_code 6 = .ok (.getfield 19, 3) := by decide +kernel
theorem d_NU_concurrent_9 : decode prog_1_method_14_code 9 = .ok (.getfield 104, 3) := by decide +kernel
theorem d_NU_concurrent_12 : decode prog_1_method_14_code 12 = .ok (.if_icmp .ge 18, 3) := by decide +kernel
theorem d_NU_concurrent_15 : decode prog_1_method_14_code 15 = .ok (.iload_n 2, 1) := by decide +kernel
theorem d_NU_concurrent_16 : decode prog_1_method_14_code 16 = .ok (.ifCond .lt 14, 3) := by decide +kernel
theorem d_NU_concurrent_19 : decode prog_1_method_14_code 19 = .ok (.iload_n 2, 1) := by decide +kernel
theorem d_NU_concurrent_20 : decode prog_1_method_14_code 20 = .ok (.aload_n 0, 1) := by decide +kernel
theorem d_NU_concurrent_21 : decode prog_1_method_14_code 21 = .ok (.getfield 19, 3) := by decide +kernel
theorem d_NU_concurrent_24 : decode prog_1_method_14_code 24 = .ok (.getfield 104, 3) := by decide +kernel
theorem d_NU_concurrent_27 : decode prog_1_method_14_code 27 = .ok (.if_icmp .lt 5, 3) := by decide +kernel
theorem d_NU_concurrent_30 : decode prog_1_method_14_code 30 = .ok (.iconst 0, 1) := by decide +kernel
theorem d_NU_concurrent_31 : decode prog_1_method_14_code 31 = .ok (.ireturn, 1) := by decide +kernel
theorem d_NU_concurrent_32 : decode prog_1_method_14_code 32 = .ok (.aload_n 0, 1) := by decide +kernel
theorem d_NU_concurrent_33 : decode prog_1_method_14_code 33 = .ok (.getfield 19, 3) := by decide +kernel
theorem d_NU_concurrent_36 : decode prog_1_method_14_code 36 = .ok (.getfield 140, 3) := by decide +kernel
theorem d_NU_concurrent_39 : decode prog_1_method_14_code 39 = .ok (.iload_n 1, 1) := by decide +kernel
theorem d_NU_concurrent_40 : decode prog_1_method_14_code 40 = .ok (.laload, 1) := by decide +kernel
theorem d_NU_concurrent_41 : decode prog_1_method_14_code 41 = .ok (.iload_n 2, 1) := by decide +kernel
theorem d_NU_concurrent_42 : decode prog_1_method_14_code 42 = .ok (.invokestatic 144, 3) := by decide +kernel
theorem d_NU_concurrent_45 : decode prog_1_method_14_code 45 = .ok (.ireturn, 1) := by decide +kernel
theorem d_NU_reach_0 : decode prog_1_method_6_code 0 = .ok (.iload_n 1, 1) := by decide +kernel
theorem d_NU_reach_1 : decode prog_1_method_6_code 1 = .ok (.invokestatic 46, 3) := by decide +kernel
theorem d_NU_reach_4 : decode prog_1_method_6_code 4 = .ok (.ifCond .ne 11, 3) := by decide +kernel
theorem d_NU_reach_7 : decode prog_1_method_6_code 7 = .ok (.new 50, 3) := by decide +kernel
theorem d_NU_reach_10 : decode prog_1_method_6_code 10 = .ok (.dup, 1) := by decide +kernel
theorem d_NU_reach_11 : decode prog_1_method_6_code 11 = .ok (.invokespecial 52, 3) := by decide +kernel
theorem d_NU_reach_14 : decode prog_1_method_6_code 14 = .ok (.athrow, 1) := by decide +kernel
theorem d_NU_reach_15 : decode prog_1_method_6_code 15 = .ok (.aload_n 0, 1) := by decide +kernel
theorem d_NU_reach_16 : decode prog_1_method_6_code 16 = .ok (.getfield 19, 3) := by decide +kernel
theorem d_NU_reach_19 : decode prog_1_method_6_code 19 = .ok (.getfield 77, 3) := by decide +kernel
theorem d_NU_reach_22 : decode prog_1_method_6_code 22 = .ok (.ifCond .ne 11, 3) := by decide +kernel
theorem d_NU_reach_25 : decode prog_1_method_6_code 25 = .ok (.new 57, 3) := by decide +kernel
theorem d_NU_reach_28 : decode prog_1_method_6_code 28 = .ok (.dup, 1) := by decide +kernel
theorem d_NU_reach_29 : decode prog_1_method_6_code 29 = .ok (.invokespecial 59, 3) := by decide +kernel
theorem d_NU_reach_32 : decode prog_1_method_6_code 32 = .ok (.athrow, 1) := by decide +kernel
theorem d_NU_reach_33 : decode prog_1_method_6_code 33 = .ok (.aload_n 0, 1) := by decide +kernel
theorem d_NU_reach_34 : decode prog_1_method_6_code 34 = .ok (.getfield 42, 3) := by decide +kernel
theorem d_NU_reach_37 : decode prog_1_method_6_code 37 = .ok (.iload_n 1, 1) := by decide +kernel
theorem d_NU_reach_38 : decode prog_1_method_6_code 38 = .ok (.invokevirtual 81, 3) := by decide +kernel
theorem d_NU_reach_41 : decode prog_1_method_6_code 41 = .ok (.ireturn, 1) := by decide +kernel
theorem d_NU_deadlock_0 : decode prog_1_method_7_code 0 = .ok (.aload_n 0, 1) := by decide +kernel
theorem d_NU_deadlock_1 : decode prog_1_method_7_code 1 = .ok (.getfield 19, 3) := by decide +kernel
theorem d_NU_deadlock_4 : decode prog_1_method_7_code 4 = .ok (.getfield 77, 3) := by decide +kernel
theorem d_NU_deadlock_7 : decode prog_1_method_7_code 7 = .ok (.ifCond .ne 11, 3) := by decide +kernel
theorem d_NU_deadlock_10 : decode prog_1_method_7_code 10 = .ok (.new 57, 3) := by decide +kernel
theorem d_NU_deadlock_13 : decode prog_1_method_7_code 13 = .ok (.dup, 1) := by decide +kernel
theorem d_NU_deadlock_14 : decode prog_1_method_7_code 14 = .ok (.invokespecial 59, 3) := by decide +kernel
theorem d_NU_deadlock_17 : decode prog_1_method_7_code 17 = .ok (.athrow, 1) := by decide +kernel
theorem d_NU_deadlock_18 : decode prog_1_method_7_code 18 = .ok (.aload_n 0, 1) := by decide +kernel
theorem d_NU_deadlock_19 : decode prog_1_method_7_code 19 = .ok (.getfield 42, 3) := by decide +kernel
theorem d_NU_deadlock_22 : decode prog_1_method_7_code 22 = .ok (.invokevirtual 85, 3) := by decide +kernel
theorem d_NU_deadlock_25 : decode prog_1_method_7_code 25 = .ok (.ireturn, 1) := by decide +kernel
theorem d_NU_play_0 : decode prog_1_method_9_code 0 = .ok (.aload_n 0, 1) := by decide +kernel
theorem d_NU_play_1 : decode prog_1_method_9_code 1 = .ok (.getfield 26, 3) := by decide +kernel
theorem d_NU_play_4 : decode prog_1_method_9_code 4 = .ok (.getfield 91, 3) := by decide +kernel
theorem d_NU_play_7 : decode prog_1_method_9_code 7 = .ok (.iconst (-1), 1) := by decide +kernel
theorem d_NU_play_8 : decode prog_1_method_9_code 8 = .ok (.if_icmp .eq 7, 3) := by decide +kernel
theorem d_NU_play_11 : decode prog_1_method_9_code 11 = .ok (.iconst 1, 1) := by decide +kernel
theorem d_NU_play_12 : decode prog_1_method_9_code 12 = .ok (.goto 4, 3) := by decide +kernel
theorem d_NU_play_15 : decode prog_1_method_9_code 15 = .ok (.iconst 0, 1) := by decide +kernel
theorem d_NU_play_16 : decode prog_1_method_9_code 16 = .ok (.istore_n 2, 1) := by decide +kernel
theorem d_NU_play_17 : decode prog_1_method_9_code 17 = .ok (.iload_n 1, 1) := by decide +kernel
theorem d_NU_play_18 : decode prog_1_method_9_code 18 = .ok (.ifCond .lt 18, 3) := by decide +kernel
theorem d_NU_play_21 : decode prog_1_method_9_code 21 = .ok (.iload_n 2, 1) := by decide +kernel
theorem d_NU_play_22 : decode prog_1_method_9_code 22 = .ok (.ifCond .eq 22, 3) := by decide +kernel
theorem d_NU_play_25 : decode prog_1_method_9_code 25 = .ok (.iload_n 1, 1) := by decide +kernel
theorem d_NU_play_26 : decode prog_1_method_9_code 26 = .ok (.aload_n 0, 1) := by decide +kernel
theorem d_NU_play_27 : decode prog_1_method_9_code 27 = .ok (.getfield 26, 3) := by decide +kernel
theorem d_NU_play_30 : decode prog_1_method_9_code 30 = .ok (.getfield 91, 3) := by decide +kernel
theorem d_NU_play_33 : decode prog_1_method_9_code 33 = .ok (.if_icmp .le 11, 3) := by decide +kernel
theorem d_NU_play_36 : decode prog_1_method_9_code 36 = .ok (.new 50, 3) := by decide +kernel
theorem d_NU_play_39 : decode prog_1_method_9_code 39 = .ok (.dup, 1) := by decide +kernel
theorem d_NU_play_40 : decode prog_1_method_9_code 40 = .ok (.invokespecial 52, 3) := by decide +kernel
theorem d_NU_play_43 : decode prog_1_method_9_code 43 = .ok (.athrow, 1) := by decide +kernel
theorem d_NU_play_44 : decode prog_1_method_9_code 44 = .ok (.iload_n 2, 1) := by decide +kernel
theorem d_NU_play_45 : decode prog_1_method_9_code 45 = .ok (.ifCond .ne 11, 3) := by decide +kernel
theorem d_NU_play_48 : decode prog_1_method_9_code 48 = .ok (.new 57, 3) := by decide +kernel
theorem d_NU_play_51 : decode prog_1_method_9_code 51 = .ok (.dup, 1) := by decide +kernel
theorem d_NU_play_52 : decode prog_1_method_9_code 52 = .ok (.invokespecial 59, 3) := by decide +kernel
theorem d_NU_play_55 : decode prog_1_method_9_code 55 = .ok (.athrow, 1) := by decide +kernel
theorem d_NU_play_56 : decode prog_1_method_9_code 56 = .ok (.aload_n 0, 1) := by decide +kernel
theorem d_NU_play_57 : decode prog_1_method_9_code 57 = .ok (.getfield 10, 3) := by decide +kernel
theorem d_NU_play_60 : decode prog_1_method_9_code 60 = .ok (.getfield 67, 3) := by decide +kernel
theorem d_NU_play_63 : decode prog_1_method_9_code 63 = .ok (.istore_n 3, 1) := by decide +kernel
theorem d_NU_play_64 : decode prog_1_method_9_code 64 = .ok (.iconst 0, 1) := by decide +kernel
theorem d_NU_play_65 : decode prog_1_method_9_code 65 = .ok (.istore 4, 2) := by decide +kernel
theorem d_NU_play_67 : decode prog_1_method_9_code 67 = .ok (.iload 4, 2) := by decide +kernel
theorem d_NU_play_69 : decode prog_1_method_9_code 69 = .ok (.iload_n 1, 1) := by decide +kernel
theorem d_NU_play_70 : decode prog_1_method_9_code 70 = .ok (.if_icmp .ge 52, 3) := by decide +kernel
theorem d_NU_play_73 : decode prog_1_method_9_code 73 = .ok (.aload_n 0, 1) := by decide +kernel
theorem d_NU_play_74 : decode prog_1_method_9_code 74 = .ok (.getfield 26, 3) := by decide +kernel
theorem d_NU_play_77 : decode prog_1_method_9_code 77 = .ok (.iload 4, 2) := by decide +kernel
theorem d_NU_play_79 : decode prog_1_method_9_code 79 = .ok (.invokevirtual 88, 3) := by decide +kernel
theorem d_NU_play_82 : decode prog_1_method_9_code 82 = .ok (.istore 5, 2) := by decide +kernel
theorem d_NU_play_84 : decode prog_1_method_9_code 84 = .ok (.aload_n 0, 1) := by decide +kernel
theorem d_NU_play_85 : decode prog_1_method_9_code 85 = .ok (.getfield 10, 3) := by decide +kernel
theorem d_NU_play_88 : decode prog_1_method_9_code 88 = .ok (.iload_n 3, 1) := by decide +kernel
theorem d_NU_play_89 : decode prog_1_method_9_code 89 = .ok (.iload 5, 2) := by decide +kernel
theorem d_NU_play_91 : decode prog_1_method_9_code 91 = .ok (.invokevirtual 94, 3) := by decide +kernel
theorem d_NU_play_94 : decode prog_1_method_9_code 94 = .ok (.ifCond .ne 11, 3) := by decide +kernel
theorem d_NU_play_97 : decode prog_1_method_9_code 97 = .ok (.new 57, 3) := by decide +kernel
theorem d_NU_play_100 : decode prog_1_method_9_code 100 = .ok (.dup, 1) := by decide +kernel
theorem d_NU_play_101 : decode prog_1_method_9_code 101 = .ok (.invokespecial 59, 3) := by decide +kernel
theorem d_NU_play_104 : decode prog_1_method_9_code 104 = .ok (.athrow, 1) := by decide +kernel
theorem d_NU_play_105 : decode prog_1_method_9_code 105 = .ok (.aload_n 0, 1) := by decide +kernel
theorem d_NU_play_106 : decode prog_1_method_9_code 106 = .ok (.getfield 10, 3) := by decide +kernel
theorem d_NU_play_109 : decode prog_1_method_9_code 109 = .ok (.iload_n 3, 1) := by decide +kernel
theorem d_NU_play_110 : decode prog_1_method_9_code 110 = .ok (.iload 5, 2) := by decide +kernel
theorem d_NU_play_112 : decode prog_1_method_9_code 112 = .ok (.invokevirtual 98, 3) := by decide +kernel
theorem d_NU_play_115 : decode prog_1_method_9_code 115 = .ok (.istore_n 3, 1) := by decide +kernel
theorem d_NU_play_116 : decode prog_1_method_9_code 116 = .ok (.iinc 4 1, 3) := by decide +kernel
theorem d_NU_play_119 : decode prog_1_method_9_code 119 = .ok (.goto (-52), 3) := by decide +kernel
theorem d_NU_play_122 : decode prog_1_method_9_code 122 = .ok (.iload_n 3, 1) := by decide +kernel
theorem d_NU_play_123 : decode prog_1_method_9_code 123 = .ok (.ireturn, 1) := by decide +kernel
end
section
set_option maxHeartbeats 4000000 in
set_option maxRecDepth 100000 in
theorem c_Ne_init (l : Launch) (dC : Nat → ClassId) (dI : Nat → Nat → Nat) (cI cL cZ : ClassId) (sz : Nat) (h0 : Nat) : Met l y_Ne_init (Cond.code y_Ne_init prog_3_method_1_code 1 none :: wsA) { frames := 1, cells := 2, slots := 16, locals := 12 } (va_Pc [.ref h0] (fun U => U.heap.size = sz ∧ va_P (dC, dI) clA [(h0, .inr (1, [.null, .null, .int 0, .int 0]))] U.heap ∧ va_K (dC, dI) clA [(cI, .int), (cL, .long), (cZ, .boolean)] U ∧ va_D (fun _ => True) [(h0, .inr (1, [.null, .null, .int 0, .int 0]))] ∧ NwA U)) (va_Qv (fun _ : Unit => True) (fun _ t => ∃ q1 q4 : Nat, va_P (dC, dI) clA [(h0, .inr (1, [.ref q1, .ref q4, .int 0, .int 0])), (q1, .inl (cI, 8, .inl (fun _ => 0))), (q4, .inl (cI, 8, .inl (fun _ => 0)))] t.heap ∧ va_D (va_A [(h0, .inr (1, [.null, .null, .int 0, .int 0]))] sz) [(h0, .inr (1, [.ref q1, .ref q4, .int 0, .int 0])), (q1, .inl (cI, 8, .inl (fun _ => 0))), (q4, .inl (cI, 8, .inl (fun _ => 0)))]) (va_A [(h0, .inr (1, [.null, .null, .int 0, .int 0]))] sz)) 2 16 (va_A [(h0, .inr (1, [.null, .null, .int 0, .int 0]))] sz) := by
  refine Met.ofW (cc := prog_3_method_1_code) (maxL := 1) (ret := none) (by decide) rfl ?_
  intro p e s m args below meth c s₁ B hml hv
  obtain ⟨rfl, hsz, hP, hK, hD0, hN⟩ := hv
  have hx := B.exec
  have hb := B.bytes
  have hr := B.returns
  have ht : ∀ w ∈ wsA, w.before _ s = true := fun w h => atoms_spec (ws := (Cond.code y_Ne_init prog_3_method_1_code 1 none :: wsA)) B.pre w (List.mem_cons_of_mem _ h)
  have hown : s.vm.findClass "NetUnfolder$Net" = some m.cls := findClass_of_methodNamed B.named
  have hlocks := B.notSynchronized
  have hin : meth.name = "<init>" := (name_of_methodNamed B.named B.method).1
  subst hsz
  have hD := hD0.self (sz := s.heap.size)
  generalize hAe : va_A [(h0, .inr (1, [.null, .null, .int 0, .int 0]))] s.heap.size = A at hD ⊢
  have hA : ∀ q : Nat, s.heap.size ≤ q → A q := fun q h => by rw [← hAe]; exact Or.inr h
  have hS : va_S A s.heap s.heap [] := va_S.rf
  have hl := lv_entry ([.ref h0]) (n := 1) (Nat.le_of_ble_eq_true rfl)
  rw [lg_entry_eq]
  generalize (lg_sl ([.ref h0]) ++ List.replicate (1 - (lg_sl ([.ref h0])).length) Slot.unset).toArray = ls at hl ⊢
  replace hl : lv_has ls 1 [(0, .ref h0)] := hl
  refine lv_aload_n hx hb d_Ne_init_0 rfl (lv_at hl 0 rfl) ?_
  refine W.objInit hx hb hown (ht (.methodLink "NetUnfolder$Net" 3 Lib.objectInit) wd_1_32) (ht (.instanceMethod Lib.objectInit) wd_1_25) (ht (.code Lib.objectInit ⟨#[0xb1]⟩ 1 none) wd_1_26) rfl (by rw [hml]; exact hl.1) rfl d_Ne_init_1 (Nat.le_of_ble_eq_true rfl) (Nat.le_of_ble_eq_true rfl) ?_
  refine W.eq (g2 := F0 m 4 ls []) rfl ?_
  refine lv_aload_n hx hb d_Ne_init_4 rfl (lv_at hl 0 rfl) ?_
  refine lv_bipush (v := 8) hx hb d_Ne_init_5 (by decide) ?_
  refine nx_newaI hx hb (ht _ wd_1_55) hK hP hD hS hA 0 rfl (N' := 8) (by decide) (by decide) (Nat.le_of_ble_eq_true rfl) (Nat.le_of_ble_eq_true rfl) (Nat.le_of_ble_eq_true rfl) d_Ne_init_7 (fun q1 H2 hPn hDn hSn => ?_)
  replace hP : va_P (dC, dI) clA [(h0, .inr (1, [.null, .null, .int 0, .int 0])), (q1, .inl (cI, 8, .inl (fun _ => 0)))] H2 := hPn
  replace hD : va_D A [(h0, .inr (1, [.null, .null, .int 0, .int 0])), (q1, .inl (cI, 8, .inl (fun _ => 0)))] := hDn
  replace hS := hSn
  clear hPn hDn hSn
  refine W.cs (cells' := 1) (slots' := 8) rfl rfl ?_
  refine va_putF (D := (dC, dI)) (ci := 1) (v := .ref q1) (ty := .array .int) (C := "NetUnfolder$Net") (T := T_Ne) (N := 4) hx hb ht in_Ne ty_Ne ok_Ne nm_Ne hown hK hP hD hS 0 rfl rfl 0 (by decide) (ht _ wd_1_33) (fun _ h9 => h9) rfl hin rfl (by decide +kernel) rfl rfl (Nat.le_of_ble_eq_true rfl) d_Ne_init_9 (fun H3 locs hPn hDn hSn => ?_)
  replace hP : va_P (dC, dI) clA [(h0, .inr (1, [.ref q1, .null, .int 0, .int 0])), (q1, .inl (cI, 8, .inl (fun _ => 0)))] H3 := hPn
  replace hD : va_D A [(h0, .inr (1, [.ref q1, .null, .int 0, .int 0])), (q1, .inl (cI, 8, .inl (fun _ => 0)))] := hDn
  replace hS := hSn
  clear hPn hDn hSn
  refine lv_aload_n hx hb d_Ne_init_12 rfl (lv_at hl 0 rfl) ?_
  refine lv_bipush (v := 8) hx hb d_Ne_init_13 (by decide) ?_
  refine nx_newaI hx hb (ht _ wd_1_55) hK hP hD hS hA 0 rfl (N' := 8) (by decide) (by decide) (Nat.le_of_ble_eq_true rfl) (Nat.le_of_ble_eq_true rfl) (Nat.le_of_ble_eq_true rfl) d_Ne_init_15 (fun q4 H5 hPn hDn hSn => ?_)
  replace hP : va_P (dC, dI) clA [(h0, .inr (1, [.ref q1, .null, .int 0, .int 0])), (q1, .inl (cI, 8, .inl (fun _ => 0))), (q4, .inl (cI, 8, .inl (fun _ => 0)))] H5 := hPn
  replace hD : va_D A [(h0, .inr (1, [.ref q1, .null, .int 0, .int 0])), (q1, .inl (cI, 8, .inl (fun _ => 0))), (q4, .inl (cI, 8, .inl (fun _ => 0)))] := hDn
  replace hS := hSn
  clear hPn hDn hSn
  refine W.cs (cells' := 2) (slots' := 16) rfl rfl ?_
  refine va_putF (D := (dC, dI)) (ci := 1) (v := .ref q4) (ty := .array .int) (C := "NetUnfolder$Net") (T := T_Ne) (N := 4) hx hb ht in_Ne ty_Ne ok_Ne nm_Ne hown hK hP hD hS 0 rfl rfl 1 (by decide) (ht _ wd_1_36) (fun _ h9 => h9) rfl hin rfl (by decide +kernel) rfl rfl (Nat.le_of_ble_eq_true rfl) d_Ne_init_17 (fun H6 locs hPn hDn hSn => ?_)
  replace hP : va_P (dC, dI) clA [(h0, .inr (1, [.ref q1, .ref q4, .int 0, .int 0])), (q1, .inl (cI, 8, .inl (fun _ => 0))), (q4, .inl (cI, 8, .inl (fun _ => 0)))] H6 := hPn
  replace hD : va_D A [(h0, .inr (1, [.ref q1, .ref q4, .int 0, .int 0])), (q1, .inl (cI, 8, .inl (fun _ => 0))), (q4, .inl (cI, 8, .inl (fun _ => 0)))] := hDn
  replace hS := hSn
  clear hPn hDn hSn
  have hP9 := hP.sub (ws' := [(h0, .inr (1, [.ref q1, .ref q4, .int 0, .int 0])), (q1, .inl (cI, 8, .inl (fun _ => 0))), (q4, .inl (cI, 8, .inl (fun _ => 0)))]) [0, 1, 2] rfl
  have hD9 := hD.sub (ws' := [(h0, .inr (1, [.ref q1, .ref q4, .int 0, .int 0])), (q1, .inl (cI, 8, .inl (fun _ => 0))), (q4, .inl (cI, 8, .inl (fun _ => 0)))]) [0, 1, 2] (by decide) rfl
  exact W.vret hx hb hr (fun t ht9 hW => ⟨⟨(), rfl, trivial, q1, q4, by rw [ht9]; exact hP9, hD9⟩, hS.F ht9⟩) hS.2.2 d_Ne_init_20

set_option maxHeartbeats 4000000 in
set_option maxRecDepth 100000 in
theorem c_Wa_init (l : Launch) (dC : Nat → ClassId) (dI : Nat → Nat → Nat) (cI cL cZ : ClassId) (sz : Nat) (h0 : Nat) : Met l y_Wa_init (Cond.code y_Wa_init prog_9_method_1_code 1 none :: wsA) { frames := 1, cells := 1, slots := 31, locals := 12 } (va_Pc [.ref h0] (fun U => U.heap.size = sz ∧ va_P (dC, dI) clA [(h0, .inr (3, [.null, .int 0]))] U.heap ∧ va_K (dC, dI) clA [(cI, .int), (cL, .long), (cZ, .boolean)] U ∧ va_D (fun _ => True) [(h0, .inr (3, [.null, .int 0]))] ∧ NwA U)) (va_Qv (fun _ : Unit => True) (fun _ t => ∃ q1 : Nat, va_P (dC, dI) clA [(h0, .inr (3, [.ref q1, .int (-1)])), (q1, .inl (cI, 31, .inl (fun _ => 0)))] t.heap ∧ va_D (va_A [(h0, .inr (3, [.null, .int 0]))] sz) [(h0, .inr (3, [.ref q1, .int (-1)])), (q1, .inl (cI, 31, .inl (fun _ => 0)))]) (va_A [(h0, .inr (3, [.null, .int 0]))] sz)) 1 31 (va_A [(h0, .inr (3, [.null, .int 0]))] sz) := by
  refine Met.ofW (cc := prog_9_method_1_code) (maxL := 1) (ret := none) (by decide) rfl ?_
  intro p e s m args below meth c s₁ B hml hv
  obtain ⟨rfl, hsz, hP, hK, hD0, hN⟩ := hv
  have hx := B.exec
  have hb := B.bytes
  have hr := B.returns
  have ht : ∀ w ∈ wsA, w.before _ s = true := fun w h => atoms_spec (ws := (Cond.code y_Wa_init prog_9_method_1_code 1 none :: wsA)) B.pre w (List.mem_cons_of_mem _ h)
  have hown : s.vm.findClass "NetUnfolder$Way" = some m.cls := findClass_of_methodNamed B.named
  have hlocks := B.notSynchronized
  have hin : meth.name = "<init>" := (name_of_methodNamed B.named B.method).1
  subst hsz
  have hD := hD0.self (sz := s.heap.size)
  generalize hAe : va_A [(h0, .inr (3, [.null, .int 0]))] s.heap.size = A at hD ⊢
  have hA : ∀ q : Nat, s.heap.size ≤ q → A q := fun q h => by rw [← hAe]; exact Or.inr h
  have hS : va_S A s.heap s.heap [] := va_S.rf
  have hl := lv_entry ([.ref h0]) (n := 1) (Nat.le_of_ble_eq_true rfl)
  rw [lg_entry_eq]
  generalize (lg_sl ([.ref h0]) ++ List.replicate (1 - (lg_sl ([.ref h0])).length) Slot.unset).toArray = ls at hl ⊢
  replace hl : lv_has ls 1 [(0, .ref h0)] := hl
  refine lv_aload_n hx hb d_Wa_init_0 rfl (lv_at hl 0 rfl) ?_
  refine W.objInit hx hb hown (ht (.methodLink "NetUnfolder$Way" 3 Lib.objectInit) wd_1_142) (ht (.instanceMethod Lib.objectInit) wd_1_25) (ht (.code Lib.objectInit ⟨#[0xb1]⟩ 1 none) wd_1_26) rfl (by rw [hml]; exact hl.1) rfl d_Wa_init_1 (Nat.le_of_ble_eq_true rfl) (Nat.le_of_ble_eq_true rfl) ?_
  refine W.eq (g2 := F0 m 4 ls []) rfl ?_
  refine lv_aload_n hx hb d_Wa_init_4 rfl (lv_at hl 0 rfl) ?_
  refine lv_bipush (v := 31) hx hb d_Wa_init_5 (by decide) ?_
  refine nx_newaI hx hb (ht _ wd_1_55) hK hP hD hS hA 0 rfl (N' := 31) (by decide) (by decide) (Nat.le_of_ble_eq_true rfl) (Nat.le_of_ble_eq_true rfl) (Nat.le_of_ble_eq_true rfl) d_Wa_init_7 (fun q1 H2 hPn hDn hSn => ?_)
  replace hP : va_P (dC, dI) clA [(h0, .inr (3, [.null, .int 0])), (q1, .inl (cI, 31, .inl (fun _ => 0)))] H2 := hPn
  replace hD : va_D A [(h0, .inr (3, [.null, .int 0])), (q1, .inl (cI, 31, .inl (fun _ => 0)))] := hDn
  replace hS := hSn
  clear hPn hDn hSn
  refine W.cs (cells' := 1) (slots' := 31) rfl rfl ?_
  refine va_putF (D := (dC, dI)) (ci := 3) (v := .ref q1) (ty := .array .int) (C := "NetUnfolder$Way") (T := T_Wa) (N := 2) hx hb ht in_Wa ty_Wa ok_Wa nm_Wa hown hK hP hD hS 0 rfl rfl 0 (by decide) (ht _ wd_1_143) (fun _ h9 => h9) rfl hin rfl (by decide +kernel) rfl rfl (Nat.le_of_ble_eq_true rfl) d_Wa_init_9 (fun H3 locs hPn hDn hSn => ?_)
  replace hP : va_P (dC, dI) clA [(h0, .inr (3, [.ref q1, .int 0])), (q1, .inl (cI, 31, .inl (fun _ => 0)))] H3 := hPn
  replace hD : va_D A [(h0, .inr (3, [.ref q1, .int 0])), (q1, .inl (cI, 31, .inl (fun _ => 0)))] := hDn
  replace hS := hSn
  clear hPn hDn hSn
  refine lv_aload_n hx hb d_Wa_init_12 rfl (lv_at hl 0 rfl) ?_
  refine lv_iconst (v := (-1)) hx hb d_Wa_init_13 (by decide) ?_
  refine va_put (D := (dC, dI)) (ci := 3) (v := .int (-1)) (ty := .int) (C := "NetUnfolder$Way") (T := T_Wa) (N := 2) hx hb ht in_Wa ty_Wa ok_Wa nm_Wa hown hK hP hD hS 0 rfl rfl 1 (by decide) (ht _ wd_1_144) (fun _ h9 => h9) rfl (by decide +kernel) rfl rfl (Nat.le_of_ble_eq_true rfl) d_Wa_init_14 (fun H4 locs hPn hDn hSn => ?_)
  replace hP : va_P (dC, dI) clA [(h0, .inr (3, [.ref q1, .int (-1)])), (q1, .inl (cI, 31, .inl (fun _ => 0)))] H4 := hPn
  replace hD : va_D A [(h0, .inr (3, [.ref q1, .int (-1)])), (q1, .inl (cI, 31, .inl (fun _ => 0)))] := hDn
  replace hS := hSn
  clear hPn hDn hSn
  have hP9 := hP.sub (ws' := [(h0, .inr (3, [.ref q1, .int (-1)])), (q1, .inl (cI, 31, .inl (fun _ => 0)))]) [0, 1] rfl
  have hD9 := hD.sub (ws' := [(h0, .inr (3, [.ref q1, .int (-1)])), (q1, .inl (cI, 31, .inl (fun _ => 0)))]) [0, 1] (by decide) rfl
  exact W.vret hx hb hr (fun t ht9 hW => ⟨⟨(), rfl, trivial, q1, by rw [ht9]; exact hP9, hD9⟩, hS.F ht9⟩) hS.2.2 d_Wa_init_17

set_option maxHeartbeats 4000000 in
set_option maxRecDepth 100000 in
theorem c_Pf_init (l : Launch) (dC : Nat → ClassId) (dI : Nat → Nat → Nat) (cI cL cZ : ClassId) (sz : Nat) (h0 : Nat) : Met l y_Pf_init (Cond.code y_Pf_init prog_5_method_1_code 1 none :: wsA) { frames := 1, cells := 10, slots := 398, locals := 12 } (va_Pc [.ref h0] (fun U => U.heap.size = sz ∧ va_P (dC, dI) clA [(h0, .inr (2, [.int 0, .null, .null, .null, .null, .null, .int 0, .null, .null, .null, .null, .null, .int 0, .int 0]))] U.heap ∧ va_K (dC, dI) clA [(cI, .int), (cL, .long), (cZ, .boolean)] U ∧ va_D (fun _ => True) [(h0, .inr (2, [.int 0, .null, .null, .null, .null, .null, .int 0, .null, .null, .null, .null, .null, .int 0, .int 0]))] ∧ NwA U)) (va_Qv (fun _ : Unit => True) (fun _ t => ∃ q1 q4 q7 q10 q13 q16 q19 q22 q25 q28 : Nat, va_P (dC, dI) clA [(h0, .inr (2, [.int 0, .ref q1, .ref q4, .ref q7, .ref q10, .ref q13, .int 0, .ref q16, .ref q19, .ref q22, .ref q25, .ref q28, .int 0, .int 0])), (q1, .inl (cI, 60, .inl (fun _ => 0))), (q4, .inl (cI, 60, .inl (fun _ => 0))), (q7, .inl (cI, 60, .inl (fun _ => 0))), (q10, .inl (cL, 60, .inr (.inl (fun _ => 0)))), (q13, .inl (cL, 8, .inr (.inl (fun _ => 0)))), (q16, .inl (cI, 30, .inl (fun _ => 0))), (q19, .inl (cL, 30, .inr (.inl (fun _ => 0)))), (q22, .inl (cI, 30, .inl (fun _ => 0))), (q25, .inl (cI, 30, .inl (fun _ => 0))), (q28, .inl (cL, 30, .inr (.inl (fun _ => 0))))] t.heap ∧ va_D (va_A [(h0, .inr (2, [.int 0, .null, .null, .null, .null, .null, .int 0, .null, .null, .null, .null, .null, .int 0, .int 0]))] sz) [(h0, .inr (2, [.int 0, .ref q1, .ref q4, .ref q7, .ref q10, .ref q13, .int 0, .ref q16, .ref q19, .ref q22, .ref q25, .ref q28, .int 0, .int 0])), (q1, .inl (cI, 60, .inl (fun _ => 0))), (q4, .inl (cI, 60, .inl (fun _ => 0))), (q7, .inl (cI, 60, .inl (fun _ => 0))), (q10, .inl (cL, 60, .inr (.inl (fun _ => 0)))), (q13, .inl (cL, 8, .inr (.inl (fun _ => 0)))), (q16, .inl (cI, 30, .inl (fun _ => 0))), (q19, .inl (cL, 30, .inr (.inl (fun _ => 0)))), (q22, .inl (cI, 30, .inl (fun _ => 0))), (q25, .inl (cI, 30, .inl (fun _ => 0))), (q28, .inl (cL, 30, .inr (.inl (fun _ => 0))))]) (va_A [(h0, .inr (2, [.int 0, .null, .null, .null, .null, .null, .int 0, .null, .null, .null, .null, .null, .int 0, .int 0]))] sz)) 10 398 (va_A [(h0, .inr (2, [.int 0, .null, .null, .null, .null, .null, .int 0, .null, .null, .null, .null, .null, .int 0, .int 0]))] sz) := by
  refine Met.ofW (cc := prog_5_method_1_code) (maxL := 1) (ret := none) (by decide) rfl ?_
  intro p e s m args below meth c s₁ B hml hv
  obtain ⟨rfl, hsz, hP, hK, hD0, hN⟩ := hv
  have hx := B.exec
  have hb := B.bytes
  have hr := B.returns
  have ht : ∀ w ∈ wsA, w.before _ s = true := fun w h => atoms_spec (ws := (Cond.code y_Pf_init prog_5_method_1_code 1 none :: wsA)) B.pre w (List.mem_cons_of_mem _ h)
  have hown : s.vm.findClass "NetUnfolder$Prefix" = some m.cls := findClass_of_methodNamed B.named
  have hlocks := B.notSynchronized
  have hin : meth.name = "<init>" := (name_of_methodNamed B.named B.method).1
  subst hsz
  have hD := hD0.self (sz := s.heap.size)
  generalize hAe : va_A [(h0, .inr (2, [.int 0, .null, .null, .null, .null, .null, .int 0, .null, .null, .null, .null, .null, .int 0, .int 0]))] s.heap.size = A at hD ⊢
  have hA : ∀ q : Nat, s.heap.size ≤ q → A q := fun q h => by rw [← hAe]; exact Or.inr h
  have hS : va_S A s.heap s.heap [] := va_S.rf
  have hl := lv_entry ([.ref h0]) (n := 1) (Nat.le_of_ble_eq_true rfl)
  rw [lg_entry_eq]
  generalize (lg_sl ([.ref h0]) ++ List.replicate (1 - (lg_sl ([.ref h0])).length) Slot.unset).toArray = ls at hl ⊢
  replace hl : lv_has ls 1 [(0, .ref h0)] := hl
  refine lv_aload_n hx hb d_Pf_init_0 rfl (lv_at hl 0 rfl) ?_
  refine W.objInit hx hb hown (ht (.methodLink "NetUnfolder$Prefix" 3 Lib.objectInit) wd_1_61) (ht (.instanceMethod Lib.objectInit) wd_1_25) (ht (.code Lib.objectInit ⟨#[0xb1]⟩ 1 none) wd_1_26) rfl (by rw [hml]; exact hl.1) rfl d_Pf_init_1 (Nat.le_of_ble_eq_true rfl) (Nat.le_of_ble_eq_true rfl) ?_
  refine W.eq (g2 := F0 m 4 ls []) rfl ?_
  refine lv_aload_n hx hb d_Pf_init_4 rfl (lv_at hl 0 rfl) ?_
  refine lv_bipush (v := 60) hx hb d_Pf_init_5 (by decide) ?_
  refine nx_newaI hx hb (ht _ wd_1_55) hK hP hD hS hA 0 rfl (N' := 60) (by decide) (by decide) (Nat.le_of_ble_eq_true rfl) (Nat.le_of_ble_eq_true rfl) (Nat.le_of_ble_eq_true rfl) d_Pf_init_7 (fun q1 H2 hPn hDn hSn => ?_)
  replace hP : va_P (dC, dI) clA [(h0, .inr (2, [.int 0, .null, .null, .null, .null, .null, .int 0, .null, .null, .null, .null, .null, .int 0, .int 0])), (q1, .inl (cI, 60, .inl (fun _ => 0)))] H2 := hPn
  replace hD : va_D A [(h0, .inr (2, [.int 0, .null, .null, .null, .null, .null, .int 0, .null, .null, .null, .null, .null, .int 0, .int 0])), (q1, .inl (cI, 60, .inl (fun _ => 0)))] := hDn
  replace hS := hSn
  clear hPn hDn hSn
  refine W.cs (cells' := 1) (slots' := 60) rfl rfl ?_
  refine va_putF (D := (dC, dI)) (ci := 2) (v := .ref q1) (ty := .array .int) (C := "NetUnfolder$Prefix") (T := T_Pf) (N := 14) hx hb ht in_Pf ty_Pf ok_Pf nm_Pf hown hK hP hD hS 0 rfl rfl 1 (by decide) (ht _ wd_1_66) (fun _ h9 => h9) rfl hin rfl (by decide +kernel) rfl rfl (Nat.le_of_ble_eq_true rfl) d_Pf_init_9 (fun H3 locs hPn hDn hSn => ?_)
  replace hP : va_P (dC, dI) clA [(h0, .inr (2, [.int 0, .ref q1, .null, .null, .null, .null, .int 0, .null, .null, .null, .null, .null, .int 0, .int 0])), (q1, .inl (cI, 60, .inl (fun _ => 0)))] H3 := hPn
  replace hD : va_D A [(h0, .inr (2, [.int 0, .ref q1, .null, .null, .null, .null, .int 0, .null, .null, .null, .null, .null, .int 0, .int 0])), (q1, .inl (cI, 60, .inl (fun _ => 0)))] := hDn
  replace hS := hSn
  clear hPn hDn hSn
  refine lv_aload_n hx hb d_Pf_init_12 rfl (lv_at hl 0 rfl) ?_
  refine lv_bipush (v := 60) hx hb d_Pf_init_13 (by decide) ?_
  refine nx_newaI hx hb (ht _ wd_1_55) hK hP hD hS hA 0 rfl (N' := 60) (by decide) (by decide) (Nat.le_of_ble_eq_true rfl) (Nat.le_of_ble_eq_true rfl) (Nat.le_of_ble_eq_true rfl) d_Pf_init_15 (fun q4 H5 hPn hDn hSn => ?_)
  replace hP : va_P (dC, dI) clA [(h0, .inr (2, [.int 0, .ref q1, .null, .null, .null, .null, .int 0, .null, .null, .null, .null, .null, .int 0, .int 0])), (q1, .inl (cI, 60, .inl (fun _ => 0))), (q4, .inl (cI, 60, .inl (fun _ => 0)))] H5 := hPn
  replace hD : va_D A [(h0, .inr (2, [.int 0, .ref q1, .null, .null, .null, .null, .int 0, .null, .null, .null, .null, .null, .int 0, .int 0])), (q1, .inl (cI, 60, .inl (fun _ => 0))), (q4, .inl (cI, 60, .inl (fun _ => 0)))] := hDn
  replace hS := hSn
  clear hPn hDn hSn
  refine W.cs (cells' := 2) (slots' := 120) rfl rfl ?_
  refine va_putF (D := (dC, dI)) (ci := 2) (v := .ref q4) (ty := .array .int) (C := "NetUnfolder$Prefix") (T := T_Pf) (N := 14) hx hb ht in_Pf ty_Pf ok_Pf nm_Pf hown hK hP hD hS 0 rfl rfl 2 (by decide) (ht _ wd_1_70) (fun _ h9 => h9) rfl hin rfl (by decide +kernel) rfl rfl (Nat.le_of_ble_eq_true rfl) d_Pf_init_17 (fun H6 locs hPn hDn hSn => ?_)
  replace hP : va_P (dC, dI) clA [(h0, .inr (2, [.int 0, .ref q1, .ref q4, .null, .null, .null, .int 0, .null, .null, .null, .null, .null, .int 0, .int 0])), (q1, .inl (cI, 60, .inl (fun _ => 0))), (q4, .inl (cI, 60, .inl (fun _ => 0)))] H6 := hPn
  replace hD : va_D A [(h0, .inr (2, [.int 0, .ref q1, .ref q4, .null, .null, .null, .int 0, .null, .null, .null, .null, .null, .int 0, .int 0])), (q1, .inl (cI, 60, .inl (fun _ => 0))), (q4, .inl (cI, 60, .inl (fun _ => 0)))] := hDn
  replace hS := hSn
  clear hPn hDn hSn
  refine lv_aload_n hx hb d_Pf_init_20 rfl (lv_at hl 0 rfl) ?_
  refine lv_bipush (v := 60) hx hb d_Pf_init_21 (by decide) ?_
  refine nx_newaI hx hb (ht _ wd_1_55) hK hP hD hS hA 0 rfl (N' := 60) (by decide) (by decide) (Nat.le_of_ble_eq_true rfl) (Nat.le_of_ble_eq_true rfl) (Nat.le_of_ble_eq_true rfl) d_Pf_init_23 (fun q7 H8 hPn hDn hSn => ?_)
  replace hP : va_P (dC, dI) clA [(h0, .inr (2, [.int 0, .ref q1, .ref q4, .null, .null, .null, .int 0, .null, .null, .null, .null, .null, .int 0, .int 0])), (q1, .inl (cI, 60, .inl (fun _ => 0))), (q4, .inl (cI, 60, .inl (fun _ => 0))), (q7, .inl (cI, 60, .inl (fun _ => 0)))] H8 := hPn
  replace hD : va_D A [(h0, .inr (2, [.int 0, .ref q1, .ref q4, .null, .null, .null, .int 0, .null, .null, .null, .null, .null, .int 0, .int 0])), (q1, .inl (cI, 60, .inl (fun _ => 0))), (q4, .inl (cI, 60, .inl (fun _ => 0))), (q7, .inl (cI, 60, .inl (fun _ => 0)))] := hDn
  replace hS := hSn
  clear hPn hDn hSn
  refine W.cs (cells' := 3) (slots' := 180) rfl rfl ?_
  refine va_putF (D := (dC, dI)) (ci := 2) (v := .ref q7) (ty := .array .int) (C := "NetUnfolder$Prefix") (T := T_Pf) (N := 14) hx hb ht in_Pf ty_Pf ok_Pf nm_Pf hown hK hP hD hS 0 rfl rfl 3 (by decide) (ht _ wd_1_73) (fun _ h9 => h9) rfl hin rfl (by decide +kernel) rfl rfl (Nat.le_of_ble_eq_true rfl) d_Pf_init_25 (fun H9 locs hPn hDn hSn => ?_)
  replace hP : va_P (dC, dI) clA [(h0, .inr (2, [.int 0, .ref q1, .ref q4, .ref q7, .null, .null, .int 0, .null, .null, .null, .null, .null, .int 0, .int 0])), (q1, .inl (cI, 60, .inl (fun _ => 0))), (q4, .inl (cI, 60, .inl (fun _ => 0))), (q7, .inl (cI, 60, .inl (fun _ => 0)))] H9 := hPn
  replace hD : va_D A [(h0, .inr (2, [.int 0, .ref q1, .ref q4, .ref q7, .null, .null, .int 0, .null, .null, .null, .null, .null, .int 0, .int 0])), (q1, .inl (cI, 60, .inl (fun _ => 0))), (q4, .inl (cI, 60, .inl (fun _ => 0))), (q7, .inl (cI, 60, .inl (fun _ => 0)))] := hDn
  replace hS := hSn
  clear hPn hDn hSn
  refine lv_aload_n hx hb d_Pf_init_28 rfl (lv_at hl 0 rfl) ?_
  refine lv_bipush (v := 60) hx hb d_Pf_init_29 (by decide) ?_
  refine nx_newaJ hx hb (ht _ wd_1_136) hK hP hD hS hA 1 rfl (N' := 60) (by decide) (by decide) (Nat.le_of_ble_eq_true rfl) (Nat.le_of_ble_eq_true rfl) (Nat.le_of_ble_eq_true rfl) d_Pf_init_31 (fun q10 H11 hPn hDn hSn => ?_)
  replace hP : va_P (dC, dI) clA [(h0, .inr (2, [.int 0, .ref q1, .ref q4, .ref q7, .null, .null, .int 0, .null, .null, .null, .null, .null, .int 0, .int 0])), (q1, .inl (cI, 60, .inl (fun _ => 0))), (q4, .inl (cI, 60, .inl (fun _ => 0))), (q7, .inl (cI, 60, .inl (fun _ => 0))), (q10, .inl (cL, 60, .inr (.inl (fun _ => 0))))] H11 := hPn
  replace hD : va_D A [(h0, .inr (2, [.int 0, .ref q1, .ref q4, .ref q7, .null, .null, .int 0, .null, .null, .null, .null, .null, .int 0, .int 0])), (q1, .inl (cI, 60, .inl (fun _ => 0))), (q4, .inl (cI, 60, .inl (fun _ => 0))), (q7, .inl (cI, 60, .inl (fun _ => 0))), (q10, .inl (cL, 60, .inr (.inl (fun _ => 0))))] := hDn
  replace hS := hSn
  clear hPn hDn hSn
  refine W.cs (cells' := 4) (slots' := 240) rfl rfl ?_
  refine va_putF (D := (dC, dI)) (ci := 2) (v := .ref q10) (ty := .array .long) (C := "NetUnfolder$Prefix") (T := T_Pf) (N := 14) hx hb ht in_Pf ty_Pf ok_Pf nm_Pf hown hK hP hD hS 0 rfl rfl 4 (by decide) (ht _ wd_1_76) (fun _ h9 => h9) rfl hin rfl (by decide +kernel) rfl rfl (Nat.le_of_ble_eq_true rfl) d_Pf_init_33 (fun H12 locs hPn hDn hSn => ?_)
  replace hP : va_P (dC, dI) clA [(h0, .inr (2, [.int 0, .ref q1, .ref q4, .ref q7, .ref q10, .null, .int 0, .null, .null, .null, .null, .null, .int 0, .int 0])), (q1, .inl (cI, 60, .inl (fun _ => 0))), (q4, .inl (cI, 60, .inl (fun _ => 0))), (q7, .inl (cI, 60, .inl (fun _ => 0))), (q10, .inl (cL, 60, .inr (.inl (fun _ => 0))))] H12 := hPn
  replace hD : va_D A [(h0, .inr (2, [.int 0, .ref q1, .ref q4, .ref q7, .ref q10, .null, .int 0, .null, .null, .null, .null, .null, .int 0, .int 0])), (q1, .inl (cI, 60, .inl (fun _ => 0))), (q4, .inl (cI, 60, .inl (fun _ => 0))), (q7, .inl (cI, 60, .inl (fun _ => 0))), (q10, .inl (cL, 60, .inr (.inl (fun _ => 0))))] := hDn
  replace hS := hSn
  clear hPn hDn hSn
  refine lv_aload_n hx hb d_Pf_init_36 rfl (lv_at hl 0 rfl) ?_
  refine lv_bipush (v := 8) hx hb d_Pf_init_37 (by decide) ?_
  refine nx_newaJ hx hb (ht _ wd_1_136) hK hP hD hS hA 1 rfl (N' := 8) (by decide) (by decide) (Nat.le_of_ble_eq_true rfl) (Nat.le_of_ble_eq_true rfl) (Nat.le_of_ble_eq_true rfl) d_Pf_init_39 (fun q13 H14 hPn hDn hSn => ?_)
  replace hP : va_P (dC, dI) clA [(h0, .inr (2, [.int 0, .ref q1, .ref q4, .ref q7, .ref q10, .null, .int 0, .null, .null, .null, .null, .null, .int 0, .int 0])), (q1, .inl (cI, 60, .inl (fun _ => 0))), (q4, .inl (cI, 60, .inl (fun _ => 0))), (q7, .inl (cI, 60, .inl (fun _ => 0))), (q10, .inl (cL, 60, .inr (.inl (fun _ => 0)))), (q13, .inl (cL, 8, .inr (.inl (fun _ => 0))))] H14 := hPn
  replace hD : va_D A [(h0, .inr (2, [.int 0, .ref q1, .ref q4, .ref q7, .ref q10, .null, .int 0, .null, .null, .null, .null, .null, .int 0, .int 0])), (q1, .inl (cI, 60, .inl (fun _ => 0))), (q4, .inl (cI, 60, .inl (fun _ => 0))), (q7, .inl (cI, 60, .inl (fun _ => 0))), (q10, .inl (cL, 60, .inr (.inl (fun _ => 0)))), (q13, .inl (cL, 8, .inr (.inl (fun _ => 0))))] := hDn
  replace hS := hSn
  clear hPn hDn hSn
  refine W.cs (cells' := 5) (slots' := 248) rfl rfl ?_
  refine va_putF (D := (dC, dI)) (ci := 2) (v := .ref q13) (ty := .array .long) (C := "NetUnfolder$Prefix") (T := T_Pf) (N := 14) hx hb ht in_Pf ty_Pf ok_Pf nm_Pf hown hK hP hD hS 0 rfl rfl 5 (by decide) (ht _ wd_1_79) (fun _ h9 => h9) rfl hin rfl (by decide +kernel) rfl rfl (Nat.le_of_ble_eq_true rfl) d_Pf_init_41 (fun H15 locs hPn hDn hSn => ?_)
  replace hP : va_P (dC, dI) clA [(h0, .inr (2, [.int 0, .ref q1, .ref q4, .ref q7, .ref q10, .ref q13, .int 0, .null, .null, .null, .null, .null, .int 0, .int 0])), (q1, .inl (cI, 60, .inl (fun _ => 0))), (q4, .inl (cI, 60, .inl (fun _ => 0))), (q7, .inl (cI, 60, .inl (fun _ => 0))), (q10, .inl (cL, 60, .inr (.inl (fun _ => 0)))), (q13, .inl (cL, 8, .inr (.inl (fun _ => 0))))] H15 := hPn
  replace hD : va_D A [(h0, .inr (2, [.int 0, .ref q1, .ref q4, .ref q7, .ref q10, .ref q13, .int 0, .null, .null, .null, .null, .null, .int 0, .int 0])), (q1, .inl (cI, 60, .inl (fun _ => 0))), (q4, .inl (cI, 60, .inl (fun _ => 0))), (q7, .inl (cI, 60, .inl (fun _ => 0))), (q10, .inl (cL, 60, .inr (.inl (fun _ => 0)))), (q13, .inl (cL, 8, .inr (.inl (fun _ => 0))))] := hDn
  replace hS := hSn
  clear hPn hDn hSn
  refine lv_aload_n hx hb d_Pf_init_44 rfl (lv_at hl 0 rfl) ?_
  refine lv_bipush (v := 30) hx hb d_Pf_init_45 (by decide) ?_
  refine nx_newaI hx hb (ht _ wd_1_55) hK hP hD hS hA 0 rfl (N' := 30) (by decide) (by decide) (Nat.le_of_ble_eq_true rfl) (Nat.le_of_ble_eq_true rfl) (Nat.le_of_ble_eq_true rfl) d_Pf_init_47 (fun q16 H17 hPn hDn hSn => ?_)
  replace hP : va_P (dC, dI) clA [(h0, .inr (2, [.int 0, .ref q1, .ref q4, .ref q7, .ref q10, .ref q13, .int 0, .null, .null, .null, .null, .null, .int 0, .int 0])), (q1, .inl (cI, 60, .inl (fun _ => 0))), (q4, .inl (cI, 60, .inl (fun _ => 0))), (q7, .inl (cI, 60, .inl (fun _ => 0))), (q10, .inl (cL, 60, .inr (.inl (fun _ => 0)))), (q13, .inl (cL, 8, .inr (.inl (fun _ => 0)))), (q16, .inl (cI, 30, .inl (fun _ => 0)))] H17 := hPn
  replace hD : va_D A [(h0, .inr (2, [.int 0, .ref q1, .ref q4, .ref q7, .ref q10, .ref q13, .int 0, .null, .null, .null, .null, .null, .int 0, .int 0])), (q1, .inl (cI, 60, .inl (fun _ => 0))), (q4, .inl (cI, 60, .inl (fun _ => 0))), (q7, .inl (cI, 60, .inl (fun _ => 0))), (q10, .inl (cL, 60, .inr (.inl (fun _ => 0)))), (q13, .inl (cL, 8, .inr (.inl (fun _ => 0)))), (q16, .inl (cI, 30, .inl (fun _ => 0)))] := hDn
  replace hS := hSn
  clear hPn hDn hSn
  refine W.cs (cells' := 6) (slots' := 278) rfl rfl ?_
  refine va_putF (D := (dC, dI)) (ci := 2) (v := .ref q16) (ty := .array .int) (C := "NetUnfolder$Prefix") (T := T_Pf) (N := 14) hx hb ht in_Pf ty_Pf ok_Pf nm_Pf hown hK hP hD hS 0 rfl rfl 7 (by decide) (ht _ wd_1_86) (fun _ h9 => h9) rfl hin rfl (by decide +kernel) rfl rfl (Nat.le_of_ble_eq_true rfl) d_Pf_init_49 (fun H18 locs hPn hDn hSn => ?_)
  replace hP : va_P (dC, dI) clA [(h0, .inr (2, [.int 0, .ref q1, .ref q4, .ref q7, .ref q10, .ref q13, .int 0, .ref q16, .null, .null, .null, .null, .int 0, .int 0])), (q1, .inl (cI, 60, .inl (fun _ => 0))), (q4, .inl (cI, 60, .inl (fun _ => 0))), (q7, .inl (cI, 60, .inl (fun _ => 0))), (q10, .inl (cL, 60, .inr (.inl (fun _ => 0)))), (q13, .inl (cL, 8, .inr (.inl (fun _ => 0)))), (q16, .inl (cI, 30, .inl (fun _ => 0)))] H18 := hPn
  replace hD : va_D A [(h0, .inr (2, [.int 0, .ref q1, .ref q4, .ref q7, .ref q10, .ref q13, .int 0, .ref q16, .null, .null, .null, .null, .int 0, .int 0])), (q1, .inl (cI, 60, .inl (fun _ => 0))), (q4, .inl (cI, 60, .inl (fun _ => 0))), (q7, .inl (cI, 60, .inl (fun _ => 0))), (q10, .inl (cL, 60, .inr (.inl (fun _ => 0)))), (q13, .inl (cL, 8, .inr (.inl (fun _ => 0)))), (q16, .inl (cI, 30, .inl (fun _ => 0)))] := hDn
  replace hS := hSn
  clear hPn hDn hSn
  refine lv_aload_n hx hb d_Pf_init_52 rfl (lv_at hl 0 rfl) ?_
  refine lv_bipush (v := 30) hx hb d_Pf_init_53 (by decide) ?_
  refine nx_newaJ hx hb (ht _ wd_1_136) hK hP hD hS hA 1 rfl (N' := 30) (by decide) (by decide) (Nat.le_of_ble_eq_true rfl) (Nat.le_of_ble_eq_true rfl) (Nat.le_of_ble_eq_true rfl) d_Pf_init_55 (fun q19 H20 hPn hDn hSn => ?_)
  replace hP : va_P (dC, dI) clA [(h0, .inr (2, [.int 0, .ref q1, .ref q4, .ref q7, .ref q10, .ref q13, .int 0, .ref q16, .null, .null, .null, .null, .int 0, .int 0])), (q1, .inl (cI, 60, .inl (fun _ => 0))), (q4, .inl (cI, 60, .inl (fun _ => 0))), (q7, .inl (cI, 60, .inl (fun _ => 0))), (q10, .inl (cL, 60, .inr (.inl (fun _ => 0)))), (q13, .inl (cL, 8, .inr (.inl (fun _ => 0)))), (q16, .inl (cI, 30, .inl (fun _ => 0))), (q19, .inl (cL, 30, .inr (.inl (fun _ => 0))))] H20 := hPn
  replace hD : va_D A [(h0, .inr (2, [.int 0, .ref q1, .ref q4, .ref q7, .ref q10, .ref q13, .int 0, .ref q16, .null, .null, .null, .null, .int 0, .int 0])), (q1, .inl (cI, 60, .inl (fun _ => 0))), (q4, .inl (cI, 60, .inl (fun _ => 0))), (q7, .inl (cI, 60, .inl (fun _ => 0))), (q10, .inl (cL, 60, .inr (.inl (fun _ => 0)))), (q13, .inl (cL, 8, .inr (.inl (fun _ => 0)))), (q16, .inl (cI, 30, .inl (fun _ => 0))), (q19, .inl (cL, 30, .inr (.inl (fun _ => 0))))] := hDn
  replace hS := hSn
  clear hPn hDn hSn
  refine W.cs (cells' := 7) (slots' := 308) rfl rfl ?_
  refine va_putF (D := (dC, dI)) (ci := 2) (v := .ref q19) (ty := .array .long) (C := "NetUnfolder$Prefix") (T := T_Pf) (N := 14) hx hb ht in_Pf ty_Pf ok_Pf nm_Pf hown hK hP hD hS 0 rfl rfl 8 (by decide) (ht _ wd_1_90) (fun _ h9 => h9) rfl hin rfl (by decide +kernel) rfl rfl (Nat.le_of_ble_eq_true rfl) d_Pf_init_57 (fun H21 locs hPn hDn hSn => ?_)
  replace hP : va_P (dC, dI) clA [(h0, .inr (2, [.int 0, .ref q1, .ref q4, .ref q7, .ref q10, .ref q13, .int 0, .ref q16, .ref q19, .null, .null, .null, .int 0, .int 0])), (q1, .inl (cI, 60, .inl (fun _ => 0))), (q4, .inl (cI, 60, .inl (fun _ => 0))), (q7, .inl (cI, 60, .inl (fun _ => 0))), (q10, .inl (cL, 60, .inr (.inl (fun _ => 0)))), (q13, .inl (cL, 8, .inr (.inl (fun _ => 0)))), (q16, .inl (cI, 30, .inl (fun _ => 0))), (q19, .inl (cL, 30, .inr (.inl (fun _ => 0))))] H21 := hPn
  replace hD : va_D A [(h0, .inr (2, [.int 0, .ref q1, .ref q4, .ref q7, .ref q10, .ref q13, .int 0, .ref q16, .ref q19, .null, .null, .null, .int 0, .int 0])), (q1, .inl (cI, 60, .inl (fun _ => 0))), (q4, .inl (cI, 60, .inl (fun _ => 0))), (q7, .inl (cI, 60, .inl (fun _ => 0))), (q10, .inl (cL, 60, .inr (.inl (fun _ => 0)))), (q13, .inl (cL, 8, .inr (.inl (fun _ => 0)))), (q16, .inl (cI, 30, .inl (fun _ => 0))), (q19, .inl (cL, 30, .inr (.inl (fun _ => 0))))] := hDn
  replace hS := hSn
  clear hPn hDn hSn
  refine lv_aload_n hx hb d_Pf_init_60 rfl (lv_at hl 0 rfl) ?_
  refine lv_bipush (v := 30) hx hb d_Pf_init_61 (by decide) ?_
  refine nx_newaI hx hb (ht _ wd_1_55) hK hP hD hS hA 0 rfl (N' := 30) (by decide) (by decide) (Nat.le_of_ble_eq_true rfl) (Nat.le_of_ble_eq_true rfl) (Nat.le_of_ble_eq_true rfl) d_Pf_init_63 (fun q22 H23 hPn hDn hSn => ?_)
  replace hP : va_P (dC, dI) clA [(h0, .inr (2, [.int 0, .ref q1, .ref q4, .ref q7, .ref q10, .ref q13, .int 0, .ref q16, .ref q19, .null, .null, .null, .int 0, .int 0])), (q1, .inl (cI, 60, .inl (fun _ => 0))), (q4, .inl (cI, 60, .inl (fun _ => 0))), (q7, .inl (cI, 60, .inl (fun _ => 0))), (q10, .inl (cL, 60, .inr (.inl (fun _ => 0)))), (q13, .inl (cL, 8, .inr (.inl (fun _ => 0)))), (q16, .inl (cI, 30, .inl (fun _ => 0))), (q19, .inl (cL, 30, .inr (.inl (fun _ => 0)))), (q22, .inl (cI, 30, .inl (fun _ => 0)))] H23 := hPn
  replace hD : va_D A [(h0, .inr (2, [.int 0, .ref q1, .ref q4, .ref q7, .ref q10, .ref q13, .int 0, .ref q16, .ref q19, .null, .null, .null, .int 0, .int 0])), (q1, .inl (cI, 60, .inl (fun _ => 0))), (q4, .inl (cI, 60, .inl (fun _ => 0))), (q7, .inl (cI, 60, .inl (fun _ => 0))), (q10, .inl (cL, 60, .inr (.inl (fun _ => 0)))), (q13, .inl (cL, 8, .inr (.inl (fun _ => 0)))), (q16, .inl (cI, 30, .inl (fun _ => 0))), (q19, .inl (cL, 30, .inr (.inl (fun _ => 0)))), (q22, .inl (cI, 30, .inl (fun _ => 0)))] := hDn
  replace hS := hSn
  clear hPn hDn hSn
  refine W.cs (cells' := 8) (slots' := 338) rfl rfl ?_
  refine va_putF (D := (dC, dI)) (ci := 2) (v := .ref q22) (ty := .array .int) (C := "NetUnfolder$Prefix") (T := T_Pf) (N := 14) hx hb ht in_Pf ty_Pf ok_Pf nm_Pf hown hK hP hD hS 0 rfl rfl 9 (by decide) (ht _ wd_1_92) (fun _ h9 => h9) rfl hin rfl (by decide +kernel) rfl rfl (Nat.le_of_ble_eq_true rfl) d_Pf_init_65 (fun H24 locs hPn hDn hSn => ?_)
  replace hP : va_P (dC, dI) clA [(h0, .inr (2, [.int 0, .ref q1, .ref q4, .ref q7, .ref q10, .ref q13, .int 0, .ref q16, .ref q19, .ref q22, .null, .null, .int 0, .int 0])), (q1, .inl (cI, 60, .inl (fun _ => 0))), (q4, .inl (cI, 60, .inl (fun _ => 0))), (q7, .inl (cI, 60, .inl (fun _ => 0))), (q10, .inl (cL, 60, .inr (.inl (fun _ => 0)))), (q13, .inl (cL, 8, .inr (.inl (fun _ => 0)))), (q16, .inl (cI, 30, .inl (fun _ => 0))), (q19, .inl (cL, 30, .inr (.inl (fun _ => 0)))), (q22, .inl (cI, 30, .inl (fun _ => 0)))] H24 := hPn
  replace hD : va_D A [(h0, .inr (2, [.int 0, .ref q1, .ref q4, .ref q7, .ref q10, .ref q13, .int 0, .ref q16, .ref q19, .ref q22, .null, .null, .int 0, .int 0])), (q1, .inl (cI, 60, .inl (fun _ => 0))), (q4, .inl (cI, 60, .inl (fun _ => 0))), (q7, .inl (cI, 60, .inl (fun _ => 0))), (q10, .inl (cL, 60, .inr (.inl (fun _ => 0)))), (q13, .inl (cL, 8, .inr (.inl (fun _ => 0)))), (q16, .inl (cI, 30, .inl (fun _ => 0))), (q19, .inl (cL, 30, .inr (.inl (fun _ => 0)))), (q22, .inl (cI, 30, .inl (fun _ => 0)))] := hDn
  replace hS := hSn
  clear hPn hDn hSn
  refine lv_aload_n hx hb d_Pf_init_68 rfl (lv_at hl 0 rfl) ?_
  refine lv_bipush (v := 30) hx hb d_Pf_init_69 (by decide) ?_
  refine nx_newaI hx hb (ht _ wd_1_55) hK hP hD hS hA 0 rfl (N' := 30) (by decide) (by decide) (Nat.le_of_ble_eq_true rfl) (Nat.le_of_ble_eq_true rfl) (Nat.le_of_ble_eq_true rfl) d_Pf_init_71 (fun q25 H26 hPn hDn hSn => ?_)
  replace hP : va_P (dC, dI) clA [(h0, .inr (2, [.int 0, .ref q1, .ref q4, .ref q7, .ref q10, .ref q13, .int 0, .ref q16, .ref q19, .ref q22, .null, .null, .int 0, .int 0])), (q1, .inl (cI, 60, .inl (fun _ => 0))), (q4, .inl (cI, 60, .inl (fun _ => 0))), (q7, .inl (cI, 60, .inl (fun _ => 0))), (q10, .inl (cL, 60, .inr (.inl (fun _ => 0)))), (q13, .inl (cL, 8, .inr (.inl (fun _ => 0)))), (q16, .inl (cI, 30, .inl (fun _ => 0))), (q19, .inl (cL, 30, .inr (.inl (fun _ => 0)))), (q22, .inl (cI, 30, .inl (fun _ => 0))), (q25, .inl (cI, 30, .inl (fun _ => 0)))] H26 := hPn
  replace hD : va_D A [(h0, .inr (2, [.int 0, .ref q1, .ref q4, .ref q7, .ref q10, .ref q13, .int 0, .ref q16, .ref q19, .ref q22, .null, .null, .int 0, .int 0])), (q1, .inl (cI, 60, .inl (fun _ => 0))), (q4, .inl (cI, 60, .inl (fun _ => 0))), (q7, .inl (cI, 60, .inl (fun _ => 0))), (q10, .inl (cL, 60, .inr (.inl (fun _ => 0)))), (q13, .inl (cL, 8, .inr (.inl (fun _ => 0)))), (q16, .inl (cI, 30, .inl (fun _ => 0))), (q19, .inl (cL, 30, .inr (.inl (fun _ => 0)))), (q22, .inl (cI, 30, .inl (fun _ => 0))), (q25, .inl (cI, 30, .inl (fun _ => 0)))] := hDn
  replace hS := hSn
  clear hPn hDn hSn
  refine W.cs (cells' := 9) (slots' := 368) rfl rfl ?_
  refine va_putF (D := (dC, dI)) (ci := 2) (v := .ref q25) (ty := .array .int) (C := "NetUnfolder$Prefix") (T := T_Pf) (N := 14) hx hb ht in_Pf ty_Pf ok_Pf nm_Pf hown hK hP hD hS 0 rfl rfl 10 (by decide) (ht _ wd_1_95) (fun _ h9 => h9) rfl hin rfl (by decide +kernel) rfl rfl (Nat.le_of_ble_eq_true rfl) d_Pf_init_73 (fun H27 locs hPn hDn hSn => ?_)
  replace hP : va_P (dC, dI) clA [(h0, .inr (2, [.int 0, .ref q1, .ref q4, .ref q7, .ref q10, .ref q13, .int 0, .ref q16, .ref q19, .ref q22, .ref q25, .null, .int 0, .int 0])), (q1, .inl (cI, 60, .inl (fun _ => 0))), (q4, .inl (cI, 60, .inl (fun _ => 0))), (q7, .inl (cI, 60, .inl (fun _ => 0))), (q10, .inl (cL, 60, .inr (.inl (fun _ => 0)))), (q13, .inl (cL, 8, .inr (.inl (fun _ => 0)))), (q16, .inl (cI, 30, .inl (fun _ => 0))), (q19, .inl (cL, 30, .inr (.inl (fun _ => 0)))), (q22, .inl (cI, 30, .inl (fun _ => 0))), (q25, .inl (cI, 30, .inl (fun _ => 0)))] H27 := hPn
  replace hD : va_D A [(h0, .inr (2, [.int 0, .ref q1, .ref q4, .ref q7, .ref q10, .ref q13, .int 0, .ref q16, .ref q19, .ref q22, .ref q25, .null, .int 0, .int 0])), (q1, .inl (cI, 60, .inl (fun _ => 0))), (q4, .inl (cI, 60, .inl (fun _ => 0))), (q7, .inl (cI, 60, .inl (fun _ => 0))), (q10, .inl (cL, 60, .inr (.inl (fun _ => 0)))), (q13, .inl (cL, 8, .inr (.inl (fun _ => 0)))), (q16, .inl (cI, 30, .inl (fun _ => 0))), (q19, .inl (cL, 30, .inr (.inl (fun _ => 0)))), (q22, .inl (cI, 30, .inl (fun _ => 0))), (q25, .inl (cI, 30, .inl (fun _ => 0)))] := hDn
  replace hS := hSn
  clear hPn hDn hSn
  refine lv_aload_n hx hb d_Pf_init_76 rfl (lv_at hl 0 rfl) ?_
  refine lv_bipush (v := 30) hx hb d_Pf_init_77 (by decide) ?_
  refine nx_newaJ hx hb (ht _ wd_1_136) hK hP hD hS hA 1 rfl (N' := 30) (by decide) (by decide) (Nat.le_of_ble_eq_true rfl) (Nat.le_of_ble_eq_true rfl) (Nat.le_of_ble_eq_true rfl) d_Pf_init_79 (fun q28 H29 hPn hDn hSn => ?_)
  replace hP : va_P (dC, dI) clA [(h0, .inr (2, [.int 0, .ref q1, .ref q4, .ref q7, .ref q10, .ref q13, .int 0, .ref q16, .ref q19, .ref q22, .ref q25, .null, .int 0, .int 0])), (q1, .inl (cI, 60, .inl (fun _ => 0))), (q4, .inl (cI, 60, .inl (fun _ => 0))), (q7, .inl (cI, 60, .inl (fun _ => 0))), (q10, .inl (cL, 60, .inr (.inl (fun _ => 0)))), (q13, .inl (cL, 8, .inr (.inl (fun _ => 0)))), (q16, .inl (cI, 30, .inl (fun _ => 0))), (q19, .inl (cL, 30, .inr (.inl (fun _ => 0)))), (q22, .inl (cI, 30, .inl (fun _ => 0))), (q25, .inl (cI, 30, .inl (fun _ => 0))), (q28, .inl (cL, 30, .inr (.inl (fun _ => 0))))] H29 := hPn
  replace hD : va_D A [(h0, .inr (2, [.int 0, .ref q1, .ref q4, .ref q7, .ref q10, .ref q13, .int 0, .ref q16, .ref q19, .ref q22, .ref q25, .null, .int 0, .int 0])), (q1, .inl (cI, 60, .inl (fun _ => 0))), (q4, .inl (cI, 60, .inl (fun _ => 0))), (q7, .inl (cI, 60, .inl (fun _ => 0))), (q10, .inl (cL, 60, .inr (.inl (fun _ => 0)))), (q13, .inl (cL, 8, .inr (.inl (fun _ => 0)))), (q16, .inl (cI, 30, .inl (fun _ => 0))), (q19, .inl (cL, 30, .inr (.inl (fun _ => 0)))), (q22, .inl (cI, 30, .inl (fun _ => 0))), (q25, .inl (cI, 30, .inl (fun _ => 0))), (q28, .inl (cL, 30, .inr (.inl (fun _ => 0))))] := hDn
  replace hS := hSn
  clear hPn hDn hSn
  refine W.cs (cells' := 10) (slots' := 398) rfl rfl ?_
  refine va_putF (D := (dC, dI)) (ci := 2) (v := .ref q28) (ty := .array .long) (C := "NetUnfolder$Prefix") (T := T_Pf) (N := 14) hx hb ht in_Pf ty_Pf ok_Pf nm_Pf hown hK hP hD hS 0 rfl rfl 11 (by decide) (ht _ wd_1_98) (fun _ h9 => h9) rfl hin rfl (by decide +kernel) rfl rfl (Nat.le_of_ble_eq_true rfl) d_Pf_init_81 (fun H30 locs hPn hDn hSn => ?_)
  replace hP : va_P (dC, dI) clA [(h0, .inr (2, [.int 0, .ref q1, .ref q4, .ref q7, .ref q10, .ref q13, .int 0, .ref q16, .ref q19, .ref q22, .ref q25, .ref q28, .int 0, .int 0])), (q1, .inl (cI, 60, .inl (fun _ => 0))), (q4, .inl (cI, 60, .inl (fun _ => 0))), (q7, .inl (cI, 60, .inl (fun _ => 0))), (q10, .inl (cL, 60, .inr (.inl (fun _ => 0)))), (q13, .inl (cL, 8, .inr (.inl (fun _ => 0)))), (q16, .inl (cI, 30, .inl (fun _ => 0))), (q19, .inl (cL, 30, .inr (.inl (fun _ => 0)))), (q22, .inl (cI, 30, .inl (fun _ => 0))), (q25, .inl (cI, 30, .inl (fun _ => 0))), (q28, .inl (cL, 30, .inr (.inl (fun _ => 0))))] H30 := hPn
  replace hD : va_D A [(h0, .inr (2, [.int 0, .ref q1, .ref q4, .ref q7, .ref q10, .ref q13, .int 0, .ref q16, .ref q19, .ref q22, .ref q25, .ref q28, .int 0, .int 0])), (q1, .inl (cI, 60, .inl (fun _ => 0))), (q4, .inl (cI, 60, .inl (fun _ => 0))), (q7, .inl (cI, 60, .inl (fun _ => 0))), (q10, .inl (cL, 60, .inr (.inl (fun _ => 0)))), (q13, .inl (cL, 8, .inr (.inl (fun _ => 0)))), (q16, .inl (cI, 30, .inl (fun _ => 0))), (q19, .inl (cL, 30, .inr (.inl (fun _ => 0)))), (q22, .inl (cI, 30, .inl (fun _ => 0))), (q25, .inl (cI, 30, .inl (fun _ => 0))), (q28, .inl (cL, 30, .inr (.inl (fun _ => 0))))] := hDn
  replace hS := hSn
  clear hPn hDn hSn
  have hP9 := hP.sub (ws' := [(h0, .inr (2, [.int 0, .ref q1, .ref q4, .ref q7, .ref q10, .ref q13, .int 0, .ref q16, .ref q19, .ref q22, .ref q25, .ref q28, .int 0, .int 0])), (q1, .inl (cI, 60, .inl (fun _ => 0))), (q4, .inl (cI, 60, .inl (fun _ => 0))), (q7, .inl (cI, 60, .inl (fun _ => 0))), (q10, .inl (cL, 60, .inr (.inl (fun _ => 0)))), (q13, .inl (cL, 8, .inr (.inl (fun _ => 0)))), (q16, .inl (cI, 30, .inl (fun _ => 0))), (q19, .inl (cL, 30, .inr (.inl (fun _ => 0)))), (q22, .inl (cI, 30, .inl (fun _ => 0))), (q25, .inl (cI, 30, .inl (fun _ => 0))), (q28, .inl (cL, 30, .inr (.inl (fun _ => 0))))]) [0, 1, 2, 3, 4, 5, 6, 7, 8, 9, 10] rfl
  have hD9 := hD.sub (ws' := [(h0, .inr (2, [.int 0, .ref q1, .ref q4, .ref q7, .ref q10, .ref q13, .int 0, .ref q16, .ref q19, .ref q22, .ref q25, .ref q28, .int 0, .int 0])), (q1, .inl (cI, 60, .inl (fun _ => 0))), (q4, .inl (cI, 60, .inl (fun _ => 0))), (q7, .inl (cI, 60, .inl (fun _ => 0))), (q10, .inl (cL, 60, .inr (.inl (fun _ => 0)))), (q13, .inl (cL, 8, .inr (.inl (fun _ => 0)))), (q16, .inl (cI, 30, .inl (fun _ => 0))), (q19, .inl (cL, 30, .inr (.inl (fun _ => 0)))), (q22, .inl (cI, 30, .inl (fun _ => 0))), (q25, .inl (cI, 30, .inl (fun _ => 0))), (q28, .inl (cL, 30, .inr (.inl (fun _ => 0))))]) [0, 1, 2, 3, 4, 5, 6, 7, 8, 9, 10] (by decide) rfl
  exact W.vret hx hb hr (fun t ht9 hW => ⟨⟨(), rfl, trivial, q1, q4, q7, q10, q13, q16, q19, q22, q25, q28, by rw [ht9]; exact hP9, hD9⟩, hS.F ht9⟩) hS.2.2 d_Pf_init_84

set_option maxHeartbeats 4000000 in
set_option maxRecDepth 100000 in
theorem c_Po_init (l : Launch) (dC : Nat → ClassId) (dI : Nat → Nat → Nat) (cI cL cZ : ClassId) (sz : Nat) (h0 : Nat) (h1 : Nat) : Met l y_Po_init (Cond.code y_Po_init prog_4_method_1_code 2 none :: wsA) { frames := 1, cells := 3, slots := 603, locals := 12 } (va_Pc [.ref h0, .ref h1] (fun U => U.heap.size = sz ∧ va_P (dC, dI) clA [(h0, .inr (5, [.null, .int 0, .null, .null, .null]))] U.heap ∧ va_K (dC, dI) clA [(cI, .int), (cL, .long), (cZ, .boolean)] U ∧ va_D (fun _ => True) [(h0, .inr (5, [.null, .int 0, .null, .null, .null]))] ∧ NwA U)) (va_Qv (fun _ : Unit => True) (fun _ t => ∃ q1 q4 q7 : Nat, va_P (dC, dI) clA [(h0, .inr (5, [.ref h1, .int 0, .ref q1, .ref q4, .ref q7])), (q1, .inl (cI, 201, .inl (fun _ => 0))), (q4, .inl (cL, 201, .inr (.inl (fun _ => 0)))), (q7, .inl (cL, 201, .inr (.inl (fun _ => 0))))] t.heap ∧ va_D (va_A [(h0, .inr (5, [.null, .int 0, .null, .null, .null]))] sz) [(h0, .inr (5, [.ref h1, .int 0, .ref q1, .ref q4, .ref q7])), (q1, .inl (cI, 201, .inl (fun _ => 0))), (q4, .inl (cL, 201, .inr (.inl (fun _ => 0)))), (q7, .inl (cL, 201, .inr (.inl (fun _ => 0))))]) (va_A [(h0, .inr (5, [.null, .int 0, .null, .null, .null]))] sz)) 3 603 (va_A [(h0, .inr (5, [.null, .int 0, .null, .null, .null]))] sz) := by
  refine Met.ofW (cc := prog_4_method_1_code) (maxL := 2) (ret := none) (by decide) rfl ?_
  intro p e s m args below meth c s₁ B hml hv
  obtain ⟨rfl, hsz, hP, hK, hD0, hN⟩ := hv
  have hx := B.exec
  have hb := B.bytes
  have hr := B.returns
  have ht : ∀ w ∈ wsA, w.before _ s = true := fun w h => atoms_spec (ws := (Cond.code y_Po_init prog_4_method_1_code 2 none :: wsA)) B.pre w (List.mem_cons_of_mem _ h)
  have hown : s.vm.findClass "NetUnfolder$Possible" = some m.cls := findClass_of_methodNamed B.named
  have hlocks := B.notSynchronized
  have hin : meth.name = "<init>" := (name_of_methodNamed B.named B.method).1
  subst hsz
  have hD := hD0.self (sz := s.heap.size)
  generalize hAe : va_A [(h0, .inr (5, [.null, .int 0, .null, .null, .null]))] s.heap.size = A at hD ⊢
  have hA : ∀ q : Nat, s.heap.size ≤ q → A q := fun q h => by rw [← hAe]; exact Or.inr h
  have hS : va_S A s.heap s.heap [] := va_S.rf
  have hl := lv_entry ([.ref h0, .ref h1]) (n := 2) (Nat.le_of_ble_eq_true rfl)
  rw [lg_entry_eq]
  generalize (lg_sl ([.ref h0, .ref h1]) ++ List.replicate (2 - (lg_sl ([.ref h0, .ref h1])).length) Slot.unset).toArray = ls at hl ⊢
  replace hl : lv_has ls 2 [(0, .ref h0), (1, .ref h1)] := hl
  refine lv_aload_n hx hb d_Po_init_0 rfl (lv_at hl 0 rfl) ?_
  refine W.objInit hx hb hown (ht (.methodLink "NetUnfolder$Possible" 3 Lib.objectInit) wd_1_163) (ht (.instanceMethod Lib.objectInit) wd_1_25) (ht (.code Lib.objectInit ⟨#[0xb1]⟩ 1 none) wd_1_26) rfl (by rw [hml]; exact hl.1) rfl d_Po_init_1 (Nat.le_of_ble_eq_true rfl) (Nat.le_of_ble_eq_true rfl) ?_
  refine W.eq (g2 := F0 m 4 ls []) rfl ?_
  refine lv_aload_n hx hb d_Po_init_4 rfl (lv_at hl 0 rfl) ?_
  refine lv_sipush (v := 201) hx hb d_Po_init_5 (by decide) ?_
  refine nx_newaI hx hb (ht _ wd_1_55) hK hP hD hS hA 0 rfl (N' := 201) (by decide) (by decide) (Nat.le_of_ble_eq_true rfl) (Nat.le_of_ble_eq_true rfl) (Nat.le_of_ble_eq_true rfl) d_Po_init_8 (fun q1 H2 hPn hDn hSn => ?_)
  replace hP : va_P (dC, dI) clA [(h0, .inr (5, [.null, .int 0, .null, .null, .null])), (q1, .inl (cI, 201, .inl (fun _ => 0)))] H2 := hPn
  replace hD : va_D A [(h0, .inr (5, [.null, .int 0, .null, .null, .null])), (q1, .inl (cI, 201, .inl (fun _ => 0)))] := hDn
  replace hS := hSn
  clear hPn hDn hSn
  refine W.cs (cells' := 1) (slots' := 201) rfl rfl ?_
  refine va_putF (D := (dC, dI)) (ci := 5) (v := .ref q1) (ty := .array .int) (C := "NetUnfolder$Possible") (T := T_Po) (N := 5) hx hb ht in_Po ty_Po ok_Po nm_Po hown hK hP hD hS 0 rfl rfl 2 (by decide) (ht _ wd_1_167) (fun _ h9 => h9) rfl hin rfl (by decide +kernel) rfl rfl (Nat.le_of_ble_eq_true rfl) d_Po_init_10 (fun H3 locs hPn hDn hSn => ?_)
  replace hP : va_P (dC, dI) clA [(h0, .inr (5, [.null, .int 0, .ref q1, .null, .null])), (q1, .inl (cI, 201, .inl (fun _ => 0)))] H3 := hPn
  replace hD : va_D A [(h0, .inr (5, [.null, .int 0, .ref q1, .null, .null])), (q1, .inl (cI, 201, .inl (fun _ => 0)))] := hDn
  replace hS := hSn
  clear hPn hDn hSn
  refine lv_aload_n hx hb d_Po_init_13 rfl (lv_at hl 0 rfl) ?_
  refine lv_sipush (v := 201) hx hb d_Po_init_14 (by decide) ?_
  refine nx_newaJ hx hb (ht _ wd_1_136) hK hP hD hS hA 1 rfl (N' := 201) (by decide) (by decide) (Nat.le_of_ble_eq_true rfl) (Nat.le_of_ble_eq_true rfl) (Nat.le_of_ble_eq_true rfl) d_Po_init_17 (fun q4 H5 hPn hDn hSn => ?_)
  replace hP : va_P (dC, dI) clA [(h0, .inr (5, [.null, .int 0, .ref q1, .null, .null])), (q1, .inl (cI, 201, .inl (fun _ => 0))), (q4, .inl (cL, 201, .inr (.inl (fun _ => 0))))] H5 := hPn
  replace hD : va_D A [(h0, .inr (5, [.null, .int 0, .ref q1, .null, .null])), (q1, .inl (cI, 201, .inl (fun _ => 0))), (q4, .inl (cL, 201, .inr (.inl (fun _ => 0))))] := hDn
  replace hS := hSn
  clear hPn hDn hSn
  refine W.cs (cells' := 2) (slots' := 402) rfl rfl ?_
  refine va_putF (D := (dC, dI)) (ci := 5) (v := .ref q4) (ty := .array .long) (C := "NetUnfolder$Possible") (T := T_Po) (N := 5) hx hb ht in_Po ty_Po ok_Po nm_Po hown hK hP hD hS 0 rfl rfl 3 (by decide) (ht _ wd_1_169) (fun _ h9 => h9) rfl hin rfl (by decide +kernel) rfl rfl (Nat.le_of_ble_eq_true rfl) d_Po_init_19 (fun H6 locs hPn hDn hSn => ?_)
  replace hP : va_P (dC, dI) clA [(h0, .inr (5, [.null, .int 0, .ref q1, .ref q4, .null])), (q1, .inl (cI, 201, .inl (fun _ => 0))), (q4, .inl (cL, 201, .inr (.inl (fun _ => 0))))] H6 := hPn
  replace hD : va_D A [(h0, .inr (5, [.null, .int 0, .ref q1, .ref q4, .null])), (q1, .inl (cI, 201, .inl (fun _ => 0))), (q4, .inl (cL, 201, .inr (.inl (fun _ => 0))))] := hDn
  replace hS := hSn
  clear hPn hDn hSn
  refine lv_aload_n hx hb d_Po_init_22 rfl (lv_at hl 0 rfl) ?_
  refine lv_sipush (v := 201) hx hb d_Po_init_23 (by decide) ?_
  refine nx_newaJ hx hb (ht _ wd_1_136) hK hP hD hS hA 1 rfl (N' := 201) (by decide) (by decide) (Nat.le_of_ble_eq_true rfl) (Nat.le_of_ble_eq_true rfl) (Nat.le_of_ble_eq_true rfl) d_Po_init_26 (fun q7 H8 hPn hDn hSn => ?_)
  replace hP : va_P (dC, dI) clA [(h0, .inr (5, [.null, .int 0, .ref q1, .ref q4, .null])), (q1, .inl (cI, 201, .inl (fun _ => 0))), (q4, .inl (cL, 201, .inr (.inl (fun _ => 0)))), (q7, .inl (cL, 201, .inr (.inl (fun _ => 0))))] H8 := hPn
  replace hD : va_D A [(h0, .inr (5, [.null, .int 0, .ref q1, .ref q4, .null])), (q1, .inl (cI, 201, .inl (fun _ => 0))), (q4, .inl (cL, 201, .inr (.inl (fun _ => 0)))), (q7, .inl (cL, 201, .inr (.inl (fun _ => 0))))] := hDn
  replace hS := hSn
  clear hPn hDn hSn
  refine W.cs (cells' := 3) (slots' := 603) rfl rfl ?_
  refine va_putF (D := (dC, dI)) (ci := 5) (v := .ref q7) (ty := .array .long) (C := "NetUnfolder$Possible") (T := T_Po) (N := 5) hx hb ht in_Po ty_Po ok_Po nm_Po hown hK hP hD hS 0 rfl rfl 4 (by decide) (ht _ wd_1_171) (fun _ h9 => h9) rfl hin rfl (by decide +kernel) rfl rfl (Nat.le_of_ble_eq_true rfl) d_Po_init_28 (fun H9 locs hPn hDn hSn => ?_)
  replace hP : va_P (dC, dI) clA [(h0, .inr (5, [.null, .int 0, .ref q1, .ref q4, .ref q7])), (q1, .inl (cI, 201, .inl (fun _ => 0))), (q4, .inl (cL, 201, .inr (.inl (fun _ => 0)))), (q7, .inl (cL, 201, .inr (.inl (fun _ => 0))))] H9 := hPn
  replace hD : va_D A [(h0, .inr (5, [.null, .int 0, .ref q1, .ref q4, .ref q7])), (q1, .inl (cI, 201, .inl (fun _ => 0))), (q4, .inl (cL, 201, .inr (.inl (fun _ => 0)))), (q7, .inl (cL, 201, .inr (.inl (fun _ => 0))))] := hDn
  replace hS := hSn
  clear hPn hDn hSn
  refine lv_aload_n hx hb d_Po_init_31 rfl (lv_at hl 0 rfl) ?_
  refine lv_aload_n hx hb d_Po_init_32 rfl (lv_at hl 1 rfl) ?_
  refine va_putF (D := (dC, dI)) (ci := 5) (v := .ref h1) (ty := .object "NetUnfolder$Prefix") (C := "NetUnfolder$Possible") (T := T_Po) (N := 5) hx hb ht in_Po ty_Po ok_Po nm_Po hown hK hP hD hS 0 rfl rfl 0 (by decide) (ht _ wd_1_164) (fun _ h9 => h9) rfl hin rfl (by decide +kernel) rfl rfl (Nat.le_of_ble_eq_true rfl) d_Po_init_33 (fun H10 locs hPn hDn hSn => ?_)
  replace hP : va_P (dC, dI) clA [(h0, .inr (5, [.ref h1, .int 0, .ref q1, .ref q4, .ref q7])), (q1, .inl (cI, 201, .inl (fun _ => 0))), (q4, .inl (cL, 201, .inr (.inl (fun _ => 0)))), (q7, .inl (cL, 201, .inr (.inl (fun _ => 0))))] H10 := hPn
  replace hD : va_D A [(h0, .inr (5, [.ref h1, .int 0, .ref q1, .ref q4, .ref q7])), (q1, .inl (cI, 201, .inl (fun _ => 0))), (q4, .inl (cL, 201, .inr (.inl (fun _ => 0)))), (q7, .inl (cL, 201, .inr (.inl (fun _ => 0))))] := hDn
  replace hS := hSn
  clear hPn hDn hSn
  have hP9 := hP.sub (ws' := [(h0, .inr (5, [.ref h1, .int 0, .ref q1, .ref q4, .ref q7])), (q1, .inl (cI, 201, .inl (fun _ => 0))), (q4, .inl (cL, 201, .inr (.inl (fun _ => 0)))), (q7, .inl (cL, 201, .inr (.inl (fun _ => 0))))]) [0, 1, 2, 3] rfl
  have hD9 := hD.sub (ws' := [(h0, .inr (5, [.ref h1, .int 0, .ref q1, .ref q4, .ref q7])), (q1, .inl (cI, 201, .inl (fun _ => 0))), (q4, .inl (cL, 201, .inr (.inl (fun _ => 0)))), (q7, .inl (cL, 201, .inr (.inl (fun _ => 0))))]) [0, 1, 2, 3] (by decide) rfl
  exact W.vret hx hb hr (fun t ht9 hW => ⟨⟨(), rfl, trivial, q1, q4, q7, by rw [ht9]; exact hP9, hD9⟩, hS.F ht9⟩) hS.2.2 d_Po_init_36

set_option maxHeartbeats 4000000 in
set_option maxRecDepth 100000 in
theorem c_Un_init (l : Launch) (dC : Nat → ClassId) (dI : Nat → Nat → Nat) (cI cL cZ : ClassId) (sz : Nat) (h0 : Nat) (h1 : Nat) (h2 : Nat) (h3 : Nat) : Met l y_Un_init (Cond.code y_Un_init prog_8_method_1_code 4 none :: wsA) { frames := 2, cells := 4, slots := 608, locals := 33 } (va_Pc [.ref h0, .ref h1, .ref h2, .ref h3] (fun U => U.heap.size = sz ∧ va_P (dC, dI) clA [(h0, .inr (4, [.null, .null, .null, .null]))] U.heap ∧ va_K (dC, dI) clA [(cI, .int), (cL, .long), (cZ, .boolean)] U ∧ va_D (fun _ => True) [(h0, .inr (4, [.null, .null, .null, .null]))] ∧ NwA U)) (va_Qv (fun _ : Unit => True) (fun _ t => ∃ q4 q8 q9 q10 : Nat, va_P (dC, dI) clA [(h0, .inr (4, [.ref h1, .ref h2, .ref h3, .ref q4])), (q4, .inr (5, [.ref h2, .int 0, .ref q8, .ref q9, .ref q10])), (q8, .inl (cI, 201, .inl (fun _ => 0))), (q9, .inl (cL, 201, .inr (.inl (fun _ => 0)))), (q10, .inl (cL, 201, .inr (.inl (fun _ => 0))))] t.heap ∧ va_D (va_A [(h0, .inr (4, [.null, .null, .null, .null]))] sz) [(h0, .inr (4, [.ref h1, .ref h2, .ref h3, .ref q4])), (q4, .inr (5, [.ref h2, .int 0, .ref q8, .ref q9, .ref q10])), (q8, .inl (cI, 201, .inl (fun _ => 0))), (q9, .inl (cL, 201, .inr (.inl (fun _ => 0)))), (q10, .inl (cL, 201, .inr (.inl (fun _ => 0))))]) (va_A [(h0, .inr (4, [.null, .null, .null, .null]))] sz)) 4 608 (va_A [(h0, .inr (4, [.null, .null, .null, .null]))] sz) := by
  refine Met.ofW (cc := prog_8_method_1_code) (maxL := 4) (ret := none) (by decide) rfl ?_
  intro p e s m args below meth c s₁ B hml hv
  obtain ⟨rfl, hsz, hP, hK, hD0, hN⟩ := hv
  have hx := B.exec
  have hb := B.bytes
  have hr := B.returns
  have ht : ∀ w ∈ wsA, w.before _ s = true := fun w h => atoms_spec (ws := (Cond.code y_Un_init prog_8_method_1_code 4 none :: wsA)) B.pre w (List.mem_cons_of_mem _ h)
  have hown : s.vm.findClass "NetUnfolder$Unfolding" = some m.cls := findClass_of_methodNamed B.named
  have hlocks := B.notSynchronized
  have hin : meth.name = "<init>" := (name_of_methodNamed B.named B.method).1
  subst hsz
  have hD := hD0.self (sz := s.heap.size)
  generalize hAe : va_A [(h0, .inr (4, [.null, .null, .null, .null]))] s.heap.size = A at hD ⊢
  have hA : ∀ q : Nat, s.heap.size ≤ q → A q := fun q h => by rw [← hAe]; exact Or.inr h
  have hS : va_S A s.heap s.heap [] := va_S.rf
  have hl := lv_entry ([.ref h0, .ref h1, .ref h2, .ref h3]) (n := 4) (Nat.le_of_ble_eq_true rfl)
  rw [lg_entry_eq]
  generalize (lg_sl ([.ref h0, .ref h1, .ref h2, .ref h3]) ++ List.replicate (4 - (lg_sl ([.ref h0, .ref h1, .ref h2, .ref h3])).length) Slot.unset).toArray = ls at hl ⊢
  replace hl : lv_has ls 4 [(0, .ref h0), (1, .ref h1), (2, .ref h2), (3, .ref h3)] := hl
  refine lv_aload_n hx hb d_Un_init_0 rfl (lv_at hl 0 rfl) ?_
  refine W.objInit hx hb hown (ht (.methodLink "NetUnfolder$Unfolding" 3 Lib.objectInit) wd_1_157) (ht (.instanceMethod Lib.objectInit) wd_1_25) (ht (.code Lib.objectInit ⟨#[0xb1]⟩ 1 none) wd_1_26) rfl (by rw [hml]; exact hl.1) rfl d_Un_init_1 (Nat.le_of_ble_eq_true rfl) (Nat.le_of_ble_eq_true rfl) ?_
  refine W.eq (g2 := F0 m 4 ls []) rfl ?_
  refine lv_aload_n hx hb d_Un_init_4 rfl (lv_at hl 0 rfl) ?_
  refine lv_aload_n hx hb d_Un_init_5 rfl (lv_at hl 1 rfl) ?_
  refine va_putF (D := (dC, dI)) (ci := 4) (v := .ref h1) (ty := .object "NetUnfolder$Net") (C := "NetUnfolder$Unfolding") (T := T_Un) (N := 4) hx hb ht in_Un ty_Un ok_Un nm_Un hown hK hP hD hS 0 rfl rfl 0 (by decide) (ht _ wd_1_184) (fun _ h9 => h9) rfl hin rfl (by decide +kernel) rfl rfl (Nat.le_of_ble_eq_true rfl) d_Un_init_6 (fun H1 locs hPn hDn hSn => ?_)
  replace hP : va_P (dC, dI) clA [(h0, .inr (4, [.ref h1, .null, .null, .null]))] H1 := hPn
  replace hD : va_D A [(h0, .inr (4, [.ref h1, .null, .null, .null]))] := hDn
  replace hS := hSn
  clear hPn hDn hSn
  refine lv_aload_n hx hb d_Un_init_9 rfl (lv_at hl 0 rfl) ?_
  refine lv_aload_n hx hb d_Un_init_10 rfl (lv_at hl 2 rfl) ?_
  refine va_putF (D := (dC, dI)) (ci := 4) (v := .ref h2) (ty := .object "NetUnfolder$Prefix") (C := "NetUnfolder$Unfolding") (T := T_Un) (N := 4) hx hb ht in_Un ty_Un ok_Un nm_Un hown hK hP hD hS 0 rfl rfl 1 (by decide) (ht _ wd_1_185) (fun _ h9 => h9) rfl hin rfl (by decide +kernel) rfl rfl (Nat.le_of_ble_eq_true rfl) d_Un_init_11 (fun H2 locs hPn hDn hSn => ?_)
  replace hP : va_P (dC, dI) clA [(h0, .inr (4, [.ref h1, .ref h2, .null, .null]))] H2 := hPn
  replace hD : va_D A [(h0, .inr (4, [.ref h1, .ref h2, .null, .null]))] := hDn
  replace hS := hSn
  clear hPn hDn hSn
  refine lv_aload_n hx hb d_Un_init_14 rfl (lv_at hl 0 rfl) ?_
  refine lv_aload_n hx hb d_Un_init_15 rfl (lv_at hl 3 rfl) ?_
  refine va_putF (D := (dC, dI)) (ci := 4) (v := .ref h3) (ty := .object "NetUnfolder$Way") (C := "NetUnfolder$Unfolding") (T := T_Un) (N := 4) hx hb ht in_Un ty_Un ok_Un nm_Un hown hK hP hD hS 0 rfl rfl 2 (by decide) (ht _ wd_1_186) (fun _ h9 => h9) rfl hin rfl (by decide +kernel) rfl rfl (Nat.le_of_ble_eq_true rfl) d_Un_init_16 (fun H3 locs hPn hDn hSn => ?_)
  replace hP : va_P (dC, dI) clA [(h0, .inr (4, [.ref h1, .ref h2, .ref h3, .null]))] H3 := hPn
  replace hD : va_D A [(h0, .inr (4, [.ref h1, .ref h2, .ref h3, .null]))] := hDn
  replace hS := hSn
  clear hPn hDn hSn
  refine lv_aload_n hx hb d_Un_init_19 rfl (lv_at hl 0 rfl) ?_
  refine va_new (ci := 5) (fs := [.null, .int 0, .null, .null, .null]) (C := "NetUnfolder$Possible") (T := T_Po) (N := 5) hx hb ht in_Po ty_Po ok_Po hown (ht _ wd_1_158) (ht _ wd_1_159) (ht _ wd_1_6) hK hP hD hS hA rfl (by decide +kernel) (Nat.le_of_ble_eq_true rfl) (Nat.le_of_ble_eq_true rfl) d_Un_init_20 (fun q4 H5 hPn hDn hSn => ?_)
  replace hP : va_P (dC, dI) clA [(h0, .inr (4, [.ref h1, .ref h2, .ref h3, .null])), (q4, .inr (5, [.null, .int 0, .null, .null, .null]))] H5 := hPn
  replace hD : va_D A [(h0, .inr (4, [.ref h1, .ref h2, .ref h3, .null])), (q4, .inr (5, [.null, .int 0, .null, .null, .null]))] := hDn
  replace hS := hSn
  clear hPn hDn hSn
  refine W.cs (cells' := 1) (slots' := 5) rfl rfl ?_
  refine lv_dup hx hb d_Un_init_23 rfl ?_
  refine lv_aload_n hx hb d_Un_init_24 rfl (lv_at hl 2 rfl) ?_
  have hPc := hP.sub (ws' := [(q4, .inr (5, [.null, .int 0, .null, .null, .null]))]) [1] rfl
  have hDc := hD.sub (ws' := [(q4, .inr (5, [.null, .int 0, .null, .null, .null]))]) [1] (by decide) rfl
  have hFc := va_free (wc := [(q4, .inr (5, [.null, .int 0, .null, .null, .null]))]) hD hS hA [1] rfl
  refine va_callv (va_runI (As := [.ref h2]) (rest := [.ref q4, .ref h0]) ⟨hx, hb, hml, hown, ht⟩ (c_Po_init l dC dI cI cL cZ _ q4 h2 ) (cwI 1 ht (goodA wd_1_162) rfl rfl rfl (ht _ wd_1_6) (ht _ wd_1_160) (ht _ wd_1_161) rfl (by decide +kernel) ⟨Nat.le_of_ble_eq_true rfl, Nat.le_of_ble_eq_true rfl⟩) ⟨fun a U g mk q => by obtain ⟨q0, q1, qP, qK, qD, qN⟩ := q; exact ⟨q0, q1, qP, va_K.moved (u := U) (U := U.calling g mk a) (Vm.Alike.refl U.vm) qK, qD, NwA.same (u := U) rfl qN⟩, fun U hU hW => ⟨rfl, by rw [hU], by rw [hU]; exact hPc, va_K.moved hW.alike hK, hDc.weaken (fun _ _ _ _ => trivial), NwA.warm hW hN⟩⟩ rfl rfl hl.1 rfl (lv_room (Nat.le_of_ble_eq_true rfl)) d_Un_init_25 ⟨Nat.le_of_ble_eq_true rfl, Nat.le_of_ble_eq_true rfl⟩) hS (fun q _ h => hFc q h) hFc (fun u t H6 locs ht9 hvm hw7 hB hz1 hk1 hSn => ?_)
  obtain ⟨q8, q9, q10, hP1, hD1⟩ := hB
  rw [ht9] at hP1
  obtain ⟨hPn, hDn⟩ := va_join (wr := [(h0, .inr (4, [.ref h1, .ref h2, .ref h3, .null]))]) (w1 := [(q4, .inr (5, [.ref h2, .int 0, .ref q8, .ref q9, .ref q10])), (q8, .inl (cI, 201, .inl (fun _ => 0))), (q9, .inl (cL, 201, .inr (.inl (fun _ => 0)))), (q10, .inl (cL, 201, .inr (.inl (fun _ => 0))))]) hP hD [1] [0] rfl rfl (by decide) (by decide) hk1 hFc hP1 hD1
  replace hP : va_P (dC, dI) clA [(h0, .inr (4, [.ref h1, .ref h2, .ref h3, .null])), (q4, .inr (5, [.ref h2, .int 0, .ref q8, .ref q9, .ref q10])), (q8, .inl (cI, 201, .inl (fun _ => 0))), (q9, .inl (cL, 201, .inr (.inl (fun _ => 0)))), (q10, .inl (cL, 201, .inr (.inl (fun _ => 0))))] H6 := hPn
  replace hD : va_D A [(h0, .inr (4, [.ref h1, .ref h2, .ref h3, .null])), (q4, .inr (5, [.ref h2, .int 0, .ref q8, .ref q9, .ref q10])), (q8, .inl (cI, 201, .inl (fun _ => 0))), (q9, .inl (cL, 201, .inr (.inl (fun _ => 0)))), (q10, .inl (cL, 201, .inr (.inl (fun _ => 0))))] := hDn
  replace hS := hSn
  clear hPn hDn hSn
  clear hPc hDc hFc hP1 hD1 hk1 hz1 ht9 hvm
  refine W.cs (cells' := 4) (slots' := 608) rfl rfl ?_
  refine va_putF (D := (dC, dI)) (ci := 4) (v := .ref q4) (ty := .object "NetUnfolder$Possible") (C := "NetUnfolder$Unfolding") (T := T_Un) (N := 4) hx hb ht in_Un ty_Un ok_Un nm_Un hown hK hP hD hS 0 rfl rfl 3 (by decide) (ht _ wd_1_187) (fun _ h9 => h9) rfl hin rfl (by decide +kernel) rfl rfl (Nat.le_of_ble_eq_true rfl) d_Un_init_28 (fun H11 locs hPn hDn hSn => ?_)
  replace hP : va_P (dC, dI) clA [(h0, .inr (4, [.ref h1, .ref h2, .ref h3, .ref q4])), (q4, .inr (5, [.ref h2, .int 0, .ref q8, .ref q9, .ref q10])), (q8, .inl (cI, 201, .inl (fun _ => 0))), (q9, .inl (cL, 201, .inr (.inl (fun _ => 0)))), (q10, .inl (cL, 201, .inr (.inl (fun _ => 0))))] H11 := hPn
  replace hD : va_D A [(h0, .inr (4, [.ref h1, .ref h2, .ref h3, .ref q4])), (q4, .inr (5, [.ref h2, .int 0, .ref q8, .ref q9, .ref q10])), (q8, .inl (cI, 201, .inl (fun _ => 0))), (q9, .inl (cL, 201, .inr (.inl (fun _ => 0)))), (q10, .inl (cL, 201, .inr (.inl (fun _ => 0))))] := hDn
  replace hS := hSn
  clear hPn hDn hSn
  have hP9 := hP.sub (ws' := [(h0, .inr (4, [.ref h1, .ref h2, .ref h3, .ref q4])), (q4, .inr (5, [.ref h2, .int 0, .ref q8, .ref q9, .ref q10])), (q8, .inl (cI, 201, .inl (fun _ => 0))), (q9, .inl (cL, 201, .inr (.inl (fun _ => 0)))), (q10, .inl (cL, 201, .inr (.inl (fun _ => 0))))]) [0, 1, 2, 3, 4] rfl
  have hD9 := hD.sub (ws' := [(h0, .inr (4, [.ref h1, .ref h2, .ref h3, .ref q4])), (q4, .inr (5, [.ref h2, .int 0, .ref q8, .ref q9, .ref q10])), (q8, .inl (cI, 201, .inl (fun _ => 0))), (q9, .inl (cL, 201, .inr (.inl (fun _ => 0)))), (q10, .inl (cL, 201, .inr (.inl (fun _ => 0))))]) [0, 1, 2, 3, 4] (by decide) rfl
  exact W.vret hx hb hr (fun t ht9 hW => ⟨⟨(), rfl, trivial, q4, q8, q9, q10, by rw [ht9]; exact hP9, hD9⟩, hS.F ht9⟩) hS.2.2 d_Un_init_31

set_option maxHeartbeats 4000000 in
set_option maxRecDepth 100000 in
theorem c_Cs_init (l : Launch) (dC : Nat → ClassId) (dI : Nat → Nat → Nat) (cI cL cZ : ClassId) (sz : Nat) (h0 : Nat) : Met l y_Cs_init (Cond.code y_Cs_init prog_2_method_1_code 1 none :: wsA) { frames := 1, cells := 2, slots := 1630, locals := 12 } (va_Pc [.ref h0] (fun U => U.heap.size = sz ∧ va_P (dC, dI) clA [(h0, .inr (7, [.null, .null, .int 0, .int 0]))] U.heap ∧ va_K (dC, dI) clA [(cI, .int), (cL, .long), (cZ, .boolean)] U ∧ va_D (fun _ => True) [(h0, .inr (7, [.null, .null, .int 0, .int 0]))] ∧ NwA U)) (va_Qv (fun _ : Unit => True) (fun _ t => ∃ q1 q4 : Nat, va_P (dC, dI) clA [(h0, .inr (7, [.ref q1, .ref q4, .int 0, .int 0])), (q1, .inl (cL, 815, .inr (.inl (fun _ => 0)))), (q4, .inl (cL, 815, .inr (.inl (fun _ => 0))))] t.heap ∧ va_D (va_A [(h0, .inr (7, [.null, .null, .int 0, .int 0]))] sz) [(h0, .inr (7, [.ref q1, .ref q4, .int 0, .int 0])), (q1, .inl (cL, 815, .inr (.inl (fun _ => 0)))), (q4, .inl (cL, 815, .inr (.inl (fun _ => 0))))]) (va_A [(h0, .inr (7, [.null, .null, .int 0, .int 0]))] sz)) 2 1630 (va_A [(h0, .inr (7, [.null, .null, .int 0, .int 0]))] sz) := by
  refine Met.ofW (cc := prog_2_method_1_code) (maxL := 1) (ret := none) (by decide) rfl ?_
  intro p e s m args below meth c s₁ B hml hv
  obtain ⟨rfl, hsz, hP, hK, hD0, hN⟩ := hv
  have hx := B.exec
  have hb := B.bytes
  have hr := B.returns
  have ht : ∀ w ∈ wsA, w.before _ s = true := fun w h => atoms_spec (ws := (Cond.code y_Cs_init prog_2_method_1_code 1 none :: wsA)) B.pre w (List.mem_cons_of_mem _ h)
  have hown : s.vm.findClass "NetUnfolder$Clauses" = some m.cls := findClass_of_methodNamed B.named
  have hlocks := B.notSynchronized
  have hin : meth.name = "<init>" := (name_of_methodNamed B.named B.method).1
  subst hsz
  have hD := hD0.self (sz := s.heap.size)
  generalize hAe : va_A [(h0, .inr (7, [.null, .null, .int 0, .int 0]))] s.heap.size = A at hD ⊢
  have hA : ∀ q : Nat, s.heap.size ≤ q → A q := fun q h => by rw [← hAe]; exact Or.inr h
  have hS : va_S A s.heap s.heap [] := va_S.rf
  have hl := lv_entry ([.ref h0]) (n := 1) (Nat.le_of_ble_eq_true rfl)
  rw [lg_entry_eq]
  generalize (lg_sl ([.ref h0]) ++ List.replicate (1 - (lg_sl ([.ref h0])).length) Slot.unset).toArray = ls at hl ⊢
  replace hl : lv_has ls 1 [(0, .ref h0)] := hl
  refine lv_aload_n hx hb d_Cs_init_0 rfl (lv_at hl 0 rfl) ?_
  refine W.objInit hx hb hown (ht (.methodLink "NetUnfolder$Clauses" 3 Lib.objectInit) wd_1_208) (ht (.instanceMethod Lib.objectInit) wd_1_25) (ht (.code Lib.objectInit ⟨#[0xb1]⟩ 1 none) wd_1_26) rfl (by rw [hml]; exact hl.1) rfl d_Cs_init_1 (Nat.le_of_ble_eq_true rfl) (Nat.le_of_ble_eq_true rfl) ?_
  refine W.eq (g2 := F0 m 4 ls []) rfl ?_
  refine lv_aload_n hx hb d_Cs_init_4 rfl (lv_at hl 0 rfl) ?_
  refine lv_sipush (v := 815) hx hb d_Cs_init_5 (by decide) ?_
  refine nx_newaJ hx hb (ht _ wd_1_136) hK hP hD hS hA 1 rfl (N' := 815) (by decide) (by decide) (Nat.le_of_ble_eq_true rfl) (Nat.le_of_ble_eq_true rfl) (Nat.le_of_ble_eq_true rfl) d_Cs_init_8 (fun q1 H2 hPn hDn hSn => ?_)
  replace hP : va_P (dC, dI) clA [(h0, .inr (7, [.null, .null, .int 0, .int 0])), (q1, .inl (cL, 815, .inr (.inl (fun _ => 0))))] H2 := hPn
  replace hD : va_D A [(h0, .inr (7, [.null, .null, .int 0, .int 0])), (q1, .inl (cL, 815, .inr (.inl (fun _ => 0))))] := hDn
  replace hS := hSn
  clear hPn hDn hSn
  refine W.cs (cells' := 1) (slots' := 815) rfl rfl ?_
  refine va_putF (D := (dC, dI)) (ci := 7) (v := .ref q1) (ty := .array .long) (C := "NetUnfolder$Clauses") (T := T_Cs) (N := 4) hx hb ht in_Cs ty_Cs ok_Cs nm_Cs hown hK hP hD hS 0 rfl rfl 0 (by decide) (ht _ wd_1_209) (fun _ h9 => h9) rfl hin rfl (by decide +kernel) rfl rfl (Nat.le_of_ble_eq_true rfl) d_Cs_init_10 (fun H3 locs hPn hDn hSn => ?_)
  replace hP : va_P (dC, dI) clA [(h0, .inr (7, [.ref q1, .null, .int 0, .int 0])), (q1, .inl (cL, 815, .inr (.inl (fun _ => 0))))] H3 := hPn
  replace hD : va_D A [(h0, .inr (7, [.ref q1, .null, .int 0, .int 0])), (q1, .inl (cL, 815, .inr (.inl (fun _ => 0))))] := hDn
  replace hS := hSn
  clear hPn hDn hSn
  refine lv_aload_n hx hb d_Cs_init_13 rfl (lv_at hl 0 rfl) ?_
  refine lv_sipush (v := 815) hx hb d_Cs_init_14 (by decide) ?_
  refine nx_newaJ hx hb (ht _ wd_1_136) hK hP hD hS hA 1 rfl (N' := 815) (by decide) (by decide) (Nat.le_of_ble_eq_true rfl) (Nat.le_of_ble_eq_true rfl) (Nat.le_of_ble_eq_true rfl) d_Cs_init_17 (fun q4 H5 hPn hDn hSn => ?_)
  replace hP : va_P (dC, dI) clA [(h0, .inr (7, [.ref q1, .null, .int 0, .int 0])), (q1, .inl (cL, 815, .inr (.inl (fun _ => 0)))), (q4, .inl (cL, 815, .inr (.inl (fun _ => 0))))] H5 := hPn
  replace hD : va_D A [(h0, .inr (7, [.ref q1, .null, .int 0, .int 0])), (q1, .inl (cL, 815, .inr (.inl (fun _ => 0)))), (q4, .inl (cL, 815, .inr (.inl (fun _ => 0))))] := hDn
  replace hS := hSn
  clear hPn hDn hSn
  refine W.cs (cells' := 2) (slots' := 1630) rfl rfl ?_
  refine va_putF (D := (dC, dI)) (ci := 7) (v := .ref q4) (ty := .array .long) (C := "NetUnfolder$Clauses") (T := T_Cs) (N := 4) hx hb ht in_Cs ty_Cs ok_Cs nm_Cs hown hK hP hD hS 0 rfl rfl 1 (by decide) (ht _ wd_1_211) (fun _ h9 => h9) rfl hin rfl (by decide +kernel) rfl rfl (Nat.le_of_ble_eq_true rfl) d_Cs_init_19 (fun H6 locs hPn hDn hSn => ?_)
  replace hP : va_P (dC, dI) clA [(h0, .inr (7, [.ref q1, .ref q4, .int 0, .int 0])), (q1, .inl (cL, 815, .inr (.inl (fun _ => 0)))), (q4, .inl (cL, 815, .inr (.inl (fun _ => 0))))] H6 := hPn
  replace hD : va_D A [(h0, .inr (7, [.ref q1, .ref q4, .int 0, .int 0])), (q1, .inl (cL, 815, .inr (.inl (fun _ => 0)))), (q4, .inl (cL, 815, .inr (.inl (fun _ => 0))))] := hDn
  replace hS := hSn
  clear hPn hDn hSn
  have hP9 := hP.sub (ws' := [(h0, .inr (7, [.ref q1, .ref q4, .int 0, .int 0])), (q1, .inl (cL, 815, .inr (.inl (fun _ => 0)))), (q4, .inl (cL, 815, .inr (.inl (fun _ => 0))))]) [0, 1, 2] rfl
  have hD9 := hD.sub (ws' := [(h0, .inr (7, [.ref q1, .ref q4, .int 0, .int 0])), (q1, .inl (cL, 815, .inr (.inl (fun _ => 0)))), (q4, .inl (cL, 815, .inr (.inl (fun _ => 0))))]) [0, 1, 2] (by decide) rfl
  exact W.vret hx hb hr (fun t ht9 hW => ⟨⟨(), rfl, trivial, q1, q4, by rw [ht9]; exact hP9, hD9⟩, hS.F ht9⟩) hS.2.2 d_Cs_init_22

set_option maxHeartbeats 4000000 in
set_option maxRecDepth 100000 in
theorem c_Se_init (l : Launch) (dC : Nat → ClassId) (dI : Nat → Nat → Nat) (cI cL cZ : ClassId) (sz : Nat) (h0 : Nat) (h1 : Nat) : Met l y_Se_init (Cond.code y_Se_init prog_7_method_1_code 2 none :: wsA) { frames := 1, cells := 3, slots := 115, locals := 12 } (va_Pc [.ref h0, .ref h1] (fun U => U.heap.size = sz ∧ va_P (dC, dI) clA [(h0, .inr (8, [.null, .long 0, .long 0, .int 0, .null, .null, .int 0, .null]))] U.heap ∧ va_K (dC, dI) clA [(cI, .int), (cL, .long), (cZ, .boolean)] U ∧ va_D (fun _ => True) [(h0, .inr (8, [.null, .long 0, .long 0, .int 0, .null, .null, .int 0, .null]))] ∧ NwA U)) (va_Qv (fun _ : Unit => True) (fun _ t => ∃ q1 q4 q7 : Nat, va_P (dC, dI) clA [(h0, .inr (8, [.ref h1, .long 0, .long 0, .int 0, .ref q1, .ref q4, .int 0, .ref q7])), (q1, .inl (cL, 39, .inr (.inl (fun _ => 0)))), (q4, .inl (cI, 38, .inl (fun _ => 0))), (q7, .inl (cI, 38, .inl (fun _ => 0)))] t.heap ∧ va_D (va_A [(h0, .inr (8, [.null, .long 0, .long 0, .int 0, .null, .null, .int 0, .null]))] sz) [(h0, .inr (8, [.ref h1, .long 0, .long 0, .int 0, .ref q1, .ref q4, .int 0, .ref q7])), (q1, .inl (cL, 39, .inr (.inl (fun _ => 0)))), (q4, .inl (cI, 38, .inl (fun _ => 0))), (q7, .inl (cI, 38, .inl (fun _ => 0)))]) (va_A [(h0, .inr (8, [.null, .long 0, .long 0, .int 0, .null, .null, .int 0, .null]))] sz)) 3 115 (va_A [(h0, .inr (8, [.null, .long 0, .long 0, .int 0, .null, .null, .int 0, .null]))] sz) := by
  refine Met.ofW (cc := prog_7_method_1_code) (maxL := 2) (ret := none) (by decide) rfl ?_
  intro p e s m args below meth c s₁ B hml hv
  obtain ⟨rfl, hsz, hP, hK, hD0, hN⟩ := hv
  have hx := B.exec
  have hb := B.bytes
  have hr := B.returns
  have ht : ∀ w ∈ wsA, w.before _ s = true := fun w h => atoms_spec (ws := (Cond.code y_Se_init prog_7_method_1_code 2 none :: wsA)) B.pre w (List.mem_cons_of_mem _ h)
  have hown : s.vm.findClass "NetUnfolder$Search" = some m.cls := findClass_of_methodNamed B.named
  have hlocks := B.notSynchronized
  have hin : meth.name = "<init>" := (name_of_methodNamed B.named B.method).1
  subst hsz
  have hD := hD0.self (sz := s.heap.size)
  generalize hAe : va_A [(h0, .inr (8, [.null, .long 0, .long 0, .int 0, .null, .null, .int 0, .null]))] s.heap.size = A at hD ⊢
  have hA : ∀ q : Nat, s.heap.size ≤ q → A q := fun q h => by rw [← hAe]; exact Or.inr h
  have hS : va_S A s.heap s.heap [] := va_S.rf
  have hl := lv_entry ([.ref h0, .ref h1]) (n := 2) (Nat.le_of_ble_eq_true rfl)
  rw [lg_entry_eq]
  generalize (lg_sl ([.ref h0, .ref h1]) ++ List.replicate (2 - (lg_sl ([.ref h0, .ref h1])).length) Slot.unset).toArray = ls at hl ⊢
  replace hl : lv_has ls 2 [(0, .ref h0), (1, .ref h1)] := hl
  refine lv_aload_n hx hb d_Se_init_0 rfl (lv_at hl 0 rfl) ?_
  refine W.objInit hx hb hown (ht (.methodLink "NetUnfolder$Search" 3 Lib.objectInit) wd_1_231) (ht (.instanceMethod Lib.objectInit) wd_1_25) (ht (.code Lib.objectInit ⟨#[0xb1]⟩ 1 none) wd_1_26) rfl (by rw [hml]; exact hl.1) rfl d_Se_init_1 (Nat.le_of_ble_eq_true rfl) (Nat.le_of_ble_eq_true rfl) ?_
  refine W.eq (g2 := F0 m 4 ls []) rfl ?_
  refine lv_aload_n hx hb d_Se_init_4 rfl (lv_at hl 0 rfl) ?_
  refine lv_bipush (v := 39) hx hb d_Se_init_5 (by decide) ?_
  refine nx_newaJ hx hb (ht _ wd_1_136) hK hP hD hS hA 1 rfl (N' := 39) (by decide) (by decide) (Nat.le_of_ble_eq_true rfl) (Nat.le_of_ble_eq_true rfl) (Nat.le_of_ble_eq_true rfl) d_Se_init_7 (fun q1 H2 hPn hDn hSn => ?_)
  replace hP : va_P (dC, dI) clA [(h0, .inr (8, [.null, .long 0, .long 0, .int 0, .null, .null, .int 0, .null])), (q1, .inl (cL, 39, .inr (.inl (fun _ => 0))))] H2 := hPn
  replace hD : va_D A [(h0, .inr (8, [.null, .long 0, .long 0, .int 0, .null, .null, .int 0, .null])), (q1, .inl (cL, 39, .inr (.inl (fun _ => 0))))] := hDn
  replace hS := hSn
  clear hPn hDn hSn
  refine W.cs (cells' := 1) (slots' := 39) rfl rfl ?_
  refine va_putF (D := (dC, dI)) (ci := 8) (v := .ref q1) (ty := .array .long) (C := "NetUnfolder$Search") (T := T_Se) (N := 8) hx hb ht in_Se ty_Se ok_Se nm_Se hown hK hP hD hS 0 rfl rfl 4 (by decide) (ht _ wd_1_236) (fun _ h9 => h9) rfl hin rfl (by decide +kernel) rfl rfl (Nat.le_of_ble_eq_true rfl) d_Se_init_9 (fun H3 locs hPn hDn hSn => ?_)
  replace hP : va_P (dC, dI) clA [(h0, .inr (8, [.null, .long 0, .long 0, .int 0, .ref q1, .null, .int 0, .null])), (q1, .inl (cL, 39, .inr (.inl (fun _ => 0))))] H3 := hPn
  replace hD : va_D A [(h0, .inr (8, [.null, .long 0, .long 0, .int 0, .ref q1, .null, .int 0, .null])), (q1, .inl (cL, 39, .inr (.inl (fun _ => 0))))] := hDn
  replace hS := hSn
  clear hPn hDn hSn
  refine lv_aload_n hx hb d_Se_init_12 rfl (lv_at hl 0 rfl) ?_
  refine lv_bipush (v := 38) hx hb d_Se_init_13 (by decide) ?_
  refine nx_newaI hx hb (ht _ wd_1_55) hK hP hD hS hA 0 rfl (N' := 38) (by decide) (by decide) (Nat.le_of_ble_eq_true rfl) (Nat.le_of_ble_eq_true rfl) (Nat.le_of_ble_eq_true rfl) d_Se_init_15 (fun q4 H5 hPn hDn hSn => ?_)
  replace hP : va_P (dC, dI) clA [(h0, .inr (8, [.null, .long 0, .long 0, .int 0, .ref q1, .null, .int 0, .null])), (q1, .inl (cL, 39, .inr (.inl (fun _ => 0)))), (q4, .inl (cI, 38, .inl (fun _ => 0)))] H5 := hPn
  replace hD : va_D A [(h0, .inr (8, [.null, .long 0, .long 0, .int 0, .ref q1, .null, .int 0, .null])), (q1, .inl (cL, 39, .inr (.inl (fun _ => 0)))), (q4, .inl (cI, 38, .inl (fun _ => 0)))] := hDn
  replace hS := hSn
  clear hPn hDn hSn
  refine W.cs (cells' := 2) (slots' := 77) rfl rfl ?_
  refine va_putF (D := (dC, dI)) (ci := 8) (v := .ref q4) (ty := .array .int) (C := "NetUnfolder$Search") (T := T_Se) (N := 8) hx hb ht in_Se ty_Se ok_Se nm_Se hown hK hP hD hS 0 rfl rfl 5 (by decide) (ht _ wd_1_237) (fun _ h9 => h9) rfl hin rfl (by decide +kernel) rfl rfl (Nat.le_of_ble_eq_true rfl) d_Se_init_17 (fun H6 locs hPn hDn hSn => ?_)
  replace hP : va_P (dC, dI) clA [(h0, .inr (8, [.null, .long 0, .long 0, .int 0, .ref q1, .ref q4, .int 0, .null])), (q1, .inl (cL, 39, .inr (.inl (fun _ => 0)))), (q4, .inl (cI, 38, .inl (fun _ => 0)))] H6 := hPn
  replace hD : va_D A [(h0, .inr (8, [.null, .long 0, .long 0, .int 0, .ref q1, .ref q4, .int 0, .null])), (q1, .inl (cL, 39, .inr (.inl (fun _ => 0)))), (q4, .inl (cI, 38, .inl (fun _ => 0)))] := hDn
  replace hS := hSn
  clear hPn hDn hSn
  refine lv_aload_n hx hb d_Se_init_20 rfl (lv_at hl 0 rfl) ?_
  refine lv_bipush (v := 38) hx hb d_Se_init_21 (by decide) ?_
  refine nx_newaI hx hb (ht _ wd_1_55) hK hP hD hS hA 0 rfl (N' := 38) (by decide) (by decide) (Nat.le_of_ble_eq_true rfl) (Nat.le_of_ble_eq_true rfl) (Nat.le_of_ble_eq_true rfl) d_Se_init_23 (fun q7 H8 hPn hDn hSn => ?_)
  replace hP : va_P (dC, dI) clA [(h0, .inr (8, [.null, .long 0, .long 0, .int 0, .ref q1, .ref q4, .int 0, .null])), (q1, .inl (cL, 39, .inr (.inl (fun _ => 0)))), (q4, .inl (cI, 38, .inl (fun _ => 0))), (q7, .inl (cI, 38, .inl (fun _ => 0)))] H8 := hPn
  replace hD : va_D A [(h0, .inr (8, [.null, .long 0, .long 0, .int 0, .ref q1, .ref q4, .int 0, .null])), (q1, .inl (cL, 39, .inr (.inl (fun _ => 0)))), (q4, .inl (cI, 38, .inl (fun _ => 0))), (q7, .inl (cI, 38, .inl (fun _ => 0)))] := hDn
  replace hS := hSn
  clear hPn hDn hSn
  refine W.cs (cells' := 3) (slots' := 115) rfl rfl ?_
  refine va_putF (D := (dC, dI)) (ci := 8) (v := .ref q7) (ty := .array .int) (C := "NetUnfolder$Search") (T := T_Se) (N := 8) hx hb ht in_Se ty_Se ok_Se nm_Se hown hK hP hD hS 0 rfl rfl 7 (by decide) (ht _ wd_1_239) (fun _ h9 => h9) rfl hin rfl (by decide +kernel) rfl rfl (Nat.le_of_ble_eq_true rfl) d_Se_init_25 (fun H9 locs hPn hDn hSn => ?_)
  replace hP : va_P (dC, dI) clA [(h0, .inr (8, [.null, .long 0, .long 0, .int 0, .ref q1, .ref q4, .int 0, .ref q7])), (q1, .inl (cL, 39, .inr (.inl (fun _ => 0)))), (q4, .inl (cI, 38, .inl (fun _ => 0))), (q7, .inl (cI, 38, .inl (fun _ => 0)))] H9 := hPn
  replace hD : va_D A [(h0, .inr (8, [.null, .long 0, .long 0, .int 0, .ref q1, .ref q4, .int 0, .ref q7])), (q1, .inl (cL, 39, .inr (.inl (fun _ => 0)))), (q4, .inl (cI, 38, .inl (fun _ => 0))), (q7, .inl (cI, 38, .inl (fun _ => 0)))] := hDn
  replace hS := hSn
  clear hPn hDn hSn
  refine lv_aload_n hx hb d_Se_init_28 rfl (lv_at hl 0 rfl) ?_
  refine lv_aload_n hx hb d_Se_init_29 rfl (lv_at hl 1 rfl) ?_
  refine va_putF (D := (dC, dI)) (ci := 8) (v := .ref h1) (ty := .object "NetUnfolder$Clauses") (C := "NetUnfolder$Search") (T := T_Se) (N := 8) hx hb ht in_Se ty_Se ok_Se nm_Se hown hK hP hD hS 0 rfl rfl 0 (by decide) (ht _ wd_1_232) (fun _ h9 => h9) rfl hin rfl (by decide +kernel) rfl rfl (Nat.le_of_ble_eq_true rfl) d_Se_init_30 (fun H10 locs hPn hDn hSn => ?_)
  replace hP : va_P (dC, dI) clA [(h0, .inr (8, [.ref h1, .long 0, .long 0, .int 0, .ref q1, .ref q4, .int 0, .ref q7])), (q1, .inl (cL, 39, .inr (.inl (fun _ => 0)))), (q4, .inl (cI, 38, .inl (fun _ => 0))), (q7, .inl (cI, 38, .inl (fun _ => 0)))] H10 := hPn
  replace hD : va_D A [(h0, .inr (8, [.ref h1, .long 0, .long 0, .int 0, .ref q1, .ref q4, .int 0, .ref q7])), (q1, .inl (cL, 39, .inr (.inl (fun _ => 0)))), (q4, .inl (cI, 38, .inl (fun _ => 0))), (q7, .inl (cI, 38, .inl (fun _ => 0)))] := hDn
  replace hS := hSn
  clear hPn hDn hSn
  have hP9 := hP.sub (ws' := [(h0, .inr (8, [.ref h1, .long 0, .long 0, .int 0, .ref q1, .ref q4, .int 0, .ref q7])), (q1, .inl (cL, 39, .inr (.inl (fun _ => 0)))), (q4, .inl (cI, 38, .inl (fun _ => 0))), (q7, .inl (cI, 38, .inl (fun _ => 0)))]) [0, 1, 2, 3] rfl
  have hD9 := hD.sub (ws' := [(h0, .inr (8, [.ref h1, .long 0, .long 0, .int 0, .ref q1, .ref q4, .int 0, .ref q7])), (q1, .inl (cL, 39, .inr (.inl (fun _ => 0)))), (q4, .inl (cI, 38, .inl (fun _ => 0))), (q7, .inl (cI, 38, .inl (fun _ => 0)))]) [0, 1, 2, 3] (by decide) rfl
  exact W.vret hx hb hr (fun t ht9 hW => ⟨⟨(), rfl, trivial, q1, q4, q7, by rw [ht9]; exact hP9, hD9⟩, hS.F ht9⟩) hS.2.2 d_Se_init_33

set_option maxHeartbeats 4000000 in
set_option maxRecDepth 100000 in
theorem c_Qu_init (l : Launch) (dC : Nat → ClassId) (dI : Nat → Nat → Nat) (cI cL cZ : ClassId) (sz : Nat) (h0 : Nat) (h1 : Nat) (h2 : Nat) (h3 : Nat) : Met l y_Qu_init (Cond.code y_Qu_init prog_6_method_1_code 4 none :: wsA) { frames := 2, cells := 7, slots := 1757, locals := 33 } (va_Pc [.ref h0, .ref h1, .ref h2, .ref h3] (fun U => U.heap.size = sz ∧ va_P (dC, dI) clA [(h0, .inr (6, [.null, .null, .null, .null, .null, .int 0]))] U.heap ∧ va_K (dC, dI) clA [(cI, .int), (cL, .long), (cZ, .boolean)] U ∧ va_D (fun _ => True) [(h0, .inr (6, [.null, .null, .null, .null, .null, .int 0]))] ∧ NwA U)) (va_Qv (fun _ : Unit => True) (fun _ t => ∃ q1 q5 q6 q8 q12 q13 q14 : Nat, va_P (dC, dI) clA [(h0, .inr (6, [.ref h1, .ref h2, .ref h3, .ref q1, .ref q8, .int 0])), (q1, .inr (7, [.ref q5, .ref q6, .int 0, .int 0])), (q5, .inl (cL, 815, .inr (.inl (fun _ => 0)))), (q6, .inl (cL, 815, .inr (.inl (fun _ => 0)))), (q8, .inr (8, [.ref q1, .long 0, .long 0, .int 0, .ref q12, .ref q13, .int 0, .ref q14])), (q12, .inl (cL, 39, .inr (.inl (fun _ => 0)))), (q13, .inl (cI, 38, .inl (fun _ => 0))), (q14, .inl (cI, 38, .inl (fun _ => 0)))] t.heap ∧ va_D (va_A [(h0, .inr (6, [.null, .null, .null, .null, .null, .int 0]))] sz) [(h0, .inr (6, [.ref h1, .ref h2, .ref h3, .ref q1, .ref q8, .int 0])), (q1, .inr (7, [.ref q5, .ref q6, .int 0, .int 0])), (q5, .inl (cL, 815, .inr (.inl (fun _ => 0)))), (q6, .inl (cL, 815, .inr (.inl (fun _ => 0)))), (q8, .inr (8, [.ref q1, .long 0, .long 0, .int 0, .ref q12, .ref q13, .int 0, .ref q14])), (q12, .inl (cL, 39, .inr (.inl (fun _ => 0)))), (q13, .inl (cI, 38, .inl (fun _ => 0))), (q14, .inl (cI, 38, .inl (fun _ => 0)))]) (va_A [(h0, .inr (6, [.null, .null, .null, .null, .null, .int 0]))] sz)) 7 1757 (va_A [(h0, .inr (6, [.null, .null, .null, .null, .null, .int 0]))] sz) := by
  refine Met.ofW (cc := prog_6_method_1_code) (maxL := 4) (ret := none) (by decide) rfl ?_
  intro p e s m args below meth c s₁ B hml hv
  obtain ⟨rfl, hsz, hP, hK, hD0, hN⟩ := hv
  have hx := B.exec
  have hb := B.bytes
  have hr := B.returns
  have ht : ∀ w ∈ wsA, w.before _ s = true := fun w h => atoms_spec (ws := (Cond.code y_Qu_init prog_6_method_1_code 4 none :: wsA)) B.pre w (List.mem_cons_of_mem _ h)
  have hown : s.vm.findClass "NetUnfolder$Question" = some m.cls := findClass_of_methodNamed B.named
  have hlocks := B.notSynchronized
  have hin : meth.name = "<init>" := (name_of_methodNamed B.named B.method).1
  subst hsz
  have hD := hD0.self (sz := s.heap.size)
  generalize hAe : va_A [(h0, .inr (6, [.null, .null, .null, .null, .null, .int 0]))] s.heap.size = A at hD ⊢
  have hA : ∀ q : Nat, s.heap.size ≤ q → A q := fun q h => by rw [← hAe]; exact Or.inr h
  have hS : va_S A s.heap s.heap [] := va_S.rf
  have hl := lv_entry ([.ref h0, .ref h1, .ref h2, .ref h3]) (n := 4) (Nat.le_of_ble_eq_true rfl)
  rw [lg_entry_eq]
  generalize (lg_sl ([.ref h0, .ref h1, .ref h2, .ref h3]) ++ List.replicate (4 - (lg_sl ([.ref h0, .ref h1, .ref h2, .ref h3])).length) Slot.unset).toArray = ls at hl ⊢
  replace hl : lv_has ls 4 [(0, .ref h0), (1, .ref h1), (2, .ref h2), (3, .ref h3)] := hl
  refine lv_aload_n hx hb d_Qu_init_0 rfl (lv_at hl 0 rfl) ?_
  refine W.objInit hx hb hown (ht (.methodLink "NetUnfolder$Question" 3 Lib.objectInit) wd_1_202) (ht (.instanceMethod Lib.objectInit) wd_1_25) (ht (.code Lib.objectInit ⟨#[0xb1]⟩ 1 none) wd_1_26) rfl (by rw [hml]; exact hl.1) rfl d_Qu_init_1 (Nat.le_of_ble_eq_true rfl) (Nat.le_of_ble_eq_true rfl) ?_
  refine W.eq (g2 := F0 m 4 ls []) rfl ?_
  refine lv_aload_n hx hb d_Qu_init_4 rfl (lv_at hl 0 rfl) ?_
  refine va_new (ci := 7) (fs := [.null, .null, .int 0, .int 0]) (C := "NetUnfolder$Clauses") (T := T_Cs) (N := 4) hx hb ht in_Cs ty_Cs ok_Cs hown (ht _ wd_1_203) (ht _ wd_1_204) (ht _ wd_1_8) hK hP hD hS hA rfl (by decide +kernel) (Nat.le_of_ble_eq_true rfl) (Nat.le_of_ble_eq_true rfl) d_Qu_init_5 (fun q1 H2 hPn hDn hSn => ?_)
  replace hP : va_P (dC, dI) clA [(h0, .inr (6, [.null, .null, .null, .null, .null, .int 0])), (q1, .inr (7, [.null, .null, .int 0, .int 0]))] H2 := hPn
  replace hD : va_D A [(h0, .inr (6, [.null, .null, .null, .null, .null, .int 0])), (q1, .inr (7, [.null, .null, .int 0, .int 0]))] := hDn
  replace hS := hSn
  clear hPn hDn hSn
  refine W.cs (cells' := 1) (slots' := 4) rfl rfl ?_
  refine lv_dup hx hb d_Qu_init_8 rfl ?_
  have hPc := hP.sub (ws' := [(q1, .inr (7, [.null, .null, .int 0, .int 0]))]) [1] rfl
  have hDc := hD.sub (ws' := [(q1, .inr (7, [.null, .null, .int 0, .int 0]))]) [1] (by decide) rfl
  have hFc := va_free (wc := [(q1, .inr (7, [.null, .null, .int 0, .int 0]))]) hD hS hA [1] rfl
  refine va_callv (va_runIN (As := []) (rest := [.ref q1, .ref h0]) ⟨hx, hb, hml, hown, ht⟩ (c_Cs_init l dC dI cI cL cZ _ q1 ) ⟨va_cnB 0 ht (goodA wd_1_207) rfl rfl rfl hN.2.2.2.1 (ht _ wd_1_8) (by decide +kernel) ⟨Nat.le_of_ble_eq_true rfl, Nat.le_of_ble_eq_true rfl⟩, rfl, ht _ wd_1_206⟩ ⟨fun a U g mk q => by obtain ⟨q0, q1, qP, qK, qD, qN⟩ := q; exact ⟨q0, q1, qP, va_K.moved (u := U) (U := U.calling g mk a) (Vm.Alike.refl U.vm) qK, qD, NwA.same (u := U) rfl qN⟩, fun U hU hW => ⟨rfl, by rw [hU], by rw [hU]; exact hPc, va_K.moved hW.alike hK, hDc.weaken (fun _ _ _ _ => trivial), NwA.warm hW hN⟩⟩ rfl rfl hl.1 rfl (lv_room (Nat.le_of_ble_eq_true rfl)) d_Qu_init_9 ⟨Nat.le_of_ble_eq_true rfl, Nat.le_of_ble_eq_true rfl⟩) hS (fun q _ h => hFc q h) hFc (fun u t H3 locs ht9 hvm hw4 hB hz1 hk1 hSn => ?_)
  obtain ⟨q5, q6, hP1, hD1⟩ := hB
  rw [ht9] at hP1
  obtain ⟨hPn, hDn⟩ := va_join (wr := [(h0, .inr (6, [.null, .null, .null, .null, .null, .int 0]))]) (w1 := [(q1, .inr (7, [.ref q5, .ref q6, .int 0, .int 0])), (q5, .inl (cL, 815, .inr (.inl (fun _ => 0)))), (q6, .inl (cL, 815, .inr (.inl (fun _ => 0))))]) hP hD [1] [0] rfl rfl (by decide) (by decide) hk1 hFc hP1 hD1
  replace hP : va_P (dC, dI) clA [(h0, .inr (6, [.null, .null, .null, .null, .null, .int 0])), (q1, .inr (7, [.ref q5, .ref q6, .int 0, .int 0])), (q5, .inl (cL, 815, .inr (.inl (fun _ => 0)))), (q6, .inl (cL, 815, .inr (.inl (fun _ => 0))))] H3 := hPn
  replace hD : va_D A [(h0, .inr (6, [.null, .null, .null, .null, .null, .int 0])), (q1, .inr (7, [.ref q5, .ref q6, .int 0, .int 0])), (q5, .inl (cL, 815, .inr (.inl (fun _ => 0)))), (q6, .inl (cL, 815, .inr (.inl (fun _ => 0))))] := hDn
  replace hS := hSn
  clear hPn hDn hSn
  clear hPc hDc hFc hP1 hD1 hk1 hz1 ht9 hvm
  refine W.cs (cells' := 3) (slots' := 1634) rfl rfl ?_
  refine va_putF (D := (dC, dI)) (ci := 6) (v := .ref q1) (ty := .object "NetUnfolder$Clauses") (C := "NetUnfolder$Question") (T := T_Qu) (N := 6) hx hb ht in_Qu ty_Qu ok_Qu nm_Qu hown hK hP hD hS 0 rfl rfl 3 (by decide) (ht _ wd_2_20) (fun _ h9 => h9) rfl hin rfl (by decide +kernel) rfl rfl (Nat.le_of_ble_eq_true rfl) d_Qu_init_12 (fun H7 locs hPn hDn hSn => ?_)
  replace hP : va_P (dC, dI) clA [(h0, .inr (6, [.null, .null, .null, .ref q1, .null, .int 0])), (q1, .inr (7, [.ref q5, .ref q6, .int 0, .int 0])), (q5, .inl (cL, 815, .inr (.inl (fun _ => 0)))), (q6, .inl (cL, 815, .inr (.inl (fun _ => 0))))] H7 := hPn
  replace hD : va_D A [(h0, .inr (6, [.null, .null, .null, .ref q1, .null, .int 0])), (q1, .inr (7, [.ref q5, .ref q6, .int 0, .int 0])), (q5, .inl (cL, 815, .inr (.inl (fun _ => 0)))), (q6, .inl (cL, 815, .inr (.inl (fun _ => 0))))] := hDn
  replace hS := hSn
  clear hPn hDn hSn
  refine lv_aload_n hx hb d_Qu_init_15 rfl (lv_at hl 0 rfl) ?_
  refine va_new (ci := 8) (fs := [.null, .long 0, .long 0, .int 0, .null, .null, .int 0, .null]) (C := "NetUnfolder$Search") (T := T_Se) (N := 8) hx hb ht in_Se ty_Se ok_Se hown (ht _ wd_1_226) (ht _ wd_1_227) (ht _ wd_1_9) hK hP hD hS hA rfl (by decide +kernel) (Nat.le_of_ble_eq_true rfl) (Nat.le_of_ble_eq_true rfl) d_Qu_init_16 (fun q8 H9 hPn hDn hSn => ?_)
  replace hP : va_P (dC, dI) clA [(h0, .inr (6, [.null, .null, .null, .ref q1, .null, .int 0])), (q1, .inr (7, [.ref q5, .ref q6, .int 0, .int 0])), (q5, .inl (cL, 815, .inr (.inl (fun _ => 0)))), (q6, .inl (cL, 815, .inr (.inl (fun _ => 0)))), (q8, .inr (8, [.null, .long 0, .long 0, .int 0, .null, .null, .int 0, .null]))] H9 := hPn
  replace hD : va_D A [(h0, .inr (6, [.null, .null, .null, .ref q1, .null, .int 0])), (q1, .inr (7, [.ref q5, .ref q6, .int 0, .int 0])), (q5, .inl (cL, 815, .inr (.inl (fun _ => 0)))), (q6, .inl (cL, 815, .inr (.inl (fun _ => 0)))), (q8, .inr (8, [.null, .long 0, .long 0, .int 0, .null, .null, .int 0, .null]))] := hDn
  replace hS := hSn
  clear hPn hDn hSn
  refine W.cs (cells' := 4) (slots' := 1642) rfl rfl ?_
  refine lv_dup hx hb d_Qu_init_19 rfl ?_
  refine lv_aload_n hx hb d_Qu_init_20 rfl (lv_at hl 0 rfl) ?_
  refine va_get (D := (dC, dI)) (ci := 6) (v := .ref q1) (C := "NetUnfolder$Question") (T := T_Qu) (N := 6) hx hb ht in_Qu hown hK hP 0 rfl rfl 3 (by decide) (ht _ wd_2_20) (fun _ h9 => h9) rfl d_Qu_init_21 ?_
  have hPc := hP.sub (ws' := [(q8, .inr (8, [.null, .long 0, .long 0, .int 0, .null, .null, .int 0, .null]))]) [4] rfl
  have hDc := hD.sub (ws' := [(q8, .inr (8, [.null, .long 0, .long 0, .int 0, .null, .null, .int 0, .null]))]) [4] (by decide) rfl
  have hFc := va_free (wc := [(q8, .inr (8, [.null, .long 0, .long 0, .int 0, .null, .null, .int 0, .null]))]) hD hS hA [4] rfl
  refine va_callv (va_runI (As := [.ref q1]) (rest := [.ref q8, .ref h0]) ⟨hx, hb, hml, hown, ht⟩ (c_Se_init l dC dI cI cL cZ _ q8 q1 ) (cwI 1 ht (goodA wd_1_230) rfl rfl rfl (ht _ wd_1_9) (ht _ wd_1_228) (ht _ wd_1_229) rfl (by decide +kernel) ⟨Nat.le_of_ble_eq_true rfl, Nat.le_of_ble_eq_true rfl⟩) ⟨fun a U g mk q => by obtain ⟨q0, q1, qP, qK, qD, qN⟩ := q; exact ⟨q0, q1, qP, va_K.moved (u := U) (U := U.calling g mk a) (Vm.Alike.refl U.vm) qK, qD, NwA.same (u := U) rfl qN⟩, fun U hU hW => ⟨rfl, by rw [hU], by rw [hU]; exact hPc, va_K.moved hW.alike hK, hDc.weaken (fun _ _ _ _ => trivial), NwA.warm hW hN⟩⟩ rfl rfl hl.1 rfl (lv_room (Nat.le_of_ble_eq_true rfl)) d_Qu_init_24 ⟨Nat.le_of_ble_eq_true rfl, Nat.le_of_ble_eq_true rfl⟩) hS (fun q _ h => hFc q h) hFc (fun u t H10 locs ht9 hvm hw11 hB hz1 hk1 hSn => ?_)
  obtain ⟨q12, q13, q14, hP1, hD1⟩ := hB
  rw [ht9] at hP1
  obtain ⟨hPn, hDn⟩ := va_join (wr := [(h0, .inr (6, [.null, .null, .null, .ref q1, .null, .int 0])), (q1, .inr (7, [.ref q5, .ref q6, .int 0, .int 0])), (q5, .inl (cL, 815, .inr (.inl (fun _ => 0)))), (q6, .inl (cL, 815, .inr (.inl (fun _ => 0))))]) (w1 := [(q8, .inr (8, [.ref q1, .long 0, .long 0, .int 0, .ref q12, .ref q13, .int 0, .ref q14])), (q12, .inl (cL, 39, .inr (.inl (fun _ => 0)))), (q13, .inl (cI, 38, .inl (fun _ => 0))), (q14, .inl (cI, 38, .inl (fun _ => 0)))]) hP hD [4] [0, 1, 2, 3] rfl rfl (by decide) (by decide) hk1 hFc hP1 hD1
  replace hP : va_P (dC, dI) clA [(h0, .inr (6, [.null, .null, .null, .ref q1, .null, .int 0])), (q1, .inr (7, [.ref q5, .ref q6, .int 0, .int 0])), (q5, .inl (cL, 815, .inr (.inl (fun _ => 0)))), (q6, .inl (cL, 815, .inr (.inl (fun _ => 0)))), (q8, .inr (8, [.ref q1, .long 0, .long 0, .int 0, .ref q12, .ref q13, .int 0, .ref q14])), (q12, .inl (cL, 39, .inr (.inl (fun _ => 0)))), (q13, .inl (cI, 38, .inl (fun _ => 0))), (q14, .inl (cI, 38, .inl (fun _ => 0)))] H10 := hPn
  replace hD : va_D A [(h0, .inr (6, [.null, .null, .null, .ref q1, .null, .int 0])), (q1, .inr (7, [.ref q5, .ref q6, .int 0, .int 0])), (q5, .inl (cL, 815, .inr (.inl (fun _ => 0)))), (q6, .inl (cL, 815, .inr (.inl (fun _ => 0)))), (q8, .inr (8, [.ref q1, .long 0, .long 0, .int 0, .ref q12, .ref q13, .int 0, .ref q14])), (q12, .inl (cL, 39, .inr (.inl (fun _ => 0)))), (q13, .inl (cI, 38, .inl (fun _ => 0))), (q14, .inl (cI, 38, .inl (fun _ => 0)))] := hDn
  replace hS := hSn
  clear hPn hDn hSn
  clear hPc hDc hFc hP1 hD1 hk1 hz1 ht9 hvm
  refine W.cs (cells' := 7) (slots' := 1757) rfl rfl ?_
  refine va_putF (D := (dC, dI)) (ci := 6) (v := .ref q8) (ty := .object "NetUnfolder$Search") (C := "NetUnfolder$Question") (T := T_Qu) (N := 6) hx hb ht in_Qu ty_Qu ok_Qu nm_Qu hown hK hP hD hS 0 rfl rfl 4 (by decide) (ht _ wd_2_21) (fun _ h9 => h9) rfl hin rfl (by decide +kernel) rfl rfl (Nat.le_of_ble_eq_true rfl) d_Qu_init_27 (fun H15 locs hPn hDn hSn => ?_)
  replace hP : va_P (dC, dI) clA [(h0, .inr (6, [.null, .null, .null, .ref q1, .ref q8, .int 0])), (q1, .inr (7, [.ref q5, .ref q6, .int 0, .int 0])), (q5, .inl (cL, 815, .inr (.inl (fun _ => 0)))), (q6, .inl (cL, 815, .inr (.inl (fun _ => 0)))), (q8, .inr (8, [.ref q1, .long 0, .long 0, .int 0, .ref q12, .ref q13, .int 0, .ref q14])), (q12, .inl (cL, 39, .inr (.inl (fun _ => 0)))), (q13, .inl (cI, 38, .inl (fun _ => 0))), (q14, .inl (cI, 38, .inl (fun _ => 0)))] H15 := hPn
  replace hD : va_D A [(h0, .inr (6, [.null, .null, .null, .ref q1, .ref q8, .int 0])), (q1, .inr (7, [.ref q5, .ref q6, .int 0, .int 0])), (q5, .inl (cL, 815, .inr (.inl (fun _ => 0)))), (q6, .inl (cL, 815, .inr (.inl (fun _ => 0)))), (q8, .inr (8, [.ref q1, .long 0, .long 0, .int 0, .ref q12, .ref q13, .int 0, .ref q14])), (q12, .inl (cL, 39, .inr (.inl (fun _ => 0)))), (q13, .inl (cI, 38, .inl (fun _ => 0))), (q14, .inl (cI, 38, .inl (fun _ => 0)))] := hDn
  replace hS := hSn
  clear hPn hDn hSn
  refine lv_aload_n hx hb d_Qu_init_30 rfl (lv_at hl 0 rfl) ?_
  refine lv_aload_n hx hb d_Qu_init_31 rfl (lv_at hl 1 rfl) ?_
  refine va_putF (D := (dC, dI)) (ci := 6) (v := .ref h1) (ty := .object "NetUnfolder$Net") (C := "NetUnfolder$Question") (T := T_Qu) (N := 6) hx hb ht in_Qu ty_Qu ok_Qu nm_Qu hown hK hP hD hS 0 rfl rfl 0 (by decide) (ht _ wd_2_17) (fun _ h9 => h9) rfl hin rfl (by decide +kernel) rfl rfl (Nat.le_of_ble_eq_true rfl) d_Qu_init_32 (fun H16 locs hPn hDn hSn => ?_)
  replace hP : va_P (dC, dI) clA [(h0, .inr (6, [.ref h1, .null, .null, .ref q1, .ref q8, .int 0])), (q1, .inr (7, [.ref q5, .ref q6, .int 0, .int 0])), (q5, .inl (cL, 815, .inr (.inl (fun _ => 0)))), (q6, .inl (cL, 815, .inr (.inl (fun _ => 0)))), (q8, .inr (8, [.ref q1, .long 0, .long 0, .int 0, .ref q12, .ref q13, .int 0, .ref q14])), (q12, .inl (cL, 39, .inr (.inl (fun _ => 0)))), (q13, .inl (cI, 38, .inl (fun _ => 0))), (q14, .inl (cI, 38, .inl (fun _ => 0)))] H16 := hPn
  replace hD : va_D A [(h0, .inr (6, [.ref h1, .null, .null, .ref q1, .ref q8, .int 0])), (q1, .inr (7, [.ref q5, .ref q6, .int 0, .int 0])), (q5, .inl (cL, 815, .inr (.inl (fun _ => 0)))), (q6, .inl (cL, 815, .inr (.inl (fun _ => 0)))), (q8, .inr (8, [.ref q1, .long 0, .long 0, .int 0, .ref q12, .ref q13, .int 0, .ref q14])), (q12, .inl (cL, 39, .inr (.inl (fun _ => 0)))), (q13, .inl (cI, 38, .inl (fun _ => 0))), (q14, .inl (cI, 38, .inl (fun _ => 0)))] := hDn
  replace hS := hSn
  clear hPn hDn hSn
  refine lv_aload_n hx hb d_Qu_init_35 rfl (lv_at hl 0 rfl) ?_
  refine lv_aload_n hx hb d_Qu_init_36 rfl (lv_at hl 2 rfl) ?_
  refine va_putF (D := (dC, dI)) (ci := 6) (v := .ref h2) (ty := .object "NetUnfolder$Prefix") (C := "NetUnfolder$Question") (T := T_Qu) (N := 6) hx hb ht in_Qu ty_Qu ok_Qu nm_Qu hown hK hP hD hS 0 rfl rfl 1 (by decide) (ht _ wd_2_18) (fun _ h9 => h9) rfl hin rfl (by decide +kernel) rfl rfl (Nat.le_of_ble_eq_true rfl) d_Qu_init_37 (fun H17 locs hPn hDn hSn => ?_)
  replace hP : va_P (dC, dI) clA [(h0, .inr (6, [.ref h1, .ref h2, .null, .ref q1, .ref q8, .int 0])), (q1, .inr (7, [.ref q5, .ref q6, .int 0, .int 0])), (q5, .inl (cL, 815, .inr (.inl (fun _ => 0)))), (q6, .inl (cL, 815, .inr (.inl (fun _ => 0)))), (q8, .inr (8, [.ref q1, .long 0, .long 0, .int 0, .ref q12, .ref q13, .int 0, .ref q14])), (q12, .inl (cL, 39, .inr (.inl (fun _ => 0)))), (q13, .inl (cI, 38, .inl (fun _ => 0))), (q14, .inl (cI, 38, .inl (fun _ => 0)))] H17 := hPn
  replace hD : va_D A [(h0, .inr (6, [.ref h1, .ref h2, .null, .ref q1, .ref q8, .int 0])), (q1, .inr (7, [.ref q5, .ref q6, .int 0, .int 0])), (q5, .inl (cL, 815, .inr (.inl (fun _ => 0)))), (q6, .inl (cL, 815, .inr (.inl (fun _ => 0)))), (q8, .inr (8, [.ref q1, .long 0, .long 0, .int 0, .ref q12, .ref q13, .int 0, .ref q14])), (q12, .inl (cL, 39, .inr (.inl (fun _ => 0)))), (q13, .inl (cI, 38, .inl (fun _ => 0))), (q14, .inl (cI, 38, .inl (fun _ => 0)))] := hDn
  replace hS := hSn
  clear hPn hDn hSn
  refine lv_aload_n hx hb d_Qu_init_40 rfl (lv_at hl 0 rfl) ?_
  refine lv_aload_n hx hb d_Qu_init_41 rfl (lv_at hl 3 rfl) ?_
  refine va_putF (D := (dC, dI)) (ci := 6) (v := .ref h3) (ty := .object "NetUnfolder$Way") (C := "NetUnfolder$Question") (T := T_Qu) (N := 6) hx hb ht in_Qu ty_Qu ok_Qu nm_Qu hown hK hP hD hS 0 rfl rfl 2 (by decide) (ht _ wd_2_19) (fun _ h9 => h9) rfl hin rfl (by decide +kernel) rfl rfl (Nat.le_of_ble_eq_true rfl) d_Qu_init_42 (fun H18 locs hPn hDn hSn => ?_)
  replace hP : va_P (dC, dI) clA [(h0, .inr (6, [.ref h1, .ref h2, .ref h3, .ref q1, .ref q8, .int 0])), (q1, .inr (7, [.ref q5, .ref q6, .int 0, .int 0])), (q5, .inl (cL, 815, .inr (.inl (fun _ => 0)))), (q6, .inl (cL, 815, .inr (.inl (fun _ => 0)))), (q8, .inr (8, [.ref q1, .long 0, .long 0, .int 0, .ref q12, .ref q13, .int 0, .ref q14])), (q12, .inl (cL, 39, .inr (.inl (fun _ => 0)))), (q13, .inl (cI, 38, .inl (fun _ => 0))), (q14, .inl (cI, 38, .inl (fun _ => 0)))] H18 := hPn
  replace hD : va_D A [(h0, .inr (6, [.ref h1, .ref h2, .ref h3, .ref q1, .ref q8, .int 0])), (q1, .inr (7, [.ref q5, .ref q6, .int 0, .int 0])), (q5, .inl (cL, 815, .inr (.inl (fun _ => 0)))), (q6, .inl (cL, 815, .inr (.inl (fun _ => 0)))), (q8, .inr (8, [.ref q1, .long 0, .long 0, .int 0, .ref q12, .ref q13, .int 0, .ref q14])), (q12, .inl (cL, 39, .inr (.inl (fun _ => 0)))), (q13, .inl (cI, 38, .inl (fun _ => 0))), (q14, .inl (cI, 38, .inl (fun _ => 0)))] := hDn
  replace hS := hSn
  clear hPn hDn hSn
  have hP9 := hP.sub (ws' := [(h0, .inr (6, [.ref h1, .ref h2, .ref h3, .ref q1, .ref q8, .int 0])), (q1, .inr (7, [.ref q5, .ref q6, .int 0, .int 0])), (q5, .inl (cL, 815, .inr (.inl (fun _ => 0)))), (q6, .inl (cL, 815, .inr (.inl (fun _ => 0)))), (q8, .inr (8, [.ref q1, .long 0, .long 0, .int 0, .ref q12, .ref q13, .int 0, .ref q14])), (q12, .inl (cL, 39, .inr (.inl (fun _ => 0)))), (q13, .inl (cI, 38, .inl (fun _ => 0))), (q14, .inl (cI, 38, .inl (fun _ => 0)))]) [0, 1, 2, 3, 4, 5, 6, 7] rfl
  have hD9 := hD.sub (ws' := [(h0, .inr (6, [.ref h1, .ref h2, .ref h3, .ref q1, .ref q8, .int 0])), (q1, .inr (7, [.ref q5, .ref q6, .int 0, .int 0])), (q5, .inl (cL, 815, .inr (.inl (fun _ => 0)))), (q6, .inl (cL, 815, .inr (.inl (fun _ => 0)))), (q8, .inr (8, [.ref q1, .long 0, .long 0, .int 0, .ref q12, .ref q13, .int 0, .ref q14])), (q12, .inl (cL, 39, .inr (.inl (fun _ => 0)))), (q13, .inl (cI, 38, .inl (fun _ => 0))), (q14, .inl (cI, 38, .inl (fun _ => 0)))]) [0, 1, 2, 3, 4, 5, 6, 7] (by decide) rfl
  exact W.vret hx hb hr (fun t ht9 hW => ⟨⟨(), rfl, trivial, q1, q5, q6, q8, q12, q13, q14, by rw [ht9]; exact hP9, hD9⟩, hS.F ht9⟩) hS.2.2 d_Qu_init_45

set_option maxHeartbeats 4000000 in
set_option maxRecDepth 100000 in
theorem c_NU_init (l : Launch) (dC : Nat → ClassId) (dI : Nat → Nat → Nat) (cI cL cZ : ClassId) (sz : Nat) (h0 : Nat) : Met l y_NU_init (Cond.code y_NU_init prog_1_method_1_code 1 none :: wsA) { frames := 3, cells := 29, slots := 2840, locals := 56 } (va_Pc [.ref h0] (fun U => U.heap.size = sz ∧ va_P (dC, dI) clA [(h0, .inr (0, [.null, .null, .null, .null, .null]))] U.heap ∧ va_K (dC, dI) clA [(cI, .int), (cL, .long), (cZ, .boolean)] U ∧ va_D (fun _ => True) [(h0, .inr (0, [.null, .null, .null, .null, .null]))] ∧ NwA U)) (va_Qv (fun _ : Unit => True) (fun _ t => ∃ q1 q5 q6 q8 q12 q13 q14 q15 q16 q17 q18 q19 q20 q21 q23 q27 q29 q33 q34 q35 q36 q38 q42 q43 q44 q45 q46 q47 q48 : Nat, va_P (dC, dI) clA [(h0, .inr (0, [.ref q1, .ref q8, .ref q23, .ref q29, .ref q38])), (q1, .inr (1, [.ref q5, .ref q6, .int 0, .int 0])), (q5, .inl (cI, 8, .inl (fun _ => 0))), (q6, .inl (cI, 8, .inl (fun _ => 0))), (q8, .inr (2, [.int 0, .ref q12, .ref q13, .ref q14, .ref q15, .ref q16, .int 0, .ref q17, .ref q18, .ref q19, .ref q20, .ref q21, .int 0, .int 0])), (q12, .inl (cI, 60, .inl (fun _ => 0))), (q13, .inl (cI, 60, .inl (fun _ => 0))), (q14, .inl (cI, 60, .inl (fun _ => 0))), (q15, .inl (cL, 60, .inr (.inl (fun _ => 0)))), (q16, .inl (cL, 8, .inr (.inl (fun _ => 0)))), (q17, .inl (cI, 30, .inl (fun _ => 0))), (q18, .inl (cL, 30, .inr (.inl (fun _ => 0)))), (q19, .inl (cI, 30, .inl (fun _ => 0))), (q20, .inl (cI, 30, .inl (fun _ => 0))), (q21, .inl (cL, 30, .inr (.inl (fun _ => 0)))), (q23, .inr (3, [.ref q27, .int (-1)])), (q27, .inl (cI, 31, .inl (fun _ => 0))), (q29, .inr (4, [.ref q1, .ref q8, .ref q23, .ref q33])), (q33, .inr (5, [.ref q8, .int 0, .ref q34, .ref q35, .ref q36])), (q34, .inl (cI, 201, .inl (fun _ => 0))), (q35, .inl (cL, 201, .inr (.inl (fun _ => 0)))), (q36, .inl (cL, 201, .inr (.inl (fun _ => 0)))), (q38, .inr (6, [.ref q1, .ref q8, .ref q23, .ref q42, .ref q45, .int 0])), (q42, .inr (7, [.ref q43, .ref q44, .int 0, .int 0])), (q43, .inl (cL, 815, .inr (.inl (fun _ => 0)))), (q44, .inl (cL, 815, .inr (.inl (fun _ => 0)))), (q45, .inr (8, [.ref q42, .long 0, .long 0, .int 0, .ref q46, .ref q47, .int 0, .ref q48])), (q46, .inl (cL, 39, .inr (.inl (fun _ => 0)))), (q47, .inl (cI, 38, .inl (fun _ => 0))), (q48, .inl (cI, 38, .inl (fun _ => 0)))] t.heap ∧ va_D (va_A [(h0, .inr (0, [.null, .null, .null, .null, .null]))] sz) [(h0, .inr (0, [.ref q1, .ref q8, .ref q23, .ref q29, .ref q38])), (q1, .inr (1, [.ref q5, .ref q6, .int 0, .int 0])), (q5, .inl (cI, 8, .inl (fun _ => 0))), (q6, .inl (cI, 8, .inl (fun _ => 0))), (q8, .inr (2, [.int 0, .ref q12, .ref q13, .ref q14, .ref q15, .ref q16, .int 0, .ref q17, .ref q18, .ref q19, .ref q20, .ref q21, .int 0, .int 0])), (q12, .inl (cI, 60, .inl (fun _ => 0))), (q13, .inl (cI, 60, .inl (fun _ => 0))), (q14, .inl (cI, 60, .inl (fun _ => 0))), (q15, .inl (cL, 60, .inr (.inl (fun _ => 0)))), (q16, .inl (cL, 8, .inr (.inl (fun _ => 0)))), (q17, .inl (cI, 30, .inl (fun _ => 0))), (q18, .inl (cL, 30, .inr (.inl (fun _ => 0)))), (q19, .inl (cI, 30, .inl (fun _ => 0))), (q20, .inl (cI, 30, .inl (fun _ => 0))), (q21, .inl (cL, 30, .inr (.inl (fun _ => 0)))), (q23, .inr (3, [.ref q27, .int (-1)])), (q27, .inl (cI, 31, .inl (fun _ => 0))), (q29, .inr (4, [.ref q1, .ref q8, .ref q23, .ref q33])), (q33, .inr (5, [.ref q8, .int 0, .ref q34, .ref q35, .ref q36])), (q34, .inl (cI, 201, .inl (fun _ => 0))), (q35, .inl (cL, 201, .inr (.inl (fun _ => 0)))), (q36, .inl (cL, 201, .inr (.inl (fun _ => 0)))), (q38, .inr (6, [.ref q1, .ref q8, .ref q23, .ref q42, .ref q45, .int 0])), (q42, .inr (7, [.ref q43, .ref q44, .int 0, .int 0])), (q43, .inl (cL, 815, .inr (.inl (fun _ => 0)))), (q44, .inl (cL, 815, .inr (.inl (fun _ => 0)))), (q45, .inr (8, [.ref q42, .long 0, .long 0, .int 0, .ref q46, .ref q47, .int 0, .ref q48])), (q46, .inl (cL, 39, .inr (.inl (fun _ => 0)))), (q47, .inl (cI, 38, .inl (fun _ => 0))), (q48, .inl (cI, 38, .inl (fun _ => 0)))]) (va_A [(h0, .inr (0, [.null, .null, .null, .null, .null]))] sz)) 29 2840 (va_A [(h0, .inr (0, [.null, .null, .null, .null, .null]))] sz) := by
  refine Met.ofW (cc := prog_1_method_1_code) (maxL := 1) (ret := none) (by decide) rfl ?_
  intro p e s m args below meth c s₁ B hml hv
  obtain ⟨rfl, hsz, hP, hK, hD0, hN⟩ := hv
  have hx := B.exec
  have hb := B.bytes
  have hr := B.returns
  have ht : ∀ w ∈ wsA, w.before _ s = true := fun w h => atoms_spec (ws := (Cond.code y_NU_init prog_1_method_1_code 1 none :: wsA)) B.pre w (List.mem_cons_of_mem _ h)
  have hown : s.vm.findClass "NetUnfolder" = some m.cls := findClass_of_methodNamed B.named
  have hlocks := B.notSynchronized
  have hin : meth.name = "<init>" := (name_of_methodNamed B.named B.method).1
  subst hsz
  have hD := hD0.self (sz := s.heap.size)
  generalize hAe : va_A [(h0, .inr (0, [.null, .null, .null, .null, .null]))] s.heap.size = A at hD ⊢
  have hA : ∀ q : Nat, s.heap.size ≤ q → A q := fun q h => by rw [← hAe]; exact Or.inr h
  have hS : va_S A s.heap s.heap [] := va_S.rf
  have hl := lv_entry ([.ref h0]) (n := 1) (Nat.le_of_ble_eq_true rfl)
  rw [lg_entry_eq]
  generalize (lg_sl ([.ref h0]) ++ List.replicate (1 - (lg_sl ([.ref h0])).length) Slot.unset).toArray = ls at hl ⊢
  replace hl : lv_has ls 1 [(0, .ref h0)] := hl
  refine lv_aload_n hx hb d_NU_init_0 rfl (lv_at hl 0 rfl) ?_
  refine W.objInit hx hb hown (ht (.methodLink "NetUnfolder" 1 Lib.objectInit) wd_1_24) (ht (.instanceMethod Lib.objectInit) wd_1_25) (ht (.code Lib.objectInit ⟨#[0xb1]⟩ 1 none) wd_1_26) rfl (by rw [hml]; exact hl.1) rfl d_NU_init_1 (Nat.le_of_ble_eq_true rfl) (Nat.le_of_ble_eq_true rfl) ?_
  refine W.eq (g2 := F0 m 4 ls []) rfl ?_
  refine lv_aload_n hx hb d_NU_init_4 rfl (lv_at hl 0 rfl) ?_
  refine va_new (ci := 1) (fs := [.null, .null, .int 0, .int 0]) (C := "NetUnfolder$Net") (T := T_Ne) (N := 4) hx hb ht in_Ne ty_Ne ok_Ne hown (ht _ wd_1_27) (ht _ wd_1_28) (ht _ wd_1_2) hK hP hD hS hA rfl (by decide +kernel) (Nat.le_of_ble_eq_true rfl) (Nat.le_of_ble_eq_true rfl) d_NU_init_5 (fun q1 H2 hPn hDn hSn => ?_)
  replace hP : va_P (dC, dI) clA [(h0, .inr (0, [.null, .null, .null, .null, .null])), (q1, .inr (1, [.null, .null, .int 0, .int 0]))] H2 := hPn
  replace hD : va_D A [(h0, .inr (0, [.null, .null, .null, .null, .null])), (q1, .inr (1, [.null, .null, .int 0, .int 0]))] := hDn
  replace hS := hSn
  clear hPn hDn hSn
  refine W.cs (cells' := 1) (slots' := 4) rfl rfl ?_
  refine lv_dup hx hb d_NU_init_8 rfl ?_
  have hPc := hP.sub (ws' := [(q1, .inr (1, [.null, .null, .int 0, .int 0]))]) [1] rfl
  have hDc := hD.sub (ws' := [(q1, .inr (1, [.null, .null, .int 0, .int 0]))]) [1] (by decide) rfl
  have hFc := va_free (wc := [(q1, .inr (1, [.null, .null, .int 0, .int 0]))]) hD hS hA [1] rfl
  refine va_callv (va_runIN (As := []) (rest := [.ref q1, .ref h0]) ⟨hx, hb, hml, hown, ht⟩ (c_Ne_init l dC dI cI cL cZ _ q1 ) ⟨va_cnB 0 ht (goodA wd_1_31) rfl rfl rfl hN.1 (ht _ wd_1_2) (by decide +kernel) ⟨Nat.le_of_ble_eq_true rfl, Nat.le_of_ble_eq_true rfl⟩, rfl, ht _ wd_1_30⟩ ⟨fun a U g mk q => by obtain ⟨q0, q1, qP, qK, qD, qN⟩ := q; exact ⟨q0, q1, qP, va_K.moved (u := U) (U := U.calling g mk a) (Vm.Alike.refl U.vm) qK, qD, NwA.same (u := U) rfl qN⟩, fun U hU hW => ⟨rfl, by rw [hU], by rw [hU]; exact hPc, va_K.moved hW.alike hK, hDc.weaken (fun _ _ _ _ => trivial), NwA.warm hW hN⟩⟩ rfl rfl hl.1 rfl (lv_room (Nat.le_of_ble_eq_true rfl)) d_NU_init_9 ⟨Nat.le_of_ble_eq_true rfl, Nat.le_of_ble_eq_true rfl⟩) hS (fun q _ h => hFc q h) hFc (fun u t H3 locs ht9 hvm hw4 hB hz1 hk1 hSn => ?_)
  obtain ⟨q5, q6, hP1, hD1⟩ := hB
  rw [ht9] at hP1
  obtain ⟨hPn, hDn⟩ := va_join (wr := [(h0, .inr (0, [.null, .null, .null, .null, .null]))]) (w1 := [(q1, .inr (1, [.ref q5, .ref q6, .int 0, .int 0])), (q5, .inl (cI, 8, .inl (fun _ => 0))), (q6, .inl (cI, 8, .inl (fun _ => 0)))]) hP hD [1] [0] rfl rfl (by decide) (by decide) hk1 hFc hP1 hD1
  replace hP : va_P (dC, dI) clA [(h0, .inr (0, [.null, .null, .null, .null, .null])), (q1, .inr (1, [.ref q5, .ref q6, .int 0, .int 0])), (q5, .inl (cI, 8, .inl (fun _ => 0))), (q6, .inl (cI, 8, .inl (fun _ => 0)))] H3 := hPn
  replace hD : va_D A [(h0, .inr (0, [.null, .null, .null, .null, .null])), (q1, .inr (1, [.ref q5, .ref q6, .int 0, .int 0])), (q5, .inl (cI, 8, .inl (fun _ => 0))), (q6, .inl (cI, 8, .inl (fun _ => 0)))] := hDn
  replace hS := hSn
  clear hPn hDn hSn
  clear hPc hDc hFc hP1 hD1 hk1 hz1 ht9 hvm
  refine W.cs (cells' := 3) (slots' := 20) rfl rfl ?_
  refine va_putF (D := (dC, dI)) (ci := 0) (v := .ref q1) (ty := .object "NetUnfolder$Net") (C := "NetUnfolder") (T := T_NU) (N := 5) hx hb ht in_NU ty_NU ok_NU nm_NU hown hK hP hD hS 0 rfl rfl 0 (by decide) (ht _ wd_2_36) (fun _ h9 => h9) rfl hin rfl (by decide +kernel) rfl rfl (Nat.le_of_ble_eq_true rfl) d_NU_init_12 (fun H7 locs hPn hDn hSn => ?_)
  replace hP : va_P (dC, dI) clA [(h0, .inr (0, [.ref q1, .null, .null, .null, .null])), (q1, .inr (1, [.ref q5, .ref q6, .int 0, .int 0])), (q5, .inl (cI, 8, .inl (fun _ => 0))), (q6, .inl (cI, 8, .inl (fun _ => 0)))] H7 := hPn
  replace hD : va_D A [(h0, .inr (0, [.ref q1, .null, .null, .null, .null])), (q1, .inr (1, [.ref q5, .ref q6, .int 0, .int 0])), (q5, .inl (cI, 8, .inl (fun _ => 0))), (q6, .inl (cI, 8, .inl (fun _ => 0)))] := hDn
  replace hS := hSn
  clear hPn hDn hSn
  refine lv_aload_n hx hb d_NU_init_15 rfl (lv_at hl 0 rfl) ?_
  refine va_new (ci := 2) (fs := [.int 0, .null, .null, .null, .null, .null, .int 0, .null, .null, .null, .null, .null, .int 0, .int 0]) (C := "NetUnfolder$Prefix") (T := T_Pf) (N := 14) hx hb ht in_Pf ty_Pf ok_Pf hown (ht _ wd_1_56) (ht _ wd_1_57) (ht _ wd_1_3) hK hP hD hS hA rfl (by decide +kernel) (Nat.le_of_ble_eq_true rfl) (Nat.le_of_ble_eq_true rfl) d_NU_init_16 (fun q8 H9 hPn hDn hSn => ?_)
  replace hP : va_P (dC, dI) clA [(h0, .inr (0, [.ref q1, .null, .null, .null, .null])), (q1, .inr (1, [.ref q5, .ref q6, .int 0, .int 0])), (q5, .inl (cI, 8, .inl (fun _ => 0))), (q6, .inl (cI, 8, .inl (fun _ => 0))), (q8, .inr (2, [.int 0, .null, .null, .null, .null, .null, .int 0, .null, .null, .null, .null, .null, .int 0, .int 0]))] H9 := hPn
  replace hD : va_D A [(h0, .inr (0, [.ref q1, .null, .null, .null, .null])), (q1, .inr (1, [.ref q5, .ref q6, .int 0, .int 0])), (q5, .inl (cI, 8, .inl (fun _ => 0))), (q6, .inl (cI, 8, .inl (fun _ => 0))), (q8, .inr (2, [.int 0, .null, .null, .null, .null, .null, .int 0, .null, .null, .null, .null, .null, .int 0, .int 0]))] := hDn
  replace hS := hSn
  clear hPn hDn hSn
  refine W.cs (cells' := 4) (slots' := 34) rfl rfl ?_
  refine lv_dup hx hb d_NU_init_19 rfl ?_
  have hPc := hP.sub (ws' := [(q8, .inr (2, [.int 0, .null, .null, .null, .null, .null, .int 0, .null, .null, .null, .null, .null, .int 0, .int 0]))]) [4] rfl
  have hDc := hD.sub (ws' := [(q8, .inr (2, [.int 0, .null, .null, .null, .null, .null, .int 0, .null, .null, .null, .null, .null, .int 0, .int 0]))]) [4] (by decide) rfl
  have hFc := va_free (wc := [(q8, .inr (2, [.int 0, .null, .null, .null, .null, .null, .int 0, .null, .null, .null, .null, .null, .int 0, .int 0]))]) hD hS hA [4] rfl
  refine va_callv (va_runIN (As := []) (rest := [.ref q8, .ref h0]) ⟨hx, hb, hml, hown, ht⟩ (c_Pf_init l dC dI cI cL cZ _ q8 ) ⟨va_cnB 0 ht (goodA wd_1_60) rfl rfl rfl hN.2.1 (ht _ wd_1_3) (by decide +kernel) ⟨Nat.le_of_ble_eq_true rfl, Nat.le_of_ble_eq_true rfl⟩, rfl, ht _ wd_1_59⟩ ⟨fun a U g mk q => by obtain ⟨q0, q1, qP, qK, qD, qN⟩ := q; exact ⟨q0, q1, qP, va_K.moved (u := U) (U := U.calling g mk a) (Vm.Alike.refl U.vm) qK, qD, NwA.same (u := U) rfl qN⟩, fun U hU hW => ⟨rfl, by rw [hU], by rw [hU]; exact hPc, va_K.moved hW.alike hK, hDc.weaken (fun _ _ _ _ => trivial), NwA.warm hW hN⟩⟩ rfl rfl hl.1 rfl (lv_room (Nat.le_of_ble_eq_true rfl)) d_NU_init_20 ⟨Nat.le_of_ble_eq_true rfl, Nat.le_of_ble_eq_true rfl⟩) hS (fun q _ h => hFc q h) hFc (fun u t H10 locs ht9 hvm hw11 hB hz1 hk1 hSn => ?_)
  obtain ⟨q12, q13, q14, q15, q16, q17, q18, q19, q20, q21, hP1, hD1⟩ := hB
  rw [ht9] at hP1
  obtain ⟨hPn, hDn⟩ := va_join (wr := [(h0, .inr (0, [.ref q1, .null, .null, .null, .null])), (q1, .inr (1, [.ref q5, .ref q6, .int 0, .int 0])), (q5, .inl (cI, 8, .inl (fun _ => 0))), (q6, .inl (cI, 8, .inl (fun _ => 0)))]) (w1 := [(q8, .inr (2, [.int 0, .ref q12, .ref q13, .ref q14, .ref q15, .ref q16, .int 0, .ref q17, .ref q18, .ref q19, .ref q20, .ref q21, .int 0, .int 0])), (q12, .inl (cI, 60, .inl (fun _ => 0))), (q13, .inl (cI, 60, .inl (fun _ => 0))), (q14, .inl (cI, 60, .inl (fun _ => 0))), (q15, .inl (cL, 60, .inr (.inl (fun _ => 0)))), (q16, .inl (cL, 8, .inr (.inl (fun _ => 0)))), (q17, .inl (cI, 30, .inl (fun _ => 0))), (q18, .inl (cL, 30, .inr (.inl (fun _ => 0)))), (q19, .inl (cI, 30, .inl (fun _ => 0))), (q20, .inl (cI, 30, .inl (fun _ => 0))), (q21, .inl (cL, 30, .inr (.inl (fun _ => 0))))]) hP hD [4] [0, 1, 2, 3] rfl rfl (by decide) (by decide) hk1 hFc hP1 hD1
  replace hP : va_P (dC, dI) clA [(h0, .inr (0, [.ref q1, .null, .null, .null, .null])), (q1, .inr (1, [.ref q5, .ref q6, .int 0, .int 0])), (q5, .inl (cI, 8, .inl (fun _ => 0))), (q6, .inl (cI, 8, .inl (fun _ => 0))), (q8, .inr (2, [.int 0, .ref q12, .ref q13, .ref q14, .ref q15, .ref q16, .int 0, .ref q17, .ref q18, .ref q19, .ref q20, .ref q21, .int 0, .int 0])), (q12, .inl (cI, 60, .inl (fun _ => 0))), (q13, .inl (cI, 60, .inl (fun _ => 0))), (q14, .inl (cI, 60, .inl (fun _ => 0))), (q15, .inl (cL, 60, .inr (.inl (fun _ => 0)))), (q16, .inl (cL, 8, .inr (.inl (fun _ => 0)))), (q17, .inl (cI, 30, .inl (fun _ => 0))), (q18, .inl (cL, 30, .inr (.inl (fun _ => 0)))), (q19, .inl (cI, 30, .inl (fun _ => 0))), (q20, .inl (cI, 30, .inl (fun _ => 0))), (q21, .inl (cL, 30, .inr (.inl (fun _ => 0))))] H10 := hPn
  replace hD : va_D A [(h0, .inr (0, [.ref q1, .null, .null, .null, .null])), (q1, .inr (1, [.ref q5, .ref q6, .int 0, .int 0])), (q5, .inl (cI, 8, .inl (fun _ => 0))), (q6, .inl (cI, 8, .inl (fun _ => 0))), (q8, .inr (2, [.int 0, .ref q12, .ref q13, .ref q14, .ref q15, .ref q16, .int 0, .ref q17, .ref q18, .ref q19, .ref q20, .ref q21, .int 0, .int 0])), (q12, .inl (cI, 60, .inl (fun _ => 0))), (q13, .inl (cI, 60, .inl (fun _ => 0))), (q14, .inl (cI, 60, .inl (fun _ => 0))), (q15, .inl (cL, 60, .inr (.inl (fun _ => 0)))), (q16, .inl (cL, 8, .inr (.inl (fun _ => 0)))), (q17, .inl (cI, 30, .inl (fun _ => 0))), (q18, .inl (cL, 30, .inr (.inl (fun _ => 0)))), (q19, .inl (cI, 30, .inl (fun _ => 0))), (q20, .inl (cI, 30, .inl (fun _ => 0))), (q21, .inl (cL, 30, .inr (.inl (fun _ => 0))))] := hDn
  replace hS := hSn
  clear hPn hDn hSn
  clear hPc hDc hFc hP1 hD1 hk1 hz1 ht9 hvm
  refine W.cs (cells' := 14) (slots' := 432) rfl rfl ?_
  refine va_putF (D := (dC, dI)) (ci := 0) (v := .ref q8) (ty := .object "NetUnfolder$Prefix") (C := "NetUnfolder") (T := T_NU) (N := 5) hx hb ht in_NU ty_NU ok_NU nm_NU hown hK hP hD hS 0 rfl rfl 1 (by decide) (ht _ wd_2_37) (fun _ h9 => h9) rfl hin rfl (by decide +kernel) rfl rfl (Nat.le_of_ble_eq_true rfl) d_NU_init_23 (fun H22 locs hPn hDn hSn => ?_)
  replace hP : va_P (dC, dI) clA [(h0, .inr (0, [.ref q1, .ref q8, .null, .null, .null])), (q1, .inr (1, [.ref q5, .ref q6, .int 0, .int 0])), (q5, .inl (cI, 8, .inl (fun _ => 0))), (q6, .inl (cI, 8, .inl (fun _ => 0))), (q8, .inr (2, [.int 0, .ref q12, .ref q13, .ref q14, .ref q15, .ref q16, .int 0, .ref q17, .ref q18, .ref q19, .ref q20, .ref q21, .int 0, .int 0])), (q12, .inl (cI, 60, .inl (fun _ => 0))), (q13, .inl (cI, 60, .inl (fun _ => 0))), (q14, .inl (cI, 60, .inl (fun _ => 0))), (q15, .inl (cL, 60, .inr (.inl (fun _ => 0)))), (q16, .inl (cL, 8, .inr (.inl (fun _ => 0)))), (q17, .inl (cI, 30, .inl (fun _ => 0))), (q18, .inl (cL, 30, .inr (.inl (fun _ => 0)))), (q19, .inl (cI, 30, .inl (fun _ => 0))), (q20, .inl (cI, 30, .inl (fun _ => 0))), (q21, .inl (cL, 30, .inr (.inl (fun _ => 0))))] H22 := hPn
  replace hD : va_D A [(h0, .inr (0, [.ref q1, .ref q8, .null, .null, .null])), (q1, .inr (1, [.ref q5, .ref q6, .int 0, .int 0])), (q5, .inl (cI, 8, .inl (fun _ => 0))), (q6, .inl (cI, 8, .inl (fun _ => 0))), (q8, .inr (2, [.int 0, .ref q12, .ref q13, .ref q14, .ref q15, .ref q16, .int 0, .ref q17, .ref q18, .ref q19, .ref q20, .ref q21, .int 0, .int 0])), (q12, .inl (cI, 60, .inl (fun _ => 0))), (q13, .inl (cI, 60, .inl (fun _ => 0))), (q14, .inl (cI, 60, .inl (fun _ => 0))), (q15, .inl (cL, 60, .inr (.inl (fun _ => 0)))), (q16, .inl (cL, 8, .inr (.inl (fun _ => 0)))), (q17, .inl (cI, 30, .inl (fun _ => 0))), (q18, .inl (cL, 30, .inr (.inl (fun _ => 0)))), (q19, .inl (cI, 30, .inl (fun _ => 0))), (q20, .inl (cI, 30, .inl (fun _ => 0))), (q21, .inl (cL, 30, .inr (.inl (fun _ => 0))))] := hDn
  replace hS := hSn
  clear hPn hDn hSn
  refine lv_aload_n hx hb d_NU_init_26 rfl (lv_at hl 0 rfl) ?_
  refine va_new (ci := 3) (fs := [.null, .int 0]) (C := "NetUnfolder$Way") (T := T_Wa) (N := 2) hx hb ht in_Wa ty_Wa ok_Wa hown (ht _ wd_1_137) (ht _ wd_1_138) (ht _ wd_1_4) hK hP hD hS hA rfl (by decide +kernel) (Nat.le_of_ble_eq_true rfl) (Nat.le_of_ble_eq_true rfl) d_NU_init_27 (fun q23 H24 hPn hDn hSn => ?_)
  replace hP : va_P (dC, dI) clA [(h0, .inr (0, [.ref q1, .ref q8, .null, .null, .null])), (q1, .inr (1, [.ref q5, .ref q6, .int 0, .int 0])), (q5, .inl (cI, 8, .inl (fun _ => 0))), (q6, .inl (cI, 8, .inl (fun _ => 0))), (q8, .inr (2, [.int 0, .ref q12, .ref q13, .ref q14, .ref q15, .ref q16, .int 0, .ref q17, .ref q18, .ref q19, .ref q20, .ref q21, .int 0, .int 0])), (q12, .inl (cI, 60, .inl (fun _ => 0))), (q13, .inl (cI, 60, .inl (fun _ => 0))), (q14, .inl (cI, 60, .inl (fun _ => 0))), (q15, .inl (cL, 60, .inr (.inl (fun _ => 0)))), (q16, .inl (cL, 8, .inr (.inl (fun _ => 0)))), (q17, .inl (cI, 30, .inl (fun _ => 0))), (q18, .inl (cL, 30, .inr (.inl (fun _ => 0)))), (q19, .inl (cI, 30, .inl (fun _ => 0))), (q20, .inl (cI, 30, .inl (fun _ => 0))), (q21, .inl (cL, 30, .inr (.inl (fun _ => 0)))), (q23, .inr (3, [.null, .int 0]))] H24 := hPn
  replace hD : va_D A [(h0, .inr (0, [.ref q1, .ref q8, .null, .null, .null])), (q1, .inr (1, [.ref q5, .ref q6, .int 0, .int 0])), (q5, .inl (cI, 8, .inl (fun _ => 0))), (q6, .inl (cI, 8, .inl (fun _ => 0))), (q8, .inr (2, [.int 0, .ref q12, .ref q13, .ref q14, .ref q15, .ref q16, .int 0, .ref q17, .ref q18, .ref q19, .ref q20, .ref q21, .int 0, .int 0])), (q12, .inl (cI, 60, .inl (fun _ => 0))), (q13, .inl (cI, 60, .inl (fun _ => 0))), (q14, .inl (cI, 60, .inl (fun _ => 0))), (q15, .inl (cL, 60, .inr (.inl (fun _ => 0)))), (q16, .inl (cL, 8, .inr (.inl (fun _ => 0)))), (q17, .inl (cI, 30, .inl (fun _ => 0))), (q18, .inl (cL, 30, .inr (.inl (fun _ => 0)))), (q19, .inl (cI, 30, .inl (fun _ => 0))), (q20, .inl (cI, 30, .inl (fun _ => 0))), (q21, .inl (cL, 30, .inr (.inl (fun _ => 0)))), (q23, .inr (3, [.null, .int 0]))] := hDn
  replace hS := hSn
  clear hPn hDn hSn
  refine W.cs (cells' := 15) (slots' := 434) rfl rfl ?_
  refine lv_dup hx hb d_NU_init_30 rfl ?_
  have hPc := hP.sub (ws' := [(q23, .inr (3, [.null, .int 0]))]) [15] rfl
  have hDc := hD.sub (ws' := [(q23, .inr (3, [.null, .int 0]))]) [15] (by decide) rfl
  have hFc := va_free (wc := [(q23, .inr (3, [.null, .int 0]))]) hD hS hA [15] rfl
  refine va_callv (va_runIN (As := []) (rest := [.ref q23, .ref h0]) ⟨hx, hb, hml, hown, ht⟩ (c_Wa_init l dC dI cI cL cZ _ q23 ) ⟨va_cnB 0 ht (goodA wd_1_141) rfl rfl rfl hN.2.2.1 (ht _ wd_1_4) (by decide +kernel) ⟨Nat.le_of_ble_eq_true rfl, Nat.le_of_ble_eq_true rfl⟩, rfl, ht _ wd_1_140⟩ ⟨fun a U g mk q => by obtain ⟨q0, q1, qP, qK, qD, qN⟩ := q; exact ⟨q0, q1, qP, va_K.moved (u := U) (U := U.calling g mk a) (Vm.Alike.refl U.vm) qK, qD, NwA.same (u := U) rfl qN⟩, fun U hU hW => ⟨rfl, by rw [hU], by rw [hU]; exact hPc, va_K.moved hW.alike hK, hDc.weaken (fun _ _ _ _ => trivial), NwA.warm hW hN⟩⟩ rfl rfl hl.1 rfl (lv_room (Nat.le_of_ble_eq_true rfl)) d_NU_init_31 ⟨Nat.le_of_ble_eq_true rfl, Nat.le_of_ble_eq_true rfl⟩) hS (fun q _ h => hFc q h) hFc (fun u t H25 locs ht9 hvm hw26 hB hz1 hk1 hSn => ?_)
  obtain ⟨q27, hP1, hD1⟩ := hB
  rw [ht9] at hP1
  obtain ⟨hPn, hDn⟩ := va_join (wr := [(h0, .inr (0, [.ref q1, .ref q8, .null, .null, .null])), (q1, .inr (1, [.ref q5, .ref q6, .int 0, .int 0])), (q5, .inl (cI, 8, .inl (fun _ => 0))), (q6, .inl (cI, 8, .inl (fun _ => 0))), (q8, .inr (2, [.int 0, .ref q12, .ref q13, .ref q14, .ref q15, .ref q16, .int 0, .ref q17, .ref q18, .ref q19, .ref q20, .ref q21, .int 0, .int 0])), (q12, .inl (cI, 60, .inl (fun _ => 0))), (q13, .inl (cI, 60, .inl (fun _ => 0))), (q14, .inl (cI, 60, .inl (fun _ => 0))), (q15, .inl (cL, 60, .inr (.inl (fun _ => 0)))), (q16, .inl (cL, 8, .inr (.inl (fun _ => 0)))), (q17, .inl (cI, 30, .inl (fun _ => 0))), (q18, .inl (cL, 30, .inr (.inl (fun _ => 0)))), (q19, .inl (cI, 30, .inl (fun _ => 0))), (q20, .inl (cI, 30, .inl (fun _ => 0))), (q21, .inl (cL, 30, .inr (.inl (fun _ => 0))))]) (w1 := [(q23, .inr (3, [.ref q27, .int (-1)])), (q27, .inl (cI, 31, .inl (fun _ => 0)))]) hP hD [15] [0, 1, 2, 3, 4, 5, 6, 7, 8, 9, 10, 11, 12, 13, 14] rfl rfl (by decide) (by decide) hk1 hFc hP1 hD1
  replace hP : va_P (dC, dI) clA [(h0, .inr (0, [.ref q1, .ref q8, .null, .null, .null])), (q1, .inr (1, [.ref q5, .ref q6, .int 0, .int 0])), (q5, .inl (cI, 8, .inl (fun _ => 0))), (q6, .inl (cI, 8, .inl (fun _ => 0))), (q8, .inr (2, [.int 0, .ref q12, .ref q13, .ref q14, .ref q15, .ref q16, .int 0, .ref q17, .ref q18, .ref q19, .ref q20, .ref q21, .int 0, .int 0])), (q12, .inl (cI, 60, .inl (fun _ => 0))), (q13, .inl (cI, 60, .inl (fun _ => 0))), (q14, .inl (cI, 60, .inl (fun _ => 0))), (q15, .inl (cL, 60, .inr (.inl (fun _ => 0)))), (q16, .inl (cL, 8, .inr (.inl (fun _ => 0)))), (q17, .inl (cI, 30, .inl (fun _ => 0))), (q18, .inl (cL, 30, .inr (.inl (fun _ => 0)))), (q19, .inl (cI, 30, .inl (fun _ => 0))), (q20, .inl (cI, 30, .inl (fun _ => 0))), (q21, .inl (cL, 30, .inr (.inl (fun _ => 0)))), (q23, .inr (3, [.ref q27, .int (-1)])), (q27, .inl (cI, 31, .inl (fun _ => 0)))] H25 := hPn
  replace hD : va_D A [(h0, .inr (0, [.ref q1, .ref q8, .null, .null, .null])), (q1, .inr (1, [.ref q5, .ref q6, .int 0, .int 0])), (q5, .inl (cI, 8, .inl (fun _ => 0))), (q6, .inl (cI, 8, .inl (fun _ => 0))), (q8, .inr (2, [.int 0, .ref q12, .ref q13, .ref q14, .ref q15, .ref q16, .int 0, .ref q17, .ref q18, .ref q19, .ref q20, .ref q21, .int 0, .int 0])), (q12, .inl (cI, 60, .inl (fun _ => 0))), (q13, .inl (cI, 60, .inl (fun _ => 0))), (q14, .inl (cI, 60, .inl (fun _ => 0))), (q15, .inl (cL, 60, .inr (.inl (fun _ => 0)))), (q16, .inl (cL, 8, .inr (.inl (fun _ => 0)))), (q17, .inl (cI, 30, .inl (fun _ => 0))), (q18, .inl (cL, 30, .inr (.inl (fun _ => 0)))), (q19, .inl (cI, 30, .inl (fun _ => 0))), (q20, .inl (cI, 30, .inl (fun _ => 0))), (q21, .inl (cL, 30, .inr (.inl (fun _ => 0)))), (q23, .inr (3, [.ref q27, .int (-1)])), (q27, .inl (cI, 31, .inl (fun _ => 0)))] := hDn
  replace hS := hSn
  clear hPn hDn hSn
  clear hPc hDc hFc hP1 hD1 hk1 hz1 ht9 hvm
  refine W.cs (cells' := 16) (slots' := 465) rfl rfl ?_
  refine va_putF (D := (dC, dI)) (ci := 0) (v := .ref q23) (ty := .object "NetUnfolder$Way") (C := "NetUnfolder") (T := T_NU) (N := 5) hx hb ht in_NU ty_NU ok_NU nm_NU hown hK hP hD hS 0 rfl rfl 2 (by decide) (ht _ wd_2_38) (fun _ h9 => h9) rfl hin rfl (by decide +kernel) rfl rfl (Nat.le_of_ble_eq_true rfl) d_NU_init_34 (fun H28 locs hPn hDn hSn => ?_)
  replace hP : va_P (dC, dI) clA [(h0, .inr (0, [.ref q1, .ref q8, .ref q23, .null, .null])), (q1, .inr (1, [.ref q5, .ref q6, .int 0, .int 0])), (q5, .inl (cI, 8, .inl (fun _ => 0))), (q6, .inl (cI, 8, .inl (fun _ => 0))), (q8, .inr (2, [.int 0, .ref q12, .ref q13, .ref q14, .ref q15, .ref q16, .int 0, .ref q17, .ref q18, .ref q19, .ref q20, .ref q21, .int 0, .int 0])), (q12, .inl (cI, 60, .inl (fun _ => 0))), (q13, .inl (cI, 60, .inl (fun _ => 0))), (q14, .inl (cI, 60, .inl (fun _ => 0))), (q15, .inl (cL, 60, .inr (.inl (fun _ => 0)))), (q16, .inl (cL, 8, .inr (.inl (fun _ => 0)))), (q17, .inl (cI, 30, .inl (fun _ => 0))), (q18, .inl (cL, 30, .inr (.inl (fun _ => 0)))), (q19, .inl (cI, 30, .inl (fun _ => 0))), (q20, .inl (cI, 30, .inl (fun _ => 0))), (q21, .inl (cL, 30, .inr (.inl (fun _ => 0)))), (q23, .inr (3, [.ref q27, .int (-1)])), (q27, .inl (cI, 31, .inl (fun _ => 0)))] H28 := hPn
  replace hD : va_D A [(h0, .inr (0, [.ref q1, .ref q8, .ref q23, .null, .null])), (q1, .inr (1, [.ref q5, .ref q6, .int 0, .int 0])), (q5, .inl (cI, 8, .inl (fun _ => 0))), (q6, .inl (cI, 8, .inl (fun _ => 0))), (q8, .inr (2, [.int 0, .ref q12, .ref q13, .ref q14, .ref q15, .ref q16, .int 0, .ref q17, .ref q18, .ref q19, .ref q20, .ref q21, .int 0, .int 0])), (q12, .inl (cI, 60, .inl (fun _ => 0))), (q13, .inl (cI, 60, .inl (fun _ => 0))), (q14, .inl (cI, 60, .inl (fun _ => 0))), (q15, .inl (cL, 60, .inr (.inl (fun _ => 0)))), (q16, .inl (cL, 8, .inr (.inl (fun _ => 0)))), (q17, .inl (cI, 30, .inl (fun _ => 0))), (q18, .inl (cL, 30, .inr (.inl (fun _ => 0)))), (q19, .inl (cI, 30, .inl (fun _ => 0))), (q20, .inl (cI, 30, .inl (fun _ => 0))), (q21, .inl (cL, 30, .inr (.inl (fun _ => 0)))), (q23, .inr (3, [.ref q27, .int (-1)])), (q27, .inl (cI, 31, .inl (fun _ => 0)))] := hDn
  replace hS := hSn
  clear hPn hDn hSn
  refine lv_aload_n hx hb d_NU_init_37 rfl (lv_at hl 0 rfl) ?_
  refine va_new (ci := 4) (fs := [.null, .null, .null, .null]) (C := "NetUnfolder$Unfolding") (T := T_Un) (N := 4) hx hb ht in_Un ty_Un ok_Un hown (ht _ wd_1_152) (ht _ wd_1_153) (ht _ wd_1_5) hK hP hD hS hA rfl (by decide +kernel) (Nat.le_of_ble_eq_true rfl) (Nat.le_of_ble_eq_true rfl) d_NU_init_38 (fun q29 H30 hPn hDn hSn => ?_)
  replace hP : va_P (dC, dI) clA [(h0, .inr (0, [.ref q1, .ref q8, .ref q23, .null, .null])), (q1, .inr (1, [.ref q5, .ref q6, .int 0, .int 0])), (q5, .inl (cI, 8, .inl (fun _ => 0))), (q6, .inl (cI, 8, .inl (fun _ => 0))), (q8, .inr (2, [.int 0, .ref q12, .ref q13, .ref q14, .ref q15, .ref q16, .int 0, .ref q17, .ref q18, .ref q19, .ref q20, .ref q21, .int 0, .int 0])), (q12, .inl (cI, 60, .inl (fun _ => 0))), (q13, .inl (cI, 60, .inl (fun _ => 0))), (q14, .inl (cI, 60, .inl (fun _ => 0))), (q15, .inl (cL, 60, .inr (.inl (fun _ => 0)))), (q16, .inl (cL, 8, .inr (.inl (fun _ => 0)))), (q17, .inl (cI, 30, .inl (fun _ => 0))), (q18, .inl (cL, 30, .inr (.inl (fun _ => 0)))), (q19, .inl (cI, 30, .inl (fun _ => 0))), (q20, .inl (cI, 30, .inl (fun _ => 0))), (q21, .inl (cL, 30, .inr (.inl (fun _ => 0)))), (q23, .inr (3, [.ref q27, .int (-1)])), (q27, .inl (cI, 31, .inl (fun _ => 0))), (q29, .inr (4, [.null, .null, .null, .null]))] H30 := hPn
  replace hD : va_D A [(h0, .inr (0, [.ref q1, .ref q8, .ref q23, .null, .null])), (q1, .inr (1, [.ref q5, .ref q6, .int 0, .int 0])), (q5, .inl (cI, 8, .inl (fun _ => 0))), (q6, .inl (cI, 8, .inl (fun _ => 0))), (q8, .inr (2, [.int 0, .ref q12, .ref q13, .ref q14, .ref q15, .ref q16, .int 0, .ref q17, .ref q18, .ref q19, .ref q20, .ref q21, .int 0, .int 0])), (q12, .inl (cI, 60, .inl (fun _ => 0))), (q13, .inl (cI, 60, .inl (fun _ => 0))), (q14, .inl (cI, 60, .inl (fun _ => 0))), (q15, .inl (cL, 60, .inr (.inl (fun _ => 0)))), (q16, .inl (cL, 8, .inr (.inl (fun _ => 0)))), (q17, .inl (cI, 30, .inl (fun _ => 0))), (q18, .inl (cL, 30, .inr (.inl (fun _ => 0)))), (q19, .inl (cI, 30, .inl (fun _ => 0))), (q20, .inl (cI, 30, .inl (fun _ => 0))), (q21, .inl (cL, 30, .inr (.inl (fun _ => 0)))), (q23, .inr (3, [.ref q27, .int (-1)])), (q27, .inl (cI, 31, .inl (fun _ => 0))), (q29, .inr (4, [.null, .null, .null, .null]))] := hDn
  replace hS := hSn
  clear hPn hDn hSn
  refine W.cs (cells' := 17) (slots' := 469) rfl rfl ?_
  refine lv_dup hx hb d_NU_init_41 rfl ?_
  refine lv_aload_n hx hb d_NU_init_42 rfl (lv_at hl 0 rfl) ?_
  refine va_get (D := (dC, dI)) (ci := 0) (v := .ref q1) (C := "NetUnfolder") (T := T_NU) (N := 5) hx hb ht in_NU hown hK hP 0 rfl rfl 0 (by decide) (ht _ wd_2_36) (fun _ h9 => h9) rfl d_NU_init_43 ?_
  refine lv_aload_n hx hb d_NU_init_46 rfl (lv_at hl 0 rfl) ?_
  refine va_get (D := (dC, dI)) (ci := 0) (v := .ref q8) (C := "NetUnfolder") (T := T_NU) (N := 5) hx hb ht in_NU hown hK hP 0 rfl rfl 1 (by decide) (ht _ wd_2_37) (fun _ h9 => h9) rfl d_NU_init_47 ?_
  refine lv_aload_n hx hb d_NU_init_50 rfl (lv_at hl 0 rfl) ?_
  refine va_get (D := (dC, dI)) (ci := 0) (v := .ref q23) (C := "NetUnfolder") (T := T_NU) (N := 5) hx hb ht in_NU hown hK hP 0 rfl rfl 2 (by decide) (ht _ wd_2_38) (fun _ h9 => h9) rfl d_NU_init_51 ?_
  have hPc := hP.sub (ws' := [(q29, .inr (4, [.null, .null, .null, .null]))]) [17] rfl
  have hDc := hD.sub (ws' := [(q29, .inr (4, [.null, .null, .null, .null]))]) [17] (by decide) rfl
  have hFc := va_free (wc := [(q29, .inr (4, [.null, .null, .null, .null]))]) hD hS hA [17] rfl
  refine va_callv (va_runI (As := [.ref q1, .ref q8, .ref q23]) (rest := [.ref q29, .ref h0]) ⟨hx, hb, hml, hown, ht⟩ (c_Un_init l dC dI cI cL cZ _ q29 q1 q8 q23 ) (cwI 3 ht (goodA wd_1_156) rfl rfl rfl (ht _ wd_1_5) (ht _ wd_1_154) (ht _ wd_1_155) rfl (by decide +kernel) ⟨Nat.le_of_ble_eq_true rfl, Nat.le_of_ble_eq_true rfl⟩) ⟨fun a U g mk q => by obtain ⟨q0, q1, qP, qK, qD, qN⟩ := q; exact ⟨q0, q1, qP, va_K.moved (u := U) (U := U.calling g mk a) (Vm.Alike.refl U.vm) qK, qD, NwA.same (u := U) rfl qN⟩, fun U hU hW => ⟨rfl, by rw [hU], by rw [hU]; exact hPc, va_K.moved hW.alike hK, hDc.weaken (fun _ _ _ _ => trivial), NwA.warm hW hN⟩⟩ rfl rfl hl.1 rfl (lv_room (Nat.le_of_ble_eq_true rfl)) d_NU_init_54 ⟨Nat.le_of_ble_eq_true rfl, Nat.le_of_ble_eq_true rfl⟩) hS (fun q _ h => hFc q h) hFc (fun u t H31 locs ht9 hvm hw32 hB hz1 hk1 hSn => ?_)
  obtain ⟨q33, q34, q35, q36, hP1, hD1⟩ := hB
  rw [ht9] at hP1
  obtain ⟨hPn, hDn⟩ := va_join (wr := [(h0, .inr (0, [.ref q1, .ref q8, .ref q23, .null, .null])), (q1, .inr (1, [.ref q5, .ref q6, .int 0, .int 0])), (q5, .inl (cI, 8, .inl (fun _ => 0))), (q6, .inl (cI, 8, .inl (fun _ => 0))), (q8, .inr (2, [.int 0, .ref q12, .ref q13, .ref q14, .ref q15, .ref q16, .int 0, .ref q17, .ref q18, .ref q19, .ref q20, .ref q21, .int 0, .int 0])), (q12, .inl (cI, 60, .inl (fun _ => 0))), (q13, .inl (cI, 60, .inl (fun _ => 0))), (q14, .inl (cI, 60, .inl (fun _ => 0))), (q15, .inl (cL, 60, .inr (.inl (fun _ => 0)))), (q16, .inl (cL, 8, .inr (.inl (fun _ => 0)))), (q17, .inl (cI, 30, .inl (fun _ => 0))), (q18, .inl (cL, 30, .inr (.inl (fun _ => 0)))), (q19, .inl (cI, 30, .inl (fun _ => 0))), (q20, .inl (cI, 30, .inl (fun _ => 0))), (q21, .inl (cL, 30, .inr (.inl (fun _ => 0)))), (q23, .inr (3, [.ref q27, .int (-1)])), (q27, .inl (cI, 31, .inl (fun _ => 0)))]) (w1 := [(q29, .inr (4, [.ref q1, .ref q8, .ref q23, .ref q33])), (q33, .inr (5, [.ref q8, .int 0, .ref q34, .ref q35, .ref q36])), (q34, .inl (cI, 201, .inl (fun _ => 0))), (q35, .inl (cL, 201, .inr (.inl (fun _ => 0)))), (q36, .inl (cL, 201, .inr (.inl (fun _ => 0))))]) hP hD [17] [0, 1, 2, 3, 4, 5, 6, 7, 8, 9, 10, 11, 12, 13, 14, 15, 16] rfl rfl (by decide) (by decide) hk1 hFc hP1 hD1
  replace hP : va_P (dC, dI) clA [(h0, .inr (0, [.ref q1, .ref q8, .ref q23, .null, .null])), (q1, .inr (1, [.ref q5, .ref q6, .int 0, .int 0])), (q5, .inl (cI, 8, .inl (fun _ => 0))), (q6, .inl (cI, 8, .inl (fun _ => 0))), (q8, .inr (2, [.int 0, .ref q12, .ref q13, .ref q14, .ref q15, .ref q16, .int 0, .ref q17, .ref q18, .ref q19, .ref q20, .ref q21, .int 0, .int 0])), (q12, .inl (cI, 60, .inl (fun _ => 0))), (q13, .inl (cI, 60, .inl (fun _ => 0))), (q14, .inl (cI, 60, .inl (fun _ => 0))), (q15, .inl (cL, 60, .inr (.inl (fun _ => 0)))), (q16, .inl (cL, 8, .inr (.inl (fun _ => 0)))), (q17, .inl (cI, 30, .inl (fun _ => 0))), (q18, .inl (cL, 30, .inr (.inl (fun _ => 0)))), (q19, .inl (cI, 30, .inl (fun _ => 0))), (q20, .inl (cI, 30, .inl (fun _ => 0))), (q21, .inl (cL, 30, .inr (.inl (fun _ => 0)))), (q23, .inr (3, [.ref q27, .int (-1)])), (q27, .inl (cI, 31, .inl (fun _ => 0))), (q29, .inr (4, [.ref q1, .ref q8, .ref q23, .ref q33])), (q33, .inr (5, [.ref q8, .int 0, .ref q34, .ref q35, .ref q36])), (q34, .inl (cI, 201, .inl (fun _ => 0))), (q35, .inl (cL, 201, .inr (.inl (fun _ => 0)))), (q36, .inl (cL, 201, .inr (.inl (fun _ => 0))))] H31 := hPn
  replace hD : va_D A [(h0, .inr (0, [.ref q1, .ref q8, .ref q23, .null, .null])), (q1, .inr (1, [.ref q5, .ref q6, .int 0, .int 0])), (q5, .inl (cI, 8, .inl (fun _ => 0))), (q6, .inl (cI, 8, .inl (fun _ => 0))), (q8, .inr (2, [.int 0, .ref q12, .ref q13, .ref q14, .ref q15, .ref q16, .int 0, .ref q17, .ref q18, .ref q19, .ref q20, .ref q21, .int 0, .int 0])), (q12, .inl (cI, 60, .inl (fun _ => 0))), (q13, .inl (cI, 60, .inl (fun _ => 0))), (q14, .inl (cI, 60, .inl (fun _ => 0))), (q15, .inl (cL, 60, .inr (.inl (fun _ => 0)))), (q16, .inl (cL, 8, .inr (.inl (fun _ => 0)))), (q17, .inl (cI, 30, .inl (fun _ => 0))), (q18, .inl (cL, 30, .inr (.inl (fun _ => 0)))), (q19, .inl (cI, 30, .inl (fun _ => 0))), (q20, .inl (cI, 30, .inl (fun _ => 0))), (q21, .inl (cL, 30, .inr (.inl (fun _ => 0)))), (q23, .inr (3, [.ref q27, .int (-1)])), (q27, .inl (cI, 31, .inl (fun _ => 0))), (q29, .inr (4, [.ref q1, .ref q8, .ref q23, .ref q33])), (q33, .inr (5, [.ref q8, .int 0, .ref q34, .ref q35, .ref q36])), (q34, .inl (cI, 201, .inl (fun _ => 0))), (q35, .inl (cL, 201, .inr (.inl (fun _ => 0)))), (q36, .inl (cL, 201, .inr (.inl (fun _ => 0))))] := hDn
  replace hS := hSn
  clear hPn hDn hSn
  clear hPc hDc hFc hP1 hD1 hk1 hz1 ht9 hvm
  refine W.cs (cells' := 21) (slots' := 1077) rfl rfl ?_
  refine va_putF (D := (dC, dI)) (ci := 0) (v := .ref q29) (ty := .object "NetUnfolder$Unfolding") (C := "NetUnfolder") (T := T_NU) (N := 5) hx hb ht in_NU ty_NU ok_NU nm_NU hown hK hP hD hS 0 rfl rfl 3 (by decide) (ht _ wd_2_39) (fun _ h9 => h9) rfl hin rfl (by decide +kernel) rfl rfl (Nat.le_of_ble_eq_true rfl) d_NU_init_57 (fun H37 locs hPn hDn hSn => ?_)
  replace hP : va_P (dC, dI) clA [(h0, .inr (0, [.ref q1, .ref q8, .ref q23, .ref q29, .null])), (q1, .inr (1, [.ref q5, .ref q6, .int 0, .int 0])), (q5, .inl (cI, 8, .inl (fun _ => 0))), (q6, .inl (cI, 8, .inl (fun _ => 0))), (q8, .inr (2, [.int 0, .ref q12, .ref q13, .ref q14, .ref q15, .ref q16, .int 0, .ref q17, .ref q18, .ref q19, .ref q20, .ref q21, .int 0, .int 0])), (q12, .inl (cI, 60, .inl (fun _ => 0))), (q13, .inl (cI, 60, .inl (fun _ => 0))), (q14, .inl (cI, 60, .inl (fun _ => 0))), (q15, .inl (cL, 60, .inr (.inl (fun _ => 0)))), (q16, .inl (cL, 8, .inr (.inl (fun _ => 0)))), (q17, .inl (cI, 30, .inl (fun _ => 0))), (q18, .inl (cL, 30, .inr (.inl (fun _ => 0)))), (q19, .inl (cI, 30, .inl (fun _ => 0))), (q20, .inl (cI, 30, .inl (fun _ => 0))), (q21, .inl (cL, 30, .inr (.inl (fun _ => 0)))), (q23, .inr (3, [.ref q27, .int (-1)])), (q27, .inl (cI, 31, .inl (fun _ => 0))), (q29, .inr (4, [.ref q1, .ref q8, .ref q23, .ref q33])), (q33, .inr (5, [.ref q8, .int 0, .ref q34, .ref q35, .ref q36])), (q34, .inl (cI, 201, .inl (fun _ => 0))), (q35, .inl (cL, 201, .inr (.inl (fun _ => 0)))), (q36, .inl (cL, 201, .inr (.inl (fun _ => 0))))] H37 := hPn
  replace hD : va_D A [(h0, .inr (0, [.ref q1, .ref q8, .ref q23, .ref q29, .null])), (q1, .inr (1, [.ref q5, .ref q6, .int 0, .int 0])), (q5, .inl (cI, 8, .inl (fun _ => 0))), (q6, .inl (cI, 8, .inl (fun _ => 0))), (q8, .inr (2, [.int 0, .ref q12, .ref q13, .ref q14, .ref q15, .ref q16, .int 0, .ref q17, .ref q18, .ref q19, .ref q20, .ref q21, .int 0, .int 0])), (q12, .inl (cI, 60, .inl (fun _ => 0))), (q13, .inl (cI, 60, .inl (fun _ => 0))), (q14, .inl (cI, 60, .inl (fun _ => 0))), (q15, .inl (cL, 60, .inr (.inl (fun _ => 0)))), (q16, .inl (cL, 8, .inr (.inl (fun _ => 0)))), (q17, .inl (cI, 30, .inl (fun _ => 0))), (q18, .inl (cL, 30, .inr (.inl (fun _ => 0)))), (q19, .inl (cI, 30, .inl (fun _ => 0))), (q20, .inl (cI, 30, .inl (fun _ => 0))), (q21, .inl (cL, 30, .inr (.inl (fun _ => 0)))), (q23, .inr (3, [.ref q27, .int (-1)])), (q27, .inl (cI, 31, .inl (fun _ => 0))), (q29, .inr (4, [.ref q1, .ref q8, .ref q23, .ref q33])), (q33, .inr (5, [.ref q8, .int 0, .ref q34, .ref q35, .ref q36])), (q34, .inl (cI, 201, .inl (fun _ => 0))), (q35, .inl (cL, 201, .inr (.inl (fun _ => 0)))), (q36, .inl (cL, 201, .inr (.inl (fun _ => 0))))] := hDn
  replace hS := hSn
  clear hPn hDn hSn
  refine lv_aload_n hx hb d_NU_init_60 rfl (lv_at hl 0 rfl) ?_
  refine va_new (ci := 6) (fs := [.null, .null, .null, .null, .null, .int 0]) (C := "NetUnfolder$Question") (T := T_Qu) (N := 6) hx hb ht in_Qu ty_Qu ok_Qu hown (ht _ wd_1_197) (ht _ wd_1_198) (ht _ wd_1_7) hK hP hD hS hA rfl (by decide +kernel) (Nat.le_of_ble_eq_true rfl) (Nat.le_of_ble_eq_true rfl) d_NU_init_61 (fun q38 H39 hPn hDn hSn => ?_)
  replace hP : va_P (dC, dI) clA [(h0, .inr (0, [.ref q1, .ref q8, .ref q23, .ref q29, .null])), (q1, .inr (1, [.ref q5, .ref q6, .int 0, .int 0])), (q5, .inl (cI, 8, .inl (fun _ => 0))), (q6, .inl (cI, 8, .inl (fun _ => 0))), (q8, .inr (2, [.int 0, .ref q12, .ref q13, .ref q14, .ref q15, .ref q16, .int 0, .ref q17, .ref q18, .ref q19, .ref q20, .ref q21, .int 0, .int 0])), (q12, .inl (cI, 60, .inl (fun _ => 0))), (q13, .inl (cI, 60, .inl (fun _ => 0))), (q14, .inl (cI, 60, .inl (fun _ => 0))), (q15, .inl (cL, 60, .inr (.inl (fun _ => 0)))), (q16, .inl (cL, 8, .inr (.inl (fun _ => 0)))), (q17, .inl (cI, 30, .inl (fun _ => 0))), (q18, .inl (cL, 30, .inr (.inl (fun _ => 0)))), (q19, .inl (cI, 30, .inl (fun _ => 0))), (q20, .inl (cI, 30, .inl (fun _ => 0))), (q21, .inl (cL, 30, .inr (.inl (fun _ => 0)))), (q23, .inr (3, [.ref q27, .int (-1)])), (q27, .inl (cI, 31, .inl (fun _ => 0))), (q29, .inr (4, [.ref q1, .ref q8, .ref q23, .ref q33])), (q33, .inr (5, [.ref q8, .int 0, .ref q34, .ref q35, .ref q36])), (q34, .inl (cI, 201, .inl (fun _ => 0))), (q35, .inl (cL, 201, .inr (.inl (fun _ => 0)))), (q36, .inl (cL, 201, .inr (.inl (fun _ => 0)))), (q38, .inr (6, [.null, .null, .null, .null, .null, .int 0]))] H39 := hPn
  replace hD : va_D A [(h0, .inr (0, [.ref q1, .ref q8, .ref q23, .ref q29, .null])), (q1, .inr (1, [.ref q5, .ref q6, .int 0, .int 0])), (q5, .inl (cI, 8, .inl (fun _ => 0))), (q6, .inl (cI, 8, .inl (fun _ => 0))), (q8, .inr (2, [.int 0, .ref q12, .ref q13, .ref q14, .ref q15, .ref q16, .int 0, .ref q17, .ref q18, .ref q19, .ref q20, .ref q21, .int 0, .int 0])), (q12, .inl (cI, 60, .inl (fun _ => 0))), (q13, .inl (cI, 60, .inl (fun _ => 0))), (q14, .inl (cI, 60, .inl (fun _ => 0))), (q15, .inl (cL, 60, .inr (.inl (fun _ => 0)))), (q16, .inl (cL, 8, .inr (.inl (fun _ => 0)))), (q17, .inl (cI, 30, .inl (fun _ => 0))), (q18, .inl (cL, 30, .inr (.inl (fun _ => 0)))), (q19, .inl (cI, 30, .inl (fun _ => 0))), (q20, .inl (cI, 30, .inl (fun _ => 0))), (q21, .inl (cL, 30, .inr (.inl (fun _ => 0)))), (q23, .inr (3, [.ref q27, .int (-1)])), (q27, .inl (cI, 31, .inl (fun _ => 0))), (q29, .inr (4, [.ref q1, .ref q8, .ref q23, .ref q33])), (q33, .inr (5, [.ref q8, .int 0, .ref q34, .ref q35, .ref q36])), (q34, .inl (cI, 201, .inl (fun _ => 0))), (q35, .inl (cL, 201, .inr (.inl (fun _ => 0)))), (q36, .inl (cL, 201, .inr (.inl (fun _ => 0)))), (q38, .inr (6, [.null, .null, .null, .null, .null, .int 0]))] := hDn
  replace hS := hSn
  clear hPn hDn hSn
  refine W.cs (cells' := 22) (slots' := 1083) rfl rfl ?_
  refine lv_dup hx hb d_NU_init_64 rfl ?_
  refine lv_aload_n hx hb d_NU_init_65 rfl (lv_at hl 0 rfl) ?_
  refine va_get (D := (dC, dI)) (ci := 0) (v := .ref q1) (C := "NetUnfolder") (T := T_NU) (N := 5) hx hb ht in_NU hown hK hP 0 rfl rfl 0 (by decide) (ht _ wd_2_36) (fun _ h9 => h9) rfl d_NU_init_66 ?_
  refine lv_aload_n hx hb d_NU_init_69 rfl (lv_at hl 0 rfl) ?_
  refine va_get (D := (dC, dI)) (ci := 0) (v := .ref q8) (C := "NetUnfolder") (T := T_NU) (N := 5) hx hb ht in_NU hown hK hP 0 rfl rfl 1 (by decide) (ht _ wd_2_37) (fun _ h9 => h9) rfl d_NU_init_70 ?_
  refine lv_aload_n hx hb d_NU_init_73 rfl (lv_at hl 0 rfl) ?_
  refine va_get (D := (dC, dI)) (ci := 0) (v := .ref q23) (C := "NetUnfolder") (T := T_NU) (N := 5) hx hb ht in_NU hown hK hP 0 rfl rfl 2 (by decide) (ht _ wd_2_38) (fun _ h9 => h9) rfl d_NU_init_74 ?_
  have hPc := hP.sub (ws' := [(q38, .inr (6, [.null, .null, .null, .null, .null, .int 0]))]) [22] rfl
  have hDc := hD.sub (ws' := [(q38, .inr (6, [.null, .null, .null, .null, .null, .int 0]))]) [22] (by decide) rfl
  have hFc := va_free (wc := [(q38, .inr (6, [.null, .null, .null, .null, .null, .int 0]))]) hD hS hA [22] rfl
  refine va_callv (va_runI (As := [.ref q1, .ref q8, .ref q23]) (rest := [.ref q38, .ref h0]) ⟨hx, hb, hml, hown, ht⟩ (c_Qu_init l dC dI cI cL cZ _ q38 q1 q8 q23 ) (cwI 3 ht (goodA wd_1_201) rfl rfl rfl (ht _ wd_1_7) (ht _ wd_1_199) (ht _ wd_1_200) rfl (by decide +kernel) ⟨Nat.le_of_ble_eq_true rfl, Nat.le_of_ble_eq_true rfl⟩) ⟨fun a U g mk q => by obtain ⟨q0, q1, qP, qK, qD, qN⟩ := q; exact ⟨q0, q1, qP, va_K.moved (u := U) (U := U.calling g mk a) (Vm.Alike.refl U.vm) qK, qD, NwA.same (u := U) rfl qN⟩, fun U hU hW => ⟨rfl, by rw [hU], by rw [hU]; exact hPc, va_K.moved hW.alike hK, hDc.weaken (fun _ _ _ _ => trivial), NwA.warm hW hN⟩⟩ rfl rfl hl.1 rfl (lv_room (Nat.le_of_ble_eq_true rfl)) d_NU_init_77 ⟨Nat.le_of_ble_eq_true rfl, Nat.le_of_ble_eq_true rfl⟩) hS (fun q _ h => hFc q h) hFc (fun u t H40 locs ht9 hvm hw41 hB hz1 hk1 hSn => ?_)
  obtain ⟨q42, q43, q44, q45, q46, q47, q48, hP1, hD1⟩ := hB
  rw [ht9] at hP1
  obtain ⟨hPn, hDn⟩ := va_join (wr := [(h0, .inr (0, [.ref q1, .ref q8, .ref q23, .ref q29, .null])), (q1, .inr (1, [.ref q5, .ref q6, .int 0, .int 0])), (q5, .inl (cI, 8, .inl (fun _ => 0))), (q6, .inl (cI, 8, .inl (fun _ => 0))), (q8, .inr (2, [.int 0, .ref q12, .ref q13, .ref q14, .ref q15, .ref q16, .int 0, .ref q17, .ref q18, .ref q19, .ref q20, .ref q21, .int 0, .int 0])), (q12, .inl (cI, 60, .inl (fun _ => 0))), (q13, .inl (cI, 60, .inl (fun _ => 0))), (q14, .inl (cI, 60, .inl (fun _ => 0))), (q15, .inl (cL, 60, .inr (.inl (fun _ => 0)))), (q16, .inl (cL, 8, .inr (.inl (fun _ => 0)))), (q17, .inl (cI, 30, .inl (fun _ => 0))), (q18, .inl (cL, 30, .inr (.inl (fun _ => 0)))), (q19, .inl (cI, 30, .inl (fun _ => 0))), (q20, .inl (cI, 30, .inl (fun _ => 0))), (q21, .inl (cL, 30, .inr (.inl (fun _ => 0)))), (q23, .inr (3, [.ref q27, .int (-1)])), (q27, .inl (cI, 31, .inl (fun _ => 0))), (q29, .inr (4, [.ref q1, .ref q8, .ref q23, .ref q33])), (q33, .inr (5, [.ref q8, .int 0, .ref q34, .ref q35, .ref q36])), (q34, .inl (cI, 201, .inl (fun _ => 0))), (q35, .inl (cL, 201, .inr (.inl (fun _ => 0)))), (q36, .inl (cL, 201, .inr (.inl (fun _ => 0))))]) (w1 := [(q38, .inr (6, [.ref q1, .ref q8, .ref q23, .ref q42, .ref q45, .int 0])), (q42, .inr (7, [.ref q43, .ref q44, .int 0, .int 0])), (q43, .inl (cL, 815, .inr (.inl (fun _ => 0)))), (q44, .inl (cL, 815, .inr (.inl (fun _ => 0)))), (q45, .inr (8, [.ref q42, .long 0, .long 0, .int 0, .ref q46, .ref q47, .int 0, .ref q48])), (q46, .inl (cL, 39, .inr (.inl (fun _ => 0)))), (q47, .inl (cI, 38, .inl (fun _ => 0))), (q48, .inl (cI, 38, .inl (fun _ => 0)))]) hP hD [22] [0, 1, 2, 3, 4, 5, 6, 7, 8, 9, 10, 11, 12, 13, 14, 15, 16, 17, 18, 19, 20, 21] rfl rfl (by decide) (by decide) hk1 hFc hP1 hD1
  replace hP : va_P (dC, dI) clA [(h0, .inr (0, [.ref q1, .ref q8, .ref q23, .ref q29, .null])), (q1, .inr (1, [.ref q5, .ref q6, .int 0, .int 0])), (q5, .inl (cI, 8, .inl (fun _ => 0))), (q6, .inl (cI, 8, .inl (fun _ => 0))), (q8, .inr (2, [.int 0, .ref q12, .ref q13, .ref q14, .ref q15, .ref q16, .int 0, .ref q17, .ref q18, .ref q19, .ref q20, .ref q21, .int 0, .int 0])), (q12, .inl (cI, 60, .inl (fun _ => 0))), (q13, .inl (cI, 60, .inl (fun _ => 0))), (q14, .inl (cI, 60, .inl (fun _ => 0))), (q15, .inl (cL, 60, .inr (.inl (fun _ => 0)))), (q16, .inl (cL, 8, .inr (.inl (fun _ => 0)))), (q17, .inl (cI, 30, .inl (fun _ => 0))), (q18, .inl (cL, 30, .inr (.inl (fun _ => 0)))), (q19, .inl (cI, 30, .inl (fun _ => 0))), (q20, .inl (cI, 30, .inl (fun _ => 0))), (q21, .inl (cL, 30, .inr (.inl (fun _ => 0)))), (q23, .inr (3, [.ref q27, .int (-1)])), (q27, .inl (cI, 31, .inl (fun _ => 0))), (q29, .inr (4, [.ref q1, .ref q8, .ref q23, .ref q33])), (q33, .inr (5, [.ref q8, .int 0, .ref q34, .ref q35, .ref q36])), (q34, .inl (cI, 201, .inl (fun _ => 0))), (q35, .inl (cL, 201, .inr (.inl (fun _ => 0)))), (q36, .inl (cL, 201, .inr (.inl (fun _ => 0)))), (q38, .inr (6, [.ref q1, .ref q8, .ref q23, .ref q42, .ref q45, .int 0])), (q42, .inr (7, [.ref q43, .ref q44, .int 0, .int 0])), (q43, .inl (cL, 815, .inr (.inl (fun _ => 0)))), (q44, .inl (cL, 815, .inr (.inl (fun _ => 0)))), (q45, .inr (8, [.ref q42, .long 0, .long 0, .int 0, .ref q46, .ref q47, .int 0, .ref q48])), (q46, .inl (cL, 39, .inr (.inl (fun _ => 0)))), (q47, .inl (cI, 38, .inl (fun _ => 0))), (q48, .inl (cI, 38, .inl (fun _ => 0)))] H40 := hPn
  replace hD : va_D A [(h0, .inr (0, [.ref q1, .ref q8, .ref q23, .ref q29, .null])), (q1, .inr (1, [.ref q5, .ref q6, .int 0, .int 0])), (q5, .inl (cI, 8, .inl (fun _ => 0))), (q6, .inl (cI, 8, .inl (fun _ => 0))), (q8, .inr (2, [.int 0, .ref q12, .ref q13, .ref q14, .ref q15, .ref q16, .int 0, .ref q17, .ref q18, .ref q19, .ref q20, .ref q21, .int 0, .int 0])), (q12, .inl (cI, 60, .inl (fun _ => 0))), (q13, .inl (cI, 60, .inl (fun _ => 0))), (q14, .inl (cI, 60, .inl (fun _ => 0))), (q15, .inl (cL, 60, .inr (.inl (fun _ => 0)))), (q16, .inl (cL, 8, .inr (.inl (fun _ => 0)))), (q17, .inl (cI, 30, .inl (fun _ => 0))), (q18, .inl (cL, 30, .inr (.inl (fun _ => 0)))), (q19, .inl (cI, 30, .inl (fun _ => 0))), (q20, .inl (cI, 30, .inl (fun _ => 0))), (q21, .inl (cL, 30, .inr (.inl (fun _ => 0)))), (q23, .inr (3, [.ref q27, .int (-1)])), (q27, .inl (cI, 31, .inl (fun _ => 0))), (q29, .inr (4, [.ref q1, .ref q8, .ref q23, .ref q33])), (q33, .inr (5, [.ref q8, .int 0, .ref q34, .ref q35, .ref q36])), (q34, .inl (cI, 201, .inl (fun _ => 0))), (q35, .inl (cL, 201, .inr (.inl (fun _ => 0)))), (q36, .inl (cL, 201, .inr (.inl (fun _ => 0)))), (q38, .inr (6, [.ref q1, .ref q8, .ref q23, .ref q42, .ref q45, .int 0])), (q42, .inr (7, [.ref q43, .ref q44, .int 0, .int 0])), (q43, .inl (cL, 815, .inr (.inl (fun _ => 0)))), (q44, .inl (cL, 815, .inr (.inl (fun _ => 0)))), (q45, .inr (8, [.ref q42, .long 0, .long 0, .int 0, .ref q46, .ref q47, .int 0, .ref q48])), (q46, .inl (cL, 39, .inr (.inl (fun _ => 0)))), (q47, .inl (cI, 38, .inl (fun _ => 0))), (q48, .inl (cI, 38, .inl (fun _ => 0)))] := hDn
  replace hS := hSn
  clear hPn hDn hSn
  clear hPc hDc hFc hP1 hD1 hk1 hz1 ht9 hvm
  refine W.cs (cells' := 29) (slots' := 2840) rfl rfl ?_
  refine va_putF (D := (dC, dI)) (ci := 0) (v := .ref q38) (ty := .object "NetUnfolder$Question") (C := "NetUnfolder") (T := T_NU) (N := 5) hx hb ht in_NU ty_NU ok_NU nm_NU hown hK hP hD hS 0 rfl rfl 4 (by decide) (ht _ wd_2_40) (fun _ h9 => h9) rfl hin rfl (by decide +kernel) rfl rfl (Nat.le_of_ble_eq_true rfl) d_NU_init_80 (fun H49 locs hPn hDn hSn => ?_)
  replace hP : va_P (dC, dI) clA [(h0, .inr (0, [.ref q1, .ref q8, .ref q23, .ref q29, .ref q38])), (q1, .inr (1, [.ref q5, .ref q6, .int 0, .int 0])), (q5, .inl (cI, 8, .inl (fun _ => 0))), (q6, .inl (cI, 8, .inl (fun _ => 0))), (q8, .inr (2, [.int 0, .ref q12, .ref q13, .ref q14, .ref q15, .ref q16, .int 0, .ref q17, .ref q18, .ref q19, .ref q20, .ref q21, .int 0, .int 0])), (q12, .inl (cI, 60, .inl (fun _ => 0))), (q13, .inl (cI, 60, .inl (fun _ => 0))), (q14, .inl (cI, 60, .inl (fun _ => 0))), (q15, .inl (cL, 60, .inr (.inl (fun _ => 0)))), (q16, .inl (cL, 8, .inr (.inl (fun _ => 0)))), (q17, .inl (cI, 30, .inl (fun _ => 0))), (q18, .inl (cL, 30, .inr (.inl (fun _ => 0)))), (q19, .inl (cI, 30, .inl (fun _ => 0))), (q20, .inl (cI, 30, .inl (fun _ => 0))), (q21, .inl (cL, 30, .inr (.inl (fun _ => 0)))), (q23, .inr (3, [.ref q27, .int (-1)])), (q27, .inl (cI, 31, .inl (fun _ => 0))), (q29, .inr (4, [.ref q1, .ref q8, .ref q23, .ref q33])), (q33, .inr (5, [.ref q8, .int 0, .ref q34, .ref q35, .ref q36])), (q34, .inl (cI, 201, .inl (fun _ => 0))), (q35, .inl (cL, 201, .inr (.inl (fun _ => 0)))), (q36, .inl (cL, 201, .inr (.inl (fun _ => 0)))), (q38, .inr (6, [.ref q1, .ref q8, .ref q23, .ref q42, .ref q45, .int 0])), (q42, .inr (7, [.ref q43, .ref q44, .int 0, .int 0])), (q43, .inl (cL, 815, .inr (.inl (fun _ => 0)))), (q44, .inl (cL, 815, .inr (.inl (fun _ => 0)))), (q45, .inr (8, [.ref q42, .long 0, .long 0, .int 0, .ref q46, .ref q47, .int 0, .ref q48])), (q46, .inl (cL, 39, .inr (.inl (fun _ => 0)))), (q47, .inl (cI, 38, .inl (fun _ => 0))), (q48, .inl (cI, 38, .inl (fun _ => 0)))] H49 := hPn
  replace hD : va_D A [(h0, .inr (0, [.ref q1, .ref q8, .ref q23, .ref q29, .ref q38])), (q1, .inr (1, [.ref q5, .ref q6, .int 0, .int 0])), (q5, .inl (cI, 8, .inl (fun _ => 0))), (q6, .inl (cI, 8, .inl (fun _ => 0))), (q8, .inr (2, [.int 0, .ref q12, .ref q13, .ref q14, .ref q15, .ref q16, .int 0, .ref q17, .ref q18, .ref q19, .ref q20, .ref q21, .int 0, .int 0])), (q12, .inl (cI, 60, .inl (fun _ => 0))), (q13, .inl (cI, 60, .inl (fun _ => 0))), (q14, .inl (cI, 60, .inl (fun _ => 0))), (q15, .inl (cL, 60, .inr (.inl (fun _ => 0)))), (q16, .inl (cL, 8, .inr (.inl (fun _ => 0)))), (q17, .inl (cI, 30, .inl (fun _ => 0))), (q18, .inl (cL, 30, .inr (.inl (fun _ => 0)))), (q19, .inl (cI, 30, .inl (fun _ => 0))), (q20, .inl (cI, 30, .inl (fun _ => 0))), (q21, .inl (cL, 30, .inr (.inl (fun _ => 0)))), (q23, .inr (3, [.ref q27, .int (-1)])), (q27, .inl (cI, 31, .inl (fun _ => 0))), (q29, .inr (4, [.ref q1, .ref q8, .ref q23, .ref q33])), (q33, .inr (5, [.ref q8, .int 0, .ref q34, .ref q35, .ref q36])), (q34, .inl (cI, 201, .inl (fun _ => 0))), (q35, .inl (cL, 201, .inr (.inl (fun _ => 0)))), (q36, .inl (cL, 201, .inr (.inl (fun _ => 0)))), (q38, .inr (6, [.ref q1, .ref q8, .ref q23, .ref q42, .ref q45, .int 0])), (q42, .inr (7, [.ref q43, .ref q44, .int 0, .int 0])), (q43, .inl (cL, 815, .inr (.inl (fun _ => 0)))), (q44, .inl (cL, 815, .inr (.inl (fun _ => 0)))), (q45, .inr (8, [.ref q42, .long 0, .long 0, .int 0, .ref q46, .ref q47, .int 0, .ref q48])), (q46, .inl (cL, 39, .inr (.inl (fun _ => 0)))), (q47, .inl (cI, 38, .inl (fun _ => 0))), (q48, .inl (cI, 38, .inl (fun _ => 0)))] := hDn
  replace hS := hSn
  clear hPn hDn hSn
  have hP9 := hP.sub (ws' := [(h0, .inr (0, [.ref q1, .ref q8, .ref q23, .ref q29, .ref q38])), (q1, .inr (1, [.ref q5, .ref q6, .int 0, .int 0])), (q5, .inl (cI, 8, .inl (fun _ => 0))), (q6, .inl (cI, 8, .inl (fun _ => 0))), (q8, .inr (2, [.int 0, .ref q12, .ref q13, .ref q14, .ref q15, .ref q16, .int 0, .ref q17, .ref q18, .ref q19, .ref q20, .ref q21, .int 0, .int 0])), (q12, .inl (cI, 60, .inl (fun _ => 0))), (q13, .inl (cI, 60, .inl (fun _ => 0))), (q14, .inl (cI, 60, .inl (fun _ => 0))), (q15, .inl (cL, 60, .inr (.inl (fun _ => 0)))), (q16, .inl (cL, 8, .inr (.inl (fun _ => 0)))), (q17, .inl (cI, 30, .inl (fun _ => 0))), (q18, .inl (cL, 30, .inr (.inl (fun _ => 0)))), (q19, .inl (cI, 30, .inl (fun _ => 0))), (q20, .inl (cI, 30, .inl (fun _ => 0))), (q21, .inl (cL, 30, .inr (.inl (fun _ => 0)))), (q23, .inr (3, [.ref q27, .int (-1)])), (q27, .inl (cI, 31, .inl (fun _ => 0))), (q29, .inr (4, [.ref q1, .ref q8, .ref q23, .ref q33])), (q33, .inr (5, [.ref q8, .int 0, .ref q34, .ref q35, .ref q36])), (q34, .inl (cI, 201, .inl (fun _ => 0))), (q35, .inl (cL, 201, .inr (.inl (fun _ => 0)))), (q36, .inl (cL, 201, .inr (.inl (fun _ => 0)))), (q38, .inr (6, [.ref q1, .ref q8, .ref q23, .ref q42, .ref q45, .int 0])), (q42, .inr (7, [.ref q43, .ref q44, .int 0, .int 0])), (q43, .inl (cL, 815, .inr (.inl (fun _ => 0)))), (q44, .inl (cL, 815, .inr (.inl (fun _ => 0)))), (q45, .inr (8, [.ref q42, .long 0, .long 0, .int 0, .ref q46, .ref q47, .int 0, .ref q48])), (q46, .inl (cL, 39, .inr (.inl (fun _ => 0)))), (q47, .inl (cI, 38, .inl (fun _ => 0))), (q48, .inl (cI, 38, .inl (fun _ => 0)))]) [0, 1, 2, 3, 4, 5, 6, 7, 8, 9, 10, 11, 12, 13, 14, 15, 16, 17, 18, 19, 20, 21, 22, 23, 24, 25, 26, 27, 28, 29] rfl
  have hD9 := hD.sub (ws' := [(h0, .inr (0, [.ref q1, .ref q8, .ref q23, .ref q29, .ref q38])), (q1, .inr (1, [.ref q5, .ref q6, .int 0, .int 0])), (q5, .inl (cI, 8, .inl (fun _ => 0))), (q6, .inl (cI, 8, .inl (fun _ => 0))), (q8, .inr (2, [.int 0, .ref q12, .ref q13, .ref q14, .ref q15, .ref q16, .int 0, .ref q17, .ref q18, .ref q19, .ref q20, .ref q21, .int 0, .int 0])), (q12, .inl (cI, 60, .inl (fun _ => 0))), (q13, .inl (cI, 60, .inl (fun _ => 0))), (q14, .inl (cI, 60, .inl (fun _ => 0))), (q15, .inl (cL, 60, .inr (.inl (fun _ => 0)))), (q16, .inl (cL, 8, .inr (.inl (fun _ => 0)))), (q17, .inl (cI, 30, .inl (fun _ => 0))), (q18, .inl (cL, 30, .inr (.inl (fun _ => 0)))), (q19, .inl (cI, 30, .inl (fun _ => 0))), (q20, .inl (cI, 30, .inl (fun _ => 0))), (q21, .inl (cL, 30, .inr (.inl (fun _ => 0)))), (q23, .inr (3, [.ref q27, .int (-1)])), (q27, .inl (cI, 31, .inl (fun _ => 0))), (q29, .inr (4, [.ref q1, .ref q8, .ref q23, .ref q33])), (q33, .inr (5, [.ref q8, .int 0, .ref q34, .ref q35, .ref q36])), (q34, .inl (cI, 201, .inl (fun _ => 0))), (q35, .inl (cL, 201, .inr (.inl (fun _ => 0)))), (q36, .inl (cL, 201, .inr (.inl (fun _ => 0)))), (q38, .inr (6, [.ref q1, .ref q8, .ref q23, .ref q42, .ref q45, .int 0])), (q42, .inr (7, [.ref q43, .ref q44, .int 0, .int 0])), (q43, .inl (cL, 815, .inr (.inl (fun _ => 0)))), (q44, .inl (cL, 815, .inr (.inl (fun _ => 0)))), (q45, .inr (8, [.ref q42, .long 0, .long 0, .int 0, .ref q46, .ref q47, .int 0, .ref q48])), (q46, .inl (cL, 39, .inr (.inl (fun _ => 0)))), (q47, .inl (cI, 38, .inl (fun _ => 0))), (q48, .inl (cI, 38, .inl (fun _ => 0)))]) [0, 1, 2, 3, 4, 5, 6, 7, 8, 9, 10, 11, 12, 13, 14, 15, 16, 17, 18, 19, 20, 21, 22, 23, 24, 25, 26, 27, 28, 29] (by decide) rfl
  exact W.vret hx hb hr (fun t ht9 hW => ⟨⟨(), rfl, trivial, q1, q5, q6, q8, q12, q13, q14, q15, q16, q17, q18, q19, q20, q21, q23, q27, q29, q33, q34, q35, q36, q38, q42, q43, q44, q45, q46, q47, q48, by rw [ht9]; exact hP9, hD9⟩, hS.F ht9⟩) hS.2.2 d_NU_init_83
end
section
set_option maxHeartbeats 4000000 in
set_option maxRecDepth 100000 in
theorem c_Mo_init (l : Launch) (dC : Nat → ClassId) (dI : Nat → Nat → Nat) (cI cL cZ : ClassId) (sz : Nat) (h0 : Nat) : Met l y_Mo_init (Cond.code y_Mo_init prog_11_method_1_code 1 none :: wsA) { frames := 1, cells := 17, slots := 763, locals := 12 } (va_Pc [.ref h0] (fun U => U.heap.size = sz ∧ va_P (dC, dI) clA [(h0, .inr (9, [.int 0, .int 0, .null, .null, .int 0, .int 0, .null, .null, .null, .null, .int 0, .null, .null, .null, .null, .null, .null, .null, .int 0, .int 0, .null, .null, .long 0, .int 0, .int 0, .null, .int 0, .null]))] U.heap ∧ va_K (dC, dI) clA [(cI, .int), (cL, .long), (cZ, .boolean)] U ∧ va_D (fun _ => True) [(h0, .inr (9, [.int 0, .int 0, .null, .null, .int 0, .int 0, .null, .null, .null, .null, .int 0, .null, .null, .null, .null, .null, .null, .null, .int 0, .int 0, .null, .null, .long 0, .int 0, .int 0, .null, .int 0, .null]))] ∧ NwA U)) (va_Qv (fun _ : Unit => True) (fun _ t => ∃ q1 q4 q7 q10 q13 q16 q19 q22 q25 q28 q31 q34 q37 q40 q43 q46 q49 : Nat, va_P (dC, dI) clA [(h0, .inr (9, [.int 0, .int 0, .ref q1, .ref q4, .int 0, .int 0, .ref q7, .ref q10, .ref q13, .ref q16, .int 0, .ref q19, .ref q22, .ref q25, .ref q28, .ref q31, .ref q34, .ref q37, .int 0, .int 0, .ref q40, .ref q43, .long 0, .int 0, .int 0, .ref q46, .int (-1), .ref q49])), (q1, .inl (cI, 8, .inl (fun _ => 0))), (q4, .inl (cI, 8, .inl (fun _ => 0))), (q7, .inl (cI, 60, .inl (fun _ => 0))), (q10, .inl (cI, 60, .inl (fun _ => 0))), (q13, .inl (cI, 60, .inl (fun _ => 0))), (q16, .inl (cL, 60, .inr (.inl (fun _ => 0)))), (q19, .inl (cI, 30, .inl (fun _ => 0))), (q22, .inl (cI, 30, .inl (fun _ => 0))), (q25, .inl (cL, 30, .inr (.inl (fun _ => 0)))), (q28, .inl (cI, 240, .inl (fun _ => 0))), (q31, .inl (cL, 30, .inr (.inl (fun _ => 0)))), (q34, .inl (cI, 30, .inl (fun _ => 0))), (q37, .inl (cZ, 30, .inl (fun _ => 0))), (q40, .inl (cI, 8, .inl (fun _ => 0))), (q43, .inl (cL, 9, .inr (.inl (fun _ => 0)))), (q46, .inl (cI, 8, .inl (fun _ => 0))), (q49, .inl (cI, 62, .inl (fun _ => 0)))] t.heap ∧ va_D (va_A [(h0, .inr (9, [.int 0, .int 0, .null, .null, .int 0, .int 0, .null, .null, .null, .null, .int 0, .null, .null, .null, .null, .null, .null, .null, .int 0, .int 0, .null, .null, .long 0, .int 0, .int 0, .null, .int 0, .null]))] sz) [(h0, .inr (9, [.int 0, .int 0, .ref q1, .ref q4, .int 0, .int 0, .ref q7, .ref q10, .ref q13, .ref q16, .int 0, .ref q19, .ref q22, .ref q25, .ref q28, .ref q31, .ref q34, .ref q37, .int 0, .int 0, .ref q40, .ref q43, .long 0, .int 0, .int 0, .ref q46, .int (-1), .ref q49])), (q1, .inl (cI, 8, .inl (fun _ => 0))), (q4, .inl (cI, 8, .inl (fun _ => 0))), (q7, .inl (cI, 60, .inl (fun _ => 0))), (q10, .inl (cI, 60, .inl (fun _ => 0))), (q13, .inl (cI, 60, .inl (fun _ => 0))), (q16, .inl (cL, 60, .inr (.inl (fun _ => 0)))), (q19, .inl (cI, 30, .inl (fun _ => 0))), (q22, .inl (cI, 30, .inl (fun _ => 0))), (q25, .inl (cL, 30, .inr (.inl (fun _ => 0)))), (q28, .inl (cI, 240, .inl (fun _ => 0))), (q31, .inl (cL, 30, .inr (.inl (fun _ => 0)))), (q34, .inl (cI, 30, .inl (fun _ => 0))), (q37, .inl (cZ, 30, .inl (fun _ => 0))), (q40, .inl (cI, 8, .inl (fun _ => 0))), (q43, .inl (cL, 9, .inr (.inl (fun _ => 0)))), (q46, .inl (cI, 8, .inl (fun _ => 0))), (q49, .inl (cI, 62, .inl (fun _ => 0)))]) (va_A [(h0, .inr (9, [.int 0, .int 0, .null, .null, .int 0, .int 0, .null, .null, .null, .null, .int 0, .null, .null, .null, .null, .null, .null, .null, .int 0, .int 0, .null, .null, .long 0, .int 0, .int 0, .null, .int 0, .null]))] sz)) 17 763 (va_A [(h0, .inr (9, [.int 0, .int 0, .null, .null, .int 0, .int 0, .null, .null, .null, .null, .int 0, .null, .null, .null, .null, .null, .null, .null, .int 0, .int 0, .null, .null, .long 0, .int 0, .int 0, .null, .int 0, .null]))] sz) := by
  refine Met.ofW (cc := prog_11_method_1_code) (maxL := 1) (ret := none) (by decide) rfl ?_
  intro p e s m args below meth c s₁ B hml hv
  obtain ⟨rfl, hsz, hP, hK, hD0, hN⟩ := hv
  have hx := B.exec
  have hb := B.bytes
  have hr := B.returns
  have ht : ∀ w ∈ wsA, w.before _ s = true := fun w h => atoms_spec (ws := (Cond.code y_Mo_init prog_11_method_1_code 1 none :: wsA)) B.pre w (List.mem_cons_of_mem _ h)
  have hown : s.vm.findClass "NetUnfolderModel" = some m.cls := findClass_of_methodNamed B.named
  have hlocks := B.notSynchronized
  have hin : meth.name = "<init>" := (name_of_methodNamed B.named B.method).1
  subst hsz
  have hD := hD0.self (sz := s.heap.size)
  generalize hAe : va_A [(h0, .inr (9, [.int 0, .int 0, .null, .null, .int 0, .int 0, .null, .null, .null, .null, .int 0, .null, .null, .null, .null, .null, .null, .null, .int 0, .int 0, .null, .null, .long 0, .int 0, .int 0, .null, .int 0, .null]))] s.heap.size = A at hD ⊢
  have hA : ∀ q : Nat, s.heap.size ≤ q → A q := fun q h => by rw [← hAe]; exact Or.inr h
  have hS : va_S A s.heap s.heap [] := va_S.rf
  have hl := lv_entry ([.ref h0]) (n := 1) (Nat.le_of_ble_eq_true rfl)
  rw [lg_entry_eq]
  generalize (lg_sl ([.ref h0]) ++ List.replicate (1 - (lg_sl ([.ref h0])).length) Slot.unset).toArray = ls at hl ⊢
  replace hl : lv_has ls 1 [(0, .ref h0)] := hl
  refine lv_aload_n hx hb d_Mo_init_0 rfl (lv_at hl 0 rfl) ?_
  refine W.objInit hx hb hown (ht (.methodLink "NetUnfolderModel" 1 Lib.objectInit) wd_3_239) (ht (.instanceMethod Lib.objectInit) wd_1_25) (ht (.code Lib.objectInit ⟨#[0xb1]⟩ 1 none) wd_1_26) rfl (by rw [hml]; exact hl.1) rfl d_Mo_init_1 (Nat.le_of_ble_eq_true rfl) (Nat.le_of_ble_eq_true rfl) ?_
  refine W.eq (g2 := F0 m 4 ls []) rfl ?_
  refine lv_aload_n hx hb d_Mo_init_4 rfl (lv_at hl 0 rfl) ?_
  refine lv_bipush (v := 8) hx hb d_Mo_init_5 (by decide) ?_
  refine nx_newaI hx hb (ht _ wd_1_55) hK hP hD hS hA 0 rfl (N' := 8) (by decide) (by decide) (Nat.le_of_ble_eq_true rfl) (Nat.le_of_ble_eq_true rfl) (Nat.le_of_ble_eq_true rfl) d_Mo_init_7 (fun q1 H2 hPn hDn hSn => ?_)
  replace hP : va_P (dC, dI) clA [(h0, .inr (9, [.int 0, .int 0, .null, .null, .int 0, .int 0, .null, .null, .null, .null, .int 0, .null, .null, .null, .null, .null, .null, .null, .int 0, .int 0, .null, .null, .long 0, .int 0, .int 0, .null, .int 0, .null])), (q1, .inl (cI, 8, .inl (fun _ => 0)))] H2 := hPn
  replace hD : va_D A [(h0, .inr (9, [.int 0, .int 0, .null, .null, .int 0, .int 0, .null, .null, .null, .null, .int 0, .null, .null, .null, .null, .null, .null, .null, .int 0, .int 0, .null, .null, .long 0, .int 0, .int 0, .null, .int 0, .null])), (q1, .inl (cI, 8, .inl (fun _ => 0)))] := hDn
  replace hS := hSn
  clear hPn hDn hSn
  refine W.cs (cells' := 1) (slots' := 8) rfl rfl ?_
  refine va_putF (D := (dC, dI)) (ci := 9) (v := .ref q1) (ty := .array .int) (C := "NetUnfolderModel") (T := T_Mo) (N := 28) hx hb ht in_Mo ty_Mo ok_Mo nm_Mo hown hK hP hD hS 0 rfl rfl 2 (by decide) (ht _ wd_4_2) (fun _ h9 => h9) rfl hin rfl (by decide +kernel) rfl rfl (Nat.le_of_ble_eq_true rfl) d_Mo_init_9 (fun H3 locs hPn hDn hSn => ?_)
  replace hP : va_P (dC, dI) clA [(h0, .inr (9, [.int 0, .int 0, .ref q1, .null, .int 0, .int 0, .null, .null, .null, .null, .int 0, .null, .null, .null, .null, .null, .null, .null, .int 0, .int 0, .null, .null, .long 0, .int 0, .int 0, .null, .int 0, .null])), (q1, .inl (cI, 8, .inl (fun _ => 0)))] H3 := hPn
  replace hD : va_D A [(h0, .inr (9, [.int 0, .int 0, .ref q1, .null, .int 0, .int 0, .null, .null, .null, .null, .int 0, .null, .null, .null, .null, .null, .null, .null, .int 0, .int 0, .null, .null, .long 0, .int 0, .int 0, .null, .int 0, .null])), (q1, .inl (cI, 8, .inl (fun _ => 0)))] := hDn
  replace hS := hSn
  clear hPn hDn hSn
  refine lv_aload_n hx hb d_Mo_init_12 rfl (lv_at hl 0 rfl) ?_
  refine lv_bipush (v := 8) hx hb d_Mo_init_13 (by decide) ?_
  refine nx_newaI hx hb (ht _ wd_1_55) hK hP hD hS hA 0 rfl (N' := 8) (by decide) (by decide) (Nat.le_of_ble_eq_true rfl) (Nat.le_of_ble_eq_true rfl) (Nat.le_of_ble_eq_true rfl) d_Mo_init_15 (fun q4 H5 hPn hDn hSn => ?_)
  replace hP : va_P (dC, dI) clA [(h0, .inr (9, [.int 0, .int 0, .ref q1, .null, .int 0, .int 0, .null, .null, .null, .null, .int 0, .null, .null, .null, .null, .null, .null, .null, .int 0, .int 0, .null, .null, .long 0, .int 0, .int 0, .null, .int 0, .null])), (q1, .inl (cI, 8, .inl (fun _ => 0))), (q4, .inl (cI, 8, .inl (fun _ => 0)))] H5 := hPn
  replace hD : va_D A [(h0, .inr (9, [.int 0, .int 0, .ref q1, .null, .int 0, .int 0, .null, .null, .null, .null, .int 0, .null, .null, .null, .null, .null, .null, .null, .int 0, .int 0, .null, .null, .long 0, .int 0, .int 0, .null, .int 0, .null])), (q1, .inl (cI, 8, .inl (fun _ => 0))), (q4, .inl (cI, 8, .inl (fun _ => 0)))] := hDn
  replace hS := hSn
  clear hPn hDn hSn
  refine W.cs (cells' := 2) (slots' := 16) rfl rfl ?_
  refine va_putF (D := (dC, dI)) (ci := 9) (v := .ref q4) (ty := .array .int) (C := "NetUnfolderModel") (T := T_Mo) (N := 28) hx hb ht in_Mo ty_Mo ok_Mo nm_Mo hown hK hP hD hS 0 rfl rfl 3 (by decide) (ht _ wd_4_3) (fun _ h9 => h9) rfl hin rfl (by decide +kernel) rfl rfl (Nat.le_of_ble_eq_true rfl) d_Mo_init_17 (fun H6 locs hPn hDn hSn => ?_)
  replace hP : va_P (dC, dI) clA [(h0, .inr (9, [.int 0, .int 0, .ref q1, .ref q4, .int 0, .int 0, .null, .null, .null, .null, .int 0, .null, .null, .null, .null, .null, .null, .null, .int 0, .int 0, .null, .null, .long 0, .int 0, .int 0, .null, .int 0, .null])), (q1, .inl (cI, 8, .inl (fun _ => 0))), (q4, .inl (cI, 8, .inl (fun _ => 0)))] H6 := hPn
  replace hD : va_D A [(h0, .inr (9, [.int 0, .int 0, .ref q1, .ref q4, .int 0, .int 0, .null, .null, .null, .null, .int 0, .null, .null, .null, .null, .null, .null, .null, .int 0, .int 0, .null, .null, .long 0, .int 0, .int 0, .null, .int 0, .null])), (q1, .inl (cI, 8, .inl (fun _ => 0))), (q4, .inl (cI, 8, .inl (fun _ => 0)))] := hDn
  replace hS := hSn
  clear hPn hDn hSn
  refine lv_aload_n hx hb d_Mo_init_20 rfl (lv_at hl 0 rfl) ?_
  refine lv_bipush (v := 60) hx hb d_Mo_init_21 (by decide) ?_
  refine nx_newaI hx hb (ht _ wd_1_55) hK hP hD hS hA 0 rfl (N' := 60) (by decide) (by decide) (Nat.le_of_ble_eq_true rfl) (Nat.le_of_ble_eq_true rfl) (Nat.le_of_ble_eq_true rfl) d_Mo_init_23 (fun q7 H8 hPn hDn hSn => ?_)
  replace hP : va_P (dC, dI) clA [(h0, .inr (9, [.int 0, .int 0, .ref q1, .ref q4, .int 0, .int 0, .null, .null, .null, .null, .int 0, .null, .null, .null, .null, .null, .null, .null, .int 0, .int 0, .null, .null, .long 0, .int 0, .int 0, .null, .int 0, .null])), (q1, .inl (cI, 8, .inl (fun _ => 0))), (q4, .inl (cI, 8, .inl (fun _ => 0))), (q7, .inl (cI, 60, .inl (fun _ => 0)))] H8 := hPn
  replace hD : va_D A [(h0, .inr (9, [.int 0, .int 0, .ref q1, .ref q4, .int 0, .int 0, .null, .null, .null, .null, .int 0, .null, .null, .null, .null, .null, .null, .null, .int 0, .int 0, .null, .null, .long 0, .int 0, .int 0, .null, .int 0, .null])), (q1, .inl (cI, 8, .inl (fun _ => 0))), (q4, .inl (cI, 8, .inl (fun _ => 0))), (q7, .inl (cI, 60, .inl (fun _ => 0)))] := hDn
  replace hS := hSn
  clear hPn hDn hSn
  refine W.cs (cells' := 3) (slots' := 76) rfl rfl ?_
  refine va_putF (D := (dC, dI)) (ci := 9) (v := .ref q7) (ty := .array .int) (C := "NetUnfolderModel") (T := T_Mo) (N := 28) hx hb ht in_Mo ty_Mo ok_Mo nm_Mo hown hK hP hD hS 0 rfl rfl 6 (by decide) (ht _ wd_4_6) (fun _ h9 => h9) rfl hin rfl (by decide +kernel) rfl rfl (Nat.le_of_ble_eq_true rfl) d_Mo_init_25 (fun H9 locs hPn hDn hSn => ?_)
  replace hP : va_P (dC, dI) clA [(h0, .inr (9, [.int 0, .int 0, .ref q1, .ref q4, .int 0, .int 0, .ref q7, .null, .null, .null, .int 0, .null, .null, .null, .null, .null, .null, .null, .int 0, .int 0, .null, .null, .long 0, .int 0, .int 0, .null, .int 0, .null])), (q1, .inl (cI, 8, .inl (fun _ => 0))), (q4, .inl (cI, 8, .inl (fun _ => 0))), (q7, .inl (cI, 60, .inl (fun _ => 0)))] H9 := hPn
  replace hD : va_D A [(h0, .inr (9, [.int 0, .int 0, .ref q1, .ref q4, .int 0, .int 0, .ref q7, .null, .null, .null, .int 0, .null, .null, .null, .null, .null, .null, .null, .int 0, .int 0, .null, .null, .long 0, .int 0, .int 0, .null, .int 0, .null])), (q1, .inl (cI, 8, .inl (fun _ => 0))), (q4, .inl (cI, 8, .inl (fun _ => 0))), (q7, .inl (cI, 60, .inl (fun _ => 0)))] := hDn
  replace hS := hSn
  clear hPn hDn hSn
  refine lv_aload_n hx hb d_Mo_init_28 rfl (lv_at hl 0 rfl) ?_
  refine lv_bipush (v := 60) hx hb d_Mo_init_29 (by decide) ?_
  refine nx_newaI hx hb (ht _ wd_1_55) hK hP hD hS hA 0 rfl (N' := 60) (by decide) (by decide) (Nat.le_of_ble_eq_true rfl) (Nat.le_of_ble_eq_true rfl) (Nat.le_of_ble_eq_true rfl) d_Mo_init_31 (fun q10 H11 hPn hDn hSn => ?_)
  replace hP : va_P (dC, dI) clA [(h0, .inr (9, [.int 0, .int 0, .ref q1, .ref q4, .int 0, .int 0, .ref q7, .null, .null, .null, .int 0, .null, .null, .null, .null, .null, .null, .null, .int 0, .int 0, .null, .null, .long 0, .int 0, .int 0, .null, .int 0, .null])), (q1, .inl (cI, 8, .inl (fun _ => 0))), (q4, .inl (cI, 8, .inl (fun _ => 0))), (q7, .inl (cI, 60, .inl (fun _ => 0))), (q10, .inl (cI, 60, .inl (fun _ => 0)))] H11 := hPn
  replace hD : va_D A [(h0, .inr (9, [.int 0, .int 0, .ref q1, .ref q4, .int 0, .int 0, .ref q7, .null, .null, .null, .int 0, .null, .null, .null, .null, .null, .null, .null, .int 0, .int 0, .null, .null, .long 0, .int 0, .int 0, .null, .int 0, .null])), (q1, .inl (cI, 8, .inl (fun _ => 0))), (q4, .inl (cI, 8, .inl (fun _ => 0))), (q7, .inl (cI, 60, .inl (fun _ => 0))), (q10, .inl (cI, 60, .inl (fun _ => 0)))] := hDn
  replace hS := hSn
  clear hPn hDn hSn
  refine W.cs (cells' := 4) (slots' := 136) rfl rfl ?_
  refine va_putF (D := (dC, dI)) (ci := 9) (v := .ref q10) (ty := .array .int) (C := "NetUnfolderModel") (T := T_Mo) (N := 28) hx hb ht in_Mo ty_Mo ok_Mo nm_Mo hown hK hP hD hS 0 rfl rfl 7 (by decide) (ht _ wd_4_7) (fun _ h9 => h9) rfl hin rfl (by decide +kernel) rfl rfl (Nat.le_of_ble_eq_true rfl) d_Mo_init_33 (fun H12 locs hPn hDn hSn => ?_)
  replace hP : va_P (dC, dI) clA [(h0, .inr (9, [.int 0, .int 0, .ref q1, .ref q4, .int 0, .int 0, .ref q7, .ref q10, .null, .null, .int 0, .null, .null, .null, .null, .null, .null, .null, .int 0, .int 0, .null, .null, .long 0, .int 0, .int 0, .null, .int 0, .null])), (q1, .inl (cI, 8, .inl (fun _ => 0))), (q4, .inl (cI, 8, .inl (fun _ => 0))), (q7, .inl (cI, 60, .inl (fun _ => 0))), (q10, .inl (cI, 60, .inl (fun _ => 0)))] H12 := hPn
  replace hD : va_D A [(h0, .inr (9, [.int 0, .int 0, .ref q1, .ref q4, .int 0, .int 0, .ref q7, .ref q10, .null, .null, .int 0, .null, .null, .null, .null, .null, .null, .null, .int 0, .int 0, .null, .null, .long 0, .int 0, .int 0, .null, .int 0, .null])), (q1, .inl (cI, 8, .inl (fun _ => 0))), (q4, .inl (cI, 8, .inl (fun _ => 0))), (q7, .inl (cI, 60, .inl (fun _ => 0))), (q10, .inl (cI, 60, .inl (fun _ => 0)))] := hDn
  replace hS := hSn
  clear hPn hDn hSn
  refine lv_aload_n hx hb d_Mo_init_36 rfl (lv_at hl 0 rfl) ?_
  refine lv_bipush (v := 60) hx hb d_Mo_init_37 (by decide) ?_
  refine nx_newaI hx hb (ht _ wd_1_55) hK hP hD hS hA 0 rfl (N' := 60) (by decide) (by decide) (Nat.le_of_ble_eq_true rfl) (Nat.le_of_ble_eq_true rfl) (Nat.le_of_ble_eq_true rfl) d_Mo_init_39 (fun q13 H14 hPn hDn hSn => ?_)
  replace hP : va_P (dC, dI) clA [(h0, .inr (9, [.int 0, .int 0, .ref q1, .ref q4, .int 0, .int 0, .ref q7, .ref q10, .null, .null, .int 0, .null, .null, .null, .null, .null, .null, .null, .int 0, .int 0, .null, .null, .long 0, .int 0, .int 0, .null, .int 0, .null])), (q1, .inl (cI, 8, .inl (fun _ => 0))), (q4, .inl (cI, 8, .inl (fun _ => 0))), (q7, .inl (cI, 60, .inl (fun _ => 0))), (q10, .inl (cI, 60, .inl (fun _ => 0))), (q13, .inl (cI, 60, .inl (fun _ => 0)))] H14 := hPn
  replace hD : va_D A [(h0, .inr (9, [.int 0, .int 0, .ref q1, .ref q4, .int 0, .int 0, .ref q7, .ref q10, .null, .null, .int 0, .null, .null, .null, .null, .null, .null, .null, .int 0, .int 0, .null, .null, .long 0, .int 0, .int 0, .null, .int 0, .null])), (q1, .inl (cI, 8, .inl (fun _ => 0))), (q4, .inl (cI, 8, .inl (fun _ => 0))), (q7, .inl (cI, 60, .inl (fun _ => 0))), (q10, .inl (cI, 60, .inl (fun _ => 0))), (q13, .inl (cI, 60, .inl (fun _ => 0)))] := hDn
  replace hS := hSn
  clear hPn hDn hSn
  refine W.cs (cells' := 5) (slots' := 196) rfl rfl ?_
  refine va_putF (D := (dC, dI)) (ci := 9) (v := .ref q13) (ty := .array .int) (C := "NetUnfolderModel") (T := T_Mo) (N := 28) hx hb ht in_Mo ty_Mo ok_Mo nm_Mo hown hK hP hD hS 0 rfl rfl 8 (by decide) (ht _ wd_4_8) (fun _ h9 => h9) rfl hin rfl (by decide +kernel) rfl rfl (Nat.le_of_ble_eq_true rfl) d_Mo_init_41 (fun H15 locs hPn hDn hSn => ?_)
  replace hP : va_P (dC, dI) clA [(h0, .inr (9, [.int 0, .int 0, .ref q1, .ref q4, .int 0, .int 0, .ref q7, .ref q10, .ref q13, .null, .int 0, .null, .null, .null, .null, .null, .null, .null, .int 0, .int 0, .null, .null, .long 0, .int 0, .int 0, .null, .int 0, .null])), (q1, .inl (cI, 8, .inl (fun _ => 0))), (q4, .inl (cI, 8, .inl (fun _ => 0))), (q7, .inl (cI, 60, .inl (fun _ => 0))), (q10, .inl (cI, 60, .inl (fun _ => 0))), (q13, .inl (cI, 60, .inl (fun _ => 0)))] H15 := hPn
  replace hD : va_D A [(h0, .inr (9, [.int 0, .int 0, .ref q1, .ref q4, .int 0, .int 0, .ref q7, .ref q10, .ref q13, .null, .int 0, .null, .null, .null, .null, .null, .null, .null, .int 0, .int 0, .null, .null, .long 0, .int 0, .int 0, .null, .int 0, .null])), (q1, .inl (cI, 8, .inl (fun _ => 0))), (q4, .inl (cI, 8, .inl (fun _ => 0))), (q7, .inl (cI, 60, .inl (fun _ => 0))), (q10, .inl (cI, 60, .inl (fun _ => 0))), (q13, .inl (cI, 60, .inl (fun _ => 0)))] := hDn
  replace hS := hSn
  clear hPn hDn hSn
  refine lv_aload_n hx hb d_Mo_init_44 rfl (lv_at hl 0 rfl) ?_
  refine lv_bipush (v := 60) hx hb d_Mo_init_45 (by decide) ?_
  refine nx_newaJ hx hb (ht _ wd_1_136) hK hP hD hS hA 1 rfl (N' := 60) (by decide) (by decide) (Nat.le_of_ble_eq_true rfl) (Nat.le_of_ble_eq_true rfl) (Nat.le_of_ble_eq_true rfl) d_Mo_init_47 (fun q16 H17 hPn hDn hSn => ?_)
  replace hP : va_P (dC, dI) clA [(h0, .inr (9, [.int 0, .int 0, .ref q1, .ref q4, .int 0, .int 0, .ref q7, .ref q10, .ref q13, .null, .int 0, .null, .null, .null, .null, .null, .null, .null, .int 0, .int 0, .null, .null, .long 0, .int 0, .int 0, .null, .int 0, .null])), (q1, .inl (cI, 8, .inl (fun _ => 0))), (q4, .inl (cI, 8, .inl (fun _ => 0))), (q7, .inl (cI, 60, .inl (fun _ => 0))), (q10, .inl (cI, 60, .inl (fun _ => 0))), (q13, .inl (cI, 60, .inl (fun _ => 0))), (q16, .inl (cL, 60, .inr (.inl (fun _ => 0))))] H17 := hPn
  replace hD : va_D A [(h0, .inr (9, [.int 0, .int 0, .ref q1, .ref q4, .int 0, .int 0, .ref q7, .ref q10, .ref q13, .null, .int 0, .null, .null, .null, .null, .null, .null, .null, .int 0, .int 0, .null, .null, .long 0, .int 0, .int 0, .null, .int 0, .null])), (q1, .inl (cI, 8, .inl (fun _ => 0))), (q4, .inl (cI, 8, .inl (fun _ => 0))), (q7, .inl (cI, 60, .inl (fun _ => 0))), (q10, .inl (cI, 60, .inl (fun _ => 0))), (q13, .inl (cI, 60, .inl (fun _ => 0))), (q16, .inl (cL, 60, .inr (.inl (fun _ => 0))))] := hDn
  replace hS := hSn
  clear hPn hDn hSn
  refine W.cs (cells' := 6) (slots' := 256) rfl rfl ?_
  refine va_putF (D := (dC, dI)) (ci := 9) (v := .ref q16) (ty := .array .long) (C := "NetUnfolderModel") (T := T_Mo) (N := 28) hx hb ht in_Mo ty_Mo ok_Mo nm_Mo hown hK hP hD hS 0 rfl rfl 9 (by decide) (ht _ wd_4_9) (fun _ h9 => h9) rfl hin rfl (by decide +kernel) rfl rfl (Nat.le_of_ble_eq_true rfl) d_Mo_init_49 (fun H18 locs hPn hDn hSn => ?_)
  replace hP : va_P (dC, dI) clA [(h0, .inr (9, [.int 0, .int 0, .ref q1, .ref q4, .int 0, .int 0, .ref q7, .ref q10, .ref q13, .ref q16, .int 0, .null, .null, .null, .null, .null, .null, .null, .int 0, .int 0, .null, .null, .long 0, .int 0, .int 0, .null, .int 0, .null])), (q1, .inl (cI, 8, .inl (fun _ => 0))), (q4, .inl (cI, 8, .inl (fun _ => 0))), (q7, .inl (cI, 60, .inl (fun _ => 0))), (q10, .inl (cI, 60, .inl (fun _ => 0))), (q13, .inl (cI, 60, .inl (fun _ => 0))), (q16, .inl (cL, 60, .inr (.inl (fun _ => 0))))] H18 := hPn
  replace hD : va_D A [(h0, .inr (9, [.int 0, .int 0, .ref q1, .ref q4, .int 0, .int 0, .ref q7, .ref q10, .ref q13, .ref q16, .int 0, .null, .null, .null, .null, .null, .null, .null, .int 0, .int 0, .null, .null, .long 0, .int 0, .int 0, .null, .int 0, .null])), (q1, .inl (cI, 8, .inl (fun _ => 0))), (q4, .inl (cI, 8, .inl (fun _ => 0))), (q7, .inl (cI, 60, .inl (fun _ => 0))), (q10, .inl (cI, 60, .inl (fun _ => 0))), (q13, .inl (cI, 60, .inl (fun _ => 0))), (q16, .inl (cL, 60, .inr (.inl (fun _ => 0))))] := hDn
  replace hS := hSn
  clear hPn hDn hSn
  refine lv_aload_n hx hb d_Mo_init_52 rfl (lv_at hl 0 rfl) ?_
  refine lv_bipush (v := 30) hx hb d_Mo_init_53 (by decide) ?_
  refine nx_newaI hx hb (ht _ wd_1_55) hK hP hD hS hA 0 rfl (N' := 30) (by decide) (by decide) (Nat.le_of_ble_eq_true rfl) (Nat.le_of_ble_eq_true rfl) (Nat.le_of_ble_eq_true rfl) d_Mo_init_55 (fun q19 H20 hPn hDn hSn => ?_)
  replace hP : va_P (dC, dI) clA [(h0, .inr (9, [.int 0, .int 0, .ref q1, .ref q4, .int 0, .int 0, .ref q7, .ref q10, .ref q13, .ref q16, .int 0, .null, .null, .null, .null, .null, .null, .null, .int 0, .int 0, .null, .null, .long 0, .int 0, .int 0, .null, .int 0, .null])), (q1, .inl (cI, 8, .inl (fun _ => 0))), (q4, .inl (cI, 8, .inl (fun _ => 0))), (q7, .inl (cI, 60, .inl (fun _ => 0))), (q10, .inl (cI, 60, .inl (fun _ => 0))), (q13, .inl (cI, 60, .inl (fun _ => 0))), (q16, .inl (cL, 60, .inr (.inl (fun _ => 0)))), (q19, .inl (cI, 30, .inl (fun _ => 0)))] H20 := hPn
  replace hD : va_D A [(h0, .inr (9, [.int 0, .int 0, .ref q1, .ref q4, .int 0, .int 0, .ref q7, .ref q10, .ref q13, .ref q16, .int 0, .null, .null, .null, .null, .null, .null, .null, .int 0, .int 0, .null, .null, .long 0, .int 0, .int 0, .null, .int 0, .null])), (q1, .inl (cI, 8, .inl (fun _ => 0))), (q4, .inl (cI, 8, .inl (fun _ => 0))), (q7, .inl (cI, 60, .inl (fun _ => 0))), (q10, .inl (cI, 60, .inl (fun _ => 0))), (q13, .inl (cI, 60, .inl (fun _ => 0))), (q16, .inl (cL, 60, .inr (.inl (fun _ => 0)))), (q19, .inl (cI, 30, .inl (fun _ => 0)))] := hDn
  replace hS := hSn
  clear hPn hDn hSn
  refine W.cs (cells' := 7) (slots' := 286) rfl rfl ?_
  refine va_putF (D := (dC, dI)) (ci := 9) (v := .ref q19) (ty := .array .int) (C := "NetUnfolderModel") (T := T_Mo) (N := 28) hx hb ht in_Mo ty_Mo ok_Mo nm_Mo hown hK hP hD hS 0 rfl rfl 11 (by decide) (ht _ wd_4_11) (fun _ h9 => h9) rfl hin rfl (by decide +kernel) rfl rfl (Nat.le_of_ble_eq_true rfl) d_Mo_init_57 (fun H21 locs hPn hDn hSn => ?_)
  replace hP : va_P (dC, dI) clA [(h0, .inr (9, [.int 0, .int 0, .ref q1, .ref q4, .int 0, .int 0, .ref q7, .ref q10, .ref q13, .ref q16, .int 0, .ref q19, .null, .null, .null, .null, .null, .null, .int 0, .int 0, .null, .null, .long 0, .int 0, .int 0, .null, .int 0, .null])), (q1, .inl (cI, 8, .inl (fun _ => 0))), (q4, .inl (cI, 8, .inl (fun _ => 0))), (q7, .inl (cI, 60, .inl (fun _ => 0))), (q10, .inl (cI, 60, .inl (fun _ => 0))), (q13, .inl (cI, 60, .inl (fun _ => 0))), (q16, .inl (cL, 60, .inr (.inl (fun _ => 0)))), (q19, .inl (cI, 30, .inl (fun _ => 0)))] H21 := hPn
  replace hD : va_D A [(h0, .inr (9, [.int 0, .int 0, .ref q1, .ref q4, .int 0, .int 0, .ref q7, .ref q10, .ref q13, .ref q16, .int 0, .ref q19, .null, .null, .null, .null, .null, .null, .int 0, .int 0, .null, .null, .long 0, .int 0, .int 0, .null, .int 0, .null])), (q1, .inl (cI, 8, .inl (fun _ => 0))), (q4, .inl (cI, 8, .inl (fun _ => 0))), (q7, .inl (cI, 60, .inl (fun _ => 0))), (q10, .inl (cI, 60, .inl (fun _ => 0))), (q13, .inl (cI, 60, .inl (fun _ => 0))), (q16, .inl (cL, 60, .inr (.inl (fun _ => 0)))), (q19, .inl (cI, 30, .inl (fun _ => 0)))] := hDn
  replace hS := hSn
  clear hPn hDn hSn
  refine lv_aload_n hx hb d_Mo_init_60 rfl (lv_at hl 0 rfl) ?_
  refine lv_bipush (v := 30) hx hb d_Mo_init_61 (by decide) ?_
  refine nx_newaI hx hb (ht _ wd_1_55) hK hP hD hS hA 0 rfl (N' := 30) (by decide) (by decide) (Nat.le_of_ble_eq_true rfl) (Nat.le_of_ble_eq_true rfl) (Nat.le_of_ble_eq_true rfl) d_Mo_init_63 (fun q22 H23 hPn hDn hSn => ?_)
  replace hP : va_P (dC, dI) clA [(h0, .inr (9, [.int 0, .int 0, .ref q1, .ref q4, .int 0, .int 0, .ref q7, .ref q10, .ref q13, .ref q16, .int 0, .ref q19, .null, .null, .null, .null, .null, .null, .int 0, .int 0, .null, .null, .long 0, .int 0, .int 0, .null, .int 0, .null])), (q1, .inl (cI, 8, .inl (fun _ => 0))), (q4, .inl (cI, 8, .inl (fun _ => 0))), (q7, .inl (cI, 60, .inl (fun _ => 0))), (q10, .inl (cI, 60, .inl (fun _ => 0))), (q13, .inl (cI, 60, .inl (fun _ => 0))), (q16, .inl (cL, 60, .inr (.inl (fun _ => 0)))), (q19, .inl (cI, 30, .inl (fun _ => 0))), (q22, .inl (cI, 30, .inl (fun _ => 0)))] H23 := hPn
  replace hD : va_D A [(h0, .inr (9, [.int 0, .int 0, .ref q1, .ref q4, .int 0, .int 0, .ref q7, .ref q10, .ref q13, .ref q16, .int 0, .ref q19, .null, .null, .null, .null, .null, .null, .int 0, .int 0, .null, .null, .long 0, .int 0, .int 0, .null, .int 0, .null])), (q1, .inl (cI, 8, .inl (fun _ => 0))), (q4, .inl (cI, 8, .inl (fun _ => 0))), (q7, .inl (cI, 60, .inl (fun _ => 0))), (q10, .inl (cI, 60, .inl (fun _ => 0))), (q13, .inl (cI, 60, .inl (fun _ => 0))), (q16, .inl (cL, 60, .inr (.inl (fun _ => 0)))), (q19, .inl (cI, 30, .inl (fun _ => 0))), (q22, .inl (cI, 30, .inl (fun _ => 0)))] := hDn
  replace hS := hSn
  clear hPn hDn hSn
  refine W.cs (cells' := 8) (slots' := 316) rfl rfl ?_
  refine va_putF (D := (dC, dI)) (ci := 9) (v := .ref q22) (ty := .array .int) (C := "NetUnfolderModel") (T := T_Mo) (N := 28) hx hb ht in_Mo ty_Mo ok_Mo nm_Mo hown hK hP hD hS 0 rfl rfl 12 (by decide) (ht _ wd_4_12) (fun _ h9 => h9) rfl hin rfl (by decide +kernel) rfl rfl (Nat.le_of_ble_eq_true rfl) d_Mo_init_65 (fun H24 locs hPn hDn hSn => ?_)
  replace hP : va_P (dC, dI) clA [(h0, .inr (9, [.int 0, .int 0, .ref q1, .ref q4, .int 0, .int 0, .ref q7, .ref q10, .ref q13, .ref q16, .int 0, .ref q19, .ref q22, .null, .null, .null, .null, .null, .int 0, .int 0, .null, .null, .long 0, .int 0, .int 0, .null, .int 0, .null])), (q1, .inl (cI, 8, .inl (fun _ => 0))), (q4, .inl (cI, 8, .inl (fun _ => 0))), (q7, .inl (cI, 60, .inl (fun _ => 0))), (q10, .inl (cI, 60, .inl (fun _ => 0))), (q13, .inl (cI, 60, .inl (fun _ => 0))), (q16, .inl (cL, 60, .inr (.inl (fun _ => 0)))), (q19, .inl (cI, 30, .inl (fun _ => 0))), (q22, .inl (cI, 30, .inl (fun _ => 0)))] H24 := hPn
  replace hD : va_D A [(h0, .inr (9, [.int 0, .int 0, .ref q1, .ref q4, .int 0, .int 0, .ref q7, .ref q10, .ref q13, .ref q16, .int 0, .ref q19, .ref q22, .null, .null, .null, .null, .null, .int 0, .int 0, .null, .null, .long 0, .int 0, .int 0, .null, .int 0, .null])), (q1, .inl (cI, 8, .inl (fun _ => 0))), (q4, .inl (cI, 8, .inl (fun _ => 0))), (q7, .inl (cI, 60, .inl (fun _ => 0))), (q10, .inl (cI, 60, .inl (fun _ => 0))), (q13, .inl (cI, 60, .inl (fun _ => 0))), (q16, .inl (cL, 60, .inr (.inl (fun _ => 0)))), (q19, .inl (cI, 30, .inl (fun _ => 0))), (q22, .inl (cI, 30, .inl (fun _ => 0)))] := hDn
  replace hS := hSn
  clear hPn hDn hSn
  refine lv_aload_n hx hb d_Mo_init_68 rfl (lv_at hl 0 rfl) ?_
  refine lv_bipush (v := 30) hx hb d_Mo_init_69 (by decide) ?_
  refine nx_newaJ hx hb (ht _ wd_1_136) hK hP hD hS hA 1 rfl (N' := 30) (by decide) (by decide) (Nat.le_of_ble_eq_true rfl) (Nat.le_of_ble_eq_true rfl) (Nat.le_of_ble_eq_true rfl) d_Mo_init_71 (fun q25 H26 hPn hDn hSn => ?_)
  replace hP : va_P (dC, dI) clA [(h0, .inr (9, [.int 0, .int 0, .ref q1, .ref q4, .int 0, .int 0, .ref q7, .ref q10, .ref q13, .ref q16, .int 0, .ref q19, .ref q22, .null, .null, .null, .null, .null, .int 0, .int 0, .null, .null, .long 0, .int 0, .int 0, .null, .int 0, .null])), (q1, .inl (cI, 8, .inl (fun _ => 0))), (q4, .inl (cI, 8, .inl (fun _ => 0))), (q7, .inl (cI, 60, .inl (fun _ => 0))), (q10, .inl (cI, 60, .inl (fun _ => 0))), (q13, .inl (cI, 60, .inl (fun _ => 0))), (q16, .inl (cL, 60, .inr (.inl (fun _ => 0)))), (q19, .inl (cI, 30, .inl (fun _ => 0))), (q22, .inl (cI, 30, .inl (fun _ => 0))), (q25, .inl (cL, 30, .inr (.inl (fun _ => 0))))] H26 := hPn
  replace hD : va_D A [(h0, .inr (9, [.int 0, .int 0, .ref q1, .ref q4, .int 0, .int 0, .ref q7, .ref q10, .ref q13, .ref q16, .int 0, .ref q19, .ref q22, .null, .null, .null, .null, .null, .int 0, .int 0, .null, .null, .long 0, .int 0, .int 0, .null, .int 0, .null])), (q1, .inl (cI, 8, .inl (fun _ => 0))), (q4, .inl (cI, 8, .inl (fun _ => 0))), (q7, .inl (cI, 60, .inl (fun _ => 0))), (q10, .inl (cI, 60, .inl (fun _ => 0))), (q13, .inl (cI, 60, .inl (fun _ => 0))), (q16, .inl (cL, 60, .inr (.inl (fun _ => 0)))), (q19, .inl (cI, 30, .inl (fun _ => 0))), (q22, .inl (cI, 30, .inl (fun _ => 0))), (q25, .inl (cL, 30, .inr (.inl (fun _ => 0))))] := hDn
  replace hS := hSn
  clear hPn hDn hSn
  refine W.cs (cells' := 9) (slots' := 346) rfl rfl ?_
  refine va_putF (D := (dC, dI)) (ci := 9) (v := .ref q25) (ty := .array .long) (C := "NetUnfolderModel") (T := T_Mo) (N := 28) hx hb ht in_Mo ty_Mo ok_Mo nm_Mo hown hK hP hD hS 0 rfl rfl 13 (by decide) (ht _ wd_4_13) (fun _ h9 => h9) rfl hin rfl (by decide +kernel) rfl rfl (Nat.le_of_ble_eq_true rfl) d_Mo_init_73 (fun H27 locs hPn hDn hSn => ?_)
  replace hP : va_P (dC, dI) clA [(h0, .inr (9, [.int 0, .int 0, .ref q1, .ref q4, .int 0, .int 0, .ref q7, .ref q10, .ref q13, .ref q16, .int 0, .ref q19, .ref q22, .ref q25, .null, .null, .null, .null, .int 0, .int 0, .null, .null, .long 0, .int 0, .int 0, .null, .int 0, .null])), (q1, .inl (cI, 8, .inl (fun _ => 0))), (q4, .inl (cI, 8, .inl (fun _ => 0))), (q7, .inl (cI, 60, .inl (fun _ => 0))), (q10, .inl (cI, 60, .inl (fun _ => 0))), (q13, .inl (cI, 60, .inl (fun _ => 0))), (q16, .inl (cL, 60, .inr (.inl (fun _ => 0)))), (q19, .inl (cI, 30, .inl (fun _ => 0))), (q22, .inl (cI, 30, .inl (fun _ => 0))), (q25, .inl (cL, 30, .inr (.inl (fun _ => 0))))] H27 := hPn
  replace hD : va_D A [(h0, .inr (9, [.int 0, .int 0, .ref q1, .ref q4, .int 0, .int 0, .ref q7, .ref q10, .ref q13, .ref q16, .int 0, .ref q19, .ref q22, .ref q25, .null, .null, .null, .null, .int 0, .int 0, .null, .null, .long 0, .int 0, .int 0, .null, .int 0, .null])), (q1, .inl (cI, 8, .inl (fun _ => 0))), (q4, .inl (cI, 8, .inl (fun _ => 0))), (q7, .inl (cI, 60, .inl (fun _ => 0))), (q10, .inl (cI, 60, .inl (fun _ => 0))), (q13, .inl (cI, 60, .inl (fun _ => 0))), (q16, .inl (cL, 60, .inr (.inl (fun _ => 0)))), (q19, .inl (cI, 30, .inl (fun _ => 0))), (q22, .inl (cI, 30, .inl (fun _ => 0))), (q25, .inl (cL, 30, .inr (.inl (fun _ => 0))))] := hDn
  replace hS := hSn
  clear hPn hDn hSn
  refine lv_aload_n hx hb d_Mo_init_76 rfl (lv_at hl 0 rfl) ?_
  refine lv_sipush (v := 240) hx hb d_Mo_init_77 (by decide) ?_
  refine nx_newaI hx hb (ht _ wd_1_55) hK hP hD hS hA 0 rfl (N' := 240) (by decide) (by decide) (Nat.le_of_ble_eq_true rfl) (Nat.le_of_ble_eq_true rfl) (Nat.le_of_ble_eq_true rfl) d_Mo_init_80 (fun q28 H29 hPn hDn hSn => ?_)
  replace hP : va_P (dC, dI) clA [(h0, .inr (9, [.int 0, .int 0, .ref q1, .ref q4, .int 0, .int 0, .ref q7, .ref q10, .ref q13, .ref q16, .int 0, .ref q19, .ref q22, .ref q25, .null, .null, .null, .null, .int 0, .int 0, .null, .null, .long 0, .int 0, .int 0, .null, .int 0, .null])), (q1, .inl (cI, 8, .inl (fun _ => 0))), (q4, .inl (cI, 8, .inl (fun _ => 0))), (q7, .inl (cI, 60, .inl (fun _ => 0))), (q10, .inl (cI, 60, .inl (fun _ => 0))), (q13, .inl (cI, 60, .inl (fun _ => 0))), (q16, .inl (cL, 60, .inr (.inl (fun _ => 0)))), (q19, .inl (cI, 30, .inl (fun _ => 0))), (q22, .inl (cI, 30, .inl (fun _ => 0))), (q25, .inl (cL, 30, .inr (.inl (fun _ => 0)))), (q28, .inl (cI, 240, .inl (fun _ => 0)))] H29 := hPn
  replace hD : va_D A [(h0, .inr (9, [.int 0, .int 0, .ref q1, .ref q4, .int 0, .int 0, .ref q7, .ref q10, .ref q13, .ref q16, .int 0, .ref q19, .ref q22, .ref q25, .null, .null, .null, .null, .int 0, .int 0, .null, .null, .long 0, .int 0, .int 0, .null, .int 0, .null])), (q1, .inl (cI, 8, .inl (fun _ => 0))), (q4, .inl (cI, 8, .inl (fun _ => 0))), (q7, .inl (cI, 60, .inl (fun _ => 0))), (q10, .inl (cI, 60, .inl (fun _ => 0))), (q13, .inl (cI, 60, .inl (fun _ => 0))), (q16, .inl (cL, 60, .inr (.inl (fun _ => 0)))), (q19, .inl (cI, 30, .inl (fun _ => 0))), (q22, .inl (cI, 30, .inl (fun _ => 0))), (q25, .inl (cL, 30, .inr (.inl (fun _ => 0)))), (q28, .inl (cI, 240, .inl (fun _ => 0)))] := hDn
  replace hS := hSn
  clear hPn hDn hSn
  refine W.cs (cells' := 10) (slots' := 586) rfl rfl ?_
  refine va_putF (D := (dC, dI)) (ci := 9) (v := .ref q28) (ty := .array .int) (C := "NetUnfolderModel") (T := T_Mo) (N := 28) hx hb ht in_Mo ty_Mo ok_Mo nm_Mo hown hK hP hD hS 0 rfl rfl 14 (by decide) (ht _ wd_4_14) (fun _ h9 => h9) rfl hin rfl (by decide +kernel) rfl rfl (Nat.le_of_ble_eq_true rfl) d_Mo_init_82 (fun H30 locs hPn hDn hSn => ?_)
  replace hP : va_P (dC, dI) clA [(h0, .inr (9, [.int 0, .int 0, .ref q1, .ref q4, .int 0, .int 0, .ref q7, .ref q10, .ref q13, .ref q16, .int 0, .ref q19, .ref q22, .ref q25, .ref q28, .null, .null, .null, .int 0, .int 0, .null, .null, .long 0, .int 0, .int 0, .null, .int 0, .null])), (q1, .inl (cI, 8, .inl (fun _ => 0))), (q4, .inl (cI, 8, .inl (fun _ => 0))), (q7, .inl (cI, 60, .inl (fun _ => 0))), (q10, .inl (cI, 60, .inl (fun _ => 0))), (q13, .inl (cI, 60, .inl (fun _ => 0))), (q16, .inl (cL, 60, .inr (.inl (fun _ => 0)))), (q19, .inl (cI, 30, .inl (fun _ => 0))), (q22, .inl (cI, 30, .inl (fun _ => 0))), (q25, .inl (cL, 30, .inr (.inl (fun _ => 0)))), (q28, .inl (cI, 240, .inl (fun _ => 0)))] H30 := hPn
  replace hD : va_D A [(h0, .inr (9, [.int 0, .int 0, .ref q1, .ref q4, .int 0, .int 0, .ref q7, .ref q10, .ref q13, .ref q16, .int 0, .ref q19, .ref q22, .ref q25, .ref q28, .null, .null, .null, .int 0, .int 0, .null, .null, .long 0, .int 0, .int 0, .null, .int 0, .null])), (q1, .inl (cI, 8, .inl (fun _ => 0))), (q4, .inl (cI, 8, .inl (fun _ => 0))), (q7, .inl (cI, 60, .inl (fun _ => 0))), (q10, .inl (cI, 60, .inl (fun _ => 0))), (q13, .inl (cI, 60, .inl (fun _ => 0))), (q16, .inl (cL, 60, .inr (.inl (fun _ => 0)))), (q19, .inl (cI, 30, .inl (fun _ => 0))), (q22, .inl (cI, 30, .inl (fun _ => 0))), (q25, .inl (cL, 30, .inr (.inl (fun _ => 0)))), (q28, .inl (cI, 240, .inl (fun _ => 0)))] := hDn
  replace hS := hSn
  clear hPn hDn hSn
  refine lv_aload_n hx hb d_Mo_init_85 rfl (lv_at hl 0 rfl) ?_
  refine lv_bipush (v := 30) hx hb d_Mo_init_86 (by decide) ?_
  refine nx_newaJ hx hb (ht _ wd_1_136) hK hP hD hS hA 1 rfl (N' := 30) (by decide) (by decide) (Nat.le_of_ble_eq_true rfl) (Nat.le_of_ble_eq_true rfl) (Nat.le_of_ble_eq_true rfl) d_Mo_init_88 (fun q31 H32 hPn hDn hSn => ?_)
  replace hP : va_P (dC, dI) clA [(h0, .inr (9, [.int 0, .int 0, .ref q1, .ref q4, .int 0, .int 0, .ref q7, .ref q10, .ref q13, .ref q16, .int 0, .ref q19, .ref q22, .ref q25, .ref q28, .null, .null, .null, .int 0, .int 0, .null, .null, .long 0, .int 0, .int 0, .null, .int 0, .null])), (q1, .inl (cI, 8, .inl (fun _ => 0))), (q4, .inl (cI, 8, .inl (fun _ => 0))), (q7, .inl (cI, 60, .inl (fun _ => 0))), (q10, .inl (cI, 60, .inl (fun _ => 0))), (q13, .inl (cI, 60, .inl (fun _ => 0))), (q16, .inl (cL, 60, .inr (.inl (fun _ => 0)))), (q19, .inl (cI, 30, .inl (fun _ => 0))), (q22, .inl (cI, 30, .inl (fun _ => 0))), (q25, .inl (cL, 30, .inr (.inl (fun _ => 0)))), (q28, .inl (cI, 240, .inl (fun _ => 0))), (q31, .inl (cL, 30, .inr (.inl (fun _ => 0))))] H32 := hPn
  replace hD : va_D A [(h0, .inr (9, [.int 0, .int 0, .ref q1, .ref q4, .int 0, .int 0, .ref q7, .ref q10, .ref q13, .ref q16, .int 0, .ref q19, .ref q22, .ref q25, .ref q28, .null, .null, .null, .int 0, .int 0, .null, .null, .long 0, .int 0, .int 0, .null, .int 0, .null])), (q1, .inl (cI, 8, .inl (fun _ => 0))), (q4, .inl (cI, 8, .inl (fun _ => 0))), (q7, .inl (cI, 60, .inl (fun _ => 0))), (q10, .inl (cI, 60, .inl (fun _ => 0))), (q13, .inl (cI, 60, .inl (fun _ => 0))), (q16, .inl (cL, 60, .inr (.inl (fun _ => 0)))), (q19, .inl (cI, 30, .inl (fun _ => 0))), (q22, .inl (cI, 30, .inl (fun _ => 0))), (q25, .inl (cL, 30, .inr (.inl (fun _ => 0)))), (q28, .inl (cI, 240, .inl (fun _ => 0))), (q31, .inl (cL, 30, .inr (.inl (fun _ => 0))))] := hDn
  replace hS := hSn
  clear hPn hDn hSn
  refine W.cs (cells' := 11) (slots' := 616) rfl rfl ?_
  refine va_putF (D := (dC, dI)) (ci := 9) (v := .ref q31) (ty := .array .long) (C := "NetUnfolderModel") (T := T_Mo) (N := 28) hx hb ht in_Mo ty_Mo ok_Mo nm_Mo hown hK hP hD hS 0 rfl rfl 15 (by decide) (ht _ wd_4_15) (fun _ h9 => h9) rfl hin rfl (by decide +kernel) rfl rfl (Nat.le_of_ble_eq_true rfl) d_Mo_init_90 (fun H33 locs hPn hDn hSn => ?_)
  replace hP : va_P (dC, dI) clA [(h0, .inr (9, [.int 0, .int 0, .ref q1, .ref q4, .int 0, .int 0, .ref q7, .ref q10, .ref q13, .ref q16, .int 0, .ref q19, .ref q22, .ref q25, .ref q28, .ref q31, .null, .null, .int 0, .int 0, .null, .null, .long 0, .int 0, .int 0, .null, .int 0, .null])), (q1, .inl (cI, 8, .inl (fun _ => 0))), (q4, .inl (cI, 8, .inl (fun _ => 0))), (q7, .inl (cI, 60, .inl (fun _ => 0))), (q10, .inl (cI, 60, .inl (fun _ => 0))), (q13, .inl (cI, 60, .inl (fun _ => 0))), (q16, .inl (cL, 60, .inr (.inl (fun _ => 0)))), (q19, .inl (cI, 30, .inl (fun _ => 0))), (q22, .inl (cI, 30, .inl (fun _ => 0))), (q25, .inl (cL, 30, .inr (.inl (fun _ => 0)))), (q28, .inl (cI, 240, .inl (fun _ => 0))), (q31, .inl (cL, 30, .inr (.inl (fun _ => 0))))] H33 := hPn
  replace hD : va_D A [(h0, .inr (9, [.int 0, .int 0, .ref q1, .ref q4, .int 0, .int 0, .ref q7, .ref q10, .ref q13, .ref q16, .int 0, .ref q19, .ref q22, .ref q25, .ref q28, .ref q31, .null, .null, .int 0, .int 0, .null, .null, .long 0, .int 0, .int 0, .null, .int 0, .null])), (q1, .inl (cI, 8, .inl (fun _ => 0))), (q4, .inl (cI, 8, .inl (fun _ => 0))), (q7, .inl (cI, 60, .inl (fun _ => 0))), (q10, .inl (cI, 60, .inl (fun _ => 0))), (q13, .inl (cI, 60, .inl (fun _ => 0))), (q16, .inl (cL, 60, .inr (.inl (fun _ => 0)))), (q19, .inl (cI, 30, .inl (fun _ => 0))), (q22, .inl (cI, 30, .inl (fun _ => 0))), (q25, .inl (cL, 30, .inr (.inl (fun _ => 0)))), (q28, .inl (cI, 240, .inl (fun _ => 0))), (q31, .inl (cL, 30, .inr (.inl (fun _ => 0))))] := hDn
  replace hS := hSn
  clear hPn hDn hSn
  refine lv_aload_n hx hb d_Mo_init_93 rfl (lv_at hl 0 rfl) ?_
  refine lv_bipush (v := 30) hx hb d_Mo_init_94 (by decide) ?_
  refine nx_newaI hx hb (ht _ wd_1_55) hK hP hD hS hA 0 rfl (N' := 30) (by decide) (by decide) (Nat.le_of_ble_eq_true rfl) (Nat.le_of_ble_eq_true rfl) (Nat.le_of_ble_eq_true rfl) d_Mo_init_96 (fun q34 H35 hPn hDn hSn => ?_)
  replace hP : va_P (dC, dI) clA [(h0, .inr (9, [.int 0, .int 0, .ref q1, .ref q4, .int 0, .int 0, .ref q7, .ref q10, .ref q13, .ref q16, .int 0, .ref q19, .ref q22, .ref q25, .ref q28, .ref q31, .null, .null, .int 0, .int 0, .null, .null, .long 0, .int 0, .int 0, .null, .int 0, .null])), (q1, .inl (cI, 8, .inl (fun _ => 0))), (q4, .inl (cI, 8, .inl (fun _ => 0))), (q7, .inl (cI, 60, .inl (fun _ => 0))), (q10, .inl (cI, 60, .inl (fun _ => 0))), (q13, .inl (cI, 60, .inl (fun _ => 0))), (q16, .inl (cL, 60, .inr (.inl (fun _ => 0)))), (q19, .inl (cI, 30, .inl (fun _ => 0))), (q22, .inl (cI, 30, .inl (fun _ => 0))), (q25, .inl (cL, 30, .inr (.inl (fun _ => 0)))), (q28, .inl (cI, 240, .inl (fun _ => 0))), (q31, .inl (cL, 30, .inr (.inl (fun _ => 0)))), (q34, .inl (cI, 30, .inl (fun _ => 0)))] H35 := hPn
  replace hD : va_D A [(h0, .inr (9, [.int 0, .int 0, .ref q1, .ref q4, .int 0, .int 0, .ref q7, .ref q10, .ref q13, .ref q16, .int 0, .ref q19, .ref q22, .ref q25, .ref q28, .ref q31, .null, .null, .int 0, .int 0, .null, .null, .long 0, .int 0, .int 0, .null, .int 0, .null])), (q1, .inl (cI, 8, .inl (fun _ => 0))), (q4, .inl (cI, 8, .inl (fun _ => 0))), (q7, .inl (cI, 60, .inl (fun _ => 0))), (q10, .inl (cI, 60, .inl (fun _ => 0))), (q13, .inl (cI, 60, .inl (fun _ => 0))), (q16, .inl (cL, 60, .inr (.inl (fun _ => 0)))), (q19, .inl (cI, 30, .inl (fun _ => 0))), (q22, .inl (cI, 30, .inl (fun _ => 0))), (q25, .inl (cL, 30, .inr (.inl (fun _ => 0)))), (q28, .inl (cI, 240, .inl (fun _ => 0))), (q31, .inl (cL, 30, .inr (.inl (fun _ => 0)))), (q34, .inl (cI, 30, .inl (fun _ => 0)))] := hDn
  replace hS := hSn
  clear hPn hDn hSn
  refine W.cs (cells' := 12) (slots' := 646) rfl rfl ?_
  refine va_putF (D := (dC, dI)) (ci := 9) (v := .ref q34) (ty := .array .int) (C := "NetUnfolderModel") (T := T_Mo) (N := 28) hx hb ht in_Mo ty_Mo ok_Mo nm_Mo hown hK hP hD hS 0 rfl rfl 16 (by decide) (ht _ wd_4_16) (fun _ h9 => h9) rfl hin rfl (by decide +kernel) rfl rfl (Nat.le_of_ble_eq_true rfl) d_Mo_init_98 (fun H36 locs hPn hDn hSn => ?_)
  replace hP : va_P (dC, dI) clA [(h0, .inr (9, [.int 0, .int 0, .ref q1, .ref q4, .int 0, .int 0, .ref q7, .ref q10, .ref q13, .ref q16, .int 0, .ref q19, .ref q22, .ref q25, .ref q28, .ref q31, .ref q34, .null, .int 0, .int 0, .null, .null, .long 0, .int 0, .int 0, .null, .int 0, .null])), (q1, .inl (cI, 8, .inl (fun _ => 0))), (q4, .inl (cI, 8, .inl (fun _ => 0))), (q7, .inl (cI, 60, .inl (fun _ => 0))), (q10, .inl (cI, 60, .inl (fun _ => 0))), (q13, .inl (cI, 60, .inl (fun _ => 0))), (q16, .inl (cL, 60, .inr (.inl (fun _ => 0)))), (q19, .inl (cI, 30, .inl (fun _ => 0))), (q22, .inl (cI, 30, .inl (fun _ => 0))), (q25, .inl (cL, 30, .inr (.inl (fun _ => 0)))), (q28, .inl (cI, 240, .inl (fun _ => 0))), (q31, .inl (cL, 30, .inr (.inl (fun _ => 0)))), (q34, .inl (cI, 30, .inl (fun _ => 0)))] H36 := hPn
  replace hD : va_D A [(h0, .inr (9, [.int 0, .int 0, .ref q1, .ref q4, .int 0, .int 0, .ref q7, .ref q10, .ref q13, .ref q16, .int 0, .ref q19, .ref q22, .ref q25, .ref q28, .ref q31, .ref q34, .null, .int 0, .int 0, .null, .null, .long 0, .int 0, .int 0, .null, .int 0, .null])), (q1, .inl (cI, 8, .inl (fun _ => 0))), (q4, .inl (cI, 8, .inl (fun _ => 0))), (q7, .inl (cI, 60, .inl (fun _ => 0))), (q10, .inl (cI, 60, .inl (fun _ => 0))), (q13, .inl (cI, 60, .inl (fun _ => 0))), (q16, .inl (cL, 60, .inr (.inl (fun _ => 0)))), (q19, .inl (cI, 30, .inl (fun _ => 0))), (q22, .inl (cI, 30, .inl (fun _ => 0))), (q25, .inl (cL, 30, .inr (.inl (fun _ => 0)))), (q28, .inl (cI, 240, .inl (fun _ => 0))), (q31, .inl (cL, 30, .inr (.inl (fun _ => 0)))), (q34, .inl (cI, 30, .inl (fun _ => 0)))] := hDn
  replace hS := hSn
  clear hPn hDn hSn
  refine lv_aload_n hx hb d_Mo_init_101 rfl (lv_at hl 0 rfl) ?_
  refine lv_bipush (v := 30) hx hb d_Mo_init_102 (by decide) ?_
  refine nx_newaZ hx hb (ht _ wd_4_85) hK hP hD hS hA 2 rfl (N' := 30) (by decide) (by decide) (Nat.le_of_ble_eq_true rfl) (Nat.le_of_ble_eq_true rfl) (Nat.le_of_ble_eq_true rfl) d_Mo_init_104 (fun q37 H38 hPn hDn hSn => ?_)
  replace hP : va_P (dC, dI) clA [(h0, .inr (9, [.int 0, .int 0, .ref q1, .ref q4, .int 0, .int 0, .ref q7, .ref q10, .ref q13, .ref q16, .int 0, .ref q19, .ref q22, .ref q25, .ref q28, .ref q31, .ref q34, .null, .int 0, .int 0, .null, .null, .long 0, .int 0, .int 0, .null, .int 0, .null])), (q1, .inl (cI, 8, .inl (fun _ => 0))), (q4, .inl (cI, 8, .inl (fun _ => 0))), (q7, .inl (cI, 60, .inl (fun _ => 0))), (q10, .inl (cI, 60, .inl (fun _ => 0))), (q13, .inl (cI, 60, .inl (fun _ => 0))), (q16, .inl (cL, 60, .inr (.inl (fun _ => 0)))), (q19, .inl (cI, 30, .inl (fun _ => 0))), (q22, .inl (cI, 30, .inl (fun _ => 0))), (q25, .inl (cL, 30, .inr (.inl (fun _ => 0)))), (q28, .inl (cI, 240, .inl (fun _ => 0))), (q31, .inl (cL, 30, .inr (.inl (fun _ => 0)))), (q34, .inl (cI, 30, .inl (fun _ => 0))), (q37, .inl (cZ, 30, .inl (fun _ => 0)))] H38 := hPn
  replace hD : va_D A [(h0, .inr (9, [.int 0, .int 0, .ref q1, .ref q4, .int 0, .int 0, .ref q7, .ref q10, .ref q13, .ref q16, .int 0, .ref q19, .ref q22, .ref q25, .ref q28, .ref q31, .ref q34, .null, .int 0, .int 0, .null, .null, .long 0, .int 0, .int 0, .null, .int 0, .null])), (q1, .inl (cI, 8, .inl (fun _ => 0))), (q4, .inl (cI, 8, .inl (fun _ => 0))), (q7, .inl (cI, 60, .inl (fun _ => 0))), (q10, .inl (cI, 60, .inl (fun _ => 0))), (q13, .inl (cI, 60, .inl (fun _ => 0))), (q16, .inl (cL, 60, .inr (.inl (fun _ => 0)))), (q19, .inl (cI, 30, .inl (fun _ => 0))), (q22, .inl (cI, 30, .inl (fun _ => 0))), (q25, .inl (cL, 30, .inr (.inl (fun _ => 0)))), (q28, .inl (cI, 240, .inl (fun _ => 0))), (q31, .inl (cL, 30, .inr (.inl (fun _ => 0)))), (q34, .inl (cI, 30, .inl (fun _ => 0))), (q37, .inl (cZ, 30, .inl (fun _ => 0)))] := hDn
  replace hS := hSn
  clear hPn hDn hSn
  refine W.cs (cells' := 13) (slots' := 676) rfl rfl ?_
  refine va_putF (D := (dC, dI)) (ci := 9) (v := .ref q37) (ty := .array .boolean) (C := "NetUnfolderModel") (T := T_Mo) (N := 28) hx hb ht in_Mo ty_Mo ok_Mo nm_Mo hown hK hP hD hS 0 rfl rfl 17 (by decide) (ht _ wd_4_17) (fun _ h9 => h9) rfl hin rfl (by decide +kernel) rfl rfl (Nat.le_of_ble_eq_true rfl) d_Mo_init_106 (fun H39 locs hPn hDn hSn => ?_)
  replace hP : va_P (dC, dI) clA [(h0, .inr (9, [.int 0, .int 0, .ref q1, .ref q4, .int 0, .int 0, .ref q7, .ref q10, .ref q13, .ref q16, .int 0, .ref q19, .ref q22, .ref q25, .ref q28, .ref q31, .ref q34, .ref q37, .int 0, .int 0, .null, .null, .long 0, .int 0, .int 0, .null, .int 0, .null])), (q1, .inl (cI, 8, .inl (fun _ => 0))), (q4, .inl (cI, 8, .inl (fun _ => 0))), (q7, .inl (cI, 60, .inl (fun _ => 0))), (q10, .inl (cI, 60, .inl (fun _ => 0))), (q13, .inl (cI, 60, .inl (fun _ => 0))), (q16, .inl (cL, 60, .inr (.inl (fun _ => 0)))), (q19, .inl (cI, 30, .inl (fun _ => 0))), (q22, .inl (cI, 30, .inl (fun _ => 0))), (q25, .inl (cL, 30, .inr (.inl (fun _ => 0)))), (q28, .inl (cI, 240, .inl (fun _ => 0))), (q31, .inl (cL, 30, .inr (.inl (fun _ => 0)))), (q34, .inl (cI, 30, .inl (fun _ => 0))), (q37, .inl (cZ, 30, .inl (fun _ => 0)))] H39 := hPn
  replace hD : va_D A [(h0, .inr (9, [.int 0, .int 0, .ref q1, .ref q4, .int 0, .int 0, .ref q7, .ref q10, .ref q13, .ref q16, .int 0, .ref q19, .ref q22, .ref q25, .ref q28, .ref q31, .ref q34, .ref q37, .int 0, .int 0, .null, .null, .long 0, .int 0, .int 0, .null, .int 0, .null])), (q1, .inl (cI, 8, .inl (fun _ => 0))), (q4, .inl (cI, 8, .inl (fun _ => 0))), (q7, .inl (cI, 60, .inl (fun _ => 0))), (q10, .inl (cI, 60, .inl (fun _ => 0))), (q13, .inl (cI, 60, .inl (fun _ => 0))), (q16, .inl (cL, 60, .inr (.inl (fun _ => 0)))), (q19, .inl (cI, 30, .inl (fun _ => 0))), (q22, .inl (cI, 30, .inl (fun _ => 0))), (q25, .inl (cL, 30, .inr (.inl (fun _ => 0)))), (q28, .inl (cI, 240, .inl (fun _ => 0))), (q31, .inl (cL, 30, .inr (.inl (fun _ => 0)))), (q34, .inl (cI, 30, .inl (fun _ => 0))), (q37, .inl (cZ, 30, .inl (fun _ => 0)))] := hDn
  replace hS := hSn
  clear hPn hDn hSn
  refine lv_aload_n hx hb d_Mo_init_109 rfl (lv_at hl 0 rfl) ?_
  refine lv_bipush (v := 8) hx hb d_Mo_init_110 (by decide) ?_
  refine nx_newaI hx hb (ht _ wd_1_55) hK hP hD hS hA 0 rfl (N' := 8) (by decide) (by decide) (Nat.le_of_ble_eq_true rfl) (Nat.le_of_ble_eq_true rfl) (Nat.le_of_ble_eq_true rfl) d_Mo_init_112 (fun q40 H41 hPn hDn hSn => ?_)
  replace hP : va_P (dC, dI) clA [(h0, .inr (9, [.int 0, .int 0, .ref q1, .ref q4, .int 0, .int 0, .ref q7, .ref q10, .ref q13, .ref q16, .int 0, .ref q19, .ref q22, .ref q25, .ref q28, .ref q31, .ref q34, .ref q37, .int 0, .int 0, .null, .null, .long 0, .int 0, .int 0, .null, .int 0, .null])), (q1, .inl (cI, 8, .inl (fun _ => 0))), (q4, .inl (cI, 8, .inl (fun _ => 0))), (q7, .inl (cI, 60, .inl (fun _ => 0))), (q10, .inl (cI, 60, .inl (fun _ => 0))), (q13, .inl (cI, 60, .inl (fun _ => 0))), (q16, .inl (cL, 60, .inr (.inl (fun _ => 0)))), (q19, .inl (cI, 30, .inl (fun _ => 0))), (q22, .inl (cI, 30, .inl (fun _ => 0))), (q25, .inl (cL, 30, .inr (.inl (fun _ => 0)))), (q28, .inl (cI, 240, .inl (fun _ => 0))), (q31, .inl (cL, 30, .inr (.inl (fun _ => 0)))), (q34, .inl (cI, 30, .inl (fun _ => 0))), (q37, .inl (cZ, 30, .inl (fun _ => 0))), (q40, .inl (cI, 8, .inl (fun _ => 0)))] H41 := hPn
  replace hD : va_D A [(h0, .inr (9, [.int 0, .int 0, .ref q1, .ref q4, .int 0, .int 0, .ref q7, .ref q10, .ref q13, .ref q16, .int 0, .ref q19, .ref q22, .ref q25, .ref q28, .ref q31, .ref q34, .ref q37, .int 0, .int 0, .null, .null, .long 0, .int 0, .int 0, .null, .int 0, .null])), (q1, .inl (cI, 8, .inl (fun _ => 0))), (q4, .inl (cI, 8, .inl (fun _ => 0))), (q7, .inl (cI, 60, .inl (fun _ => 0))), (q10, .inl (cI, 60, .inl (fun _ => 0))), (q13, .inl (cI, 60, .inl (fun _ => 0))), (q16, .inl (cL, 60, .inr (.inl (fun _ => 0)))), (q19, .inl (cI, 30, .inl (fun _ => 0))), (q22, .inl (cI, 30, .inl (fun _ => 0))), (q25, .inl (cL, 30, .inr (.inl (fun _ => 0)))), (q28, .inl (cI, 240, .inl (fun _ => 0))), (q31, .inl (cL, 30, .inr (.inl (fun _ => 0)))), (q34, .inl (cI, 30, .inl (fun _ => 0))), (q37, .inl (cZ, 30, .inl (fun _ => 0))), (q40, .inl (cI, 8, .inl (fun _ => 0)))] := hDn
  replace hS := hSn
  clear hPn hDn hSn
  refine W.cs (cells' := 14) (slots' := 684) rfl rfl ?_
  refine va_putF (D := (dC, dI)) (ci := 9) (v := .ref q40) (ty := .array .int) (C := "NetUnfolderModel") (T := T_Mo) (N := 28) hx hb ht in_Mo ty_Mo ok_Mo nm_Mo hown hK hP hD hS 0 rfl rfl 20 (by decide) (ht _ wd_4_20) (fun _ h9 => h9) rfl hin rfl (by decide +kernel) rfl rfl (Nat.le_of_ble_eq_true rfl) d_Mo_init_114 (fun H42 locs hPn hDn hSn => ?_)
  replace hP : va_P (dC, dI) clA [(h0, .inr (9, [.int 0, .int 0, .ref q1, .ref q4, .int 0, .int 0, .ref q7, .ref q10, .ref q13, .ref q16, .int 0, .ref q19, .ref q22, .ref q25, .ref q28, .ref q31, .ref q34, .ref q37, .int 0, .int 0, .ref q40, .null, .long 0, .int 0, .int 0, .null, .int 0, .null])), (q1, .inl (cI, 8, .inl (fun _ => 0))), (q4, .inl (cI, 8, .inl (fun _ => 0))), (q7, .inl (cI, 60, .inl (fun _ => 0))), (q10, .inl (cI, 60, .inl (fun _ => 0))), (q13, .inl (cI, 60, .inl (fun _ => 0))), (q16, .inl (cL, 60, .inr (.inl (fun _ => 0)))), (q19, .inl (cI, 30, .inl (fun _ => 0))), (q22, .inl (cI, 30, .inl (fun _ => 0))), (q25, .inl (cL, 30, .inr (.inl (fun _ => 0)))), (q28, .inl (cI, 240, .inl (fun _ => 0))), (q31, .inl (cL, 30, .inr (.inl (fun _ => 0)))), (q34, .inl (cI, 30, .inl (fun _ => 0))), (q37, .inl (cZ, 30, .inl (fun _ => 0))), (q40, .inl (cI, 8, .inl (fun _ => 0)))] H42 := hPn
  replace hD : va_D A [(h0, .inr (9, [.int 0, .int 0, .ref q1, .ref q4, .int 0, .int 0, .ref q7, .ref q10, .ref q13, .ref q16, .int 0, .ref q19, .ref q22, .ref q25, .ref q28, .ref q31, .ref q34, .ref q37, .int 0, .int 0, .ref q40, .null, .long 0, .int 0, .int 0, .null, .int 0, .null])), (q1, .inl (cI, 8, .inl (fun _ => 0))), (q4, .inl (cI, 8, .inl (fun _ => 0))), (q7, .inl (cI, 60, .inl (fun _ => 0))), (q10, .inl (cI, 60, .inl (fun _ => 0))), (q13, .inl (cI, 60, .inl (fun _ => 0))), (q16, .inl (cL, 60, .inr (.inl (fun _ => 0)))), (q19, .inl (cI, 30, .inl (fun _ => 0))), (q22, .inl (cI, 30, .inl (fun _ => 0))), (q25, .inl (cL, 30, .inr (.inl (fun _ => 0)))), (q28, .inl (cI, 240, .inl (fun _ => 0))), (q31, .inl (cL, 30, .inr (.inl (fun _ => 0)))), (q34, .inl (cI, 30, .inl (fun _ => 0))), (q37, .inl (cZ, 30, .inl (fun _ => 0))), (q40, .inl (cI, 8, .inl (fun _ => 0)))] := hDn
  replace hS := hSn
  clear hPn hDn hSn
  refine lv_aload_n hx hb d_Mo_init_117 rfl (lv_at hl 0 rfl) ?_
  refine lv_bipush (v := 9) hx hb d_Mo_init_118 (by decide) ?_
  refine nx_newaJ hx hb (ht _ wd_1_136) hK hP hD hS hA 1 rfl (N' := 9) (by decide) (by decide) (Nat.le_of_ble_eq_true rfl) (Nat.le_of_ble_eq_true rfl) (Nat.le_of_ble_eq_true rfl) d_Mo_init_120 (fun q43 H44 hPn hDn hSn => ?_)
  replace hP : va_P (dC, dI) clA [(h0, .inr (9, [.int 0, .int 0, .ref q1, .ref q4, .int 0, .int 0, .ref q7, .ref q10, .ref q13, .ref q16, .int 0, .ref q19, .ref q22, .ref q25, .ref q28, .ref q31, .ref q34, .ref q37, .int 0, .int 0, .ref q40, .null, .long 0, .int 0, .int 0, .null, .int 0, .null])), (q1, .inl (cI, 8, .inl (fun _ => 0))), (q4, .inl (cI, 8, .inl (fun _ => 0))), (q7, .inl (cI, 60, .inl (fun _ => 0))), (q10, .inl (cI, 60, .inl (fun _ => 0))), (q13, .inl (cI, 60, .inl (fun _ => 0))), (q16, .inl (cL, 60, .inr (.inl (fun _ => 0)))), (q19, .inl (cI, 30, .inl (fun _ => 0))), (q22, .inl (cI, 30, .inl (fun _ => 0))), (q25, .inl (cL, 30, .inr (.inl (fun _ => 0)))), (q28, .inl (cI, 240, .inl (fun _ => 0))), (q31, .inl (cL, 30, .inr (.inl (fun _ => 0)))), (q34, .inl (cI, 30, .inl (fun _ => 0))), (q37, .inl (cZ, 30, .inl (fun _ => 0))), (q40, .inl (cI, 8, .inl (fun _ => 0))), (q43, .inl (cL, 9, .inr (.inl (fun _ => 0))))] H44 := hPn
  replace hD : va_D A [(h0, .inr (9, [.int 0, .int 0, .ref q1, .ref q4, .int 0, .int 0, .ref q7, .ref q10, .ref q13, .ref q16, .int 0, .ref q19, .ref q22, .ref q25, .ref q28, .ref q31, .ref q34, .ref q37, .int 0, .int 0, .ref q40, .null, .long 0, .int 0, .int 0, .null, .int 0, .null])), (q1, .inl (cI, 8, .inl (fun _ => 0))), (q4, .inl (cI, 8, .inl (fun _ => 0))), (q7, .inl (cI, 60, .inl (fun _ => 0))), (q10, .inl (cI, 60, .inl (fun _ => 0))), (q13, .inl (cI, 60, .inl (fun _ => 0))), (q16, .inl (cL, 60, .inr (.inl (fun _ => 0)))), (q19, .inl (cI, 30, .inl (fun _ => 0))), (q22, .inl (cI, 30, .inl (fun _ => 0))), (q25, .inl (cL, 30, .inr (.inl (fun _ => 0)))), (q28, .inl (cI, 240, .inl (fun _ => 0))), (q31, .inl (cL, 30, .inr (.inl (fun _ => 0)))), (q34, .inl (cI, 30, .inl (fun _ => 0))), (q37, .inl (cZ, 30, .inl (fun _ => 0))), (q40, .inl (cI, 8, .inl (fun _ => 0))), (q43, .inl (cL, 9, .inr (.inl (fun _ => 0))))] := hDn
  replace hS := hSn
  clear hPn hDn hSn
  refine W.cs (cells' := 15) (slots' := 693) rfl rfl ?_
  refine va_putF (D := (dC, dI)) (ci := 9) (v := .ref q43) (ty := .array .long) (C := "NetUnfolderModel") (T := T_Mo) (N := 28) hx hb ht in_Mo ty_Mo ok_Mo nm_Mo hown hK hP hD hS 0 rfl rfl 21 (by decide) (ht _ wd_4_21) (fun _ h9 => h9) rfl hin rfl (by decide +kernel) rfl rfl (Nat.le_of_ble_eq_true rfl) d_Mo_init_122 (fun H45 locs hPn hDn hSn => ?_)
  replace hP : va_P (dC, dI) clA [(h0, .inr (9, [.int 0, .int 0, .ref q1, .ref q4, .int 0, .int 0, .ref q7, .ref q10, .ref q13, .ref q16, .int 0, .ref q19, .ref q22, .ref q25, .ref q28, .ref q31, .ref q34, .ref q37, .int 0, .int 0, .ref q40, .ref q43, .long 0, .int 0, .int 0, .null, .int 0, .null])), (q1, .inl (cI, 8, .inl (fun _ => 0))), (q4, .inl (cI, 8, .inl (fun _ => 0))), (q7, .inl (cI, 60, .inl (fun _ => 0))), (q10, .inl (cI, 60, .inl (fun _ => 0))), (q13, .inl (cI, 60, .inl (fun _ => 0))), (q16, .inl (cL, 60, .inr (.inl (fun _ => 0)))), (q19, .inl (cI, 30, .inl (fun _ => 0))), (q22, .inl (cI, 30, .inl (fun _ => 0))), (q25, .inl (cL, 30, .inr (.inl (fun _ => 0)))), (q28, .inl (cI, 240, .inl (fun _ => 0))), (q31, .inl (cL, 30, .inr (.inl (fun _ => 0)))), (q34, .inl (cI, 30, .inl (fun _ => 0))), (q37, .inl (cZ, 30, .inl (fun _ => 0))), (q40, .inl (cI, 8, .inl (fun _ => 0))), (q43, .inl (cL, 9, .inr (.inl (fun _ => 0))))] H45 := hPn
  replace hD : va_D A [(h0, .inr (9, [.int 0, .int 0, .ref q1, .ref q4, .int 0, .int 0, .ref q7, .ref q10, .ref q13, .ref q16, .int 0, .ref q19, .ref q22, .ref q25, .ref q28, .ref q31, .ref q34, .ref q37, .int 0, .int 0, .ref q40, .ref q43, .long 0, .int 0, .int 0, .null, .int 0, .null])), (q1, .inl (cI, 8, .inl (fun _ => 0))), (q4, .inl (cI, 8, .inl (fun _ => 0))), (q7, .inl (cI, 60, .inl (fun _ => 0))), (q10, .inl (cI, 60, .inl (fun _ => 0))), (q13, .inl (cI, 60, .inl (fun _ => 0))), (q16, .inl (cL, 60, .inr (.inl (fun _ => 0)))), (q19, .inl (cI, 30, .inl (fun _ => 0))), (q22, .inl (cI, 30, .inl (fun _ => 0))), (q25, .inl (cL, 30, .inr (.inl (fun _ => 0)))), (q28, .inl (cI, 240, .inl (fun _ => 0))), (q31, .inl (cL, 30, .inr (.inl (fun _ => 0)))), (q34, .inl (cI, 30, .inl (fun _ => 0))), (q37, .inl (cZ, 30, .inl (fun _ => 0))), (q40, .inl (cI, 8, .inl (fun _ => 0))), (q43, .inl (cL, 9, .inr (.inl (fun _ => 0))))] := hDn
  replace hS := hSn
  clear hPn hDn hSn
  refine lv_aload_n hx hb d_Mo_init_125 rfl (lv_at hl 0 rfl) ?_
  refine lv_bipush (v := 8) hx hb d_Mo_init_126 (by decide) ?_
  refine nx_newaI hx hb (ht _ wd_1_55) hK hP hD hS hA 0 rfl (N' := 8) (by decide) (by decide) (Nat.le_of_ble_eq_true rfl) (Nat.le_of_ble_eq_true rfl) (Nat.le_of_ble_eq_true rfl) d_Mo_init_128 (fun q46 H47 hPn hDn hSn => ?_)
  replace hP : va_P (dC, dI) clA [(h0, .inr (9, [.int 0, .int 0, .ref q1, .ref q4, .int 0, .int 0, .ref q7, .ref q10, .ref q13, .ref q16, .int 0, .ref q19, .ref q22, .ref q25, .ref q28, .ref q31, .ref q34, .ref q37, .int 0, .int 0, .ref q40, .ref q43, .long 0, .int 0, .int 0, .null, .int 0, .null])), (q1, .inl (cI, 8, .inl (fun _ => 0))), (q4, .inl (cI, 8, .inl (fun _ => 0))), (q7, .inl (cI, 60, .inl (fun _ => 0))), (q10, .inl (cI, 60, .inl (fun _ => 0))), (q13, .inl (cI, 60, .inl (fun _ => 0))), (q16, .inl (cL, 60, .inr (.inl (fun _ => 0)))), (q19, .inl (cI, 30, .inl (fun _ => 0))), (q22, .inl (cI, 30, .inl (fun _ => 0))), (q25, .inl (cL, 30, .inr (.inl (fun _ => 0)))), (q28, .inl (cI, 240, .inl (fun _ => 0))), (q31, .inl (cL, 30, .inr (.inl (fun _ => 0)))), (q34, .inl (cI, 30, .inl (fun _ => 0))), (q37, .inl (cZ, 30, .inl (fun _ => 0))), (q40, .inl (cI, 8, .inl (fun _ => 0))), (q43, .inl (cL, 9, .inr (.inl (fun _ => 0)))), (q46, .inl (cI, 8, .inl (fun _ => 0)))] H47 := hPn
  replace hD : va_D A [(h0, .inr (9, [.int 0, .int 0, .ref q1, .ref q4, .int 0, .int 0, .ref q7, .ref q10, .ref q13, .ref q16, .int 0, .ref q19, .ref q22, .ref q25, .ref q28, .ref q31, .ref q34, .ref q37, .int 0, .int 0, .ref q40, .ref q43, .long 0, .int 0, .int 0, .null, .int 0, .null])), (q1, .inl (cI, 8, .inl (fun _ => 0))), (q4, .inl (cI, 8, .inl (fun _ => 0))), (q7, .inl (cI, 60, .inl (fun _ => 0))), (q10, .inl (cI, 60, .inl (fun _ => 0))), (q13, .inl (cI, 60, .inl (fun _ => 0))), (q16, .inl (cL, 60, .inr (.inl (fun _ => 0)))), (q19, .inl (cI, 30, .inl (fun _ => 0))), (q22, .inl (cI, 30, .inl (fun _ => 0))), (q25, .inl (cL, 30, .inr (.inl (fun _ => 0)))), (q28, .inl (cI, 240, .inl (fun _ => 0))), (q31, .inl (cL, 30, .inr (.inl (fun _ => 0)))), (q34, .inl (cI, 30, .inl (fun _ => 0))), (q37, .inl (cZ, 30, .inl (fun _ => 0))), (q40, .inl (cI, 8, .inl (fun _ => 0))), (q43, .inl (cL, 9, .inr (.inl (fun _ => 0)))), (q46, .inl (cI, 8, .inl (fun _ => 0)))] := hDn
  replace hS := hSn
  clear hPn hDn hSn
  refine W.cs (cells' := 16) (slots' := 701) rfl rfl ?_
  refine va_putF (D := (dC, dI)) (ci := 9) (v := .ref q46) (ty := .array .int) (C := "NetUnfolderModel") (T := T_Mo) (N := 28) hx hb ht in_Mo ty_Mo ok_Mo nm_Mo hown hK hP hD hS 0 rfl rfl 25 (by decide) (ht _ wd_4_25) (fun _ h9 => h9) rfl hin rfl (by decide +kernel) rfl rfl (Nat.le_of_ble_eq_true rfl) d_Mo_init_130 (fun H48 locs hPn hDn hSn => ?_)
  replace hP : va_P (dC, dI) clA [(h0, .inr (9, [.int 0, .int 0, .ref q1, .ref q4, .int 0, .int 0, .ref q7, .ref q10, .ref q13, .ref q16, .int 0, .ref q19, .ref q22, .ref q25, .ref q28, .ref q31, .ref q34, .ref q37, .int 0, .int 0, .ref q40, .ref q43, .long 0, .int 0, .int 0, .ref q46, .int 0, .null])), (q1, .inl (cI, 8, .inl (fun _ => 0))), (q4, .inl (cI, 8, .inl (fun _ => 0))), (q7, .inl (cI, 60, .inl (fun _ => 0))), (q10, .inl (cI, 60, .inl (fun _ => 0))), (q13, .inl (cI, 60, .inl (fun _ => 0))), (q16, .inl (cL, 60, .inr (.inl (fun _ => 0)))), (q19, .inl (cI, 30, .inl (fun _ => 0))), (q22, .inl (cI, 30, .inl (fun _ => 0))), (q25, .inl (cL, 30, .inr (.inl (fun _ => 0)))), (q28, .inl (cI, 240, .inl (fun _ => 0))), (q31, .inl (cL, 30, .inr (.inl (fun _ => 0)))), (q34, .inl (cI, 30, .inl (fun _ => 0))), (q37, .inl (cZ, 30, .inl (fun _ => 0))), (q40, .inl (cI, 8, .inl (fun _ => 0))), (q43, .inl (cL, 9, .inr (.inl (fun _ => 0)))), (q46, .inl (cI, 8, .inl (fun _ => 0)))] H48 := hPn
  replace hD : va_D A [(h0, .inr (9, [.int 0, .int 0, .ref q1, .ref q4, .int 0, .int 0, .ref q7, .ref q10, .ref q13, .ref q16, .int 0, .ref q19, .ref q22, .ref q25, .ref q28, .ref q31, .ref q34, .ref q37, .int 0, .int 0, .ref q40, .ref q43, .long 0, .int 0, .int 0, .ref q46, .int 0, .null])), (q1, .inl (cI, 8, .inl (fun _ => 0))), (q4, .inl (cI, 8, .inl (fun _ => 0))), (q7, .inl (cI, 60, .inl (fun _ => 0))), (q10, .inl (cI, 60, .inl (fun _ => 0))), (q13, .inl (cI, 60, .inl (fun _ => 0))), (q16, .inl (cL, 60, .inr (.inl (fun _ => 0)))), (q19, .inl (cI, 30, .inl (fun _ => 0))), (q22, .inl (cI, 30, .inl (fun _ => 0))), (q25, .inl (cL, 30, .inr (.inl (fun _ => 0)))), (q28, .inl (cI, 240, .inl (fun _ => 0))), (q31, .inl (cL, 30, .inr (.inl (fun _ => 0)))), (q34, .inl (cI, 30, .inl (fun _ => 0))), (q37, .inl (cZ, 30, .inl (fun _ => 0))), (q40, .inl (cI, 8, .inl (fun _ => 0))), (q43, .inl (cL, 9, .inr (.inl (fun _ => 0)))), (q46, .inl (cI, 8, .inl (fun _ => 0)))] := hDn
  replace hS := hSn
  clear hPn hDn hSn
  refine lv_aload_n hx hb d_Mo_init_133 rfl (lv_at hl 0 rfl) ?_
  refine lv_bipush (v := 62) hx hb d_Mo_init_134 (by decide) ?_
  refine nx_newaI hx hb (ht _ wd_1_55) hK hP hD hS hA 0 rfl (N' := 62) (by decide) (by decide) (Nat.le_of_ble_eq_true rfl) (Nat.le_of_ble_eq_true rfl) (Nat.le_of_ble_eq_true rfl) d_Mo_init_136 (fun q49 H50 hPn hDn hSn => ?_)
  replace hP : va_P (dC, dI) clA [(h0, .inr (9, [.int 0, .int 0, .ref q1, .ref q4, .int 0, .int 0, .ref q7, .ref q10, .ref q13, .ref q16, .int 0, .ref q19, .ref q22, .ref q25, .ref q28, .ref q31, .ref q34, .ref q37, .int 0, .int 0, .ref q40, .ref q43, .long 0, .int 0, .int 0, .ref q46, .int 0, .null])), (q1, .inl (cI, 8, .inl (fun _ => 0))), (q4, .inl (cI, 8, .inl (fun _ => 0))), (q7, .inl (cI, 60, .inl (fun _ => 0))), (q10, .inl (cI, 60, .inl (fun _ => 0))), (q13, .inl (cI, 60, .inl (fun _ => 0))), (q16, .inl (cL, 60, .inr (.inl (fun _ => 0)))), (q19, .inl (cI, 30, .inl (fun _ => 0))), (q22, .inl (cI, 30, .inl (fun _ => 0))), (q25, .inl (cL, 30, .inr (.inl (fun _ => 0)))), (q28, .inl (cI, 240, .inl (fun _ => 0))), (q31, .inl (cL, 30, .inr (.inl (fun _ => 0)))), (q34, .inl (cI, 30, .inl (fun _ => 0))), (q37, .inl (cZ, 30, .inl (fun _ => 0))), (q40, .inl (cI, 8, .inl (fun _ => 0))), (q43, .inl (cL, 9, .inr (.inl (fun _ => 0)))), (q46, .inl (cI, 8, .inl (fun _ => 0))), (q49, .inl (cI, 62, .inl (fun _ => 0)))] H50 := hPn
  replace hD : va_D A [(h0, .inr (9, [.int 0, .int 0, .ref q1, .ref q4, .int 0, .int 0, .ref q7, .ref q10, .ref q13, .ref q16, .int 0, .ref q19, .ref q22, .ref q25, .ref q28, .ref q31, .ref q34, .ref q37, .int 0, .int 0, .ref q40, .ref q43, .long 0, .int 0, .int 0, .ref q46, .int 0, .null])), (q1, .inl (cI, 8, .inl (fun _ => 0))), (q4, .inl (cI, 8, .inl (fun _ => 0))), (q7, .inl (cI, 60, .inl (fun _ => 0))), (q10, .inl (cI, 60, .inl (fun _ => 0))), (q13, .inl (cI, 60, .inl (fun _ => 0))), (q16, .inl (cL, 60, .inr (.inl (fun _ => 0)))), (q19, .inl (cI, 30, .inl (fun _ => 0))), (q22, .inl (cI, 30, .inl (fun _ => 0))), (q25, .inl (cL, 30, .inr (.inl (fun _ => 0)))), (q28, .inl (cI, 240, .inl (fun _ => 0))), (q31, .inl (cL, 30, .inr (.inl (fun _ => 0)))), (q34, .inl (cI, 30, .inl (fun _ => 0))), (q37, .inl (cZ, 30, .inl (fun _ => 0))), (q40, .inl (cI, 8, .inl (fun _ => 0))), (q43, .inl (cL, 9, .inr (.inl (fun _ => 0)))), (q46, .inl (cI, 8, .inl (fun _ => 0))), (q49, .inl (cI, 62, .inl (fun _ => 0)))] := hDn
  replace hS := hSn
  clear hPn hDn hSn
  refine W.cs (cells' := 17) (slots' := 763) rfl rfl ?_
  refine va_putF (D := (dC, dI)) (ci := 9) (v := .ref q49) (ty := .array .int) (C := "NetUnfolderModel") (T := T_Mo) (N := 28) hx hb ht in_Mo ty_Mo ok_Mo nm_Mo hown hK hP hD hS 0 rfl rfl 27 (by decide) (ht _ wd_4_27) (fun _ h9 => h9) rfl hin rfl (by decide +kernel) rfl rfl (Nat.le_of_ble_eq_true rfl) d_Mo_init_138 (fun H51 locs hPn hDn hSn => ?_)
  replace hP : va_P (dC, dI) clA [(h0, .inr (9, [.int 0, .int 0, .ref q1, .ref q4, .int 0, .int 0, .ref q7, .ref q10, .ref q13, .ref q16, .int 0, .ref q19, .ref q22, .ref q25, .ref q28, .ref q31, .ref q34, .ref q37, .int 0, .int 0, .ref q40, .ref q43, .long 0, .int 0, .int 0, .ref q46, .int 0, .ref q49])), (q1, .inl (cI, 8, .inl (fun _ => 0))), (q4, .inl (cI, 8, .inl (fun _ => 0))), (q7, .inl (cI, 60, .inl (fun _ => 0))), (q10, .inl (cI, 60, .inl (fun _ => 0))), (q13, .inl (cI, 60, .inl (fun _ => 0))), (q16, .inl (cL, 60, .inr (.inl (fun _ => 0)))), (q19, .inl (cI, 30, .inl (fun _ => 0))), (q22, .inl (cI, 30, .inl (fun _ => 0))), (q25, .inl (cL, 30, .inr (.inl (fun _ => 0)))), (q28, .inl (cI, 240, .inl (fun _ => 0))), (q31, .inl (cL, 30, .inr (.inl (fun _ => 0)))), (q34, .inl (cI, 30, .inl (fun _ => 0))), (q37, .inl (cZ, 30, .inl (fun _ => 0))), (q40, .inl (cI, 8, .inl (fun _ => 0))), (q43, .inl (cL, 9, .inr (.inl (fun _ => 0)))), (q46, .inl (cI, 8, .inl (fun _ => 0))), (q49, .inl (cI, 62, .inl (fun _ => 0)))] H51 := hPn
  replace hD : va_D A [(h0, .inr (9, [.int 0, .int 0, .ref q1, .ref q4, .int 0, .int 0, .ref q7, .ref q10, .ref q13, .ref q16, .int 0, .ref q19, .ref q22, .ref q25, .ref q28, .ref q31, .ref q34, .ref q37, .int 0, .int 0, .ref q40, .ref q43, .long 0, .int 0, .int 0, .ref q46, .int 0, .ref q49])), (q1, .inl (cI, 8, .inl (fun _ => 0))), (q4, .inl (cI, 8, .inl (fun _ => 0))), (q7, .inl (cI, 60, .inl (fun _ => 0))), (q10, .inl (cI, 60, .inl (fun _ => 0))), (q13, .inl (cI, 60, .inl (fun _ => 0))), (q16, .inl (cL, 60, .inr (.inl (fun _ => 0)))), (q19, .inl (cI, 30, .inl (fun _ => 0))), (q22, .inl (cI, 30, .inl (fun _ => 0))), (q25, .inl (cL, 30, .inr (.inl (fun _ => 0)))), (q28, .inl (cI, 240, .inl (fun _ => 0))), (q31, .inl (cL, 30, .inr (.inl (fun _ => 0)))), (q34, .inl (cI, 30, .inl (fun _ => 0))), (q37, .inl (cZ, 30, .inl (fun _ => 0))), (q40, .inl (cI, 8, .inl (fun _ => 0))), (q43, .inl (cL, 9, .inr (.inl (fun _ => 0)))), (q46, .inl (cI, 8, .inl (fun _ => 0))), (q49, .inl (cI, 62, .inl (fun _ => 0)))] := hDn
  replace hS := hSn
  clear hPn hDn hSn
  refine lv_aload_n hx hb d_Mo_init_141 rfl (lv_at hl 0 rfl) ?_
  refine lv_iconst (v := (-1)) hx hb d_Mo_init_142 (by decide) ?_
  refine va_put (D := (dC, dI)) (ci := 9) (v := .int (-1)) (ty := .int) (C := "NetUnfolderModel") (T := T_Mo) (N := 28) hx hb ht in_Mo ty_Mo ok_Mo nm_Mo hown hK hP hD hS 0 rfl rfl 26 (by decide) (ht _ wd_4_26) (fun _ h9 => h9) rfl (by decide +kernel) rfl rfl (Nat.le_of_ble_eq_true rfl) d_Mo_init_143 (fun H52 locs hPn hDn hSn => ?_)
  replace hP : va_P (dC, dI) clA [(h0, .inr (9, [.int 0, .int 0, .ref q1, .ref q4, .int 0, .int 0, .ref q7, .ref q10, .ref q13, .ref q16, .int 0, .ref q19, .ref q22, .ref q25, .ref q28, .ref q31, .ref q34, .ref q37, .int 0, .int 0, .ref q40, .ref q43, .long 0, .int 0, .int 0, .ref q46, .int (-1), .ref q49])), (q1, .inl (cI, 8, .inl (fun _ => 0))), (q4, .inl (cI, 8, .inl (fun _ => 0))), (q7, .inl (cI, 60, .inl (fun _ => 0))), (q10, .inl (cI, 60, .inl (fun _ => 0))), (q13, .inl (cI, 60, .inl (fun _ => 0))), (q16, .inl (cL, 60, .inr (.inl (fun _ => 0)))), (q19, .inl (cI, 30, .inl (fun _ => 0))), (q22, .inl (cI, 30, .inl (fun _ => 0))), (q25, .inl (cL, 30, .inr (.inl (fun _ => 0)))), (q28, .inl (cI, 240, .inl (fun _ => 0))), (q31, .inl (cL, 30, .inr (.inl (fun _ => 0)))), (q34, .inl (cI, 30, .inl (fun _ => 0))), (q37, .inl (cZ, 30, .inl (fun _ => 0))), (q40, .inl (cI, 8, .inl (fun _ => 0))), (q43, .inl (cL, 9, .inr (.inl (fun _ => 0)))), (q46, .inl (cI, 8, .inl (fun _ => 0))), (q49, .inl (cI, 62, .inl (fun _ => 0)))] H52 := hPn
  replace hD : va_D A [(h0, .inr (9, [.int 0, .int 0, .ref q1, .ref q4, .int 0, .int 0, .ref q7, .ref q10, .ref q13, .ref q16, .int 0, .ref q19, .ref q22, .ref q25, .ref q28, .ref q31, .ref q34, .ref q37, .int 0, .int 0, .ref q40, .ref q43, .long 0, .int 0, .int 0, .ref q46, .int (-1), .ref q49])), (q1, .inl (cI, 8, .inl (fun _ => 0))), (q4, .inl (cI, 8, .inl (fun _ => 0))), (q7, .inl (cI, 60, .inl (fun _ => 0))), (q10, .inl (cI, 60, .inl (fun _ => 0))), (q13, .inl (cI, 60, .inl (fun _ => 0))), (q16, .inl (cL, 60, .inr (.inl (fun _ => 0)))), (q19, .inl (cI, 30, .inl (fun _ => 0))), (q22, .inl (cI, 30, .inl (fun _ => 0))), (q25, .inl (cL, 30, .inr (.inl (fun _ => 0)))), (q28, .inl (cI, 240, .inl (fun _ => 0))), (q31, .inl (cL, 30, .inr (.inl (fun _ => 0)))), (q34, .inl (cI, 30, .inl (fun _ => 0))), (q37, .inl (cZ, 30, .inl (fun _ => 0))), (q40, .inl (cI, 8, .inl (fun _ => 0))), (q43, .inl (cL, 9, .inr (.inl (fun _ => 0)))), (q46, .inl (cI, 8, .inl (fun _ => 0))), (q49, .inl (cI, 62, .inl (fun _ => 0)))] := hDn
  replace hS := hSn
  clear hPn hDn hSn
  have hP9 := hP.sub (ws' := [(h0, .inr (9, [.int 0, .int 0, .ref q1, .ref q4, .int 0, .int 0, .ref q7, .ref q10, .ref q13, .ref q16, .int 0, .ref q19, .ref q22, .ref q25, .ref q28, .ref q31, .ref q34, .ref q37, .int 0, .int 0, .ref q40, .ref q43, .long 0, .int 0, .int 0, .ref q46, .int (-1), .ref q49])), (q1, .inl (cI, 8, .inl (fun _ => 0))), (q4, .inl (cI, 8, .inl (fun _ => 0))), (q7, .inl (cI, 60, .inl (fun _ => 0))), (q10, .inl (cI, 60, .inl (fun _ => 0))), (q13, .inl (cI, 60, .inl (fun _ => 0))), (q16, .inl (cL, 60, .inr (.inl (fun _ => 0)))), (q19, .inl (cI, 30, .inl (fun _ => 0))), (q22, .inl (cI, 30, .inl (fun _ => 0))), (q25, .inl (cL, 30, .inr (.inl (fun _ => 0)))), (q28, .inl (cI, 240, .inl (fun _ => 0))), (q31, .inl (cL, 30, .inr (.inl (fun _ => 0)))), (q34, .inl (cI, 30, .inl (fun _ => 0))), (q37, .inl (cZ, 30, .inl (fun _ => 0))), (q40, .inl (cI, 8, .inl (fun _ => 0))), (q43, .inl (cL, 9, .inr (.inl (fun _ => 0)))), (q46, .inl (cI, 8, .inl (fun _ => 0))), (q49, .inl (cI, 62, .inl (fun _ => 0)))]) [0, 1, 2, 3, 4, 5, 6, 7, 8, 9, 10, 11, 12, 13, 14, 15, 16, 17] rfl
  have hD9 := hD.sub (ws' := [(h0, .inr (9, [.int 0, .int 0, .ref q1, .ref q4, .int 0, .int 0, .ref q7, .ref q10, .ref q13, .ref q16, .int 0, .ref q19, .ref q22, .ref q25, .ref q28, .ref q31, .ref q34, .ref q37, .int 0, .int 0, .ref q40, .ref q43, .long 0, .int 0, .int 0, .ref q46, .int (-1), .ref q49])), (q1, .inl (cI, 8, .inl (fun _ => 0))), (q4, .inl (cI, 8, .inl (fun _ => 0))), (q7, .inl (cI, 60, .inl (fun _ => 0))), (q10, .inl (cI, 60, .inl (fun _ => 0))), (q13, .inl (cI, 60, .inl (fun _ => 0))), (q16, .inl (cL, 60, .inr (.inl (fun _ => 0)))), (q19, .inl (cI, 30, .inl (fun _ => 0))), (q22, .inl (cI, 30, .inl (fun _ => 0))), (q25, .inl (cL, 30, .inr (.inl (fun _ => 0)))), (q28, .inl (cI, 240, .inl (fun _ => 0))), (q31, .inl (cL, 30, .inr (.inl (fun _ => 0)))), (q34, .inl (cI, 30, .inl (fun _ => 0))), (q37, .inl (cZ, 30, .inl (fun _ => 0))), (q40, .inl (cI, 8, .inl (fun _ => 0))), (q43, .inl (cL, 9, .inr (.inl (fun _ => 0)))), (q46, .inl (cI, 8, .inl (fun _ => 0))), (q49, .inl (cI, 62, .inl (fun _ => 0)))]) [0, 1, 2, 3, 4, 5, 6, 7, 8, 9, 10, 11, 12, 13, 14, 15, 16, 17] (by decide) rfl
  exact W.vret hx hb hr (fun t ht9 hW => ⟨⟨(), rfl, trivial, q1, q4, q7, q10, q13, q16, q19, q22, q25, q28, q31, q34, q37, q40, q43, q46, q49, by rw [ht9]; exact hP9, hD9⟩, hS.F ht9⟩) hS.2.2 d_Mo_init_146
end
section
set_option maxHeartbeats 4000000 in
set_option maxRecDepth 100000 in
theorem c_NU_isMarking_lo (l : Launch) (dC : Nat → ClassId) (dI : Nat → Nat → Nat) (cI cL cZ : ClassId) (sz : Nat) (k0 : Int32) (h1 : k0 < 0) : Met l y_NU_isMarking (Cond.code y_NU_isMarking prog_1_method_16_code 1 (some .boolean) :: wsA) { frames := 0, cells := 0, slots := 0, locals := 0 } (va_Pc [.int k0] (fun U => U.heap.size = sz ∧ va_P (dC, dI) clA [] U.heap ∧ va_K (dC, dI) clA [(cI, .int), (cL, .long), (cZ, .boolean)] U ∧ va_D (fun _ => True) [] ∧ NwA U)) (va_Qi (fun r (_ : Unit) => r = 0) (fun _ t => va_P (dC, dI) clA [] t.heap ∧ va_D (va_A [] sz) []) (va_A [] sz)) 0 0 (va_A [] sz) := by
  refine Met.ofW (cc := prog_1_method_16_code) (maxL := 1) (ret := (some .boolean)) (by decide) rfl ?_
  intro p e s m args below meth c s₁ B hml hv
  obtain ⟨rfl, hsz, hP, hK, hD0, hN⟩ := hv
  have hx := B.exec
  have hb := B.bytes
  have hr := B.returns
  have ht : ∀ w ∈ wsA, w.before _ s = true := fun w h => atoms_spec (ws := (Cond.code y_NU_isMarking prog_1_method_16_code 1 (some .boolean) :: wsA)) B.pre w (List.mem_cons_of_mem _ h)
  have hown : s.vm.findClass "NetUnfolder" = some m.cls := findClass_of_methodNamed B.named
  have hlocks := B.notSynchronized
  subst hsz
  have hD := hD0.self (sz := s.heap.size)
  generalize hAe : va_A [] s.heap.size = A at hD ⊢
  have hA : ∀ q : Nat, s.heap.size ≤ q → A q := fun q h => by rw [← hAe]; exact Or.inr h
  have hS : va_S A s.heap s.heap [] := va_S.rf
  have hl := lv_entry ([.int k0]) (n := 1) (Nat.le_of_ble_eq_true rfl)
  rw [lg_entry_eq]
  generalize (lg_sl ([.int k0]) ++ List.replicate (1 - (lg_sl ([.int k0])).length) Slot.unset).toArray = ls at hl ⊢
  replace hl : lv_has ls 1 [(0, .int k0)] := hl
  refine lv_iload_n hx hb d_NU_isMarking_0 rfl (lv_at hl 0 rfl) ?_
  refine lv_if_lt (tgt := 15) hx hb d_NU_isMarking_1 (by decide) (fun _ => ?_) (fun h9 => (by exfalso; have eh1 := fa_lt (k := 0) (by decide) h1; have eh9 := fa_nlt (k := 0) (by decide) h9; omega))
  refine lv_iconst (v := 0) hx hb d_NU_isMarking_15 (by decide) ?_
  have hP9 := hP.sub (ws' := []) [] rfl
  have hD9 := hD.sub (ws' := []) [] (by decide) rfl
  exact W.zret (v := 0) hx hb hr rfl (fun t ht9 hW => ⟨⟨0, (), rfl, rfl, by rw [ht9]; exact hP9, hD9⟩, hS.F ht9⟩) hS.2.2 d_NU_isMarking_16

set_option maxHeartbeats 4000000 in
set_option maxRecDepth 100000 in
theorem c_NU_isMarking_hi (l : Launch) (dC : Nat → ClassId) (dI : Nat → Nat → Nat) (cI cL cZ : ClassId) (sz : Nat) (k0 : Int32) (h2 : 255 < k0) : Met l y_NU_isMarking (Cond.code y_NU_isMarking prog_1_method_16_code 1 (some .boolean) :: wsA) { frames := 0, cells := 0, slots := 0, locals := 0 } (va_Pc [.int k0] (fun U => U.heap.size = sz ∧ va_P (dC, dI) clA [] U.heap ∧ va_K (dC, dI) clA [(cI, .int), (cL, .long), (cZ, .boolean)] U ∧ va_D (fun _ => True) [] ∧ NwA U)) (va_Qi (fun r (_ : Unit) => r = 0) (fun _ t => va_P (dC, dI) clA [] t.heap ∧ va_D (va_A [] sz) []) (va_A [] sz)) 0 0 (va_A [] sz) := by
  refine Met.ofW (cc := prog_1_method_16_code) (maxL := 1) (ret := (some .boolean)) (by decide) rfl ?_
  intro p e s m args below meth c s₁ B hml hv
  obtain ⟨rfl, hsz, hP, hK, hD0, hN⟩ := hv
  have hx := B.exec
  have hb := B.bytes
  have hr := B.returns
  have ht : ∀ w ∈ wsA, w.before _ s = true := fun w h => atoms_spec (ws := (Cond.code y_NU_isMarking prog_1_method_16_code 1 (some .boolean) :: wsA)) B.pre w (List.mem_cons_of_mem _ h)
  have hown : s.vm.findClass "NetUnfolder" = some m.cls := findClass_of_methodNamed B.named
  have hlocks := B.notSynchronized
  subst hsz
  have hD := hD0.self (sz := s.heap.size)
  generalize hAe : va_A [] s.heap.size = A at hD ⊢
  have hA : ∀ q : Nat, s.heap.size ≤ q → A q := fun q h => by rw [← hAe]; exact Or.inr h
  have hS : va_S A s.heap s.heap [] := va_S.rf
  have hl := lv_entry ([.int k0]) (n := 1) (Nat.le_of_ble_eq_true rfl)
  rw [lg_entry_eq]
  generalize (lg_sl ([.int k0]) ++ List.replicate (1 - (lg_sl ([.int k0])).length) Slot.unset).toArray = ls at hl ⊢
  replace hl : lv_has ls 1 [(0, .int k0)] := hl
  refine lv_iload_n hx hb d_NU_isMarking_0 rfl (lv_at hl 0 rfl) ?_
  refine lv_if_lt (tgt := 15) hx hb d_NU_isMarking_1 (by decide) (fun h9 => (by exfalso; have eh2 := fb_lt (k := 255) (by decide) h2; have eh9 := fa_lt (k := 0) (by decide) h9; omega)) (fun _ => ?_)
  refine lv_iload_n hx hb d_NU_isMarking_4 rfl (lv_at hl 0 rfl) ?_
  refine lv_sipush (v := 255) hx hb d_NU_isMarking_5 (by decide) ?_
  refine lv_icmp_gt (tgt := 15) hx hb d_NU_isMarking_8 (by decide) (fun _ => ?_) (fun h9 => (by exfalso; have eh2 := fb_lt (k := 255) (by decide) h2; have eh9 := fb_nlt (k := 255) (by decide) h9; omega))
  refine lv_iconst (v := 0) hx hb d_NU_isMarking_15 (by decide) ?_
  have hP9 := hP.sub (ws' := []) [] rfl
  have hD9 := hD.sub (ws' := []) [] (by decide) rfl
  exact W.zret (v := 0) hx hb hr rfl (fun t ht9 hW => ⟨⟨0, (), rfl, rfl, by rw [ht9]; exact hP9, hD9⟩, hS.F ht9⟩) hS.2.2 d_NU_isMarking_16

set_option maxHeartbeats 4000000 in
set_option maxRecDepth 100000 in
theorem c_NU_isMarking_ok (l : Launch) (dC : Nat → ClassId) (dI : Nat → Nat → Nat) (cI cL cZ : ClassId) (sz : Nat) (k0 : Int32) (h1 : ¬ k0 < 0) (h2 : ¬ 255 < k0) : Met l y_NU_isMarking (Cond.code y_NU_isMarking prog_1_method_16_code 1 (some .boolean) :: wsA) { frames := 0, cells := 0, slots := 0, locals := 0 } (va_Pc [.int k0] (fun U => U.heap.size = sz ∧ va_P (dC, dI) clA [] U.heap ∧ va_K (dC, dI) clA [(cI, .int), (cL, .long), (cZ, .boolean)] U ∧ va_D (fun _ => True) [] ∧ NwA U)) (va_Qi (fun r (_ : Unit) => r = 1) (fun _ t => va_P (dC, dI) clA [] t.heap ∧ va_D (va_A [] sz) []) (va_A [] sz)) 0 0 (va_A [] sz) := by
  refine Met.ofW (cc := prog_1_method_16_code) (maxL := 1) (ret := (some .boolean)) (by decide) rfl ?_
  intro p e s m args below meth c s₁ B hml hv
  obtain ⟨rfl, hsz, hP, hK, hD0, hN⟩ := hv
  have hx := B.exec
  have hb := B.bytes
  have hr := B.returns
  have ht : ∀ w ∈ wsA, w.before _ s = true := fun w h => atoms_spec (ws := (Cond.code y_NU_isMarking prog_1_method_16_code 1 (some .boolean) :: wsA)) B.pre w (List.mem_cons_of_mem _ h)
  have hown : s.vm.findClass "NetUnfolder" = some m.cls := findClass_of_methodNamed B.named
  have hlocks := B.notSynchronized
  subst hsz
  have hD := hD0.self (sz := s.heap.size)
  generalize hAe : va_A [] s.heap.size = A at hD ⊢
  have hA : ∀ q : Nat, s.heap.size ≤ q → A q := fun q h => by rw [← hAe]; exact Or.inr h
  have hS : va_S A s.heap s.heap [] := va_S.rf
  have hl := lv_entry ([.int k0]) (n := 1) (Nat.le_of_ble_eq_true rfl)
  rw [lg_entry_eq]
  generalize (lg_sl ([.int k0]) ++ List.replicate (1 - (lg_sl ([.int k0])).length) Slot.unset).toArray = ls at hl ⊢
  replace hl : lv_has ls 1 [(0, .int k0)] := hl
  refine lv_iload_n hx hb d_NU_isMarking_0 rfl (lv_at hl 0 rfl) ?_
  refine lv_if_lt (tgt := 15) hx hb d_NU_isMarking_1 (by decide) (fun h9 => (by exfalso; have eh1 := fa_nlt (k := 0) (by decide) h1; have eh2 := fb_nlt (k := 255) (by decide) h2; have eh9 := fa_lt (k := 0) (by decide) h9; omega)) (fun _ => ?_)
  refine lv_iload_n hx hb d_NU_isMarking_4 rfl (lv_at hl 0 rfl) ?_
  refine lv_sipush (v := 255) hx hb d_NU_isMarking_5 (by decide) ?_
  refine lv_icmp_gt (tgt := 15) hx hb d_NU_isMarking_8 (by decide) (fun h9 => (by exfalso; have eh1 := fa_nlt (k := 0) (by decide) h1; have eh2 := fb_nlt (k := 255) (by decide) h2; have eh9 := fb_lt (k := 255) (by decide) h9; omega)) (fun _ => ?_)
  refine lv_iconst (v := 1) hx hb d_NU_isMarking_11 (by decide) ?_
  refine lv_goto (tgt := 16) hx hb d_NU_isMarking_12 (by decide) ?_
  have hP9 := hP.sub (ws' := []) [] rfl
  have hD9 := hD.sub (ws' := []) [] (by decide) rfl
  exact W.zret (v := 1) hx hb hr rfl (fun t ht9 hW => ⟨⟨1, (), rfl, rfl, by rw [ht9]; exact hP9, hD9⟩, hS.F ht9⟩) hS.2.2 d_NU_isMarking_16

set_option maxHeartbeats 4000000 in
set_option maxRecDepth 100000 in
theorem c_NU_has_0_0 (l : Launch) (dC : Nat → ClassId) (dI : Nat → Nat → Nat) (cI cL cZ : ClassId) (sz : Nat) : Met l y_NU_has (Cond.code y_NU_has prog_1_method_17_code 3 (some .boolean) :: wsA) { frames := 0, cells := 0, slots := 0, locals := 0 } (va_Pc [.long 0, .int 0] (fun U => U.heap.size = sz ∧ va_P (dC, dI) clA [] U.heap ∧ va_K (dC, dI) clA [(cI, .int), (cL, .long), (cZ, .boolean)] U ∧ va_D (fun _ => True) [] ∧ NwA U)) (va_Qi (fun r (_ : Unit) => r = 0) (fun _ t => va_P (dC, dI) clA [] t.heap ∧ va_D (va_A [] sz) []) (va_A [] sz)) 0 0 (va_A [] sz) := by
  refine Met.ofW (cc := prog_1_method_17_code) (maxL := 3) (ret := (some .boolean)) (by decide) rfl ?_
  intro p e s m args below meth c s₁ B hml hv
  obtain ⟨rfl, hsz, hP, hK, hD0, hN⟩ := hv
  have hx := B.exec
  have hb := B.bytes
  have hr := B.returns
  have ht : ∀ w ∈ wsA, w.before _ s = true := fun w h => atoms_spec (ws := (Cond.code y_NU_has prog_1_method_17_code 3 (some .boolean) :: wsA)) B.pre w (List.mem_cons_of_mem _ h)
  have hown : s.vm.findClass "NetUnfolder" = some m.cls := findClass_of_methodNamed B.named
  have hlocks := B.notSynchronized
  subst hsz
  have hD := hD0.self (sz := s.heap.size)
  generalize hAe : va_A [] s.heap.size = A at hD ⊢
  have hA : ∀ q : Nat, s.heap.size ≤ q → A q := fun q h => by rw [← hAe]; exact Or.inr h
  have hS : va_S A s.heap s.heap [] := va_S.rf
  have hl := lv_entry ([.long 0, .int 0]) (n := 3) (Nat.le_of_ble_eq_true rfl)
  rw [lg_entry_eq]
  generalize (lg_sl ([.long 0, .int 0]) ++ List.replicate (3 - (lg_sl ([.long 0, .int 0])).length) Slot.unset).toArray = ls at hl ⊢
  replace hl : lv_has ls 3 [(0, .long 0), (2, .int 0)] := hl
  refine lv_lload_n hx hb d_NU_has_0 rfl (lv_at hl 0 rfl) ?_
  refine lv_iload_n hx hb d_NU_has_1 rfl (lv_at hl 1 rfl) ?_
  refine lv_lushr (v := 0) hx hb d_NU_has_2 (by decide) ?_
  refine lv_lconst (v := 1) hx hb d_NU_has_3 (by decide) ?_
  refine lv_land hx hb d_NU_has_4 ?_
  refine ci_l (y := 0) (by decide) ?_
  refine lv_lconst (v := 0) hx hb d_NU_has_5 (by decide) ?_
  refine W.lcmp hx hb d_NU_has_6 ?_
  refine ci_i (y := 0) (by decide) ?_
  refine lv_if_eq (tgt := 14) hx hb d_NU_has_7 (by decide) (fun _ => ?_) (fun h => (h (by decide)).elim)
  refine lv_iconst (v := 0) hx hb d_NU_has_14 (by decide) ?_
  have hP9 := hP.sub (ws' := []) [] rfl
  have hD9 := hD.sub (ws' := []) [] (by decide) rfl
  exact W.zret (v := 0) hx hb hr rfl (fun t ht9 hW => ⟨⟨0, (), rfl, rfl, by rw [ht9]; exact hP9, hD9⟩, hS.F ht9⟩) hS.2.2 d_NU_has_15

set_option maxHeartbeats 4000000 in
set_option maxRecDepth 100000 in
theorem c_NU_has_0_1 (l : Launch) (dC : Nat → ClassId) (dI : Nat → Nat → Nat) (cI cL cZ : ClassId) (sz : Nat) : Met l y_NU_has (Cond.code y_NU_has prog_1_method_17_code 3 (some .boolean) :: wsA) { frames := 0, cells := 0, slots := 0, locals := 0 } (va_Pc [.long 0, .int 1] (fun U => U.heap.size = sz ∧ va_P (dC, dI) clA [] U.heap ∧ va_K (dC, dI) clA [(cI, .int), (cL, .long), (cZ, .boolean)] U ∧ va_D (fun _ => True) [] ∧ NwA U)) (va_Qi (fun r (_ : Unit) => r = 0) (fun _ t => va_P (dC, dI) clA [] t.heap ∧ va_D (va_A [] sz) []) (va_A [] sz)) 0 0 (va_A [] sz) := by
  refine Met.ofW (cc := prog_1_method_17_code) (maxL := 3) (ret := (some .boolean)) (by decide) rfl ?_
  intro p e s m args below meth c s₁ B hml hv
  obtain ⟨rfl, hsz, hP, hK, hD0, hN⟩ := hv
  have hx := B.exec
  have hb := B.bytes
  have hr := B.returns
  have ht : ∀ w ∈ wsA, w.before _ s = true := fun w h => atoms_spec (ws := (Cond.code y_NU_has prog_1_method_17_code 3 (some .boolean) :: wsA)) B.pre w (List.mem_cons_of_mem _ h)
  have hown : s.vm.findClass "NetUnfolder" = some m.cls := findClass_of_methodNamed B.named
  have hlocks := B.notSynchronized
  subst hsz
  have hD := hD0.self (sz := s.heap.size)
  generalize hAe : va_A [] s.heap.size = A at hD ⊢
  have hA : ∀ q : Nat, s.heap.size ≤ q → A q := fun q h => by rw [← hAe]; exact Or.inr h
  have hS : va_S A s.heap s.heap [] := va_S.rf
  have hl := lv_entry ([.long 0, .int 1]) (n := 3) (Nat.le_of_ble_eq_true rfl)
  rw [lg_entry_eq]
  generalize (lg_sl ([.long 0, .int 1]) ++ List.replicate (3 - (lg_sl ([.long 0, .int 1])).length) Slot.unset).toArray = ls at hl ⊢
  replace hl : lv_has ls 3 [(0, .long 0), (2, .int 1)] := hl
  refine lv_lload_n hx hb d_NU_has_0 rfl (lv_at hl 0 rfl) ?_
  refine lv_iload_n hx hb d_NU_has_1 rfl (lv_at hl 1 rfl) ?_
  refine lv_lushr (v := 0) hx hb d_NU_has_2 (by decide) ?_
  refine lv_lconst (v := 1) hx hb d_NU_has_3 (by decide) ?_
  refine lv_land hx hb d_NU_has_4 ?_
  refine ci_l (y := 0) (by decide) ?_
  refine lv_lconst (v := 0) hx hb d_NU_has_5 (by decide) ?_
  refine W.lcmp hx hb d_NU_has_6 ?_
  refine ci_i (y := 0) (by decide) ?_
  refine lv_if_eq (tgt := 14) hx hb d_NU_has_7 (by decide) (fun _ => ?_) (fun h => (h (by decide)).elim)
  refine lv_iconst (v := 0) hx hb d_NU_has_14 (by decide) ?_
  have hP9 := hP.sub (ws' := []) [] rfl
  have hD9 := hD.sub (ws' := []) [] (by decide) rfl
  exact W.zret (v := 0) hx hb hr rfl (fun t ht9 hW => ⟨⟨0, (), rfl, rfl, by rw [ht9]; exact hP9, hD9⟩, hS.F ht9⟩) hS.2.2 d_NU_has_15

set_option maxHeartbeats 4000000 in
set_option maxRecDepth 100000 in
theorem c_NU_has_0_2 (l : Launch) (dC : Nat → ClassId) (dI : Nat → Nat → Nat) (cI cL cZ : ClassId) (sz : Nat) : Met l y_NU_has (Cond.code y_NU_has prog_1_method_17_code 3 (some .boolean) :: wsA) { frames := 0, cells := 0, slots := 0, locals := 0 } (va_Pc [.long 0, .int 2] (fun U => U.heap.size = sz ∧ va_P (dC, dI) clA [] U.heap ∧ va_K (dC, dI) clA [(cI, .int), (cL, .long), (cZ, .boolean)] U ∧ va_D (fun _ => True) [] ∧ NwA U)) (va_Qi (fun r (_ : Unit) => r = 0) (fun _ t => va_P (dC, dI) clA [] t.heap ∧ va_D (va_A [] sz) []) (va_A [] sz)) 0 0 (va_A [] sz) := by
  refine Met.ofW (cc := prog_1_method_17_code) (maxL := 3) (ret := (some .boolean)) (by decide) rfl ?_
  intro p e s m args below meth c s₁ B hml hv
  obtain ⟨rfl, hsz, hP, hK, hD0, hN⟩ := hv
  have hx := B.exec
  have hb := B.bytes
  have hr := B.returns
  have ht : ∀ w ∈ wsA, w.before _ s = true := fun w h => atoms_spec (ws := (Cond.code y_NU_has prog_1_method_17_code 3 (some .boolean) :: wsA)) B.pre w (List.mem_cons_of_mem _ h)
  have hown : s.vm.findClass "NetUnfolder" = some m.cls := findClass_of_methodNamed B.named
  have hlocks := B.notSynchronized
  subst hsz
  have hD := hD0.self (sz := s.heap.size)
  generalize hAe : va_A [] s.heap.size = A at hD ⊢
  have hA : ∀ q : Nat, s.heap.size ≤ q → A q := fun q h => by rw [← hAe]; exact Or.inr h
  have hS : va_S A s.heap s.heap [] := va_S.rf
  have hl := lv_entry ([.long 0, .int 2]) (n := 3) (Nat.le_of_ble_eq_true rfl)
  rw [lg_entry_eq]
  generalize (lg_sl ([.long 0, .int 2]) ++ List.replicate (3 - (lg_sl ([.long 0, .int 2])).length) Slot.unset).toArray = ls at hl ⊢
  replace hl : lv_has ls 3 [(0, .long 0), (2, .int 2)] := hl
  refine lv_lload_n hx hb d_NU_has_0 rfl (lv_at hl 0 rfl) ?_
  refine lv_iload_n hx hb d_NU_has_1 rfl (lv_at hl 1 rfl) ?_
  refine lv_lushr (v := 0) hx hb d_NU_has_2 (by decide) ?_
  refine lv_lconst (v := 1) hx hb d_NU_has_3 (by decide) ?_
  refine lv_land hx hb d_NU_has_4 ?_
  refine ci_l (y := 0) (by decide) ?_
  refine lv_lconst (v := 0) hx hb d_NU_has_5 (by decide) ?_
  refine W.lcmp hx hb d_NU_has_6 ?_
  refine ci_i (y := 0) (by decide) ?_
  refine lv_if_eq (tgt := 14) hx hb d_NU_has_7 (by decide) (fun _ => ?_) (fun h => (h (by decide)).elim)
  refine lv_iconst (v := 0) hx hb d_NU_has_14 (by decide) ?_
  have hP9 := hP.sub (ws' := []) [] rfl
  have hD9 := hD.sub (ws' := []) [] (by decide) rfl
  exact W.zret (v := 0) hx hb hr rfl (fun t ht9 hW => ⟨⟨0, (), rfl, rfl, by rw [ht9]; exact hP9, hD9⟩, hS.F ht9⟩) hS.2.2 d_NU_has_15

set_option maxHeartbeats 4000000 in
set_option maxRecDepth 100000 in
theorem c_NU_has_0_3 (l : Launch) (dC : Nat → ClassId) (dI : Nat → Nat → Nat) (cI cL cZ : ClassId) (sz : Nat) : Met l y_NU_has (Cond.code y_NU_has prog_1_method_17_code 3 (some .boolean) :: wsA) { frames := 0, cells := 0, slots := 0, locals := 0 } (va_Pc [.long 0, .int 3] (fun U => U.heap.size = sz ∧ va_P (dC, dI) clA [] U.heap ∧ va_K (dC, dI) clA [(cI, .int), (cL, .long), (cZ, .boolean)] U ∧ va_D (fun _ => True) [] ∧ NwA U)) (va_Qi (fun r (_ : Unit) => r = 0) (fun _ t => va_P (dC, dI) clA [] t.heap ∧ va_D (va_A [] sz) []) (va_A [] sz)) 0 0 (va_A [] sz) := by
  refine Met.ofW (cc := prog_1_method_17_code) (maxL := 3) (ret := (some .boolean)) (by decide) rfl ?_
  intro p e s m args below meth c s₁ B hml hv
  obtain ⟨rfl, hsz, hP, hK, hD0, hN⟩ := hv
  have hx := B.exec
  have hb := B.bytes
  have hr := B.returns
  have ht : ∀ w ∈ wsA, w.before _ s = true := fun w h => atoms_spec (ws := (Cond.code y_NU_has prog_1_method_17_code 3 (some .boolean) :: wsA)) B.pre w (List.mem_cons_of_mem _ h)
  have hown : s.vm.findClass "NetUnfolder" = some m.cls := findClass_of_methodNamed B.named
  have hlocks := B.notSynchronized
  subst hsz
  have hD := hD0.self (sz := s.heap.size)
  generalize hAe : va_A [] s.heap.size = A at hD ⊢
  have hA : ∀ q : Nat, s.heap.size ≤ q → A q := fun q h => by rw [← hAe]; exact Or.inr h
  have hS : va_S A s.heap s.heap [] := va_S.rf
  have hl := lv_entry ([.long 0, .int 3]) (n := 3) (Nat.le_of_ble_eq_true rfl)
  rw [lg_entry_eq]
  generalize (lg_sl ([.long 0, .int 3]) ++ List.replicate (3 - (lg_sl ([.long 0, .int 3])).length) Slot.unset).toArray = ls at hl ⊢
  replace hl : lv_has ls 3 [(0, .long 0), (2, .int 3)] := hl
  refine lv_lload_n hx hb d_NU_has_0 rfl (lv_at hl 0 rfl) ?_
  refine lv_iload_n hx hb d_NU_has_1 rfl (lv_at hl 1 rfl) ?_
  refine lv_lushr (v := 0) hx hb d_NU_has_2 (by decide) ?_
  refine lv_lconst (v := 1) hx hb d_NU_has_3 (by decide) ?_
  refine lv_land hx hb d_NU_has_4 ?_
  refine ci_l (y := 0) (by decide) ?_
  refine lv_lconst (v := 0) hx hb d_NU_has_5 (by decide) ?_
  refine W.lcmp hx hb d_NU_has_6 ?_
  refine ci_i (y := 0) (by decide) ?_
  refine lv_if_eq (tgt := 14) hx hb d_NU_has_7 (by decide) (fun _ => ?_) (fun h => (h (by decide)).elim)
  refine lv_iconst (v := 0) hx hb d_NU_has_14 (by decide) ?_
  have hP9 := hP.sub (ws' := []) [] rfl
  have hD9 := hD.sub (ws' := []) [] (by decide) rfl
  exact W.zret (v := 0) hx hb hr rfl (fun t ht9 hW => ⟨⟨0, (), rfl, rfl, by rw [ht9]; exact hP9, hD9⟩, hS.F ht9⟩) hS.2.2 d_NU_has_15

set_option maxHeartbeats 4000000 in
set_option maxRecDepth 100000 in
theorem c_NU_has_0_4 (l : Launch) (dC : Nat → ClassId) (dI : Nat → Nat → Nat) (cI cL cZ : ClassId) (sz : Nat) : Met l y_NU_has (Cond.code y_NU_has prog_1_method_17_code 3 (some .boolean) :: wsA) { frames := 0, cells := 0, slots := 0, locals := 0 } (va_Pc [.long 0, .int 4] (fun U => U.heap.size = sz ∧ va_P (dC, dI) clA [] U.heap ∧ va_K (dC, dI) clA [(cI, .int), (cL, .long), (cZ, .boolean)] U ∧ va_D (fun _ => True) [] ∧ NwA U)) (va_Qi (fun r (_ : Unit) => r = 0) (fun _ t => va_P (dC, dI) clA [] t.heap ∧ va_D (va_A [] sz) []) (va_A [] sz)) 0 0 (va_A [] sz) := by
  refine Met.ofW (cc := prog_1_method_17_code) (maxL := 3) (ret := (some .boolean)) (by decide) rfl ?_
  intro p e s m args below meth c s₁ B hml hv
  obtain ⟨rfl, hsz, hP, hK, hD0, hN⟩ := hv
  have hx := B.exec
  have hb := B.bytes
  have hr := B.returns
  have ht : ∀ w ∈ wsA, w.before _ s = true := fun w h => atoms_spec (ws := (Cond.code y_NU_has prog_1_method_17_code 3 (some .boolean) :: wsA)) B.pre w (List.mem_cons_of_mem _ h)
  have hown : s.vm.findClass "NetUnfolder" = some m.cls := findClass_of_methodNamed B.named
  have hlocks := B.notSynchronized
  subst hsz
  have hD := hD0.self (sz := s.heap.size)
  generalize hAe : va_A [] s.heap.size = A at hD ⊢
  have hA : ∀ q : Nat, s.heap.size ≤ q → A q := fun q h => by rw [← hAe]; exact Or.inr h
  have hS : va_S A s.heap s.heap [] := va_S.rf
  have hl := lv_entry ([.long 0, .int 4]) (n := 3) (Nat.le_of_ble_eq_true rfl)
  rw [lg_entry_eq]
  generalize (lg_sl ([.long 0, .int 4]) ++ List.replicate (3 - (lg_sl ([.long 0, .int 4])).length) Slot.unset).toArray = ls at hl ⊢
  replace hl : lv_has ls 3 [(0, .long 0), (2, .int 4)] := hl
  refine lv_lload_n hx hb d_NU_has_0 rfl (lv_at hl 0 rfl) ?_
  refine lv_iload_n hx hb d_NU_has_1 rfl (lv_at hl 1 rfl) ?_
  refine lv_lushr (v := 0) hx hb d_NU_has_2 (by decide) ?_
  refine lv_lconst (v := 1) hx hb d_NU_has_3 (by decide) ?_
  refine lv_land hx hb d_NU_has_4 ?_
  refine ci_l (y := 0) (by decide) ?_
  refine lv_lconst (v := 0) hx hb d_NU_has_5 (by decide) ?_
  refine W.lcmp hx hb d_NU_has_6 ?_
  refine ci_i (y := 0) (by decide) ?_
  refine lv_if_eq (tgt := 14) hx hb d_NU_has_7 (by decide) (fun _ => ?_) (fun h => (h (by decide)).elim)
  refine lv_iconst (v := 0) hx hb d_NU_has_14 (by decide) ?_
  have hP9 := hP.sub (ws' := []) [] rfl
  have hD9 := hD.sub (ws' := []) [] (by decide) rfl
  exact W.zret (v := 0) hx hb hr rfl (fun t ht9 hW => ⟨⟨0, (), rfl, rfl, by rw [ht9]; exact hP9, hD9⟩, hS.F ht9⟩) hS.2.2 d_NU_has_15

set_option maxHeartbeats 4000000 in
set_option maxRecDepth 100000 in
theorem c_NU_has_0_5 (l : Launch) (dC : Nat → ClassId) (dI : Nat → Nat → Nat) (cI cL cZ : ClassId) (sz : Nat) : Met l y_NU_has (Cond.code y_NU_has prog_1_method_17_code 3 (some .boolean) :: wsA) { frames := 0, cells := 0, slots := 0, locals := 0 } (va_Pc [.long 0, .int 5] (fun U => U.heap.size = sz ∧ va_P (dC, dI) clA [] U.heap ∧ va_K (dC, dI) clA [(cI, .int), (cL, .long), (cZ, .boolean)] U ∧ va_D (fun _ => True) [] ∧ NwA U)) (va_Qi (fun r (_ : Unit) => r = 0) (fun _ t => va_P (dC, dI) clA [] t.heap ∧ va_D (va_A [] sz) []) (va_A [] sz)) 0 0 (va_A [] sz) := by
  refine Met.ofW (cc := prog_1_method_17_code) (maxL := 3) (ret := (some .boolean)) (by decide) rfl ?_
  intro p e s m args below meth c s₁ B hml hv
  obtain ⟨rfl, hsz, hP, hK, hD0, hN⟩ := hv
  have hx := B.exec
  have hb := B.bytes
  have hr := B.returns
  have ht : ∀ w ∈ wsA, w.before _ s = true := fun w h => atoms_spec (ws := (Cond.code y_NU_has prog_1_method_17_code 3 (some .boolean) :: wsA)) B.pre w (List.mem_cons_of_mem _ h)
  have hown : s.vm.findClass "NetUnfolder" = some m.cls := findClass_of_methodNamed B.named
  have hlocks := B.notSynchronized
  subst hsz
  have hD := hD0.self (sz := s.heap.size)
  generalize hAe : va_A [] s.heap.size = A at hD ⊢
  have hA : ∀ q : Nat, s.heap.size ≤ q → A q := fun q h => by rw [← hAe]; exact Or.inr h
  have hS : va_S A s.heap s.heap [] := va_S.rf
  have hl := lv_entry ([.long 0, .int 5]) (n := 3) (Nat.le_of_ble_eq_true rfl)
  rw [lg_entry_eq]
  generalize (lg_sl ([.long 0, .int 5]) ++ List.replicate (3 - (lg_sl ([.long 0, .int 5])).length) Slot.unset).toArray = ls at hl ⊢
  replace hl : lv_has ls 3 [(0, .long 0), (2, .int 5)] := hl
  refine lv_lload_n hx hb d_NU_has_0 rfl (lv_at hl 0 rfl) ?_
  refine lv_iload_n hx hb d_NU_has_1 rfl (lv_at hl 1 rfl) ?_
  refine lv_lushr (v := 0) hx hb d_NU_has_2 (by decide) ?_
  refine lv_lconst (v := 1) hx hb d_NU_has_3 (by decide) ?_
  refine lv_land hx hb d_NU_has_4 ?_
  refine ci_l (y := 0) (by decide) ?_
  refine lv_lconst (v := 0) hx hb d_NU_has_5 (by decide) ?_
  refine W.lcmp hx hb d_NU_has_6 ?_
  refine ci_i (y := 0) (by decide) ?_
  refine lv_if_eq (tgt := 14) hx hb d_NU_has_7 (by decide) (fun _ => ?_) (fun h => (h (by decide)).elim)
  refine lv_iconst (v := 0) hx hb d_NU_has_14 (by decide) ?_
  have hP9 := hP.sub (ws' := []) [] rfl
  have hD9 := hD.sub (ws' := []) [] (by decide) rfl
  exact W.zret (v := 0) hx hb hr rfl (fun t ht9 hW => ⟨⟨0, (), rfl, rfl, by rw [ht9]; exact hP9, hD9⟩, hS.F ht9⟩) hS.2.2 d_NU_has_15

set_option maxHeartbeats 4000000 in
set_option maxRecDepth 100000 in
theorem c_NU_has_0_6 (l : Launch) (dC : Nat → ClassId) (dI : Nat → Nat → Nat) (cI cL cZ : ClassId) (sz : Nat) : Met l y_NU_has (Cond.code y_NU_has prog_1_method_17_code 3 (some .boolean) :: wsA) { frames := 0, cells := 0, slots := 0, locals := 0 } (va_Pc [.long 0, .int 6] (fun U => U.heap.size = sz ∧ va_P (dC, dI) clA [] U.heap ∧ va_K (dC, dI) clA [(cI, .int), (cL, .long), (cZ, .boolean)] U ∧ va_D (fun _ => True) [] ∧ NwA U)) (va_Qi (fun r (_ : Unit) => r = 0) (fun _ t => va_P (dC, dI) clA [] t.heap ∧ va_D (va_A [] sz) []) (va_A [] sz)) 0 0 (va_A [] sz) := by
  refine Met.ofW (cc := prog_1_method_17_code) (maxL := 3) (ret := (some .boolean)) (by decide) rfl ?_
  intro p e s m args below meth c s₁ B hml hv
  obtain ⟨rfl, hsz, hP, hK, hD0, hN⟩ := hv
  have hx := B.exec
  have hb := B.bytes
  have hr := B.returns
  have ht : ∀ w ∈ wsA, w.before _ s = true := fun w h => atoms_spec (ws := (Cond.code y_NU_has prog_1_method_17_code 3 (some .boolean) :: wsA)) B.pre w (List.mem_cons_of_mem _ h)
  have hown : s.vm.findClass "NetUnfolder" = some m.cls := findClass_of_methodNamed B.named
  have hlocks := B.notSynchronized
  subst hsz
  have hD := hD0.self (sz := s.heap.size)
  generalize hAe : va_A [] s.heap.size = A at hD ⊢
  have hA : ∀ q : Nat, s.heap.size ≤ q → A q := fun q h => by rw [← hAe]; exact Or.inr h
  have hS : va_S A s.heap s.heap [] := va_S.rf
  have hl := lv_entry ([.long 0, .int 6]) (n := 3) (Nat.le_of_ble_eq_true rfl)
  rw [lg_entry_eq]
  generalize (lg_sl ([.long 0, .int 6]) ++ List.replicate (3 - (lg_sl ([.long 0, .int 6])).length) Slot.unset).toArray = ls at hl ⊢
  replace hl : lv_has ls 3 [(0, .long 0), (2, .int 6)] := hl
  refine lv_lload_n hx hb d_NU_has_0 rfl (lv_at hl 0 rfl) ?_
  refine lv_iload_n hx hb d_NU_has_1 rfl (lv_at hl 1 rfl) ?_
  refine lv_lushr (v := 0) hx hb d_NU_has_2 (by decide) ?_
  refine lv_lconst (v := 1) hx hb d_NU_has_3 (by decide) ?_
  refine lv_land hx hb d_NU_has_4 ?_
  refine ci_l (y := 0) (by decide) ?_
  refine lv_lconst (v := 0) hx hb d_NU_has_5 (by decide) ?_
  refine W.lcmp hx hb d_NU_has_6 ?_
  refine ci_i (y := 0) (by decide) ?_
  refine lv_if_eq (tgt := 14) hx hb d_NU_has_7 (by decide) (fun _ => ?_) (fun h => (h (by decide)).elim)
  refine lv_iconst (v := 0) hx hb d_NU_has_14 (by decide) ?_
  have hP9 := hP.sub (ws' := []) [] rfl
  have hD9 := hD.sub (ws' := []) [] (by decide) rfl
  exact W.zret (v := 0) hx hb hr rfl (fun t ht9 hW => ⟨⟨0, (), rfl, rfl, by rw [ht9]; exact hP9, hD9⟩, hS.F ht9⟩) hS.2.2 d_NU_has_15

set_option maxHeartbeats 4000000 in
set_option maxRecDepth 100000 in
theorem c_NU_has_0_7 (l : Launch) (dC : Nat → ClassId) (dI : Nat → Nat → Nat) (cI cL cZ : ClassId) (sz : Nat) : Met l y_NU_has (Cond.code y_NU_has prog_1_method_17_code 3 (some .boolean) :: wsA) { frames := 0, cells := 0, slots := 0, locals := 0 } (va_Pc [.long 0, .int 7] (fun U => U.heap.size = sz ∧ va_P (dC, dI) clA [] U.heap ∧ va_K (dC, dI) clA [(cI, .int), (cL, .long), (cZ, .boolean)] U ∧ va_D (fun _ => True) [] ∧ NwA U)) (va_Qi (fun r (_ : Unit) => r = 0) (fun _ t => va_P (dC, dI) clA [] t.heap ∧ va_D (va_A [] sz) []) (va_A [] sz)) 0 0 (va_A [] sz) := by
  refine Met.ofW (cc := prog_1_method_17_code) (maxL := 3) (ret := (some .boolean)) (by decide) rfl ?_
  intro p e s m args below meth c s₁ B hml hv
  obtain ⟨rfl, hsz, hP, hK, hD0, hN⟩ := hv
  have hx := B.exec
  have hb := B.bytes
  have hr := B.returns
  have ht : ∀ w ∈ wsA, w.before _ s = true := fun w h => atoms_spec (ws := (Cond.code y_NU_has prog_1_method_17_code 3 (some .boolean) :: wsA)) B.pre w (List.mem_cons_of_mem _ h)
  have hown : s.vm.findClass "NetUnfolder" = some m.cls := findClass_of_methodNamed B.named
  have hlocks := B.notSynchronized
  subst hsz
  have hD := hD0.self (sz := s.heap.size)
  generalize hAe : va_A [] s.heap.size = A at hD ⊢
  have hA : ∀ q : Nat, s.heap.size ≤ q → A q := fun q h => by rw [← hAe]; exact Or.inr h
  have hS : va_S A s.heap s.heap [] := va_S.rf
  have hl := lv_entry ([.long 0, .int 7]) (n := 3) (Nat.le_of_ble_eq_true rfl)
  rw [lg_entry_eq]
  generalize (lg_sl ([.long 0, .int 7]) ++ List.replicate (3 - (lg_sl ([.long 0, .int 7])).length) Slot.unset).toArray = ls at hl ⊢
  replace hl : lv_has ls 3 [(0, .long 0), (2, .int 7)] := hl
  refine lv_lload_n hx hb d_NU_has_0 rfl (lv_at hl 0 rfl) ?_
  refine lv_iload_n hx hb d_NU_has_1 rfl (lv_at hl 1 rfl) ?_
  refine lv_lushr (v := 0) hx hb d_NU_has_2 (by decide) ?_
  refine lv_lconst (v := 1) hx hb d_NU_has_3 (by decide) ?_
  refine lv_land hx hb d_NU_has_4 ?_
  refine ci_l (y := 0) (by decide) ?_
  refine lv_lconst (v := 0) hx hb d_NU_has_5 (by decide) ?_
  refine W.lcmp hx hb d_NU_has_6 ?_
  refine ci_i (y := 0) (by decide) ?_
  refine lv_if_eq (tgt := 14) hx hb d_NU_has_7 (by decide) (fun _ => ?_) (fun h => (h (by decide)).elim)
  refine lv_iconst (v := 0) hx hb d_NU_has_14 (by decide) ?_
  have hP9 := hP.sub (ws' := []) [] rfl
  have hD9 := hD.sub (ws' := []) [] (by decide) rfl
  exact W.zret (v := 0) hx hb hr rfl (fun t ht9 hW => ⟨⟨0, (), rfl, rfl, by rw [ht9]; exact hP9, hD9⟩, hS.F ht9⟩) hS.2.2 d_NU_has_15

set_option maxHeartbeats 4000000 in
set_option maxRecDepth 100000 in
theorem c_Ig_bitCount_0 (l : Launch) (dC : Nat → ClassId) (dI : Nat → Nat → Nat) (cI cL cZ : ClassId) (sz : Nat) : Met l y_Ig_bitCount (Cond.code y_Ig_bitCount prog_15_method_49_code 1 (some .int) :: wsA) { frames := 0, cells := 0, slots := 0, locals := 0 } (va_Pc [.int 0] (fun U => U.heap.size = sz ∧ va_P (dC, dI) clA [] U.heap ∧ va_K (dC, dI) clA [(cI, .int), (cL, .long), (cZ, .boolean)] U ∧ va_D (fun _ => True) [] ∧ NwA U)) (va_Qi (fun r (_ : Unit) => r = 0) (fun _ t => va_P (dC, dI) clA [] t.heap ∧ va_D (va_A [] sz) []) (va_A [] sz)) 0 0 (va_A [] sz) := by
  refine Met.ofW (cc := prog_15_method_49_code) (maxL := 1) (ret := (some .int)) (by decide) rfl ?_
  intro p e s m args below meth c s₁ B hml hv
  obtain ⟨rfl, hsz, hP, hK, hD0, hN⟩ := hv
  have hx := B.exec
  have hb := B.bytes
  have hr := B.returns
  have ht : ∀ w ∈ wsA, w.before _ s = true := fun w h => atoms_spec (ws := (Cond.code y_Ig_bitCount prog_15_method_49_code 1 (some .int) :: wsA)) B.pre w (List.mem_cons_of_mem _ h)
  have hown : s.vm.findClass "java/lang/Integer" = some m.cls := findClass_of_methodNamed B.named
  have hlocks := B.notSynchronized
  subst hsz
  have hD := hD0.self (sz := s.heap.size)
  generalize hAe : va_A [] s.heap.size = A at hD ⊢
  have hA : ∀ q : Nat, s.heap.size ≤ q → A q := fun q h => by rw [← hAe]; exact Or.inr h
  have hS : va_S A s.heap s.heap [] := va_S.rf
  have hl := lv_entry ([.int 0]) (n := 1) (Nat.le_of_ble_eq_true rfl)
  rw [lg_entry_eq]
  generalize (lg_sl ([.int 0]) ++ List.replicate (1 - (lg_sl ([.int 0])).length) Slot.unset).toArray = ls at hl ⊢
  replace hl : lv_has ls 1 [(0, .int 0)] := hl
  refine lv_iload_n hx hb d_Ig_bitCount_0 rfl (lv_at hl 0 rfl) ?_
  refine lv_iload_n hx hb d_Ig_bitCount_1 rfl (lv_at hl 0 rfl) ?_
  refine lv_iconst (v := 1) hx hb d_Ig_bitCount_2 (by decide) ?_
  refine lv_iushr (v := 0) hx hb d_Ig_bitCount_3 (by decide) ?_
  refine lv_ldcw hx hb hown (ht _ wd_2_127) d_Ig_bitCount_4 ?_
  refine lv_iand hx hb d_Ig_bitCount_7 ?_
  refine ci_i (y := 0) (by decide) ?_
  refine lv_isub hx hb d_Ig_bitCount_8 ?_
  refine ci_i (y := 0) (by decide) ?_
  refine lv_istore_n (lv' := [(0, .int 0)]) hx hb d_Ig_bitCount_9 rfl hl (by decide) rfl (fun ls hln => ?_)
  replace hl : lv_has ls 1 [(0, .int 0)] := hln
  clear hln
  refine lv_iload_n hx hb d_Ig_bitCount_10 rfl (lv_at hl 0 rfl) ?_
  refine lv_ldcw hx hb hown (ht _ wd_2_128) d_Ig_bitCount_11 ?_
  refine lv_iand hx hb d_Ig_bitCount_14 ?_
  refine ci_i (y := 0) (by decide) ?_
  refine lv_iload_n hx hb d_Ig_bitCount_15 rfl (lv_at hl 0 rfl) ?_
  refine lv_iconst (v := 2) hx hb d_Ig_bitCount_16 (by decide) ?_
  refine lv_iushr (v := 0) hx hb d_Ig_bitCount_17 (by decide) ?_
  refine lv_ldcw hx hb hown (ht _ wd_2_128) d_Ig_bitCount_18 ?_
  refine lv_iand hx hb d_Ig_bitCount_21 ?_
  refine ci_i (y := 0) (by decide) ?_
  refine lv_iadd hx hb d_Ig_bitCount_22 ?_
  refine ci_i (y := 0) (by decide) ?_
  refine lv_istore_n (lv' := [(0, .int 0)]) hx hb d_Ig_bitCount_23 rfl hl (by decide) rfl (fun ls hln => ?_)
  replace hl : lv_has ls 1 [(0, .int 0)] := hln
  clear hln
  refine lv_iload_n hx hb d_Ig_bitCount_24 rfl (lv_at hl 0 rfl) ?_
  refine lv_iload_n hx hb d_Ig_bitCount_25 rfl (lv_at hl 0 rfl) ?_
  refine lv_iconst (v := 4) hx hb d_Ig_bitCount_26 (by decide) ?_
  refine lv_iushr (v := 0) hx hb d_Ig_bitCount_27 (by decide) ?_
  refine lv_iadd hx hb d_Ig_bitCount_28 ?_
  refine ci_i (y := 0) (by decide) ?_
  refine lv_ldcw hx hb hown (ht _ wd_2_129) d_Ig_bitCount_29 ?_
  refine lv_iand hx hb d_Ig_bitCount_32 ?_
  refine ci_i (y := 0) (by decide) ?_
  refine lv_istore_n (lv' := [(0, .int 0)]) hx hb d_Ig_bitCount_33 rfl hl (by decide) rfl (fun ls hln => ?_)
  replace hl : lv_has ls 1 [(0, .int 0)] := hln
  clear hln
  refine lv_iload_n hx hb d_Ig_bitCount_34 rfl (lv_at hl 0 rfl) ?_
  refine lv_iload_n hx hb d_Ig_bitCount_35 rfl (lv_at hl 0 rfl) ?_
  refine lv_bipush (v := 8) hx hb d_Ig_bitCount_36 (by decide) ?_
  refine lv_iushr (v := 0) hx hb d_Ig_bitCount_38 (by decide) ?_
  refine lv_iadd hx hb d_Ig_bitCount_39 ?_
  refine ci_i (y := 0) (by decide) ?_
  refine lv_istore_n (lv' := [(0, .int 0)]) hx hb d_Ig_bitCount_40 rfl hl (by decide) rfl (fun ls hln => ?_)
  replace hl : lv_has ls 1 [(0, .int 0)] := hln
  clear hln
  refine lv_iload_n hx hb d_Ig_bitCount_41 rfl (lv_at hl 0 rfl) ?_
  refine lv_iload_n hx hb d_Ig_bitCount_42 rfl (lv_at hl 0 rfl) ?_
  refine lv_bipush (v := 16) hx hb d_Ig_bitCount_43 (by decide) ?_
  refine lv_iushr (v := 0) hx hb d_Ig_bitCount_45 (by decide) ?_
  refine lv_iadd hx hb d_Ig_bitCount_46 ?_
  refine ci_i (y := 0) (by decide) ?_
  refine lv_istore_n (lv' := [(0, .int 0)]) hx hb d_Ig_bitCount_47 rfl hl (by decide) rfl (fun ls hln => ?_)
  replace hl : lv_has ls 1 [(0, .int 0)] := hln
  clear hln
  refine lv_iload_n hx hb d_Ig_bitCount_48 rfl (lv_at hl 0 rfl) ?_
  refine lv_bipush (v := 63) hx hb d_Ig_bitCount_49 (by decide) ?_
  refine lv_iand hx hb d_Ig_bitCount_51 ?_
  refine ci_i (y := 0) (by decide) ?_
  have hP9 := hP.sub (ws' := []) [] rfl
  have hD9 := hD.sub (ws' := []) [] (by decide) rfl
  exact W.iret (v := 0) hx hb hr (fun t ht9 hW => ⟨⟨0, (), rfl, rfl, by rw [ht9]; exact hP9, hD9⟩, hS.F ht9⟩) hS.2.2 d_Ig_bitCount_52
end
section
set_option maxHeartbeats 4000000 in
set_option maxRecDepth 100000 in
theorem c_Mo_outside_1_255_lo (l : Launch) (dC : Nat → ClassId) (dI : Nat → Nat → Nat) (cI cL cZ : ClassId) (sz : Nat) (k0 : Int32) (h1 : k0 < 1) : Met l y_Mo_outside (Cond.code y_Mo_outside prog_11_method_4_code 3 (some .boolean) :: wsA) { frames := 0, cells := 0, slots := 0, locals := 0 } (va_Pc [.int k0, .int 1, .int 255] (fun U => U.heap.size = sz ∧ va_P (dC, dI) clA [] U.heap ∧ va_K (dC, dI) clA [(cI, .int), (cL, .long), (cZ, .boolean)] U ∧ va_D (fun _ => True) [] ∧ NwA U)) (va_Qi (fun r (_ : Unit) => r = 1) (fun _ t => va_P (dC, dI) clA [] t.heap ∧ va_D (va_A [] sz) []) (va_A [] sz)) 0 0 (va_A [] sz) := by
  refine Met.ofW (cc := prog_11_method_4_code) (maxL := 3) (ret := (some .boolean)) (by decide) rfl ?_
  intro p e s m args below meth c s₁ B hml hv
  obtain ⟨rfl, hsz, hP, hK, hD0, hN⟩ := hv
  have hx := B.exec
  have hb := B.bytes
  have hr := B.returns
  have ht : ∀ w ∈ wsA, w.before _ s = true := fun w h => atoms_spec (ws := (Cond.code y_Mo_outside prog_11_method_4_code 3 (some .boolean) :: wsA)) B.pre w (List.mem_cons_of_mem _ h)
  have hown : s.vm.findClass "NetUnfolderModel" = some m.cls := findClass_of_methodNamed B.named
  have hlocks := B.notSynchronized
  subst hsz
  have hD := hD0.self (sz := s.heap.size)
  generalize hAe : va_A [] s.heap.size = A at hD ⊢
  have hA : ∀ q : Nat, s.heap.size ≤ q → A q := fun q h => by rw [← hAe]; exact Or.inr h
  have hS : va_S A s.heap s.heap [] := va_S.rf
  have hl := lv_entry ([.int k0, .int 1, .int 255]) (n := 3) (Nat.le_of_ble_eq_true rfl)
  rw [lg_entry_eq]
  generalize (lg_sl ([.int k0, .int 1, .int 255]) ++ List.replicate (3 - (lg_sl ([.int k0, .int 1, .int 255])).length) Slot.unset).toArray = ls at hl ⊢
  replace hl : lv_has ls 3 [(0, .int k0), (1, .int 1), (2, .int 255)] := hl
  refine lv_iload_n hx hb d_Mo_outside_0 rfl (lv_at hl 0 rfl) ?_
  refine lv_iload_n hx hb d_Mo_outside_1 rfl (lv_at hl 1 rfl) ?_
  refine lv_icmp_lt (tgt := 10) hx hb d_Mo_outside_2 (by decide) (fun _ => ?_) (fun h9 => (by exfalso; have eh1 := fa_lt (k := 1) (by decide) h1; have eh9 := fa_nlt (k := 1) (by decide) h9; omega))
  refine lv_iconst (v := 1) hx hb d_Mo_outside_10 (by decide) ?_
  refine lv_goto (tgt := 15) hx hb d_Mo_outside_11 (by decide) ?_
  have hP9 := hP.sub (ws' := []) [] rfl
  have hD9 := hD.sub (ws' := []) [] (by decide) rfl
  exact W.zret (v := 1) hx hb hr rfl (fun t ht9 hW => ⟨⟨1, (), rfl, rfl, by rw [ht9]; exact hP9, hD9⟩, hS.F ht9⟩) hS.2.2 d_Mo_outside_15

set_option maxHeartbeats 4000000 in
set_option maxRecDepth 100000 in
theorem c_Mo_outside_1_255_hi (l : Launch) (dC : Nat → ClassId) (dI : Nat → Nat → Nat) (cI cL cZ : ClassId) (sz : Nat) (k0 : Int32) (h1 : ¬ k0 < 1) (h2 : 255 < k0) : Met l y_Mo_outside (Cond.code y_Mo_outside prog_11_method_4_code 3 (some .boolean) :: wsA) { frames := 0, cells := 0, slots := 0, locals := 0 } (va_Pc [.int k0, .int 1, .int 255] (fun U => U.heap.size = sz ∧ va_P (dC, dI) clA [] U.heap ∧ va_K (dC, dI) clA [(cI, .int), (cL, .long), (cZ, .boolean)] U ∧ va_D (fun _ => True) [] ∧ NwA U)) (va_Qi (fun r (_ : Unit) => r = 1) (fun _ t => va_P (dC, dI) clA [] t.heap ∧ va_D (va_A [] sz) []) (va_A [] sz)) 0 0 (va_A [] sz) := by
  refine Met.ofW (cc := prog_11_method_4_code) (maxL := 3) (ret := (some .boolean)) (by decide) rfl ?_
  intro p e s m args below meth c s₁ B hml hv
  obtain ⟨rfl, hsz, hP, hK, hD0, hN⟩ := hv
  have hx := B.exec
  have hb := B.bytes
  have hr := B.returns
  have ht : ∀ w ∈ wsA, w.before _ s = true := fun w h => atoms_spec (ws := (Cond.code y_Mo_outside prog_11_method_4_code 3 (some .boolean) :: wsA)) B.pre w (List.mem_cons_of_mem _ h)
  have hown : s.vm.findClass "NetUnfolderModel" = some m.cls := findClass_of_methodNamed B.named
  have hlocks := B.notSynchronized
  subst hsz
  have hD := hD0.self (sz := s.heap.size)
  generalize hAe : va_A [] s.heap.size = A at hD ⊢
  have hA : ∀ q : Nat, s.heap.size ≤ q → A q := fun q h => by rw [← hAe]; exact Or.inr h
  have hS : va_S A s.heap s.heap [] := va_S.rf
  have hl := lv_entry ([.int k0, .int 1, .int 255]) (n := 3) (Nat.le_of_ble_eq_true rfl)
  rw [lg_entry_eq]
  generalize (lg_sl ([.int k0, .int 1, .int 255]) ++ List.replicate (3 - (lg_sl ([.int k0, .int 1, .int 255])).length) Slot.unset).toArray = ls at hl ⊢
  replace hl : lv_has ls 3 [(0, .int k0), (1, .int 1), (2, .int 255)] := hl
  refine lv_iload_n hx hb d_Mo_outside_0 rfl (lv_at hl 0 rfl) ?_
  refine lv_iload_n hx hb d_Mo_outside_1 rfl (lv_at hl 1 rfl) ?_
  refine lv_icmp_lt (tgt := 10) hx hb d_Mo_outside_2 (by decide) (fun h9 => (by exfalso; have eh1 := fa_nlt (k := 1) (by decide) h1; have eh2 := fb_lt (k := 255) (by decide) h2; have eh9 := fa_lt (k := 1) (by decide) h9; omega)) (fun _ => ?_)
  refine lv_iload_n hx hb d_Mo_outside_5 rfl (lv_at hl 0 rfl) ?_
  refine lv_iload_n hx hb d_Mo_outside_6 rfl (lv_at hl 2 rfl) ?_
  refine lv_icmp_le (tgt := 14) hx hb d_Mo_outside_7 (by decide) (fun h9 => (by exfalso; have eh1 := fa_nlt (k := 1) (by decide) h1; have eh2 := fb_lt (k := 255) (by decide) h2; have eh9 := fa_le (k := 255) (by decide) h9; omega)) (fun _ => ?_)
  refine lv_iconst (v := 1) hx hb d_Mo_outside_10 (by decide) ?_
  refine lv_goto (tgt := 15) hx hb d_Mo_outside_11 (by decide) ?_
  have hP9 := hP.sub (ws' := []) [] rfl
  have hD9 := hD.sub (ws' := []) [] (by decide) rfl
  exact W.zret (v := 1) hx hb hr rfl (fun t ht9 hW => ⟨⟨1, (), rfl, rfl, by rw [ht9]; exact hP9, hD9⟩, hS.F ht9⟩) hS.2.2 d_Mo_outside_15

set_option maxHeartbeats 4000000 in
set_option maxRecDepth 100000 in
theorem c_Mo_outside_1_255_ok (l : Launch) (dC : Nat → ClassId) (dI : Nat → Nat → Nat) (cI cL cZ : ClassId) (sz : Nat) (k0 : Int32) (h1 : ¬ k0 < 1) (h2 : ¬ 255 < k0) : Met l y_Mo_outside (Cond.code y_Mo_outside prog_11_method_4_code 3 (some .boolean) :: wsA) { frames := 0, cells := 0, slots := 0, locals := 0 } (va_Pc [.int k0, .int 1, .int 255] (fun U => U.heap.size = sz ∧ va_P (dC, dI) clA [] U.heap ∧ va_K (dC, dI) clA [(cI, .int), (cL, .long), (cZ, .boolean)] U ∧ va_D (fun _ => True) [] ∧ NwA U)) (va_Qi (fun r (_ : Unit) => r = 0) (fun _ t => va_P (dC, dI) clA [] t.heap ∧ va_D (va_A [] sz) []) (va_A [] sz)) 0 0 (va_A [] sz) := by
  refine Met.ofW (cc := prog_11_method_4_code) (maxL := 3) (ret := (some .boolean)) (by decide) rfl ?_
  intro p e s m args below meth c s₁ B hml hv
  obtain ⟨rfl, hsz, hP, hK, hD0, hN⟩ := hv
  have hx := B.exec
  have hb := B.bytes
  have hr := B.returns
  have ht : ∀ w ∈ wsA, w.before _ s = true := fun w h => atoms_spec (ws := (Cond.code y_Mo_outside prog_11_method_4_code 3 (some .boolean) :: wsA)) B.pre w (List.mem_cons_of_mem _ h)
  have hown : s.vm.findClass "NetUnfolderModel" = some m.cls := findClass_of_methodNamed B.named
  have hlocks := B.notSynchronized
  subst hsz
  have hD := hD0.self (sz := s.heap.size)
  generalize hAe : va_A [] s.heap.size = A at hD ⊢
  have hA : ∀ q : Nat, s.heap.size ≤ q → A q := fun q h => by rw [← hAe]; exact Or.inr h
  have hS : va_S A s.heap s.heap [] := va_S.rf
  have hl := lv_entry ([.int k0, .int 1, .int 255]) (n := 3) (Nat.le_of_ble_eq_true rfl)
  rw [lg_entry_eq]
  generalize (lg_sl ([.int k0, .int 1, .int 255]) ++ List.replicate (3 - (lg_sl ([.int k0, .int 1, .int 255])).length) Slot.unset).toArray = ls at hl ⊢
  replace hl : lv_has ls 3 [(0, .int k0), (1, .int 1), (2, .int 255)] := hl
  refine lv_iload_n hx hb d_Mo_outside_0 rfl (lv_at hl 0 rfl) ?_
  refine lv_iload_n hx hb d_Mo_outside_1 rfl (lv_at hl 1 rfl) ?_
  refine lv_icmp_lt (tgt := 10) hx hb d_Mo_outside_2 (by decide) (fun h9 => (by exfalso; have eh1 := fa_nlt (k := 1) (by decide) h1; have eh2 := fb_nlt (k := 255) (by decide) h2; have eh9 := fa_lt (k := 1) (by decide) h9; omega)) (fun _ => ?_)
  refine lv_iload_n hx hb d_Mo_outside_5 rfl (lv_at hl 0 rfl) ?_
  refine lv_iload_n hx hb d_Mo_outside_6 rfl (lv_at hl 2 rfl) ?_
  refine lv_icmp_le (tgt := 14) hx hb d_Mo_outside_7 (by decide) (fun _ => ?_) (fun h9 => (by exfalso; have eh1 := fa_nlt (k := 1) (by decide) h1; have eh2 := fb_nlt (k := 255) (by decide) h2; have eh9 := fa_nle (k := 255) (by decide) h9; omega))
  refine lv_iconst (v := 0) hx hb d_Mo_outside_14 (by decide) ?_
  have hP9 := hP.sub (ws' := []) [] rfl
  have hD9 := hD.sub (ws' := []) [] (by decide) rfl
  exact W.zret (v := 0) hx hb hr rfl (fun t ht9 hW => ⟨⟨0, (), rfl, rfl, by rw [ht9]; exact hP9, hD9⟩, hS.F ht9⟩) hS.2.2 d_Mo_outside_15

set_option maxHeartbeats 4000000 in
set_option maxRecDepth 100000 in
theorem c_Mo_outside_0_255_lo (l : Launch) (dC : Nat → ClassId) (dI : Nat → Nat → Nat) (cI cL cZ : ClassId) (sz : Nat) (k0 : Int32) (h1 : k0 < 0) : Met l y_Mo_outside (Cond.code y_Mo_outside prog_11_method_4_code 3 (some .boolean) :: wsA) { frames := 0, cells := 0, slots := 0, locals := 0 } (va_Pc [.int k0, .int 0, .int 255] (fun U => U.heap.size = sz ∧ va_P (dC, dI) clA [] U.heap ∧ va_K (dC, dI) clA [(cI, .int), (cL, .long), (cZ, .boolean)] U ∧ va_D (fun _ => True) [] ∧ NwA U)) (va_Qi (fun r (_ : Unit) => r = 1) (fun _ t => va_P (dC, dI) clA [] t.heap ∧ va_D (va_A [] sz) []) (va_A [] sz)) 0 0 (va_A [] sz) := by
  refine Met.ofW (cc := prog_11_method_4_code) (maxL := 3) (ret := (some .boolean)) (by decide) rfl ?_
  intro p e s m args below meth c s₁ B hml hv
  obtain ⟨rfl, hsz, hP, hK, hD0, hN⟩ := hv
  have hx := B.exec
  have hb := B.bytes
  have hr := B.returns
  have ht : ∀ w ∈ wsA, w.before _ s = true := fun w h => atoms_spec (ws := (Cond.code y_Mo_outside prog_11_method_4_code 3 (some .boolean) :: wsA)) B.pre w (List.mem_cons_of_mem _ h)
  have hown : s.vm.findClass "NetUnfolderModel" = some m.cls := findClass_of_methodNamed B.named
  have hlocks := B.notSynchronized
  subst hsz
  have hD := hD0.self (sz := s.heap.size)
  generalize hAe : va_A [] s.heap.size = A at hD ⊢
  have hA : ∀ q : Nat, s.heap.size ≤ q → A q := fun q h => by rw [← hAe]; exact Or.inr h
  have hS : va_S A s.heap s.heap [] := va_S.rf
  have hl := lv_entry ([.int k0, .int 0, .int 255]) (n := 3) (Nat.le_of_ble_eq_true rfl)
  rw [lg_entry_eq]
  generalize (lg_sl ([.int k0, .int 0, .int 255]) ++ List.replicate (3 - (lg_sl ([.int k0, .int 0, .int 255])).length) Slot.unset).toArray = ls at hl ⊢
  replace hl : lv_has ls 3 [(0, .int k0), (1, .int 0), (2, .int 255)] := hl
  refine lv_iload_n hx hb d_Mo_outside_0 rfl (lv_at hl 0 rfl) ?_
  refine lv_iload_n hx hb d_Mo_outside_1 rfl (lv_at hl 1 rfl) ?_
  refine lv_icmp_lt (tgt := 10) hx hb d_Mo_outside_2 (by decide) (fun _ => ?_) (fun h9 => (by exfalso; have eh1 := fa_lt (k := 0) (by decide) h1; have eh9 := fa_nlt (k := 0) (by decide) h9; omega))
  refine lv_iconst (v := 1) hx hb d_Mo_outside_10 (by decide) ?_
  refine lv_goto (tgt := 15) hx hb d_Mo_outside_11 (by decide) ?_
  have hP9 := hP.sub (ws' := []) [] rfl
  have hD9 := hD.sub (ws' := []) [] (by decide) rfl
  exact W.zret (v := 1) hx hb hr rfl (fun t ht9 hW => ⟨⟨1, (), rfl, rfl, by rw [ht9]; exact hP9, hD9⟩, hS.F ht9⟩) hS.2.2 d_Mo_outside_15

set_option maxHeartbeats 4000000 in
set_option maxRecDepth 100000 in
theorem c_Mo_outside_0_255_hi (l : Launch) (dC : Nat → ClassId) (dI : Nat → Nat → Nat) (cI cL cZ : ClassId) (sz : Nat) (k0 : Int32) (h1 : ¬ k0 < 0) (h2 : 255 < k0) : Met l y_Mo_outside (Cond.code y_Mo_outside prog_11_method_4_code 3 (some .boolean) :: wsA) { frames := 0, cells := 0, slots := 0, locals := 0 } (va_Pc [.int k0, .int 0, .int 255] (fun U => U.heap.size = sz ∧ va_P (dC, dI) clA [] U.heap ∧ va_K (dC, dI) clA [(cI, .int), (cL, .long), (cZ, .boolean)] U ∧ va_D (fun _ => True) [] ∧ NwA U)) (va_Qi (fun r (_ : Unit) => r = 1) (fun _ t => va_P (dC, dI) clA [] t.heap ∧ va_D (va_A [] sz) []) (va_A [] sz)) 0 0 (va_A [] sz) := by
  refine Met.ofW (cc := prog_11_method_4_code) (maxL := 3) (ret := (some .boolean)) (by decide) rfl ?_
  intro p e s m args below meth c s₁ B hml hv
  obtain ⟨rfl, hsz, hP, hK, hD0, hN⟩ := hv
  have hx := B.exec
  have hb := B.bytes
  have hr := B.returns
  have ht : ∀ w ∈ wsA, w.before _ s = true := fun w h => atoms_spec (ws := (Cond.code y_Mo_outside prog_11_method_4_code 3 (some .boolean) :: wsA)) B.pre w (List.mem_cons_of_mem _ h)
  have hown : s.vm.findClass "NetUnfolderModel" = some m.cls := findClass_of_methodNamed B.named
  have hlocks := B.notSynchronized
  subst hsz
  have hD := hD0.self (sz := s.heap.size)
  generalize hAe : va_A [] s.heap.size = A at hD ⊢
  have hA : ∀ q : Nat, s.heap.size ≤ q → A q := fun q h => by rw [← hAe]; exact Or.inr h
  have hS : va_S A s.heap s.heap [] := va_S.rf
  have hl := lv_entry ([.int k0, .int 0, .int 255]) (n := 3) (Nat.le_of_ble_eq_true rfl)
  rw [lg_entry_eq]
  generalize (lg_sl ([.int k0, .int 0, .int 255]) ++ List.replicate (3 - (lg_sl ([.int k0, .int 0, .int 255])).length) Slot.unset).toArray = ls at hl ⊢
  replace hl : lv_has ls 3 [(0, .int k0), (1, .int 0), (2, .int 255)] := hl
  refine lv_iload_n hx hb d_Mo_outside_0 rfl (lv_at hl 0 rfl) ?_
  refine lv_iload_n hx hb d_Mo_outside_1 rfl (lv_at hl 1 rfl) ?_
  refine lv_icmp_lt (tgt := 10) hx hb d_Mo_outside_2 (by decide) (fun h9 => (by exfalso; have eh1 := fa_nlt (k := 0) (by decide) h1; have eh2 := fb_lt (k := 255) (by decide) h2; have eh9 := fa_lt (k := 0) (by decide) h9; omega)) (fun _ => ?_)
  refine lv_iload_n hx hb d_Mo_outside_5 rfl (lv_at hl 0 rfl) ?_
  refine lv_iload_n hx hb d_Mo_outside_6 rfl (lv_at hl 2 rfl) ?_
  refine lv_icmp_le (tgt := 14) hx hb d_Mo_outside_7 (by decide) (fun h9 => (by exfalso; have eh1 := fa_nlt (k := 0) (by decide) h1; have eh2 := fb_lt (k := 255) (by decide) h2; have eh9 := fa_le (k := 255) (by decide) h9; omega)) (fun _ => ?_)
  refine lv_iconst (v := 1) hx hb d_Mo_outside_10 (by decide) ?_
  refine lv_goto (tgt := 15) hx hb d_Mo_outside_11 (by decide) ?_
  have hP9 := hP.sub (ws' := []) [] rfl
  have hD9 := hD.sub (ws' := []) [] (by decide) rfl
  exact W.zret (v := 1) hx hb hr rfl (fun t ht9 hW => ⟨⟨1, (), rfl, rfl, by rw [ht9]; exact hP9, hD9⟩, hS.F ht9⟩) hS.2.2 d_Mo_outside_15

set_option maxHeartbeats 4000000 in
set_option maxRecDepth 100000 in
theorem c_Mo_outside_0_255_ok (l : Launch) (dC : Nat → ClassId) (dI : Nat → Nat → Nat) (cI cL cZ : ClassId) (sz : Nat) (k0 : Int32) (h1 : ¬ k0 < 0) (h2 : ¬ 255 < k0) : Met l y_Mo_outside (Cond.code y_Mo_outside prog_11_method_4_code 3 (some .boolean) :: wsA) { frames := 0, cells := 0, slots := 0, locals := 0 } (va_Pc [.int k0, .int 0, .int 255] (fun U => U.heap.size = sz ∧ va_P (dC, dI) clA [] U.heap ∧ va_K (dC, dI) clA [(cI, .int), (cL, .long), (cZ, .boolean)] U ∧ va_D (fun _ => True) [] ∧ NwA U)) (va_Qi (fun r (_ : Unit) => r = 0) (fun _ t => va_P (dC, dI) clA [] t.heap ∧ va_D (va_A [] sz) []) (va_A [] sz)) 0 0 (va_A [] sz) := by
  refine Met.ofW (cc := prog_11_method_4_code) (maxL := 3) (ret := (some .boolean)) (by decide) rfl ?_
  intro p e s m args below meth c s₁ B hml hv
  obtain ⟨rfl, hsz, hP, hK, hD0, hN⟩ := hv
  have hx := B.exec
  have hb := B.bytes
  have hr := B.returns
  have ht : ∀ w ∈ wsA, w.before _ s = true := fun w h => atoms_spec (ws := (Cond.code y_Mo_outside prog_11_method_4_code 3 (some .boolean) :: wsA)) B.pre w (List.mem_cons_of_mem _ h)
  have hown : s.vm.findClass "NetUnfolderModel" = some m.cls := findClass_of_methodNamed B.named
  have hlocks := B.notSynchronized
  subst hsz
  have hD := hD0.self (sz := s.heap.size)
  generalize hAe : va_A [] s.heap.size = A at hD ⊢
  have hA : ∀ q : Nat, s.heap.size ≤ q → A q := fun q h => by rw [← hAe]; exact Or.inr h
  have hS : va_S A s.heap s.heap [] := va_S.rf
  have hl := lv_entry ([.int k0, .int 0, .int 255]) (n := 3) (Nat.le_of_ble_eq_true rfl)
  rw [lg_entry_eq]
  generalize (lg_sl ([.int k0, .int 0, .int 255]) ++ List.replicate (3 - (lg_sl ([.int k0, .int 0, .int 255])).length) Slot.unset).toArray = ls at hl ⊢
  replace hl : lv_has ls 3 [(0, .int k0), (1, .int 0), (2, .int 255)] := hl
  refine lv_iload_n hx hb d_Mo_outside_0 rfl (lv_at hl 0 rfl) ?_
  refine lv_iload_n hx hb d_Mo_outside_1 rfl (lv_at hl 1 rfl) ?_
  refine lv_icmp_lt (tgt := 10) hx hb d_Mo_outside_2 (by decide) (fun h9 => (by exfalso; have eh1 := fa_nlt (k := 0) (by decide) h1; have eh2 := fb_nlt (k := 255) (by decide) h2; have eh9 := fa_lt (k := 0) (by decide) h9; omega)) (fun _ => ?_)
  refine lv_iload_n hx hb d_Mo_outside_5 rfl (lv_at hl 0 rfl) ?_
  refine lv_iload_n hx hb d_Mo_outside_6 rfl (lv_at hl 2 rfl) ?_
  refine lv_icmp_le (tgt := 14) hx hb d_Mo_outside_7 (by decide) (fun _ => ?_) (fun h9 => (by exfalso; have eh1 := fa_nlt (k := 0) (by decide) h1; have eh2 := fb_nlt (k := 255) (by decide) h2; have eh9 := fa_nle (k := 255) (by decide) h9; omega))
  refine lv_iconst (v := 0) hx hb d_Mo_outside_14 (by decide) ?_
  have hP9 := hP.sub (ws' := []) [] rfl
  have hD9 := hD.sub (ws' := []) [] (by decide) rfl
  exact W.zret (v := 0) hx hb hr rfl (fun t ht9 hW => ⟨⟨0, (), rfl, rfl, by rw [ht9]; exact hP9, hD9⟩, hS.F ht9⟩) hS.2.2 d_Mo_outside_15

set_option maxHeartbeats 4000000 in
set_option maxRecDepth 100000 in
theorem c_Mo_outside_0_m2_lo (l : Launch) (dC : Nat → ClassId) (dI : Nat → Nat → Nat) (cI cL cZ : ClassId) (sz : Nat) (k0 : Int32) (h1 : k0 < 0) : Met l y_Mo_outside (Cond.code y_Mo_outside prog_11_method_4_code 3 (some .boolean) :: wsA) { frames := 0, cells := 0, slots := 0, locals := 0 } (va_Pc [.int k0, .int 0, .int (-2)] (fun U => U.heap.size = sz ∧ va_P (dC, dI) clA [] U.heap ∧ va_K (dC, dI) clA [(cI, .int), (cL, .long), (cZ, .boolean)] U ∧ va_D (fun _ => True) [] ∧ NwA U)) (va_Qi (fun r (_ : Unit) => r = 1) (fun _ t => va_P (dC, dI) clA [] t.heap ∧ va_D (va_A [] sz) []) (va_A [] sz)) 0 0 (va_A [] sz) := by
  refine Met.ofW (cc := prog_11_method_4_code) (maxL := 3) (ret := (some .boolean)) (by decide) rfl ?_
  intro p e s m args below meth c s₁ B hml hv
  obtain ⟨rfl, hsz, hP, hK, hD0, hN⟩ := hv
  have hx := B.exec
  have hb := B.bytes
  have hr := B.returns
  have ht : ∀ w ∈ wsA, w.before _ s = true := fun w h => atoms_spec (ws := (Cond.code y_Mo_outside prog_11_method_4_code 3 (some .boolean) :: wsA)) B.pre w (List.mem_cons_of_mem _ h)
  have hown : s.vm.findClass "NetUnfolderModel" = some m.cls := findClass_of_methodNamed B.named
  have hlocks := B.notSynchronized
  subst hsz
  have hD := hD0.self (sz := s.heap.size)
  generalize hAe : va_A [] s.heap.size = A at hD ⊢
  have hA : ∀ q : Nat, s.heap.size ≤ q → A q := fun q h => by rw [← hAe]; exact Or.inr h
  have hS : va_S A s.heap s.heap [] := va_S.rf
  have hl := lv_entry ([.int k0, .int 0, .int (-2)]) (n := 3) (Nat.le_of_ble_eq_true rfl)
  rw [lg_entry_eq]
  generalize (lg_sl ([.int k0, .int 0, .int (-2)]) ++ List.replicate (3 - (lg_sl ([.int k0, .int 0, .int (-2)])).length) Slot.unset).toArray = ls at hl ⊢
  replace hl : lv_has ls 3 [(0, .int k0), (1, .int 0), (2, .int (-2))] := hl
  refine lv_iload_n hx hb d_Mo_outside_0 rfl (lv_at hl 0 rfl) ?_
  refine lv_iload_n hx hb d_Mo_outside_1 rfl (lv_at hl 1 rfl) ?_
  refine lv_icmp_lt (tgt := 10) hx hb d_Mo_outside_2 (by decide) (fun _ => ?_) (fun h9 => (by exfalso; have eh1 := fa_lt (k := 0) (by decide) h1; have eh9 := fa_nlt (k := 0) (by decide) h9; omega))
  refine lv_iconst (v := 1) hx hb d_Mo_outside_10 (by decide) ?_
  refine lv_goto (tgt := 15) hx hb d_Mo_outside_11 (by decide) ?_
  have hP9 := hP.sub (ws' := []) [] rfl
  have hD9 := hD.sub (ws' := []) [] (by decide) rfl
  exact W.zret (v := 1) hx hb hr rfl (fun t ht9 hW => ⟨⟨1, (), rfl, rfl, by rw [ht9]; exact hP9, hD9⟩, hS.F ht9⟩) hS.2.2 d_Mo_outside_15

set_option maxHeartbeats 4000000 in
set_option maxRecDepth 100000 in
theorem c_Mo_outside_0_m2_hi (l : Launch) (dC : Nat → ClassId) (dI : Nat → Nat → Nat) (cI cL cZ : ClassId) (sz : Nat) (k0 : Int32) (h1 : ¬ k0 < 0) (h2 : (-2) < k0) : Met l y_Mo_outside (Cond.code y_Mo_outside prog_11_method_4_code 3 (some .boolean) :: wsA) { frames := 0, cells := 0, slots := 0, locals := 0 } (va_Pc [.int k0, .int 0, .int (-2)] (fun U => U.heap.size = sz ∧ va_P (dC, dI) clA [] U.heap ∧ va_K (dC, dI) clA [(cI, .int), (cL, .long), (cZ, .boolean)] U ∧ va_D (fun _ => True) [] ∧ NwA U)) (va_Qi (fun r (_ : Unit) => r = 1) (fun _ t => va_P (dC, dI) clA [] t.heap ∧ va_D (va_A [] sz) []) (va_A [] sz)) 0 0 (va_A [] sz) := by
  refine Met.ofW (cc := prog_11_method_4_code) (maxL := 3) (ret := (some .boolean)) (by decide) rfl ?_
  intro p e s m args below meth c s₁ B hml hv
  obtain ⟨rfl, hsz, hP, hK, hD0, hN⟩ := hv
  have hx := B.exec
  have hb := B.bytes
  have hr := B.returns
  have ht : ∀ w ∈ wsA, w.before _ s = true := fun w h => atoms_spec (ws := (Cond.code y_Mo_outside prog_11_method_4_code 3 (some .boolean) :: wsA)) B.pre w (List.mem_cons_of_mem _ h)
  have hown : s.vm.findClass "NetUnfolderModel" = some m.cls := findClass_of_methodNamed B.named
  have hlocks := B.notSynchronized
  subst hsz
  have hD := hD0.self (sz := s.heap.size)
  generalize hAe : va_A [] s.heap.size = A at hD ⊢
  have hA : ∀ q : Nat, s.heap.size ≤ q → A q := fun q h => by rw [← hAe]; exact Or.inr h
  have hS : va_S A s.heap s.heap [] := va_S.rf
  have hl := lv_entry ([.int k0, .int 0, .int (-2)]) (n := 3) (Nat.le_of_ble_eq_true rfl)
  rw [lg_entry_eq]
  generalize (lg_sl ([.int k0, .int 0, .int (-2)]) ++ List.replicate (3 - (lg_sl ([.int k0, .int 0, .int (-2)])).length) Slot.unset).toArray = ls at hl ⊢
  replace hl : lv_has ls 3 [(0, .int k0), (1, .int 0), (2, .int (-2))] := hl
  refine lv_iload_n hx hb d_Mo_outside_0 rfl (lv_at hl 0 rfl) ?_
  refine lv_iload_n hx hb d_Mo_outside_1 rfl (lv_at hl 1 rfl) ?_
  refine lv_icmp_lt (tgt := 10) hx hb d_Mo_outside_2 (by decide) (fun h9 => (by exfalso; have eh1 := fa_nlt (k := 0) (by decide) h1; have eh2 := fb_lt (k := -2) (by decide) h2; have eh9 := fa_lt (k := 0) (by decide) h9; omega)) (fun _ => ?_)
  refine lv_iload_n hx hb d_Mo_outside_5 rfl (lv_at hl 0 rfl) ?_
  refine lv_iload_n hx hb d_Mo_outside_6 rfl (lv_at hl 2 rfl) ?_
  refine lv_icmp_le (tgt := 14) hx hb d_Mo_outside_7 (by decide) (fun h9 => (by exfalso; have eh1 := fa_nlt (k := 0) (by decide) h1; have eh2 := fb_lt (k := -2) (by decide) h2; have eh9 := fa_le (k := -2) (by decide) h9; omega)) (fun _ => ?_)
  refine lv_iconst (v := 1) hx hb d_Mo_outside_10 (by decide) ?_
  refine lv_goto (tgt := 15) hx hb d_Mo_outside_11 (by decide) ?_
  have hP9 := hP.sub (ws' := []) [] rfl
  have hD9 := hD.sub (ws' := []) [] (by decide) rfl
  exact W.zret (v := 1) hx hb hr rfl (fun t ht9 hW => ⟨⟨1, (), rfl, rfl, by rw [ht9]; exact hP9, hD9⟩, hS.F ht9⟩) hS.2.2 d_Mo_outside_15

set_option maxHeartbeats 4000000 in
set_option maxRecDepth 100000 in
theorem c_Mo_outside_0_m1_lo (l : Launch) (dC : Nat → ClassId) (dI : Nat → Nat → Nat) (cI cL cZ : ClassId) (sz : Nat) (k0 : Int32) (h1 : k0 < 0) : Met l y_Mo_outside (Cond.code y_Mo_outside prog_11_method_4_code 3 (some .boolean) :: wsA) { frames := 0, cells := 0, slots := 0, locals := 0 } (va_Pc [.int k0, .int 0, .int (-1)] (fun U => U.heap.size = sz ∧ va_P (dC, dI) clA [] U.heap ∧ va_K (dC, dI) clA [(cI, .int), (cL, .long), (cZ, .boolean)] U ∧ va_D (fun _ => True) [] ∧ NwA U)) (va_Qi (fun r (_ : Unit) => r = 1) (fun _ t => va_P (dC, dI) clA [] t.heap ∧ va_D (va_A [] sz) []) (va_A [] sz)) 0 0 (va_A [] sz) := by
  refine Met.ofW (cc := prog_11_method_4_code) (maxL := 3) (ret := (some .boolean)) (by decide) rfl ?_
  intro p e s m args below meth c s₁ B hml hv
  obtain ⟨rfl, hsz, hP, hK, hD0, hN⟩ := hv
  have hx := B.exec
  have hb := B.bytes
  have hr := B.returns
  have ht : ∀ w ∈ wsA, w.before _ s = true := fun w h => atoms_spec (ws := (Cond.code y_Mo_outside prog_11_method_4_code 3 (some .boolean) :: wsA)) B.pre w (List.mem_cons_of_mem _ h)
  have hown : s.vm.findClass "NetUnfolderModel" = some m.cls := findClass_of_methodNamed B.named
  have hlocks := B.notSynchronized
  subst hsz
  have hD := hD0.self (sz := s.heap.size)
  generalize hAe : va_A [] s.heap.size = A at hD ⊢
  have hA : ∀ q : Nat, s.heap.size ≤ q → A q := fun q h => by rw [← hAe]; exact Or.inr h
  have hS : va_S A s.heap s.heap [] := va_S.rf
  have hl := lv_entry ([.int k0, .int 0, .int (-1)]) (n := 3) (Nat.le_of_ble_eq_true rfl)
  rw [lg_entry_eq]
  generalize (lg_sl ([.int k0, .int 0, .int (-1)]) ++ List.replicate (3 - (lg_sl ([.int k0, .int 0, .int (-1)])).length) Slot.unset).toArray = ls at hl ⊢
  replace hl : lv_has ls 3 [(0, .int k0), (1, .int 0), (2, .int (-1))] := hl
  refine lv_iload_n hx hb d_Mo_outside_0 rfl (lv_at hl 0 rfl) ?_
  refine lv_iload_n hx hb d_Mo_outside_1 rfl (lv_at hl 1 rfl) ?_
  refine lv_icmp_lt (tgt := 10) hx hb d_Mo_outside_2 (by decide) (fun _ => ?_) (fun h9 => (by exfalso; have eh1 := fa_lt (k := 0) (by decide) h1; have eh9 := fa_nlt (k := 0) (by decide) h9; omega))
  refine lv_iconst (v := 1) hx hb d_Mo_outside_10 (by decide) ?_
  refine lv_goto (tgt := 15) hx hb d_Mo_outside_11 (by decide) ?_
  have hP9 := hP.sub (ws' := []) [] rfl
  have hD9 := hD.sub (ws' := []) [] (by decide) rfl
  exact W.zret (v := 1) hx hb hr rfl (fun t ht9 hW => ⟨⟨1, (), rfl, rfl, by rw [ht9]; exact hP9, hD9⟩, hS.F ht9⟩) hS.2.2 d_Mo_outside_15

set_option maxHeartbeats 4000000 in
set_option maxRecDepth 100000 in
theorem c_Mo_outside_0_m1_hi (l : Launch) (dC : Nat → ClassId) (dI : Nat → Nat → Nat) (cI cL cZ : ClassId) (sz : Nat) (k0 : Int32) (h1 : ¬ k0 < 0) (h2 : (-1) < k0) : Met l y_Mo_outside (Cond.code y_Mo_outside prog_11_method_4_code 3 (some .boolean) :: wsA) { frames := 0, cells := 0, slots := 0, locals := 0 } (va_Pc [.int k0, .int 0, .int (-1)] (fun U => U.heap.size = sz ∧ va_P (dC, dI) clA [] U.heap ∧ va_K (dC, dI) clA [(cI, .int), (cL, .long), (cZ, .boolean)] U ∧ va_D (fun _ => True) [] ∧ NwA U)) (va_Qi (fun r (_ : Unit) => r = 1) (fun _ t => va_P (dC, dI) clA [] t.heap ∧ va_D (va_A [] sz) []) (va_A [] sz)) 0 0 (va_A [] sz) := by
  refine Met.ofW (cc := prog_11_method_4_code) (maxL := 3) (ret := (some .boolean)) (by decide) rfl ?_
  intro p e s m args below meth c s₁ B hml hv
  obtain ⟨rfl, hsz, hP, hK, hD0, hN⟩ := hv
  have hx := B.exec
  have hb := B.bytes
  have hr := B.returns
  have ht : ∀ w ∈ wsA, w.before _ s = true := fun w h => atoms_spec (ws := (Cond.code y_Mo_outside prog_11_method_4_code 3 (some .boolean) :: wsA)) B.pre w (List.mem_cons_of_mem _ h)
  have hown : s.vm.findClass "NetUnfolderModel" = some m.cls := findClass_of_methodNamed B.named
  have hlocks := B.notSynchronized
  subst hsz
  have hD := hD0.self (sz := s.heap.size)
  generalize hAe : va_A [] s.heap.size = A at hD ⊢
  have hA : ∀ q : Nat, s.heap.size ≤ q → A q := fun q h => by rw [← hAe]; exact Or.inr h
  have hS : va_S A s.heap s.heap [] := va_S.rf
  have hl := lv_entry ([.int k0, .int 0, .int (-1)]) (n := 3) (Nat.le_of_ble_eq_true rfl)
  rw [lg_entry_eq]
  generalize (lg_sl ([.int k0, .int 0, .int (-1)]) ++ List.replicate (3 - (lg_sl ([.int k0, .int 0, .int (-1)])).length) Slot.unset).toArray = ls at hl ⊢
  replace hl : lv_has ls 3 [(0, .int k0), (1, .int 0), (2, .int (-1))] := hl
  refine lv_iload_n hx hb d_Mo_outside_0 rfl (lv_at hl 0 rfl) ?_
  refine lv_iload_n hx hb d_Mo_outside_1 rfl (lv_at hl 1 rfl) ?_
  refine lv_icmp_lt (tgt := 10) hx hb d_Mo_outside_2 (by decide) (fun h9 => (by exfalso; have eh1 := fa_nlt (k := 0) (by decide) h1; have eh2 := fb_lt (k := -1) (by decide) h2; have eh9 := fa_lt (k := 0) (by decide) h9; omega)) (fun _ => ?_)
  refine lv_iload_n hx hb d_Mo_outside_5 rfl (lv_at hl 0 rfl) ?_
  refine lv_iload_n hx hb d_Mo_outside_6 rfl (lv_at hl 2 rfl) ?_
  refine lv_icmp_le (tgt := 14) hx hb d_Mo_outside_7 (by decide) (fun h9 => (by exfalso; have eh1 := fa_nlt (k := 0) (by decide) h1; have eh2 := fb_lt (k := -1) (by decide) h2; have eh9 := fa_le (k := -1) (by decide) h9; omega)) (fun _ => ?_)
  refine lv_iconst (v := 1) hx hb d_Mo_outside_10 (by decide) ?_
  refine lv_goto (tgt := 15) hx hb d_Mo_outside_11 (by decide) ?_
  have hP9 := hP.sub (ws' := []) [] rfl
  have hD9 := hD.sub (ws' := []) [] (by decide) rfl
  exact W.zret (v := 1) hx hb hr rfl (fun t ht9 hW => ⟨⟨1, (), rfl, rfl, by rw [ht9]; exact hP9, hD9⟩, hS.F ht9⟩) hS.2.2 d_Mo_outside_15
end
section
set_option maxHeartbeats 4000000 in
set_option maxRecDepth 100000 in
theorem c_Ar_fill_8 (l : Launch) (dC : Nat → ClassId) (dI : Nat → Nat → Nat) (cI cL cZ : ClassId) (sz : Nat) (h0 : Nat) : Met l y_Ar_fill (Cond.code y_Ar_fill prog_19_method_101_code 5 none :: wsA) { frames := 0, cells := 0, slots := 0, locals := 0 } (va_Pc [.ref h0, .long 0] (fun U => U.heap.size = sz ∧ va_P (dC, dI) clA [(h0, .inl (cL, 8, .inr (.inl (fun _ => 0))))] U.heap ∧ va_K (dC, dI) clA [(cI, .int), (cL, .long), (cZ, .boolean)] U ∧ va_D (fun _ => True) [(h0, .inl (cL, 8, .inr (.inl (fun _ => 0))))] ∧ NwA U)) (va_Qv (fun _ : Unit => True) (fun _ t => va_P (dC, dI) clA [(h0, .inl (cL, 8, .inr (.inl (fun _ => 0))))] t.heap ∧ va_D (va_A [(h0, .inl (cL, 8, .inr (.inl (fun _ => 0))))] sz) [(h0, .inl (cL, 8, .inr (.inl (fun _ => 0))))]) (va_A [(h0, .inl (cL, 8, .inr (.inl (fun _ => 0))))] sz)) 0 0 (va_A [(h0, .inl (cL, 8, .inr (.inl (fun _ => 0))))] sz) := by
  refine Met.ofW (cc := prog_19_method_101_code) (maxL := 5) (ret := none) (by decide) rfl ?_
  intro p e s m args below meth c s₁ B hml hv
  obtain ⟨rfl, hsz, hP, hK, hD0, hN⟩ := hv
  have hx := B.exec
  have hb := B.bytes
  have hr := B.returns
  have ht : ∀ w ∈ wsA, w.before _ s = true := fun w h => atoms_spec (ws := (Cond.code y_Ar_fill prog_19_method_101_code 5 none :: wsA)) B.pre w (List.mem_cons_of_mem _ h)
  have hown : s.vm.findClass "java/util/Arrays" = some m.cls := findClass_of_methodNamed B.named
  have hlocks := B.notSynchronized
  subst hsz
  have hD := hD0.self (sz := s.heap.size)
  generalize hAe : va_A [(h0, .inl (cL, 8, .inr (.inl (fun _ => 0))))] s.heap.size = A at hD ⊢
  have hA : ∀ q : Nat, s.heap.size ≤ q → A q := fun q h => by rw [← hAe]; exact Or.inr h
  have hS : va_S A s.heap s.heap [] := va_S.rf
  have hl := lv_entry ([.ref h0, .long 0]) (n := 5) (Nat.le_of_ble_eq_true rfl)
  rw [lg_entry_eq]
  generalize (lg_sl ([.ref h0, .long 0]) ++ List.replicate (5 - (lg_sl ([.ref h0, .long 0])).length) Slot.unset).toArray = ls at hl ⊢
  replace hl : lv_has ls 5 [(0, .ref h0), (1, .long 0)] := hl
  refine lv_iconst (v := 0) hx hb d_Ar_fill_0 (by decide) ?_
  refine lv_istore_n (lv' := [(3, .int 0), (0, .ref h0), (1, .long 0)]) hx hb d_Ar_fill_1 rfl hl (by decide) rfl (fun ls hln => ?_)
  replace hl : lv_has ls 5 [(3, .int 0), (0, .ref h0), (1, .long 0)] := hln
  clear hln
  refine lv_aload_n hx hb d_Ar_fill_2 rfl (lv_at hl 1 rfl) ?_
  refine va_alen hx hb hK hP 0 1 rfl rfl (v := 8) (by decide) d_Ar_fill_3 ?_
  refine lv_istore (lv' := [(4, .int 8), (3, .int 0), (0, .ref h0), (1, .long 0)]) hx hb d_Ar_fill_4 hl (by decide) rfl (fun ls hln => ?_)
  replace hl : lv_has ls 5 [(4, .int 8), (3, .int 0), (0, .ref h0), (1, .long 0)] := hln
  clear hln
  refine lv_iload_n hx hb d_Ar_fill_6 rfl (lv_at hl 1 rfl) ?_
  refine lv_iload hx hb d_Ar_fill_7 (lv_at hl 0 rfl) ?_
  refine lv_icmp_ge (tgt := 22) hx hb d_Ar_fill_9 (by decide) (fun h => absurd h (by decide)) (fun _ => ?_)
  refine lv_aload_n hx hb d_Ar_fill_12 rfl (lv_at hl 2 rfl) ?_
  refine lv_iload_n hx hb d_Ar_fill_13 rfl (lv_at hl 1 rfl) ?_
  refine lv_lload_n hx hb d_Ar_fill_14 rfl (lv_at hl 3 rfl) ?_
  refine va_last hx hb hK hP hD hS 0 1 rfl rfl (by unfold vp_in; decide) d_Ar_fill_15 (fun H1 locs hPn hDn hSn => ?_)
  rw [up_L0] at hPn hDn
  replace hP : va_P (dC, dI) clA [(h0, .inl (cL, 8, .inr (.inl (fun _ => 0))))] H1 := hPn
  replace hD : va_D A [(h0, .inl (cL, 8, .inr (.inl (fun _ => 0))))] := hDn
  replace hS := hSn
  clear hPn hDn hSn
  refine lv_iinc (k := 1) (v := 1) (lv' := [(3, .int 1), (4, .int 8), (0, .ref h0), (1, .long 0)]) hx hb d_Ar_fill_16 hl rfl (by decide) (by decide) rfl (fun ls hln => ?_)
  replace hl : lv_has ls 5 [(3, .int 1), (4, .int 8), (0, .ref h0), (1, .long 0)] := hln
  clear hln
  refine lv_goto (tgt := 6) hx hb d_Ar_fill_19 (by decide) ?_
  refine lv_iload_n hx hb d_Ar_fill_6 rfl (lv_at hl 0 rfl) ?_
  refine lv_iload hx hb d_Ar_fill_7 (lv_at hl 1 rfl) ?_
  refine lv_icmp_ge (tgt := 22) hx hb d_Ar_fill_9 (by decide) (fun h => absurd h (by decide)) (fun _ => ?_)
  refine lv_aload_n hx hb d_Ar_fill_12 rfl (lv_at hl 2 rfl) ?_
  refine lv_iload_n hx hb d_Ar_fill_13 rfl (lv_at hl 0 rfl) ?_
  refine lv_lload_n hx hb d_Ar_fill_14 rfl (lv_at hl 3 rfl) ?_
  refine va_last hx hb hK hP hD hS 0 1 rfl rfl (by unfold vp_in; decide) d_Ar_fill_15 (fun H2 locs hPn hDn hSn => ?_)
  rw [up_L0] at hPn hDn
  replace hP : va_P (dC, dI) clA [(h0, .inl (cL, 8, .inr (.inl (fun _ => 0))))] H2 := hPn
  replace hD : va_D A [(h0, .inl (cL, 8, .inr (.inl (fun _ => 0))))] := hDn
  replace hS := hSn
  clear hPn hDn hSn
  refine lv_iinc (k := 0) (v := 2) (lv' := [(3, .int 2), (4, .int 8), (0, .ref h0), (1, .long 0)]) hx hb d_Ar_fill_16 hl rfl (by decide) (by decide) rfl (fun ls hln => ?_)
  replace hl : lv_has ls 5 [(3, .int 2), (4, .int 8), (0, .ref h0), (1, .long 0)] := hln
  clear hln
  refine lv_goto (tgt := 6) hx hb d_Ar_fill_19 (by decide) ?_
  refine lv_iload_n hx hb d_Ar_fill_6 rfl (lv_at hl 0 rfl) ?_
  refine lv_iload hx hb d_Ar_fill_7 (lv_at hl 1 rfl) ?_
  refine lv_icmp_ge (tgt := 22) hx hb d_Ar_fill_9 (by decide) (fun h => absurd h (by decide)) (fun _ => ?_)
  refine lv_aload_n hx hb d_Ar_fill_12 rfl (lv_at hl 2 rfl) ?_
  refine lv_iload_n hx hb d_Ar_fill_13 rfl (lv_at hl 0 rfl) ?_
  refine lv_lload_n hx hb d_Ar_fill_14 rfl (lv_at hl 3 rfl) ?_
  refine va_last hx hb hK hP hD hS 0 1 rfl rfl (by unfold vp_in; decide) d_Ar_fill_15 (fun H3 locs hPn hDn hSn => ?_)
  rw [up_L0] at hPn hDn
  replace hP : va_P (dC, dI) clA [(h0, .inl (cL, 8, .inr (.inl (fun _ => 0))))] H3 := hPn
  replace hD : va_D A [(h0, .inl (cL, 8, .inr (.inl (fun _ => 0))))] := hDn
  replace hS := hSn
  clear hPn hDn hSn
  refine lv_iinc (k := 0) (v := 3) (lv' := [(3, .int 3), (4, .int 8), (0, .ref h0), (1, .long 0)]) hx hb d_Ar_fill_16 hl rfl (by decide) (by decide) rfl (fun ls hln => ?_)
  replace hl : lv_has ls 5 [(3, .int 3), (4, .int 8), (0, .ref h0), (1, .long 0)] := hln
  clear hln
  refine lv_goto (tgt := 6) hx hb d_Ar_fill_19 (by decide) ?_
  refine lv_iload_n hx hb d_Ar_fill_6 rfl (lv_at hl 0 rfl) ?_
  refine lv_iload hx hb d_Ar_fill_7 (lv_at hl 1 rfl) ?_
  refine lv_icmp_ge (tgt := 22) hx hb d_Ar_fill_9 (by decide) (fun h => absurd h (by decide)) (fun _ => ?_)
  refine lv_aload_n hx hb d_Ar_fill_12 rfl (lv_at hl 2 rfl) ?_
  refine lv_iload_n hx hb d_Ar_fill_13 rfl (lv_at hl 0 rfl) ?_
  refine lv_lload_n hx hb d_Ar_fill_14 rfl (lv_at hl 3 rfl) ?_
  refine va_last hx hb hK hP hD hS 0 1 rfl rfl (by unfold vp_in; decide) d_Ar_fill_15 (fun H4 locs hPn hDn hSn => ?_)
  rw [up_L0] at hPn hDn
  replace hP : va_P (dC, dI) clA [(h0, .inl (cL, 8, .inr (.inl (fun _ => 0))))] H4 := hPn
  replace hD : va_D A [(h0, .inl (cL, 8, .inr (.inl (fun _ => 0))))] := hDn
  replace hS := hSn
  clear hPn hDn hSn
  refine lv_iinc (k := 0) (v := 4) (lv' := [(3, .int 4), (4, .int 8), (0, .ref h0), (1, .long 0)]) hx hb d_Ar_fill_16 hl rfl (by decide) (by decide) rfl (fun ls hln => ?_)
  replace hl : lv_has ls 5 [(3, .int 4), (4, .int 8), (0, .ref h0), (1, .long 0)] := hln
  clear hln
  refine lv_goto (tgt := 6) hx hb d_Ar_fill_19 (by decide) ?_
  refine lv_iload_n hx hb d_Ar_fill_6 rfl (lv_at hl 0 rfl) ?_
  refine lv_iload hx hb d_Ar_fill_7 (lv_at hl 1 rfl) ?_
  refine lv_icmp_ge (tgt := 22) hx hb d_Ar_fill_9 (by decide) (fun h => absurd h (by decide)) (fun _ => ?_)
  refine lv_aload_n hx hb d_Ar_fill_12 rfl (lv_at hl 2 rfl) ?_
  refine lv_iload_n hx hb d_Ar_fill_13 rfl (lv_at hl 0 rfl) ?_
  refine lv_lload_n hx hb d_Ar_fill_14 rfl (lv_at hl 3 rfl) ?_
  refine va_last hx hb hK hP hD hS 0 1 rfl rfl (by unfold vp_in; decide) d_Ar_fill_15 (fun H5 locs hPn hDn hSn => ?_)
  rw [up_L0] at hPn hDn
  replace hP : va_P (dC, dI) clA [(h0, .inl (cL, 8, .inr (.inl (fun _ => 0))))] H5 := hPn
  replace hD : va_D A [(h0, .inl (cL, 8, .inr (.inl (fun _ => 0))))] := hDn
  replace hS := hSn
  clear hPn hDn hSn
  refine lv_iinc (k := 0) (v := 5) (lv' := [(3, .int 5), (4, .int 8), (0, .ref h0), (1, .long 0)]) hx hb d_Ar_fill_16 hl rfl (by decide) (by decide) rfl (fun ls hln => ?_)
  replace hl : lv_has ls 5 [(3, .int 5), (4, .int 8), (0, .ref h0), (1, .long 0)] := hln
  clear hln
  refine lv_goto (tgt := 6) hx hb d_Ar_fill_19 (by decide) ?_
  refine lv_iload_n hx hb d_Ar_fill_6 rfl (lv_at hl 0 rfl) ?_
  refine lv_iload hx hb d_Ar_fill_7 (lv_at hl 1 rfl) ?_
  refine lv_icmp_ge (tgt := 22) hx hb d_Ar_fill_9 (by decide) (fun h => absurd h (by decide)) (fun _ => ?_)
  refine lv_aload_n hx hb d_Ar_fill_12 rfl (lv_at hl 2 rfl) ?_
  refine lv_iload_n hx hb d_Ar_fill_13 rfl (lv_at hl 0 rfl) ?_
  refine lv_lload_n hx hb d_Ar_fill_14 rfl (lv_at hl 3 rfl) ?_
  refine va_last hx hb hK hP hD hS 0 1 rfl rfl (by unfold vp_in; decide) d_Ar_fill_15 (fun H6 locs hPn hDn hSn => ?_)
  rw [up_L0] at hPn hDn
  replace hP : va_P (dC, dI) clA [(h0, .inl (cL, 8, .inr (.inl (fun _ => 0))))] H6 := hPn
  replace hD : va_D A [(h0, .inl (cL, 8, .inr (.inl (fun _ => 0))))] := hDn
  replace hS := hSn
  clear hPn hDn hSn
  refine lv_iinc (k := 0) (v := 6) (lv' := [(3, .int 6), (4, .int 8), (0, .ref h0), (1, .long 0)]) hx hb d_Ar_fill_16 hl rfl (by decide) (by decide) rfl (fun ls hln => ?_)
  replace hl : lv_has ls 5 [(3, .int 6), (4, .int 8), (0, .ref h0), (1, .long 0)] := hln
  clear hln
  refine lv_goto (tgt := 6) hx hb d_Ar_fill_19 (by decide) ?_
  refine lv_iload_n hx hb d_Ar_fill_6 rfl (lv_at hl 0 rfl) ?_
  refine lv_iload hx hb d_Ar_fill_7 (lv_at hl 1 rfl) ?_
  refine lv_icmp_ge (tgt := 22) hx hb d_Ar_fill_9 (by decide) (fun h => absurd h (by decide)) (fun _ => ?_)
  refine lv_aload_n hx hb d_Ar_fill_12 rfl (lv_at hl 2 rfl) ?_
  refine lv_iload_n hx hb d_Ar_fill_13 rfl (lv_at hl 0 rfl) ?_
  refine lv_lload_n hx hb d_Ar_fill_14 rfl (lv_at hl 3 rfl) ?_
  refine va_last hx hb hK hP hD hS 0 1 rfl rfl (by unfold vp_in; decide) d_Ar_fill_15 (fun H7 locs hPn hDn hSn => ?_)
  rw [up_L0] at hPn hDn
  replace hP : va_P (dC, dI) clA [(h0, .inl (cL, 8, .inr (.inl (fun _ => 0))))] H7 := hPn
  replace hD : va_D A [(h0, .inl (cL, 8, .inr (.inl (fun _ => 0))))] := hDn
  replace hS := hSn
  clear hPn hDn hSn
  refine lv_iinc (k := 0) (v := 7) (lv' := [(3, .int 7), (4, .int 8), (0, .ref h0), (1, .long 0)]) hx hb d_Ar_fill_16 hl rfl (by decide) (by decide) rfl (fun ls hln => ?_)
  replace hl : lv_has ls 5 [(3, .int 7), (4, .int 8), (0, .ref h0), (1, .long 0)] := hln
  clear hln
  refine lv_goto (tgt := 6) hx hb d_Ar_fill_19 (by decide) ?_
  refine lv_iload_n hx hb d_Ar_fill_6 rfl (lv_at hl 0 rfl) ?_
  refine lv_iload hx hb d_Ar_fill_7 (lv_at hl 1 rfl) ?_
  refine lv_icmp_ge (tgt := 22) hx hb d_Ar_fill_9 (by decide) (fun h => absurd h (by decide)) (fun _ => ?_)
  refine lv_aload_n hx hb d_Ar_fill_12 rfl (lv_at hl 2 rfl) ?_
  refine lv_iload_n hx hb d_Ar_fill_13 rfl (lv_at hl 0 rfl) ?_
  refine lv_lload_n hx hb d_Ar_fill_14 rfl (lv_at hl 3 rfl) ?_
  refine va_last hx hb hK hP hD hS 0 1 rfl rfl (by unfold vp_in; decide) d_Ar_fill_15 (fun H8 locs hPn hDn hSn => ?_)
  rw [up_L0] at hPn hDn
  replace hP : va_P (dC, dI) clA [(h0, .inl (cL, 8, .inr (.inl (fun _ => 0))))] H8 := hPn
  replace hD : va_D A [(h0, .inl (cL, 8, .inr (.inl (fun _ => 0))))] := hDn
  replace hS := hSn
  clear hPn hDn hSn
  refine lv_iinc (k := 0) (v := 8) (lv' := [(3, .int 8), (4, .int 8), (0, .ref h0), (1, .long 0)]) hx hb d_Ar_fill_16 hl rfl (by decide) (by decide) rfl (fun ls hln => ?_)
  replace hl : lv_has ls 5 [(3, .int 8), (4, .int 8), (0, .ref h0), (1, .long 0)] := hln
  clear hln
  refine lv_goto (tgt := 6) hx hb d_Ar_fill_19 (by decide) ?_
  refine lv_iload_n hx hb d_Ar_fill_6 rfl (lv_at hl 0 rfl) ?_
  refine lv_iload hx hb d_Ar_fill_7 (lv_at hl 1 rfl) ?_
  refine lv_icmp_ge (tgt := 22) hx hb d_Ar_fill_9 (by decide) (fun _ => ?_) (fun h => (h (by decide)).elim)
  have hP9 := hP.sub (ws' := [(h0, .inl (cL, 8, .inr (.inl (fun _ => 0))))]) [0] rfl
  have hD9 := hD.sub (ws' := [(h0, .inl (cL, 8, .inr (.inl (fun _ => 0))))]) [0] (by decide) rfl
  exact W.vret hx hb hr (fun t ht9 hW => ⟨⟨(), rfl, trivial, by rw [ht9]; exact hP9, hD9⟩, hS.F ht9⟩) hS.2.2 d_Ar_fill_22

set_option maxHeartbeats 4000000 in
set_option maxRecDepth 100000 in
theorem c_Pf_wipe (l : Launch) (dC : Nat → ClassId) (dI : Nat → Nat → Nat) (cI cL cZ : ClassId) (sz : Nat) (a2 : Nat) (a12 : Nat) (a8 : Nat) (a9 : Nat) (a10 : Nat) (a11 : Nat) (a13 : Nat) (a14 : Nat) (a15 : Nat) (a16 : Nat) (a17 : Nat) : Met l y_Pf_wipe (Cond.code y_Pf_wipe prog_5_method_2_code 1 none :: wsA) { frames := 1, cells := 0, slots := 0, locals := 24 } (va_Pc [.ref a2] (fun U => U.heap.size = sz ∧ va_P (dC, dI) clA [(a2, .inr (2, [.int 0, .ref a8, .ref a9, .ref a10, .ref a11, .ref a12, .int 0, .ref a13, .ref a14, .ref a15, .ref a16, .ref a17, .int 0, .int 0])), (a12, .inl (cL, 8, .inr (.inl (fun _ => 0))))] U.heap ∧ va_K (dC, dI) clA [(cI, .int), (cL, .long), (cZ, .boolean)] U ∧ va_D (fun _ => True) [(a2, .inr (2, [.int 0, .ref a8, .ref a9, .ref a10, .ref a11, .ref a12, .int 0, .ref a13, .ref a14, .ref a15, .ref a16, .ref a17, .int 0, .int 0])), (a12, .inl (cL, 8, .inr (.inl (fun _ => 0))))] ∧ NwA U)) (va_Qv (fun _ : Unit => True) (fun _ t => va_P (dC, dI) clA [(a2, .inr (2, [.int 0, .ref a8, .ref a9, .ref a10, .ref a11, .ref a12, .int 0, .ref a13, .ref a14, .ref a15, .ref a16, .ref a17, .int 0, .int 0])), (a12, .inl (cL, 8, .inr (.inl (fun _ => 0))))] t.heap ∧ va_D (va_A [(a2, .inr (2, [.int 0, .ref a8, .ref a9, .ref a10, .ref a11, .ref a12, .int 0, .ref a13, .ref a14, .ref a15, .ref a16, .ref a17, .int 0, .int 0])), (a12, .inl (cL, 8, .inr (.inl (fun _ => 0))))] sz) [(a2, .inr (2, [.int 0, .ref a8, .ref a9, .ref a10, .ref a11, .ref a12, .int 0, .ref a13, .ref a14, .ref a15, .ref a16, .ref a17, .int 0, .int 0])), (a12, .inl (cL, 8, .inr (.inl (fun _ => 0))))]) (va_A [(a2, .inr (2, [.int 0, .ref a8, .ref a9, .ref a10, .ref a11, .ref a12, .int 0, .ref a13, .ref a14, .ref a15, .ref a16, .ref a17, .int 0, .int 0])), (a12, .inl (cL, 8, .inr (.inl (fun _ => 0))))] sz)) 0 0 (va_A [(a2, .inr (2, [.int 0, .ref a8, .ref a9, .ref a10, .ref a11, .ref a12, .int 0, .ref a13, .ref a14, .ref a15, .ref a16, .ref a17, .int 0, .int 0])), (a12, .inl (cL, 8, .inr (.inl (fun _ => 0))))] sz) := by
  refine Met.ofW (cc := prog_5_method_2_code) (maxL := 1) (ret := none) (by decide) rfl ?_
  intro p e s m args below meth c s₁ B hml hv
  obtain ⟨rfl, hsz, hP, hK, hD0, hN⟩ := hv
  have hx := B.exec
  have hb := B.bytes
  have hr := B.returns
  have ht : ∀ w ∈ wsA, w.before _ s = true := fun w h => atoms_spec (ws := (Cond.code y_Pf_wipe prog_5_method_2_code 1 none :: wsA)) B.pre w (List.mem_cons_of_mem _ h)
  have hown : s.vm.findClass "NetUnfolder$Prefix" = some m.cls := findClass_of_methodNamed B.named
  have hlocks := B.notSynchronized
  subst hsz
  have hD := hD0.self (sz := s.heap.size)
  generalize hAe : va_A [(a2, .inr (2, [.int 0, .ref a8, .ref a9, .ref a10, .ref a11, .ref a12, .int 0, .ref a13, .ref a14, .ref a15, .ref a16, .ref a17, .int 0, .int 0])), (a12, .inl (cL, 8, .inr (.inl (fun _ => 0))))] s.heap.size = A at hD ⊢
  have hA : ∀ q : Nat, s.heap.size ≤ q → A q := fun q h => by rw [← hAe]; exact Or.inr h
  have hS : va_S A s.heap s.heap [] := va_S.rf
  have hl := lv_entry ([.ref a2]) (n := 1) (Nat.le_of_ble_eq_true rfl)
  rw [lg_entry_eq]
  generalize (lg_sl ([.ref a2]) ++ List.replicate (1 - (lg_sl ([.ref a2])).length) Slot.unset).toArray = ls at hl ⊢
  replace hl : lv_has ls 1 [(0, .ref a2)] := hl
  refine lv_aload_n hx hb d_Pf_wipe_0 rfl (lv_at hl 0 rfl) ?_
  refine lv_iconst (v := 0) hx hb d_Pf_wipe_1 (by decide) ?_
  refine va_put (D := (dC, dI)) (ci := 2) (v := .int 0) (ty := .int) (C := "NetUnfolder$Prefix") (T := T_Pf) (N := 14) hx hb ht in_Pf ty_Pf ok_Pf nm_Pf hown hK hP hD hS 0 rfl rfl 0 (by decide) (ht _ wd_1_62) (fun _ h9 => h9) rfl (by decide +kernel) rfl rfl (Nat.le_of_ble_eq_true rfl) d_Pf_wipe_2 (fun H1 locs hPn hDn hSn => ?_)
  replace hP : va_P (dC, dI) clA [(a2, .inr (2, [.int 0, .ref a8, .ref a9, .ref a10, .ref a11, .ref a12, .int 0, .ref a13, .ref a14, .ref a15, .ref a16, .ref a17, .int 0, .int 0])), (a12, .inl (cL, 8, .inr (.inl (fun _ => 0))))] H1 := hPn
  replace hD : va_D A [(a2, .inr (2, [.int 0, .ref a8, .ref a9, .ref a10, .ref a11, .ref a12, .int 0, .ref a13, .ref a14, .ref a15, .ref a16, .ref a17, .int 0, .int 0])), (a12, .inl (cL, 8, .inr (.inl (fun _ => 0))))] := hDn
  replace hS := hSn
  clear hPn hDn hSn
  refine lv_aload_n hx hb d_Pf_wipe_5 rfl (lv_at hl 0 rfl) ?_
  refine va_get (D := (dC, dI)) (ci := 2) (v := .ref a12) (C := "NetUnfolder$Prefix") (T := T_Pf) (N := 14) hx hb ht in_Pf hown hK hP 0 rfl rfl 5 (by decide) (ht _ wd_1_79) (fun _ h9 => h9) rfl d_Pf_wipe_6 ?_
  refine lv_lconst (v := 0) hx hb d_Pf_wipe_9 (by decide) ?_
  have hPc := hP.sub (ws' := [(a12, .inl (cL, 8, .inr (.inl (fun _ => 0))))]) [1] rfl
  have hDc := hD.sub (ws' := [(a12, .inl (cL, 8, .inr (.inl (fun _ => 0))))]) [1] (by decide) rfl
  have hFc := va_free (wc := [(a12, .inl (cL, 8, .inr (.inl (fun _ => 0))))]) hD hS hA [1] rfl
  refine va_callv (va_runS (As := [.ref a12, .long 0]) (rest := []) ⟨hx, hb, hml, hown, ht⟩ (c_Ar_fill_8 l dC dI cI cL cZ _ a12 ) (va_cwS 2 ht (good_S wd_2_64 wd_2_65 wd_1_16 wd_2_66) rfl rfl rfl (by decide +kernel) ⟨Nat.le_of_ble_eq_true rfl, Nat.le_of_ble_eq_true rfl⟩) ⟨fun a U g mk q => by obtain ⟨q0, q1, qP, qK, qD, qN⟩ := q; exact ⟨q0, q1, qP, va_K.moved (u := U) (U := U.calling g mk a) (Vm.Alike.refl U.vm) qK, qD, NwA.same (u := U) rfl qN⟩, fun U hU hW => ⟨rfl, by rw [hU], by rw [hU]; exact hPc, va_K.moved hW.alike hK, hDc.weaken (fun _ _ _ _ => trivial), NwA.warm hW hN⟩⟩ rfl rfl hl.1 rfl (lv_room (Nat.le_of_ble_eq_true rfl)) d_Pf_wipe_10 ⟨Nat.le_of_ble_eq_true rfl, Nat.le_of_ble_eq_true rfl⟩) hS (fun q _ h => hFc q h) hFc (fun u t H2 locs ht9 hvm hw3 hB hz1 hk1 hSn => ?_)
  obtain ⟨hP1, hD1⟩ := hB
  rw [ht9] at hP1
  obtain ⟨hPn, hDn⟩ := va_join (wr := [(a2, .inr (2, [.int 0, .ref a8, .ref a9, .ref a10, .ref a11, .ref a12, .int 0, .ref a13, .ref a14, .ref a15, .ref a16, .ref a17, .int 0, .int 0]))]) (w1 := [(a12, .inl (cL, 8, .inr (.inl (fun _ => 0))))]) hP hD [1] [0] rfl rfl (by decide) (by decide) hk1 hFc hP1 hD1
  replace hP : va_P (dC, dI) clA [(a2, .inr (2, [.int 0, .ref a8, .ref a9, .ref a10, .ref a11, .ref a12, .int 0, .ref a13, .ref a14, .ref a15, .ref a16, .ref a17, .int 0, .int 0])), (a12, .inl (cL, 8, .inr (.inl (fun _ => 0))))] H2 := hPn
  replace hD : va_D A [(a2, .inr (2, [.int 0, .ref a8, .ref a9, .ref a10, .ref a11, .ref a12, .int 0, .ref a13, .ref a14, .ref a15, .ref a16, .ref a17, .int 0, .int 0])), (a12, .inl (cL, 8, .inr (.inl (fun _ => 0))))] := hDn
  replace hS := hSn
  clear hPn hDn hSn
  clear hPc hDc hFc hP1 hD1 hk1 hz1 ht9 hvm
  refine W.cs (cells' := 0) (slots' := 0) rfl rfl ?_
  refine lv_aload_n hx hb d_Pf_wipe_13 rfl (lv_at hl 0 rfl) ?_
  refine lv_iconst (v := 0) hx hb d_Pf_wipe_14 (by decide) ?_
  refine va_put (D := (dC, dI)) (ci := 2) (v := .int 0) (ty := .int) (C := "NetUnfolder$Prefix") (T := T_Pf) (N := 14) hx hb ht in_Pf ty_Pf ok_Pf nm_Pf hown hK hP hD hS 0 rfl rfl 6 (by decide) (ht _ wd_1_82) (fun _ h9 => h9) rfl (by decide +kernel) rfl rfl (Nat.le_of_ble_eq_true rfl) d_Pf_wipe_15 (fun H4 locs hPn hDn hSn => ?_)
  replace hP : va_P (dC, dI) clA [(a2, .inr (2, [.int 0, .ref a8, .ref a9, .ref a10, .ref a11, .ref a12, .int 0, .ref a13, .ref a14, .ref a15, .ref a16, .ref a17, .int 0, .int 0])), (a12, .inl (cL, 8, .inr (.inl (fun _ => 0))))] H4 := hPn
  replace hD : va_D A [(a2, .inr (2, [.int 0, .ref a8, .ref a9, .ref a10, .ref a11, .ref a12, .int 0, .ref a13, .ref a14, .ref a15, .ref a16, .ref a17, .int 0, .int 0])), (a12, .inl (cL, 8, .inr (.inl (fun _ => 0))))] := hDn
  replace hS := hSn
  clear hPn hDn hSn
  refine lv_aload_n hx hb d_Pf_wipe_18 rfl (lv_at hl 0 rfl) ?_
  refine lv_iconst (v := 0) hx hb d_Pf_wipe_19 (by decide) ?_
  refine va_put (D := (dC, dI)) (ci := 2) (v := .int 0) (ty := .int) (C := "NetUnfolder$Prefix") (T := T_Pf) (N := 14) hx hb ht in_Pf ty_Pf ok_Pf nm_Pf hown hK hP hD hS 0 rfl rfl 12 (by decide) (ht _ wd_1_100) (fun _ h9 => h9) rfl (by decide +kernel) rfl rfl (Nat.le_of_ble_eq_true rfl) d_Pf_wipe_20 (fun H5 locs hPn hDn hSn => ?_)
  replace hP : va_P (dC, dI) clA [(a2, .inr (2, [.int 0, .ref a8, .ref a9, .ref a10, .ref a11, .ref a12, .int 0, .ref a13, .ref a14, .ref a15, .ref a16, .ref a17, .int 0, .int 0])), (a12, .inl (cL, 8, .inr (.inl (fun _ => 0))))] H5 := hPn
  replace hD : va_D A [(a2, .inr (2, [.int 0, .ref a8, .ref a9, .ref a10, .ref a11, .ref a12, .int 0, .ref a13, .ref a14, .ref a15, .ref a16, .ref a17, .int 0, .int 0])), (a12, .inl (cL, 8, .inr (.inl (fun _ => 0))))] := hDn
  replace hS := hSn
  clear hPn hDn hSn
  refine lv_aload_n hx hb d_Pf_wipe_23 rfl (lv_at hl 0 rfl) ?_
  refine lv_iconst (v := 0) hx hb d_Pf_wipe_24 (by decide) ?_
  refine va_put (D := (dC, dI)) (ci := 2) (v := .int 0) (ty := .boolean) (C := "NetUnfolder$Prefix") (T := T_Pf) (N := 14) hx hb ht in_Pf ty_Pf ok_Pf nm_Pf hown hK hP hD hS 0 rfl rfl 13 (by decide) (ht _ wd_1_104) (fun _ h9 => h9) rfl (by decide +kernel) rfl rfl (Nat.le_of_ble_eq_true rfl) d_Pf_wipe_25 (fun H6 locs hPn hDn hSn => ?_)
  replace hP : va_P (dC, dI) clA [(a2, .inr (2, [.int 0, .ref a8, .ref a9, .ref a10, .ref a11, .ref a12, .int 0, .ref a13, .ref a14, .ref a15, .ref a16, .ref a17, .int 0, .int 0])), (a12, .inl (cL, 8, .inr (.inl (fun _ => 0))))] H6 := hPn
  replace hD : va_D A [(a2, .inr (2, [.int 0, .ref a8, .ref a9, .ref a10, .ref a11, .ref a12, .int 0, .ref a13, .ref a14, .ref a15, .ref a16, .ref a17, .int 0, .int 0])), (a12, .inl (cL, 8, .inr (.inl (fun _ => 0))))] := hDn
  replace hS := hSn
  clear hPn hDn hSn
  have hP9 := hP.sub (ws' := [(a2, .inr (2, [.int 0, .ref a8, .ref a9, .ref a10, .ref a11, .ref a12, .int 0, .ref a13, .ref a14, .ref a15, .ref a16, .ref a17, .int 0, .int 0])), (a12, .inl (cL, 8, .inr (.inl (fun _ => 0))))]) [0, 1] rfl
  have hD9 := hD.sub (ws' := [(a2, .inr (2, [.int 0, .ref a8, .ref a9, .ref a10, .ref a11, .ref a12, .int 0, .ref a13, .ref a14, .ref a15, .ref a16, .ref a17, .int 0, .int 0])), (a12, .inl (cL, 8, .inr (.inl (fun _ => 0))))]) [0, 1] (by decide) rfl
  exact W.vret hx hb hr (fun t ht9 hW => ⟨⟨(), rfl, trivial, by rw [ht9]; exact hP9, hD9⟩, hS.F ht9⟩) hS.2.2 d_Pf_wipe_28

set_option maxHeartbeats 4000000 in
set_option maxRecDepth 100000 in
theorem c_Wa_drop (l : Launch) (dC : Nat → ClassId) (dI : Nat → Nat → Nat) (cI cL cZ : ClassId) (sz : Nat) (a3 : Nat) (a18 : Nat) : Met l y_Wa_drop (Cond.code y_Wa_drop prog_9_method_2_code 1 none :: wsA) { frames := 0, cells := 0, slots := 0, locals := 0 } (va_Pc [.ref a3] (fun U => U.heap.size = sz ∧ va_P (dC, dI) clA [(a3, .inr (3, [.ref a18, .int (-1)]))] U.heap ∧ va_K (dC, dI) clA [(cI, .int), (cL, .long), (cZ, .boolean)] U ∧ va_D (fun _ => True) [(a3, .inr (3, [.ref a18, .int (-1)]))] ∧ NwA U)) (va_Qv (fun _ : Unit => True) (fun _ t => va_P (dC, dI) clA [(a3, .inr (3, [.ref a18, .int (-1)]))] t.heap ∧ va_D (va_A [(a3, .inr (3, [.ref a18, .int (-1)]))] sz) [(a3, .inr (3, [.ref a18, .int (-1)]))]) (va_A [(a3, .inr (3, [.ref a18, .int (-1)]))] sz)) 0 0 (va_A [(a3, .inr (3, [.ref a18, .int (-1)]))] sz) := by
  refine Met.ofW (cc := prog_9_method_2_code) (maxL := 1) (ret := none) (by decide) rfl ?_
  intro p e s m args below meth c s₁ B hml hv
  obtain ⟨rfl, hsz, hP, hK, hD0, hN⟩ := hv
  have hx := B.exec
  have hb := B.bytes
  have hr := B.returns
  have ht : ∀ w ∈ wsA, w.before _ s = true := fun w h => atoms_spec (ws := (Cond.code y_Wa_drop prog_9_method_2_code 1 none :: wsA)) B.pre w (List.mem_cons_of_mem _ h)
  have hown : s.vm.findClass "NetUnfolder$Way" = some m.cls := findClass_of_methodNamed B.named
  have hlocks := B.notSynchronized
  subst hsz
  have hD := hD0.self (sz := s.heap.size)
  generalize hAe : va_A [(a3, .inr (3, [.ref a18, .int (-1)]))] s.heap.size = A at hD ⊢
  have hA : ∀ q : Nat, s.heap.size ≤ q → A q := fun q h => by rw [← hAe]; exact Or.inr h
  have hS : va_S A s.heap s.heap [] := va_S.rf
  have hl := lv_entry ([.ref a3]) (n := 1) (Nat.le_of_ble_eq_true rfl)
  rw [lg_entry_eq]
  generalize (lg_sl ([.ref a3]) ++ List.replicate (1 - (lg_sl ([.ref a3])).length) Slot.unset).toArray = ls at hl ⊢
  replace hl : lv_has ls 1 [(0, .ref a3)] := hl
  refine lv_aload_n hx hb d_Wa_drop_0 rfl (lv_at hl 0 rfl) ?_
  refine lv_iconst (v := (-1)) hx hb d_Wa_drop_1 (by decide) ?_
  refine va_put (D := (dC, dI)) (ci := 3) (v := .int (-1)) (ty := .int) (C := "NetUnfolder$Way") (T := T_Wa) (N := 2) hx hb ht in_Wa ty_Wa ok_Wa nm_Wa hown hK hP hD hS 0 rfl rfl 1 (by decide) (ht _ wd_1_144) (fun _ h9 => h9) rfl (by decide +kernel) rfl rfl (Nat.le_of_ble_eq_true rfl) d_Wa_drop_2 (fun H1 locs hPn hDn hSn => ?_)
  replace hP : va_P (dC, dI) clA [(a3, .inr (3, [.ref a18, .int (-1)]))] H1 := hPn
  replace hD : va_D A [(a3, .inr (3, [.ref a18, .int (-1)]))] := hDn
  replace hS := hSn
  clear hPn hDn hSn
  have hP9 := hP.sub (ws' := [(a3, .inr (3, [.ref a18, .int (-1)]))]) [0] rfl
  have hD9 := hD.sub (ws' := [(a3, .inr (3, [.ref a18, .int (-1)]))]) [0] (by decide) rfl
  exact W.vret hx hb hr (fun t ht9 hW => ⟨⟨(), rfl, trivial, by rw [ht9]; exact hP9, hD9⟩, hS.F ht9⟩) hS.2.2 d_Wa_drop_5

set_option maxHeartbeats 4000000 in
set_option maxRecDepth 100000 in
theorem c_Ne_wipe (l : Launch) (dC : Nat → ClassId) (dI : Nat → Nat → Nat) (cI cL cZ : ClassId) (sz : Nat) (a1 : Nat) (a6 : Nat) (a7 : Nat) : Met l y_Ne_wipe (Cond.code y_Ne_wipe prog_3_method_2_code 1 none :: wsA) { frames := 0, cells := 0, slots := 0, locals := 0 } (va_Pc [.ref a1] (fun U => U.heap.size = sz ∧ va_P (dC, dI) clA [(a1, .inr (1, [.ref a6, .ref a7, .int 0, .int 0]))] U.heap ∧ va_K (dC, dI) clA [(cI, .int), (cL, .long), (cZ, .boolean)] U ∧ va_D (fun _ => True) [(a1, .inr (1, [.ref a6, .ref a7, .int 0, .int 0]))] ∧ NwA U)) (va_Qv (fun _ : Unit => True) (fun _ t => va_P (dC, dI) clA [(a1, .inr (1, [.ref a6, .ref a7, .int 0, .int 0]))] t.heap ∧ va_D (va_A [(a1, .inr (1, [.ref a6, .ref a7, .int 0, .int 0]))] sz) [(a1, .inr (1, [.ref a6, .ref a7, .int 0, .int 0]))]) (va_A [(a1, .inr (1, [.ref a6, .ref a7, .int 0, .int 0]))] sz)) 0 0 (va_A [(a1, .inr (1, [.ref a6, .ref a7, .int 0, .int 0]))] sz) := by
  refine Met.ofW (cc := prog_3_method_2_code) (maxL := 1) (ret := none) (by decide) rfl ?_
  intro p e s m args below meth c s₁ B hml hv
  obtain ⟨rfl, hsz, hP, hK, hD0, hN⟩ := hv
  have hx := B.exec
  have hb := B.bytes
  have hr := B.returns
  have ht : ∀ w ∈ wsA, w.before _ s = true := fun w h => atoms_spec (ws := (Cond.code y_Ne_wipe prog_3_method_2_code 1 none :: wsA)) B.pre w (List.mem_cons_of_mem _ h)
  have hown : s.vm.findClass "NetUnfolder$Net" = some m.cls := findClass_of_methodNamed B.named
  have hlocks := B.notSynchronized
  subst hsz
  have hD := hD0.self (sz := s.heap.size)
  generalize hAe : va_A [(a1, .inr (1, [.ref a6, .ref a7, .int 0, .int 0]))] s.heap.size = A at hD ⊢
  have hA : ∀ q : Nat, s.heap.size ≤ q → A q := fun q h => by rw [← hAe]; exact Or.inr h
  have hS : va_S A s.heap s.heap [] := va_S.rf
  have hl := lv_entry ([.ref a1]) (n := 1) (Nat.le_of_ble_eq_true rfl)
  rw [lg_entry_eq]
  generalize (lg_sl ([.ref a1]) ++ List.replicate (1 - (lg_sl ([.ref a1])).length) Slot.unset).toArray = ls at hl ⊢
  replace hl : lv_has ls 1 [(0, .ref a1)] := hl
  refine lv_aload_n hx hb d_Ne_wipe_0 rfl (lv_at hl 0 rfl) ?_
  refine lv_iconst (v := 0) hx hb d_Ne_wipe_1 (by decide) ?_
  refine va_put (D := (dC, dI)) (ci := 1) (v := .int 0) (ty := .int) (C := "NetUnfolder$Net") (T := T_Ne) (N := 4) hx hb ht in_Ne ty_Ne ok_Ne nm_Ne hown hK hP hD hS 0 rfl rfl 2 (by decide) (ht _ wd_1_38) (fun _ h9 => h9) rfl (by decide +kernel) rfl rfl (Nat.le_of_ble_eq_true rfl) d_Ne_wipe_2 (fun H1 locs hPn hDn hSn => ?_)
  replace hP : va_P (dC, dI) clA [(a1, .inr (1, [.ref a6, .ref a7, .int 0, .int 0]))] H1 := hPn
  replace hD : va_D A [(a1, .inr (1, [.ref a6, .ref a7, .int 0, .int 0]))] := hDn
  replace hS := hSn
  clear hPn hDn hSn
  refine lv_aload_n hx hb d_Ne_wipe_5 rfl (lv_at hl 0 rfl) ?_
  refine lv_iconst (v := 0) hx hb d_Ne_wipe_6 (by decide) ?_
  refine va_put (D := (dC, dI)) (ci := 1) (v := .int 0) (ty := .int) (C := "NetUnfolder$Net") (T := T_Ne) (N := 4) hx hb ht in_Ne ty_Ne ok_Ne nm_Ne hown hK hP hD hS 0 rfl rfl 3 (by decide) (ht _ wd_1_42) (fun _ h9 => h9) rfl (by decide +kernel) rfl rfl (Nat.le_of_ble_eq_true rfl) d_Ne_wipe_7 (fun H2 locs hPn hDn hSn => ?_)
  replace hP : va_P (dC, dI) clA [(a1, .inr (1, [.ref a6, .ref a7, .int 0, .int 0]))] H2 := hPn
  replace hD : va_D A [(a1, .inr (1, [.ref a6, .ref a7, .int 0, .int 0]))] := hDn
  replace hS := hSn
  clear hPn hDn hSn
  have hP9 := hP.sub (ws' := [(a1, .inr (1, [.ref a6, .ref a7, .int 0, .int 0]))]) [0] rfl
  have hD9 := hD.sub (ws' := [(a1, .inr (1, [.ref a6, .ref a7, .int 0, .int 0]))]) [0] (by decide) rfl
  exact W.vret hx hb hr (fun t ht9 hW => ⟨⟨(), rfl, trivial, by rw [ht9]; exact hP9, hD9⟩, hS.F ht9⟩) hS.2.2 d_Ne_wipe_10

set_option maxHeartbeats 4000000 in
set_option maxRecDepth 100000 in
theorem c_Ne_add (l : Launch) (dC : Nat → ClassId) (dI : Nat → Nat → Nat) (cI cL cZ : ClassId) (sz : Nat) (a1 : Nat) (a6 : Nat) (a7 : Nat) (k0 : Int32) (k1 : Int32) : Met l y_Ne_add (Cond.code y_Ne_add prog_3_method_3_code 3 (some .int) :: wsA) { frames := 0, cells := 0, slots := 0, locals := 0 } (va_Pc [.ref a1, .int k0, .int k1] (fun U => U.heap.size = sz ∧ va_P (dC, dI) clA [(a1, .inr (1, [.ref a6, .ref a7, .int 0, .int 0])), (a6, .inl (cI, 8, .inl (fun _ => 0))), (a7, .inl (cI, 8, .inl (fun _ => 0)))] U.heap ∧ va_K (dC, dI) clA [(cI, .int), (cL, .long), (cZ, .boolean)] U ∧ va_D (fun _ => True) [(a1, .inr (1, [.ref a6, .ref a7, .int 0, .int 0])), (a6, .inl (cI, 8, .inl (fun _ => 0))), (a7, .inl (cI, 8, .inl (fun _ => 0)))] ∧ NwA U)) (va_Qi (fun r (_ : Unit) => r = 0) (fun _ t => va_P (dC, dI) clA [(a1, .inr (1, [.ref a6, .ref a7, .int 1, .int 0])), (a6, .inl (cI, 8, .inl (upd (fun _ => 0) (0 : Int32).toNatClampNeg k0))), (a7, .inl (cI, 8, .inl (upd (fun _ => 0) (0 : Int32).toNatClampNeg k1)))] t.heap ∧ va_D (va_A [(a1, .inr (1, [.ref a6, .ref a7, .int 0, .int 0])), (a6, .inl (cI, 8, .inl (fun _ => 0))), (a7, .inl (cI, 8, .inl (fun _ => 0)))] sz) [(a1, .inr (1, [.ref a6, .ref a7, .int 1, .int 0])), (a6, .inl (cI, 8, .inl (upd (fun _ => 0) (0 : Int32).toNatClampNeg k0))), (a7, .inl (cI, 8, .inl (upd (fun _ => 0) (0 : Int32).toNatClampNeg k1)))]) (va_A [(a1, .inr (1, [.ref a6, .ref a7, .int 0, .int 0])), (a6, .inl (cI, 8, .inl (fun _ => 0))), (a7, .inl (cI, 8, .inl (fun _ => 0)))] sz)) 0 0 (va_A [(a1, .inr (1, [.ref a6, .ref a7, .int 0, .int 0])), (a6, .inl (cI, 8, .inl (fun _ => 0))), (a7, .inl (cI, 8, .inl (fun _ => 0)))] sz) := by
  refine Met.ofW (cc := prog_3_method_3_code) (maxL := 3) (ret := (some .int)) (by decide) rfl ?_
  intro p e s m args below meth c s₁ B hml hv
  obtain ⟨rfl, hsz, hP, hK, hD0, hN⟩ := hv
  have hx := B.exec
  have hb := B.bytes
  have hr := B.returns
  have ht : ∀ w ∈ wsA, w.before _ s = true := fun w h => atoms_spec (ws := (Cond.code y_Ne_add prog_3_method_3_code 3 (some .int) :: wsA)) B.pre w (List.mem_cons_of_mem _ h)
  have hown : s.vm.findClass "NetUnfolder$Net" = some m.cls := findClass_of_methodNamed B.named
  have hlocks := B.notSynchronized
  subst hsz
  have hD := hD0.self (sz := s.heap.size)
  generalize hAe : va_A [(a1, .inr (1, [.ref a6, .ref a7, .int 0, .int 0])), (a6, .inl (cI, 8, .inl (fun _ => 0))), (a7, .inl (cI, 8, .inl (fun _ => 0)))] s.heap.size = A at hD ⊢
  have hA : ∀ q : Nat, s.heap.size ≤ q → A q := fun q h => by rw [← hAe]; exact Or.inr h
  have hS : va_S A s.heap s.heap [] := va_S.rf
  have hl := lv_entry ([.ref a1, .int k0, .int k1]) (n := 3) (Nat.le_of_ble_eq_true rfl)
  rw [lg_entry_eq]
  generalize (lg_sl ([.ref a1, .int k0, .int k1]) ++ List.replicate (3 - (lg_sl ([.ref a1, .int k0, .int k1])).length) Slot.unset).toArray = ls at hl ⊢
  replace hl : lv_has ls 3 [(0, .ref a1), (1, .int k0), (2, .int k1)] := hl
  refine lv_aload_n hx hb d_Ne_add_0 rfl (lv_at hl 0 rfl) ?_
  refine va_get (D := (dC, dI)) (ci := 1) (v := .ref a6) (C := "NetUnfolder$Net") (T := T_Ne) (N := 4) hx hb ht in_Ne hown hK hP 0 rfl rfl 0 (by decide) (ht _ wd_1_33) (fun _ h9 => h9) rfl d_Ne_add_1 ?_
  refine lv_aload_n hx hb d_Ne_add_4 rfl (lv_at hl 0 rfl) ?_
  refine va_get (D := (dC, dI)) (ci := 1) (v := .int 0) (C := "NetUnfolder$Net") (T := T_Ne) (N := 4) hx hb ht in_Ne hown hK hP 0 rfl rfl 2 (by decide) (ht _ wd_1_38) (fun _ h9 => h9) rfl d_Ne_add_5 ?_
  refine lv_iload_n hx hb d_Ne_add_8 rfl (lv_at hl 1 rfl) ?_
  refine va_iast hx hb hK hP hD hS 1 0 rfl rfl (by unfold vp_in; decide) d_Ne_add_9 (fun H1 locs hPn hDn hSn => ?_)
  replace hP : va_P (dC, dI) clA [(a1, .inr (1, [.ref a6, .ref a7, .int 0, .int 0])), (a6, .inl (cI, 8, .inl (upd (fun _ => 0) (0 : Int32).toNatClampNeg k0))), (a7, .inl (cI, 8, .inl (fun _ => 0)))] H1 := hPn
  replace hD : va_D A [(a1, .inr (1, [.ref a6, .ref a7, .int 0, .int 0])), (a6, .inl (cI, 8, .inl (upd (fun _ => 0) (0 : Int32).toNatClampNeg k0))), (a7, .inl (cI, 8, .inl (fun _ => 0)))] := hDn
  replace hS := hSn
  clear hPn hDn hSn
  refine lv_aload_n hx hb d_Ne_add_10 rfl (lv_at hl 0 rfl) ?_
  refine va_get (D := (dC, dI)) (ci := 1) (v := .ref a7) (C := "NetUnfolder$Net") (T := T_Ne) (N := 4) hx hb ht in_Ne hown hK hP 0 rfl rfl 1 (by decide) (ht _ wd_1_36) (fun _ h9 => h9) rfl d_Ne_add_11 ?_
  refine lv_aload_n hx hb d_Ne_add_14 rfl (lv_at hl 0 rfl) ?_
  refine va_get (D := (dC, dI)) (ci := 1) (v := .int 0) (C := "NetUnfolder$Net") (T := T_Ne) (N := 4) hx hb ht in_Ne hown hK hP 0 rfl rfl 2 (by decide) (ht _ wd_1_38) (fun _ h9 => h9) rfl d_Ne_add_15 ?_
  refine lv_iload_n hx hb d_Ne_add_18 rfl (lv_at hl 2 rfl) ?_
  refine va_iast hx hb hK hP hD hS 2 0 rfl rfl (by unfold vp_in; decide) d_Ne_add_19 (fun H2 locs hPn hDn hSn => ?_)
  replace hP : va_P (dC, dI) clA [(a1, .inr (1, [.ref a6, .ref a7, .int 0, .int 0])), (a6, .inl (cI, 8, .inl (upd (fun _ => 0) (0 : Int32).toNatClampNeg k0))), (a7, .inl (cI, 8, .inl (upd (fun _ => 0) (0 : Int32).toNatClampNeg k1)))] H2 := hPn
  replace hD : va_D A [(a1, .inr (1, [.ref a6, .ref a7, .int 0, .int 0])), (a6, .inl (cI, 8, .inl (upd (fun _ => 0) (0 : Int32).toNatClampNeg k0))), (a7, .inl (cI, 8, .inl (upd (fun _ => 0) (0 : Int32).toNatClampNeg k1)))] := hDn
  replace hS := hSn
  clear hPn hDn hSn
  refine lv_aload_n hx hb d_Ne_add_20 rfl (lv_at hl 0 rfl) ?_
  refine lv_dup hx hb d_Ne_add_21 rfl ?_
  refine va_get (D := (dC, dI)) (ci := 1) (v := .int 0) (C := "NetUnfolder$Net") (T := T_Ne) (N := 4) hx hb ht in_Ne hown hK hP 0 rfl rfl 2 (by decide) (ht _ wd_1_38) (fun _ h9 => h9) rfl d_Ne_add_22 ?_
  refine lv_iconst (v := 1) hx hb d_Ne_add_25 (by decide) ?_
  refine lv_iadd hx hb d_Ne_add_26 ?_
  refine ci_i (y := 1) (by decide) ?_
  refine va_put (D := (dC, dI)) (ci := 1) (v := .int 1) (ty := .int) (C := "NetUnfolder$Net") (T := T_Ne) (N := 4) hx hb ht in_Ne ty_Ne ok_Ne nm_Ne hown hK hP hD hS 0 rfl rfl 2 (by decide) (ht _ wd_1_38) (fun _ h9 => h9) rfl (by decide +kernel) rfl rfl (Nat.le_of_ble_eq_true rfl) d_Ne_add_27 (fun H3 locs hPn hDn hSn => ?_)
  replace hP : va_P (dC, dI) clA [(a1, .inr (1, [.ref a6, .ref a7, .int 1, .int 0])), (a6, .inl (cI, 8, .inl (upd (fun _ => 0) (0 : Int32).toNatClampNeg k0))), (a7, .inl (cI, 8, .inl (upd (fun _ => 0) (0 : Int32).toNatClampNeg k1)))] H3 := hPn
  replace hD : va_D A [(a1, .inr (1, [.ref a6, .ref a7, .int 1, .int 0])), (a6, .inl (cI, 8, .inl (upd (fun _ => 0) (0 : Int32).toNatClampNeg k0))), (a7, .inl (cI, 8, .inl (upd (fun _ => 0) (0 : Int32).toNatClampNeg k1)))] := hDn
  replace hS := hSn
  clear hPn hDn hSn
  refine lv_aload_n hx hb d_Ne_add_30 rfl (lv_at hl 0 rfl) ?_
  refine va_get (D := (dC, dI)) (ci := 1) (v := .int 1) (C := "NetUnfolder$Net") (T := T_Ne) (N := 4) hx hb ht in_Ne hown hK hP 0 rfl rfl 2 (by decide) (ht _ wd_1_38) (fun _ h9 => h9) rfl d_Ne_add_31 ?_
  refine lv_iconst (v := 1) hx hb d_Ne_add_34 (by decide) ?_
  refine lv_isub hx hb d_Ne_add_35 ?_
  refine ci_i (y := 0) (by decide) ?_
  have hP9 := hP.sub (ws' := [(a1, .inr (1, [.ref a6, .ref a7, .int 1, .int 0])), (a6, .inl (cI, 8, .inl (upd (fun _ => 0) (0 : Int32).toNatClampNeg k0))), (a7, .inl (cI, 8, .inl (upd (fun _ => 0) (0 : Int32).toNatClampNeg k1)))]) [0, 1, 2] rfl
  have hD9 := hD.sub (ws' := [(a1, .inr (1, [.ref a6, .ref a7, .int 1, .int 0])), (a6, .inl (cI, 8, .inl (upd (fun _ => 0) (0 : Int32).toNatClampNeg k0))), (a7, .inl (cI, 8, .inl (upd (fun _ => 0) (0 : Int32).toNatClampNeg k1)))]) [0, 1, 2] (by decide) rfl
  exact W.iret (v := 0) hx hb hr (fun t ht9 hW => ⟨⟨0, (), rfl, rfl, by rw [ht9]; exact hP9, hD9⟩, hS.F ht9⟩) hS.2.2 d_Ne_add_36

set_option maxHeartbeats 4000000 in
set_option maxRecDepth 100000 in
theorem c_NU_drop (l : Launch) (dC : Nat → ClassId) (dI : Nat → Nat → Nat) (cI cL cZ : ClassId) (sz : Nat) (a0 : Nat) (a2 : Nat) (a12 : Nat) (a3 : Nat) (a1 : Nat) (a4 : Nat) (a5 : Nat) (a8 : Nat) (a9 : Nat) (a10 : Nat) (a11 : Nat) (a13 : Nat) (a14 : Nat) (a15 : Nat) (a16 : Nat) (a17 : Nat) (a18 : Nat) : Met l y_NU_dropPrefixAndWay (Cond.code y_NU_dropPrefixAndWay prog_1_method_15_code 1 none :: wsA) { frames := 2, cells := 0, slots := 0, locals := 44 } (va_Pc [.ref a0] (fun U => U.heap.size = sz ∧ va_P (dC, dI) clA [(a0, .inr (0, [.ref a1, .ref a2, .ref a3, .ref a4, .ref a5])), (a2, .inr (2, [.int 0, .ref a8, .ref a9, .ref a10, .ref a11, .ref a12, .int 0, .ref a13, .ref a14, .ref a15, .ref a16, .ref a17, .int 0, .int 0])), (a12, .inl (cL, 8, .inr (.inl (fun _ => 0)))), (a3, .inr (3, [.ref a18, .int (-1)]))] U.heap ∧ va_K (dC, dI) clA [(cI, .int), (cL, .long), (cZ, .boolean)] U ∧ va_D (fun _ => True) [(a0, .inr (0, [.ref a1, .ref a2, .ref a3, .ref a4, .ref a5])), (a2, .inr (2, [.int 0, .ref a8, .ref a9, .ref a10, .ref a11, .ref a12, .int 0, .ref a13, .ref a14, .ref a15, .ref a16, .ref a17, .int 0, .int 0])), (a12, .inl (cL, 8, .inr (.inl (fun _ => 0)))), (a3, .inr (3, [.ref a18, .int (-1)]))] ∧ NwA U)) (va_Qv (fun _ : Unit => True) (fun _ t => va_P (dC, dI) clA [(a0, .inr (0, [.ref a1, .ref a2, .ref a3, .ref a4, .ref a5])), (a2, .inr (2, [.int 0, .ref a8, .ref a9, .ref a10, .ref a11, .ref a12, .int 0, .ref a13, .ref a14, .ref a15, .ref a16, .ref a17, .int 0, .int 0])), (a12, .inl (cL, 8, .inr (.inl (fun _ => 0)))), (a3, .inr (3, [.ref a18, .int (-1)]))] t.heap ∧ va_D (va_A [(a0, .inr (0, [.ref a1, .ref a2, .ref a3, .ref a4, .ref a5])), (a2, .inr (2, [.int 0, .ref a8, .ref a9, .ref a10, .ref a11, .ref a12, .int 0, .ref a13, .ref a14, .ref a15, .ref a16, .ref a17, .int 0, .int 0])), (a12, .inl (cL, 8, .inr (.inl (fun _ => 0)))), (a3, .inr (3, [.ref a18, .int (-1)]))] sz) [(a0, .inr (0, [.ref a1, .ref a2, .ref a3, .ref a4, .ref a5])), (a2, .inr (2, [.int 0, .ref a8, .ref a9, .ref a10, .ref a11, .ref a12, .int 0, .ref a13, .ref a14, .ref a15, .ref a16, .ref a17, .int 0, .int 0])), (a12, .inl (cL, 8, .inr (.inl (fun _ => 0)))), (a3, .inr (3, [.ref a18, .int (-1)]))]) (va_A [(a0, .inr (0, [.ref a1, .ref a2, .ref a3, .ref a4, .ref a5])), (a2, .inr (2, [.int 0, .ref a8, .ref a9, .ref a10, .ref a11, .ref a12, .int 0, .ref a13, .ref a14, .ref a15, .ref a16, .ref a17, .int 0, .int 0])), (a12, .inl (cL, 8, .inr (.inl (fun _ => 0)))), (a3, .inr (3, [.ref a18, .int (-1)]))] sz)) 0 0 (va_A [(a0, .inr (0, [.ref a1, .ref a2, .ref a3, .ref a4, .ref a5])), (a2, .inr (2, [.int 0, .ref a8, .ref a9, .ref a10, .ref a11, .ref a12, .int 0, .ref a13, .ref a14, .ref a15, .ref a16, .ref a17, .int 0, .int 0])), (a12, .inl (cL, 8, .inr (.inl (fun _ => 0)))), (a3, .inr (3, [.ref a18, .int (-1)]))] sz) := by
  refine Met.ofW (cc := prog_1_method_15_code) (maxL := 1) (ret := none) (by decide) rfl ?_
  intro p e s m args below meth c s₁ B hml hv
  obtain ⟨rfl, hsz, hP, hK, hD0, hN⟩ := hv
  have hx := B.exec
  have hb := B.bytes
  have hr := B.returns
  have ht : ∀ w ∈ wsA, w.before _ s = true := fun w h => atoms_spec (ws := (Cond.code y_NU_dropPrefixAndWay prog_1_method_15_code 1 none :: wsA)) B.pre w (List.mem_cons_of_mem _ h)
  have hown : s.vm.findClass "NetUnfolder" = some m.cls := findClass_of_methodNamed B.named
  have hlocks := B.notSynchronized
  subst hsz
  have hD := hD0.self (sz := s.heap.size)
  generalize hAe : va_A [(a0, .inr (0, [.ref a1, .ref a2, .ref a3, .ref a4, .ref a5])), (a2, .inr (2, [.int 0, .ref a8, .ref a9, .ref a10, .ref a11, .ref a12, .int 0, .ref a13, .ref a14, .ref a15, .ref a16, .ref a17, .int 0, .int 0])), (a12, .inl (cL, 8, .inr (.inl (fun _ => 0)))), (a3, .inr (3, [.ref a18, .int (-1)]))] s.heap.size = A at hD ⊢
  have hA : ∀ q : Nat, s.heap.size ≤ q → A q := fun q h => by rw [← hAe]; exact Or.inr h
  have hS : va_S A s.heap s.heap [] := va_S.rf
  have hl := lv_entry ([.ref a0]) (n := 1) (Nat.le_of_ble_eq_true rfl)
  rw [lg_entry_eq]
  generalize (lg_sl ([.ref a0]) ++ List.replicate (1 - (lg_sl ([.ref a0])).length) Slot.unset).toArray = ls at hl ⊢
  replace hl : lv_has ls 1 [(0, .ref a0)] := hl
  refine lv_aload_n hx hb d_NU_dropPrefixAndWay_0 rfl (lv_at hl 0 rfl) ?_
  refine va_get (D := (dC, dI)) (ci := 0) (v := .ref a2) (C := "NetUnfolder") (T := T_NU) (N := 5) hx hb ht in_NU hown hK hP 0 rfl rfl 1 (by decide) (ht _ wd_2_37) (fun _ h9 => h9) rfl d_NU_dropPrefixAndWay_1 ?_
  have hPc := hP.sub (ws' := [(a2, .inr (2, [.int 0, .ref a8, .ref a9, .ref a10, .ref a11, .ref a12, .int 0, .ref a13, .ref a14, .ref a15, .ref a16, .ref a17, .int 0, .int 0])), (a12, .inl (cL, 8, .inr (.inl (fun _ => 0))))]) [1, 2] rfl
  have hDc := hD.sub (ws' := [(a2, .inr (2, [.int 0, .ref a8, .ref a9, .ref a10, .ref a11, .ref a12, .int 0, .ref a13, .ref a14, .ref a15, .ref a16, .ref a17, .int 0, .int 0])), (a12, .inl (cL, 8, .inr (.inl (fun _ => 0))))]) [1, 2] (by decide) rfl
  have hFc := va_free (wc := [(a2, .inr (2, [.int 0, .ref a8, .ref a9, .ref a10, .ref a11, .ref a12, .int 0, .ref a13, .ref a14, .ref a15, .ref a16, .ref a17, .int 0, .int 0])), (a12, .inl (cL, 8, .inr (.inl (fun _ => 0))))]) hD hS hA [1, 2] rfl
  refine va_callv (va_runV (C := "NetUnfolder$Prefix") (As := []) (rest := []) ⟨hx, hb, hml, hown, ht⟩ (c_Pf_wipe l dC dI cI cL cZ _ a2 a12 a8 a9 a10 a11 a13 a14 a15 a16 a17 ) (cwV 0 ht (good_V wd_2_60 wd_2_61 wd_2_62 wd_1_3 wd_2_63) rfl rfl rfl (by decide +kernel) ⟨Nat.le_of_ble_eq_true rfl, Nat.le_of_ble_eq_true rfl⟩) ⟨fun a U g mk q => by obtain ⟨q0, q1, qP, qK, qD, qN⟩ := q; exact ⟨q0, q1, qP, va_K.moved (u := U) (U := U.calling g mk a) (Vm.Alike.refl U.vm) qK, qD, NwA.same (u := U) rfl qN⟩, (va_recv (q0 := 1) (ci := 2) hK hP rfl rfl), fun U hU hW => ⟨rfl, by rw [hU], by rw [hU]; exact hPc, va_K.moved hW.alike hK, hDc.weaken (fun _ _ _ _ => trivial), NwA.warm hW hN⟩⟩ rfl rfl hl.1 rfl (lv_room (Nat.le_of_ble_eq_true rfl)) d_NU_dropPrefixAndWay_4 ⟨Nat.le_of_ble_eq_true rfl, Nat.le_of_ble_eq_true rfl⟩) hS (fun q _ h => hFc q h) hFc (fun u t H1 locs ht9 hvm hw2 hB hz1 hk1 hSn => ?_)
  obtain ⟨hP1, hD1⟩ := hB
  rw [ht9] at hP1
  obtain ⟨hPn, hDn⟩ := va_join (wr := [(a0, .inr (0, [.ref a1, .ref a2, .ref a3, .ref a4, .ref a5])), (a3, .inr (3, [.ref a18, .int (-1)]))]) (w1 := [(a2, .inr (2, [.int 0, .ref a8, .ref a9, .ref a10, .ref a11, .ref a12, .int 0, .ref a13, .ref a14, .ref a15, .ref a16, .ref a17, .int 0, .int 0])), (a12, .inl (cL, 8, .inr (.inl (fun _ => 0))))]) hP hD [1, 2] [0, 3] rfl rfl (by decide) (by decide) hk1 hFc hP1 hD1
  replace hP : va_P (dC, dI) clA [(a0, .inr (0, [.ref a1, .ref a2, .ref a3, .ref a4, .ref a5])), (a3, .inr (3, [.ref a18, .int (-1)])), (a2, .inr (2, [.int 0, .ref a8, .ref a9, .ref a10, .ref a11, .ref a12, .int 0, .ref a13, .ref a14, .ref a15, .ref a16, .ref a17, .int 0, .int 0])), (a12, .inl (cL, 8, .inr (.inl (fun _ => 0))))] H1 := hPn
  replace hD : va_D A [(a0, .inr (0, [.ref a1, .ref a2, .ref a3, .ref a4, .ref a5])), (a3, .inr (3, [.ref a18, .int (-1)])), (a2, .inr (2, [.int 0, .ref a8, .ref a9, .ref a10, .ref a11, .ref a12, .int 0, .ref a13, .ref a14, .ref a15, .ref a16, .ref a17, .int 0, .int 0])), (a12, .inl (cL, 8, .inr (.inl (fun _ => 0))))] := hDn
  replace hS := hSn
  clear hPn hDn hSn
  clear hPc hDc hFc hP1 hD1 hk1 hz1 ht9 hvm
  refine W.cs (cells' := 0) (slots' := 0) rfl rfl ?_
  refine lv_aload_n hx hb d_NU_dropPrefixAndWay_7 rfl (lv_at hl 0 rfl) ?_
  refine va_get (D := (dC, dI)) (ci := 0) (v := .ref a3) (C := "NetUnfolder") (T := T_NU) (N := 5) hx hb ht in_NU hown hK hP 0 rfl rfl 2 (by decide) (ht _ wd_2_38) (fun _ h9 => h9) rfl d_NU_dropPrefixAndWay_8 ?_
  have hPc := hP.sub (ws' := [(a3, .inr (3, [.ref a18, .int (-1)]))]) [1] rfl
  have hDc := hD.sub (ws' := [(a3, .inr (3, [.ref a18, .int (-1)]))]) [1] (by decide) rfl
  have hFc := va_free (wc := [(a3, .inr (3, [.ref a18, .int (-1)]))]) hD hS hA [1] rfl
  refine va_callv (va_runV (C := "NetUnfolder$Way") (As := []) (rest := []) ⟨hx, hb, hml, hown, ht⟩ (c_Wa_drop l dC dI cI cL cZ _ a3 a18 ) (cwV 0 ht (good_V wd_2_67 wd_2_68 wd_2_69 wd_1_4 wd_2_70) rfl rfl rfl (by decide +kernel) ⟨Nat.le_of_ble_eq_true rfl, Nat.le_of_ble_eq_true rfl⟩) ⟨fun a U g mk q => by obtain ⟨q0, q1, qP, qK, qD, qN⟩ := q; exact ⟨q0, q1, qP, va_K.moved (u := U) (U := U.calling g mk a) (Vm.Alike.refl U.vm) qK, qD, NwA.same (u := U) rfl qN⟩, (va_recv (q0 := 1) (ci := 3) hK hP rfl rfl), fun U hU hW => ⟨rfl, by rw [hU], by rw [hU]; exact hPc, va_K.moved hW.alike hK, hDc.weaken (fun _ _ _ _ => trivial), NwA.warm hW hN⟩⟩ rfl rfl hl.1 rfl (lv_room (Nat.le_of_ble_eq_true rfl)) d_NU_dropPrefixAndWay_11 ⟨Nat.le_of_ble_eq_true rfl, Nat.le_of_ble_eq_true rfl⟩) hS (fun q _ h => hFc q h) hFc (fun u t H3 locs ht9 hvm hw4 hB hz1 hk1 hSn => ?_)
  obtain ⟨hP1, hD1⟩ := hB
  rw [ht9] at hP1
  obtain ⟨hPn, hDn⟩ := va_join (wr := [(a0, .inr (0, [.ref a1, .ref a2, .ref a3, .ref a4, .ref a5])), (a2, .inr (2, [.int 0, .ref a8, .ref a9, .ref a10, .ref a11, .ref a12, .int 0, .ref a13, .ref a14, .ref a15, .ref a16, .ref a17, .int 0, .int 0])), (a12, .inl (cL, 8, .inr (.inl (fun _ => 0))))]) (w1 := [(a3, .inr (3, [.ref a18, .int (-1)]))]) hP hD [1] [0, 2, 3] rfl rfl (by decide) (by decide) hk1 hFc hP1 hD1
  replace hP : va_P (dC, dI) clA [(a0, .inr (0, [.ref a1, .ref a2, .ref a3, .ref a4, .ref a5])), (a2, .inr (2, [.int 0, .ref a8, .ref a9, .ref a10, .ref a11, .ref a12, .int 0, .ref a13, .ref a14, .ref a15, .ref a16, .ref a17, .int 0, .int 0])), (a12, .inl (cL, 8, .inr (.inl (fun _ => 0)))), (a3, .inr (3, [.ref a18, .int (-1)]))] H3 := hPn
  replace hD : va_D A [(a0, .inr (0, [.ref a1, .ref a2, .ref a3, .ref a4, .ref a5])), (a2, .inr (2, [.int 0, .ref a8, .ref a9, .ref a10, .ref a11, .ref a12, .int 0, .ref a13, .ref a14, .ref a15, .ref a16, .ref a17, .int 0, .int 0])), (a12, .inl (cL, 8, .inr (.inl (fun _ => 0)))), (a3, .inr (3, [.ref a18, .int (-1)]))] := hDn
  replace hS := hSn
  clear hPn hDn hSn
  clear hPc hDc hFc hP1 hD1 hk1 hz1 ht9 hvm
  refine W.cs (cells' := 0) (slots' := 0) rfl rfl ?_
  have hP9 := hP.sub (ws' := [(a0, .inr (0, [.ref a1, .ref a2, .ref a3, .ref a4, .ref a5])), (a2, .inr (2, [.int 0, .ref a8, .ref a9, .ref a10, .ref a11, .ref a12, .int 0, .ref a13, .ref a14, .ref a15, .ref a16, .ref a17, .int 0, .int 0])), (a12, .inl (cL, 8, .inr (.inl (fun _ => 0)))), (a3, .inr (3, [.ref a18, .int (-1)]))]) [0, 1, 2, 3] rfl
  have hD9 := hD.sub (ws' := [(a0, .inr (0, [.ref a1, .ref a2, .ref a3, .ref a4, .ref a5])), (a2, .inr (2, [.int 0, .ref a8, .ref a9, .ref a10, .ref a11, .ref a12, .int 0, .ref a13, .ref a14, .ref a15, .ref a16, .ref a17, .int 0, .int 0])), (a12, .inl (cL, 8, .inr (.inl (fun _ => 0)))), (a3, .inr (3, [.ref a18, .int (-1)]))]) [0, 1, 2, 3] (by decide) rfl
  exact W.vret hx hb hr (fun t ht9 hW => ⟨⟨(), rfl, trivial, by rw [ht9]; exact hP9, hD9⟩, hS.F ht9⟩) hS.2.2 d_NU_dropPrefixAndWay_14

set_option maxHeartbeats 4000000 in
set_option maxRecDepth 100000 in
theorem c_Pf_allConditions (l : Launch) (dC : Nat → ClassId) (dI : Nat → Nat → Nat) (cI cL cZ : ClassId) (sz : Nat) (a2 : Nat) (a8 : Nat) (a9 : Nat) (a10 : Nat) (a11 : Nat) (a12 : Nat) (a13 : Nat) (a14 : Nat) (a15 : Nat) (a16 : Nat) (a17 : Nat) : Met l y_Pf_allConditions (Cond.code y_Pf_allConditions prog_5_method_4_code 1 (some .long) :: wsA) { frames := 0, cells := 0, slots := 0, locals := 0 } (va_Pc [.ref a2] (fun U => U.heap.size = sz ∧ va_P (dC, dI) clA [(a2, .inr (2, [.int 0, .ref a8, .ref a9, .ref a10, .ref a11, .ref a12, .int 0, .ref a13, .ref a14, .ref a15, .ref a16, .ref a17, .int 0, .int 0]))] U.heap ∧ va_K (dC, dI) clA [(cI, .int), (cL, .long), (cZ, .boolean)] U ∧ va_D (fun _ => True) [(a2, .inr (2, [.int 0, .ref a8, .ref a9, .ref a10, .ref a11, .ref a12, .int 0, .ref a13, .ref a14, .ref a15, .ref a16, .ref a17, .int 0, .int 0]))] ∧ NwA U)) (va_Ql (fun r (_ : Unit) => r = 0) (fun _ t => va_P (dC, dI) clA [(a2, .inr (2, [.int 0, .ref a8, .ref a9, .ref a10, .ref a11, .ref a12, .int 0, .ref a13, .ref a14, .ref a15, .ref a16, .ref a17, .int 0, .int 0]))] t.heap ∧ va_D (va_A [(a2, .inr (2, [.int 0, .ref a8, .ref a9, .ref a10, .ref a11, .ref a12, .int 0, .ref a13, .ref a14, .ref a15, .ref a16, .ref a17, .int 0, .int 0]))] sz) [(a2, .inr (2, [.int 0, .ref a8, .ref a9, .ref a10, .ref a11, .ref a12, .int 0, .ref a13, .ref a14, .ref a15, .ref a16, .ref a17, .int 0, .int 0]))]) (va_A [(a2, .inr (2, [.int 0, .ref a8, .ref a9, .ref a10, .ref a11, .ref a12, .int 0, .ref a13, .ref a14, .ref a15, .ref a16, .ref a17, .int 0, .int 0]))] sz)) 0 0 (va_A [(a2, .inr (2, [.int 0, .ref a8, .ref a9, .ref a10, .ref a11, .ref a12, .int 0, .ref a13, .ref a14, .ref a15, .ref a16, .ref a17, .int 0, .int 0]))] sz) := by
  refine Met.ofW (cc := prog_5_method_4_code) (maxL := 1) (ret := (some .long)) (by decide) rfl ?_
  intro p e s m args below meth c s₁ B hml hv
  obtain ⟨rfl, hsz, hP, hK, hD0, hN⟩ := hv
  have hx := B.exec
  have hb := B.bytes
  have hr := B.returns
  have ht : ∀ w ∈ wsA, w.before _ s = true := fun w h => atoms_spec (ws := (Cond.code y_Pf_allConditions prog_5_method_4_code 1 (some .long) :: wsA)) B.pre w (List.mem_cons_of_mem _ h)
  have hown : s.vm.findClass "NetUnfolder$Prefix" = some m.cls := findClass_of_methodNamed B.named
  have hlocks := B.notSynchronized
  subst hsz
  have hD := hD0.self (sz := s.heap.size)
  generalize hAe : va_A [(a2, .inr (2, [.int 0, .ref a8, .ref a9, .ref a10, .ref a11, .ref a12, .int 0, .ref a13, .ref a14, .ref a15, .ref a16, .ref a17, .int 0, .int 0]))] s.heap.size = A at hD ⊢
  have hA : ∀ q : Nat, s.heap.size ≤ q → A q := fun q h => by rw [← hAe]; exact Or.inr h
  have hS : va_S A s.heap s.heap [] := va_S.rf
  have hl := lv_entry ([.ref a2]) (n := 1) (Nat.le_of_ble_eq_true rfl)
  rw [lg_entry_eq]
  generalize (lg_sl ([.ref a2]) ++ List.replicate (1 - (lg_sl ([.ref a2])).length) Slot.unset).toArray = ls at hl ⊢
  replace hl : lv_has ls 1 [(0, .ref a2)] := hl
  refine lv_lconst (v := 1) hx hb d_Pf_allConditions_0 (by decide) ?_
  refine lv_aload_n hx hb d_Pf_allConditions_1 rfl (lv_at hl 0 rfl) ?_
  refine va_get (D := (dC, dI)) (ci := 2) (v := .int 0) (C := "NetUnfolder$Prefix") (T := T_Pf) (N := 14) hx hb ht in_Pf hown hK hP 0 rfl rfl 0 (by decide) (ht _ wd_1_62) (fun _ h9 => h9) rfl d_Pf_allConditions_2 ?_
  refine lv_lshl (v := 1) hx hb d_Pf_allConditions_5 (by decide) ?_
  refine lv_lconst (v := 1) hx hb d_Pf_allConditions_6 (by decide) ?_
  refine lv_lsub hx hb d_Pf_allConditions_7 ?_
  refine ci_l (y := 0) (by decide) ?_
  have hP9 := hP.sub (ws' := [(a2, .inr (2, [.int 0, .ref a8, .ref a9, .ref a10, .ref a11, .ref a12, .int 0, .ref a13, .ref a14, .ref a15, .ref a16, .ref a17, .int 0, .int 0]))]) [0] rfl
  have hD9 := hD.sub (ws' := [(a2, .inr (2, [.int 0, .ref a8, .ref a9, .ref a10, .ref a11, .ref a12, .int 0, .ref a13, .ref a14, .ref a15, .ref a16, .ref a17, .int 0, .int 0]))]) [0] (by decide) rfl
  exact W.lret (v := 0) hx hb hr (fun t ht9 hW => ⟨⟨0, (), rfl, rfl, by rw [ht9]; exact hP9, hD9⟩, hS.F ht9⟩) hS.2.2 d_Pf_allConditions_8

set_option maxHeartbeats 4000000 in
set_option maxRecDepth 100000 in
theorem c_Pf_addConditions (l : Launch) (dC : Nat → ClassId) (dI : Nat → Nat → Nat) (cI cL cZ : ClassId) (sz : Nat) (a2 : Nat) (a8 : Nat) (a9 : Nat) (a10 : Nat) (a11 : Nat) (a12 : Nat) (a13 : Nat) (a14 : Nat) (a15 : Nat) (a16 : Nat) (a17 : Nat) : Met l y_Pf_addConditions (Cond.code y_Pf_addConditions prog_5_method_5_code 10 (some .long) :: wsA) { frames := 1, cells := 0, slots := 0, locals := 22 } (va_Pc [.ref a2, .int 0, .int (-1), .long 0] (fun U => U.heap.size = sz ∧ va_P (dC, dI) clA [(a2, .inr (2, [.int 0, .ref a8, .ref a9, .ref a10, .ref a11, .ref a12, .int 0, .ref a13, .ref a14, .ref a15, .ref a16, .ref a17, .int 0, .int 0]))] U.heap ∧ va_K (dC, dI) clA [(cI, .int), (cL, .long), (cZ, .boolean)] U ∧ va_D (fun _ => True) [(a2, .inr (2, [.int 0, .ref a8, .ref a9, .ref a10, .ref a11, .ref a12, .int 0, .ref a13, .ref a14, .ref a15, .ref a16, .ref a17, .int 0, .int 0]))] ∧ NwA U)) (va_Ql (fun r (_ : Unit) => r = 0) (fun _ t => va_P (dC, dI) clA [(a2, .inr (2, [.int 0, .ref a8, .ref a9, .ref a10, .ref a11, .ref a12, .int 0, .ref a13, .ref a14, .ref a15, .ref a16, .ref a17, .int 0, .int 0]))] t.heap ∧ va_D (va_A [(a2, .inr (2, [.int 0, .ref a8, .ref a9, .ref a10, .ref a11, .ref a12, .int 0, .ref a13, .ref a14, .ref a15, .ref a16, .ref a17, .int 0, .int 0]))] sz) [(a2, .inr (2, [.int 0, .ref a8, .ref a9, .ref a10, .ref a11, .ref a12, .int 0, .ref a13, .ref a14, .ref a15, .ref a16, .ref a17, .int 0, .int 0]))]) (va_A [(a2, .inr (2, [.int 0, .ref a8, .ref a9, .ref a10, .ref a11, .ref a12, .int 0, .ref a13, .ref a14, .ref a15, .ref a16, .ref a17, .int 0, .int 0]))] sz)) 0 0 (va_A [(a2, .inr (2, [.int 0, .ref a8, .ref a9, .ref a10, .ref a11, .ref a12, .int 0, .ref a13, .ref a14, .ref a15, .ref a16, .ref a17, .int 0, .int 0]))] sz) := by
  refine Met.ofW (cc := prog_5_method_5_code) (maxL := 10) (ret := (some .long)) (by decide) rfl ?_
  intro p e s m args below meth c s₁ B hml hv
  obtain ⟨rfl, hsz, hP, hK, hD0, hN⟩ := hv
  have hx := B.exec
  have hb := B.bytes
  have hr := B.returns
  have ht : ∀ w ∈ wsA, w.before _ s = true := fun w h => atoms_spec (ws := (Cond.code y_Pf_addConditions prog_5_method_5_code 10 (some .long) :: wsA)) B.pre w (List.mem_cons_of_mem _ h)
  have hown : s.vm.findClass "NetUnfolder$Prefix" = some m.cls := findClass_of_methodNamed B.named
  have hlocks := B.notSynchronized
  subst hsz
  have hD := hD0.self (sz := s.heap.size)
  generalize hAe : va_A [(a2, .inr (2, [.int 0, .ref a8, .ref a9, .ref a10, .ref a11, .ref a12, .int 0, .ref a13, .ref a14, .ref a15, .ref a16, .ref a17, .int 0, .int 0]))] s.heap.size = A at hD ⊢
  have hA : ∀ q : Nat, s.heap.size ≤ q → A q := fun q h => by rw [← hAe]; exact Or.inr h
  have hS : va_S A s.heap s.heap [] := va_S.rf
  have hl := lv_entry ([.ref a2, .int 0, .int (-1), .long 0]) (n := 10) (Nat.le_of_ble_eq_true rfl)
  rw [lg_entry_eq]
  generalize (lg_sl ([.ref a2, .int 0, .int (-1), .long 0]) ++ List.replicate (10 - (lg_sl ([.ref a2, .int 0, .int (-1), .long 0])).length) Slot.unset).toArray = ls at hl ⊢
  replace hl : lv_has ls 10 [(0, .ref a2), (1, .int 0), (2, .int (-1)), (3, .long 0)] := hl
  refine lv_aload_n hx hb d_Pf_addConditions_0 rfl (lv_at hl 0 rfl) ?_
  have hPc := hP.sub (ws' := [(a2, .inr (2, [.int 0, .ref a8, .ref a9, .ref a10, .ref a11, .ref a12, .int 0, .ref a13, .ref a14, .ref a15, .ref a16, .ref a17, .int 0, .int 0]))]) [0] rfl
  have hDc := hD.sub (ws' := [(a2, .inr (2, [.int 0, .ref a8, .ref a9, .ref a10, .ref a11, .ref a12, .int 0, .ref a13, .ref a14, .ref a15, .ref a16, .ref a17, .int 0, .int 0]))]) [0] (by decide) rfl
  have hFc := va_free (wc := [(a2, .inr (2, [.int 0, .ref a8, .ref a9, .ref a10, .ref a11, .ref a12, .int 0, .ref a13, .ref a14, .ref a15, .ref a16, .ref a17, .int 0, .int 0]))]) hD hS hA [0] rfl
  refine va_calll (va_runV (C := "NetUnfolder$Prefix") (As := []) (rest := []) ⟨hx, hb, hml, hown, ht⟩ (c_Pf_allConditions l dC dI cI cL cZ _ a2 a8 a9 a10 a11 a12 a13 a14 a15 a16 a17 ) (cwV 0 ht (good_V wd_2_96 wd_2_97 wd_2_98 wd_1_3 wd_2_99) rfl rfl rfl (by decide +kernel) ⟨Nat.le_of_ble_eq_true rfl, Nat.le_of_ble_eq_true rfl⟩) ⟨fun a U g mk q => by obtain ⟨q0, q1, qP, qK, qD, qN⟩ := q; exact ⟨q0, q1, qP, va_K.moved (u := U) (U := U.calling g mk a) (Vm.Alike.refl U.vm) qK, qD, NwA.same (u := U) rfl qN⟩, (va_recv (q0 := 0) (ci := 2) hK hP rfl rfl), fun U hU hW => ⟨rfl, by rw [hU], by rw [hU]; exact hPc, va_K.moved hW.alike hK, hDc.weaken (fun _ _ _ _ => trivial), NwA.warm hW hN⟩⟩ rfl rfl hl.1 rfl (lv_room (Nat.le_of_ble_eq_true rfl)) d_Pf_addConditions_1 ⟨Nat.le_of_ble_eq_true rfl, Nat.le_of_ble_eq_true rfl⟩) hS (fun q _ h => hFc q h) hFc (fun r9 u t H1 locs ht9 hvm hw2 hB hz1 hk1 hSn => ?_)
  obtain ⟨hP1, hD1⟩ := hB
  rw [ht9] at hP1
  obtain ⟨hPn, hDn⟩ := va_join (wr := []) (w1 := [(a2, .inr (2, [.int 0, .ref a8, .ref a9, .ref a10, .ref a11, .ref a12, .int 0, .ref a13, .ref a14, .ref a15, .ref a16, .ref a17, .int 0, .int 0]))]) hP hD [0] [] rfl rfl (by decide) (by decide) hk1 hFc hP1 hD1
  replace hP : va_P (dC, dI) clA [(a2, .inr (2, [.int 0, .ref a8, .ref a9, .ref a10, .ref a11, .ref a12, .int 0, .ref a13, .ref a14, .ref a15, .ref a16, .ref a17, .int 0, .int 0]))] H1 := hPn
  replace hD : va_D A [(a2, .inr (2, [.int 0, .ref a8, .ref a9, .ref a10, .ref a11, .ref a12, .int 0, .ref a13, .ref a14, .ref a15, .ref a16, .ref a17, .int 0, .int 0]))] := hDn
  replace hS := hSn
  clear hPn hDn hSn
  clear hPc hDc hFc hP1 hD1 hk1 hz1 ht9 hvm
  refine W.cs (cells' := 0) (slots' := 0) rfl rfl ?_
  subst hw2
  refine lv_lstore (lv' := [(5, .long 0), (0, .ref a2), (1, .int 0), (2, .int (-1)), (3, .long 0)]) hx hb d_Pf_addConditions_4 hl (by decide) rfl (fun ls hln => ?_)
  replace hl : lv_has ls 10 [(5, .long 0), (0, .ref a2), (1, .int 0), (2, .int (-1)), (3, .long 0)] := hln
  clear hln
  refine lv_iconst (v := 0) hx hb d_Pf_addConditions_6 (by decide) ?_
  refine lv_istore (lv' := [(7, .int 0), (5, .long 0), (0, .ref a2), (1, .int 0), (2, .int (-1)), (3, .long 0)]) hx hb d_Pf_addConditions_7 hl (by decide) rfl (fun ls hln => ?_)
  replace hl : lv_has ls 10 [(7, .int 0), (5, .long 0), (0, .ref a2), (1, .int 0), (2, .int (-1)), (3, .long 0)] := hln
  clear hln
  refine lv_iload hx hb d_Pf_addConditions_9 (lv_at hl 0 rfl) ?_
  refine lv_bipush (v := 8) hx hb d_Pf_addConditions_11 (by decide) ?_
  refine lv_icmp_ge (tgt := 98) hx hb d_Pf_addConditions_13 (by decide) (fun h => absurd h (by decide)) (fun _ => ?_)
  refine lv_iload_n hx hb d_Pf_addConditions_16 rfl (lv_at hl 3 rfl) ?_
  refine lv_i2l (v := 0) hx hb d_Pf_addConditions_17 (by decide) ?_
  refine lv_iload hx hb d_Pf_addConditions_18 (lv_at hl 0 rfl) ?_
  have hPc : va_P (dC, dI) clA [] _ := pu_P (H := H1)
  have hDc : va_D (fun _ => True) [] := pu_D
  have hFc := pu_free hS hA
  refine va_calli (va_runSN (As := [.long 0, .int 0]) (rest := []) ⟨hx, hb, hml, hown, ht⟩ (c_NU_has_0_0 l dC dI cI cL cZ _  ) ⟨va_cnB 2 ht (goodA wd_2_102) rfl rfl rfl hN.2.2.2.2.1 (ht _ wd_1_1) (by decide +kernel) ⟨Nat.le_of_ble_eq_true rfl, Nat.le_of_ble_eq_true rfl⟩, ht _ wd_2_101, trivial⟩ ⟨fun a U g mk q => by obtain ⟨q0, q1, qP, qK, qD, qN⟩ := q; exact ⟨q0, q1, qP, va_K.moved (u := U) (U := U.calling g mk a) (Vm.Alike.refl U.vm) qK, qD, NwA.same (u := U) rfl qN⟩, fun U hU hW => ⟨rfl, by rw [hU], by rw [hU]; exact hPc, va_K.moved hW.alike hK, hDc.weaken (fun _ _ _ _ => trivial), NwA.warm hW hN⟩⟩ rfl rfl hl.1 rfl (lv_room (Nat.le_of_ble_eq_true rfl)) d_Pf_addConditions_20 ⟨Nat.le_of_ble_eq_true rfl, Nat.le_of_ble_eq_true rfl⟩) hS (fun q _ h => hFc q h) hFc (fun r9 u t H3 locs ht9 hvm hw4 hB hz1 hk1 hSn => ?_)
  replace hP : va_P (dC, dI) clA [(a2, .inr (2, [.int 0, .ref a8, .ref a9, .ref a10, .ref a11, .ref a12, .int 0, .ref a13, .ref a14, .ref a15, .ref a16, .ref a17, .int 0, .int 0]))] H3 := pu_keep hP hk1
  replace hS := hSn
  clear hSn hPc hDc hFc hk1 hz1 ht9 hvm hB
  refine W.cs (cells' := 0) (slots' := 0) rfl rfl ?_
  subst hw4
  refine lv_if_eq (tgt := 92) hx hb d_Pf_addConditions_23 (by decide) (fun _ => ?_) (fun h => (h (by decide)).elim)
  refine lv_iinc (k := 0) (v := 1) (lv' := [(7, .int 1), (5, .long 0), (0, .ref a2), (1, .int 0), (2, .int (-1)), (3, .long 0)]) hx hb d_Pf_addConditions_92 hl rfl (by decide) (by decide) rfl (fun ls hln => ?_)
  replace hl : lv_has ls 10 [(7, .int 1), (5, .long 0), (0, .ref a2), (1, .int 0), (2, .int (-1)), (3, .long 0)] := hln
  clear hln
  refine lv_goto (tgt := 9) hx hb d_Pf_addConditions_95 (by decide) ?_
  refine lv_iload hx hb d_Pf_addConditions_9 (lv_at hl 0 rfl) ?_
  refine lv_bipush (v := 8) hx hb d_Pf_addConditions_11 (by decide) ?_
  refine lv_icmp_ge (tgt := 98) hx hb d_Pf_addConditions_13 (by decide) (fun h => absurd h (by decide)) (fun _ => ?_)
  refine lv_iload_n hx hb d_Pf_addConditions_16 rfl (lv_at hl 3 rfl) ?_
  refine lv_i2l (v := 0) hx hb d_Pf_addConditions_17 (by decide) ?_
  refine lv_iload hx hb d_Pf_addConditions_18 (lv_at hl 0 rfl) ?_
  have hPc : va_P (dC, dI) clA [] _ := pu_P (H := H3)
  have hDc : va_D (fun _ => True) [] := pu_D
  have hFc := pu_free hS hA
  refine va_calli (va_runSN (As := [.long 0, .int 1]) (rest := []) ⟨hx, hb, hml, hown, ht⟩ (c_NU_has_0_1 l dC dI cI cL cZ _  ) ⟨va_cnB 2 ht (goodA wd_2_102) rfl rfl rfl hN.2.2.2.2.1 (ht _ wd_1_1) (by decide +kernel) ⟨Nat.le_of_ble_eq_true rfl, Nat.le_of_ble_eq_true rfl⟩, ht _ wd_2_101, trivial⟩ ⟨fun a U g mk q => by obtain ⟨q0, q1, qP, qK, qD, qN⟩ := q; exact ⟨q0, q1, qP, va_K.moved (u := U) (U := U.calling g mk a) (Vm.Alike.refl U.vm) qK, qD, NwA.same (u := U) rfl qN⟩, fun U hU hW => ⟨rfl, by rw [hU], by rw [hU]; exact hPc, va_K.moved hW.alike hK, hDc.weaken (fun _ _ _ _ => trivial), NwA.warm hW hN⟩⟩ rfl rfl hl.1 rfl (lv_room (Nat.le_of_ble_eq_true rfl)) d_Pf_addConditions_20 ⟨Nat.le_of_ble_eq_true rfl, Nat.le_of_ble_eq_true rfl⟩) hS (fun q _ h => hFc q h) hFc (fun r9 u t H5 locs ht9 hvm hw6 hB hz1 hk1 hSn => ?_)
  replace hP : va_P (dC, dI) clA [(a2, .inr (2, [.int 0, .ref a8, .ref a9, .ref a10, .ref a11, .ref a12, .int 0, .ref a13, .ref a14, .ref a15, .ref a16, .ref a17, .int 0, .int 0]))] H5 := pu_keep hP hk1
  replace hS := hSn
  clear hSn hPc hDc hFc hk1 hz1 ht9 hvm hB
  refine W.cs (cells' := 0) (slots' := 0) rfl rfl ?_
  subst hw6
  refine lv_if_eq (tgt := 92) hx hb d_Pf_addConditions_23 (by decide) (fun _ => ?_) (fun h => (h (by decide)).elim)
  refine lv_iinc (k := 0) (v := 2) (lv' := [(7, .int 2), (5, .long 0), (0, .ref a2), (1, .int 0), (2, .int (-1)), (3, .long 0)]) hx hb d_Pf_addConditions_92 hl rfl (by decide) (by decide) rfl (fun ls hln => ?_)
  replace hl : lv_has ls 10 [(7, .int 2), (5, .long 0), (0, .ref a2), (1, .int 0), (2, .int (-1)), (3, .long 0)] := hln
  clear hln
  refine lv_goto (tgt := 9) hx hb d_Pf_addConditions_95 (by decide) ?_
  refine lv_iload hx hb d_Pf_addConditions_9 (lv_at hl 0 rfl) ?_
  refine lv_bipush (v := 8) hx hb d_Pf_addConditions_11 (by decide) ?_
  refine lv_icmp_ge (tgt := 98) hx hb d_Pf_addConditions_13 (by decide) (fun h => absurd h (by decide)) (fun _ => ?_)
  refine lv_iload_n hx hb d_Pf_addConditions_16 rfl (lv_at hl 3 rfl) ?_
  refine lv_i2l (v := 0) hx hb d_Pf_addConditions_17 (by decide) ?_
  refine lv_iload hx hb d_Pf_addConditions_18 (lv_at hl 0 rfl) ?_
  have hPc : va_P (dC, dI) clA [] _ := pu_P (H := H5)
  have hDc : va_D (fun _ => True) [] := pu_D
  have hFc := pu_free hS hA
  refine va_calli (va_runSN (As := [.long 0, .int 2]) (rest := []) ⟨hx, hb, hml, hown, ht⟩ (c_NU_has_0_2 l dC dI cI cL cZ _  ) ⟨va_cnB 2 ht (goodA wd_2_102) rfl rfl rfl hN.2.2.2.2.1 (ht _ wd_1_1) (by decide +kernel) ⟨Nat.le_of_ble_eq_true rfl, Nat.le_of_ble_eq_true rfl⟩, ht _ wd_2_101, trivial⟩ ⟨fun a U g mk q => by obtain ⟨q0, q1, qP, qK, qD, qN⟩ := q; exact ⟨q0, q1, qP, va_K.moved (u := U) (U := U.calling g mk a) (Vm.Alike.refl U.vm) qK, qD, NwA.same (u := U) rfl qN⟩, fun U hU hW => ⟨rfl, by rw [hU], by rw [hU]; exact hPc, va_K.moved hW.alike hK, hDc.weaken (fun _ _ _ _ => trivial), NwA.warm hW hN⟩⟩ rfl rfl hl.1 rfl (lv_room (Nat.le_of_ble_eq_true rfl)) d_Pf_addConditions_20 ⟨Nat.le_of_ble_eq_true rfl, Nat.le_of_ble_eq_true rfl⟩) hS (fun q _ h => hFc q h) hFc (fun r9 u t H7 locs ht9 hvm hw8 hB hz1 hk1 hSn => ?_)
  replace hP : va_P (dC, dI) clA [(a2, .inr (2, [.int 0, .ref a8, .ref a9, .ref a10, .ref a11, .ref a12, .int 0, .ref a13, .ref a14, .ref a15, .ref a16, .ref a17, .int 0, .int 0]))] H7 := pu_keep hP hk1
  replace hS := hSn
  clear hSn hPc hDc hFc hk1 hz1 ht9 hvm hB
  refine W.cs (cells' := 0) (slots' := 0) rfl rfl ?_
  subst hw8
  refine lv_if_eq (tgt := 92) hx hb d_Pf_addConditions_23 (by decide) (fun _ => ?_) (fun h => (h (by decide)).elim)
  refine lv_iinc (k := 0) (v := 3) (lv' := [(7, .int 3), (5, .long 0), (0, .ref a2), (1, .int 0), (2, .int (-1)), (3, .long 0)]) hx hb d_Pf_addConditions_92 hl rfl (by decide) (by decide) rfl (fun ls hln => ?_)
  replace hl : lv_has ls 10 [(7, .int 3), (5, .long 0), (0, .ref a2), (1, .int 0), (2, .int (-1)), (3, .long 0)] := hln
  clear hln
  refine lv_goto (tgt := 9) hx hb d_Pf_addConditions_95 (by decide) ?_
  refine lv_iload hx hb d_Pf_addConditions_9 (lv_at hl 0 rfl) ?_
  refine lv_bipush (v := 8) hx hb d_Pf_addConditions_11 (by decide) ?_
  refine lv_icmp_ge (tgt := 98) hx hb d_Pf_addConditions_13 (by decide) (fun h => absurd h (by decide)) (fun _ => ?_)
  refine lv_iload_n hx hb d_Pf_addConditions_16 rfl (lv_at hl 3 rfl) ?_
  refine lv_i2l (v := 0) hx hb d_Pf_addConditions_17 (by decide) ?_
  refine lv_iload hx hb d_Pf_addConditions_18 (lv_at hl 0 rfl) ?_
  have hPc : va_P (dC, dI) clA [] _ := pu_P (H := H7)
  have hDc : va_D (fun _ => True) [] := pu_D
  have hFc := pu_free hS hA
  refine va_calli (va_runSN (As := [.long 0, .int 3]) (rest := []) ⟨hx, hb, hml, hown, ht⟩ (c_NU_has_0_3 l dC dI cI cL cZ _  ) ⟨va_cnB 2 ht (goodA wd_2_102) rfl rfl rfl hN.2.2.2.2.1 (ht _ wd_1_1) (by decide +kernel) ⟨Nat.le_of_ble_eq_true rfl, Nat.le_of_ble_eq_true rfl⟩, ht _ wd_2_101, trivial⟩ ⟨fun a U g mk q => by obtain ⟨q0, q1, qP, qK, qD, qN⟩ := q; exact ⟨q0, q1, qP, va_K.moved (u := U) (U := U.calling g mk a) (Vm.Alike.refl U.vm) qK, qD, NwA.same (u := U) rfl qN⟩, fun U hU hW => ⟨rfl, by rw [hU], by rw [hU]; exact hPc, va_K.moved hW.alike hK, hDc.weaken (fun _ _ _ _ => trivial), NwA.warm hW hN⟩⟩ rfl rfl hl.1 rfl (lv_room (Nat.le_of_ble_eq_true rfl)) d_Pf_addConditions_20 ⟨Nat.le_of_ble_eq_true rfl, Nat.le_of_ble_eq_true rfl⟩) hS (fun q _ h => hFc q h) hFc (fun r9 u t H9 locs ht9 hvm hw10 hB hz1 hk1 hSn => ?_)
  replace hP : va_P (dC, dI) clA [(a2, .inr (2, [.int 0, .ref a8, .ref a9, .ref a10, .ref a11, .ref a12, .int 0, .ref a13, .ref a14, .ref a15, .ref a16, .ref a17, .int 0, .int 0]))] H9 := pu_keep hP hk1
  replace hS := hSn
  clear hSn hPc hDc hFc hk1 hz1 ht9 hvm hB
  refine W.cs (cells' := 0) (slots' := 0) rfl rfl ?_
  subst hw10
  refine lv_if_eq (tgt := 92) hx hb d_Pf_addConditions_23 (by decide) (fun _ => ?_) (fun h => (h (by decide)).elim)
  refine lv_iinc (k := 0) (v := 4) (lv' := [(7, .int 4), (5, .long 0), (0, .ref a2), (1, .int 0), (2, .int (-1)), (3, .long 0)]) hx hb d_Pf_addConditions_92 hl rfl (by decide) (by decide) rfl (fun ls hln => ?_)
  replace hl : lv_has ls 10 [(7, .int 4), (5, .long 0), (0, .ref a2), (1, .int 0), (2, .int (-1)), (3, .long 0)] := hln
  clear hln
  refine lv_goto (tgt := 9) hx hb d_Pf_addConditions_95 (by decide) ?_
  refine lv_iload hx hb d_Pf_addConditions_9 (lv_at hl 0 rfl) ?_
  refine lv_bipush (v := 8) hx hb d_Pf_addConditions_11 (by decide) ?_
  refine lv_icmp_ge (tgt := 98) hx hb d_Pf_addConditions_13 (by decide) (fun h => absurd h (by decide)) (fun _ => ?_)
  refine lv_iload_n hx hb d_Pf_addConditions_16 rfl (lv_at hl 3 rfl) ?_
  refine lv_i2l (v := 0) hx hb d_Pf_addConditions_17 (by decide) ?_
  refine lv_iload hx hb d_Pf_addConditions_18 (lv_at hl 0 rfl) ?_
  have hPc : va_P (dC, dI) clA [] _ := pu_P (H := H9)
  have hDc : va_D (fun _ => True) [] := pu_D
  have hFc := pu_free hS hA
  refine va_calli (va_runSN (As := [.long 0, .int 4]) (rest := []) ⟨hx, hb, hml, hown, ht⟩ (c_NU_has_0_4 l dC dI cI cL cZ _  ) ⟨va_cnB 2 ht (goodA wd_2_102) rfl rfl rfl hN.2.2.2.2.1 (ht _ wd_1_1) (by decide +kernel) ⟨Nat.le_of_ble_eq_true rfl, Nat.le_of_ble_eq_true rfl⟩, ht _ wd_2_101, trivial⟩ ⟨fun a U g mk q => by obtain ⟨q0, q1, qP, qK, qD, qN⟩ := q; exact ⟨q0, q1, qP, va_K.moved (u := U) (U := U.calling g mk a) (Vm.Alike.refl U.vm) qK, qD, NwA.same (u := U) rfl qN⟩, fun U hU hW => ⟨rfl, by rw [hU], by rw [hU]; exact hPc, va_K.moved hW.alike hK, hDc.weaken (fun _ _ _ _ => trivial), NwA.warm hW hN⟩⟩ rfl rfl hl.1 rfl (lv_room (Nat.le_of_ble_eq_true rfl)) d_Pf_addConditions_20 ⟨Nat.le_of_ble_eq_true rfl, Nat.le_of_ble_eq_true rfl⟩) hS (fun q _ h => hFc q h) hFc (fun r9 u t H11 locs ht9 hvm hw12 hB hz1 hk1 hSn => ?_)
  replace hP : va_P (dC, dI) clA [(a2, .inr (2, [.int 0, .ref a8, .ref a9, .ref a10, .ref a11, .ref a12, .int 0, .ref a13, .ref a14, .ref a15, .ref a16, .ref a17, .int 0, .int 0]))] H11 := pu_keep hP hk1
  replace hS := hSn
  clear hSn hPc hDc hFc hk1 hz1 ht9 hvm hB
  refine W.cs (cells' := 0) (slots' := 0) rfl rfl ?_
  subst hw12
  refine lv_if_eq (tgt := 92) hx hb d_Pf_addConditions_23 (by decide) (fun _ => ?_) (fun h => (h (by decide)).elim)
  refine lv_iinc (k := 0) (v := 5) (lv' := [(7, .int 5), (5, .long 0), (0, .ref a2), (1, .int 0), (2, .int (-1)), (3, .long 0)]) hx hb d_Pf_addConditions_92 hl rfl (by decide) (by decide) rfl (fun ls hln => ?_)
  replace hl : lv_has ls 10 [(7, .int 5), (5, .long 0), (0, .ref a2), (1, .int 0), (2, .int (-1)), (3, .long 0)] := hln
  clear hln
  refine lv_goto (tgt := 9) hx hb d_Pf_addConditions_95 (by decide) ?_
  refine lv_iload hx hb d_Pf_addConditions_9 (lv_at hl 0 rfl) ?_
  refine lv_bipush (v := 8) hx hb d_Pf_addConditions_11 (by decide) ?_
  refine lv_icmp_ge (tgt := 98) hx hb d_Pf_addConditions_13 (by decide) (fun h => absurd h (by decide)) (fun _ => ?_)
  refine lv_iload_n hx hb d_Pf_addConditions_16 rfl (lv_at hl 3 rfl) ?_
  refine lv_i2l (v := 0) hx hb d_Pf_addConditions_17 (by decide) ?_
  refine lv_iload hx hb d_Pf_addConditions_18 (lv_at hl 0 rfl) ?_
  have hPc : va_P (dC, dI) clA [] _ := pu_P (H := H11)
  have hDc : va_D (fun _ => True) [] := pu_D
  have hFc := pu_free hS hA
  refine va_calli (va_runSN (As := [.long 0, .int 5]) (rest := []) ⟨hx, hb, hml, hown, ht⟩ (c_NU_has_0_5 l dC dI cI cL cZ _  ) ⟨va_cnB 2 ht (goodA wd_2_102) rfl rfl rfl hN.2.2.2.2.1 (ht _ wd_1_1) (by decide +kernel) ⟨Nat.le_of_ble_eq_true rfl, Nat.le_of_ble_eq_true rfl⟩, ht _ wd_2_101, trivial⟩ ⟨fun a U g mk q => by obtain ⟨q0, q1, qP, qK, qD, qN⟩ := q; exact ⟨q0, q1, qP, va_K.moved (u := U) (U := U.calling g mk a) (Vm.Alike.refl U.vm) qK, qD, NwA.same (u := U) rfl qN⟩, fun U hU hW => ⟨rfl, by rw [hU], by rw [hU]; exact hPc, va_K.moved hW.alike hK, hDc.weaken (fun _ _ _ _ => trivial), NwA.warm hW hN⟩⟩ rfl rfl hl.1 rfl (lv_room (Nat.le_of_ble_eq_true rfl)) d_Pf_addConditions_20 ⟨Nat.le_of_ble_eq_true rfl, Nat.le_of_ble_eq_true rfl⟩) hS (fun q _ h => hFc q h) hFc (fun r9 u t H13 locs ht9 hvm hw14 hB hz1 hk1 hSn => ?_)
  replace hP : va_P (dC, dI) clA [(a2, .inr (2, [.int 0, .ref a8, .ref a9, .ref a10, .ref a11, .ref a12, .int 0, .ref a13, .ref a14, .ref a15, .ref a16, .ref a17, .int 0, .int 0]))] H13 := pu_keep hP hk1
  replace hS := hSn
  clear hSn hPc hDc hFc hk1 hz1 ht9 hvm hB
  refine W.cs (cells' := 0) (slots' := 0) rfl rfl ?_
  subst hw14
  refine lv_if_eq (tgt := 92) hx hb d_Pf_addConditions_23 (by decide) (fun _ => ?_) (fun h => (h (by decide)).elim)
  refine lv_iinc (k := 0) (v := 6) (lv' := [(7, .int 6), (5, .long 0), (0, .ref a2), (1, .int 0), (2, .int (-1)), (3, .long 0)]) hx hb d_Pf_addConditions_92 hl rfl (by decide) (by decide) rfl (fun ls hln => ?_)
  replace hl : lv_has ls 10 [(7, .int 6), (5, .long 0), (0, .ref a2), (1, .int 0), (2, .int (-1)), (3, .long 0)] := hln
  clear hln
  refine lv_goto (tgt := 9) hx hb d_Pf_addConditions_95 (by decide) ?_
  refine lv_iload hx hb d_Pf_addConditions_9 (lv_at hl 0 rfl) ?_
  refine lv_bipush (v := 8) hx hb d_Pf_addConditions_11 (by decide) ?_
  refine lv_icmp_ge (tgt := 98) hx hb d_Pf_addConditions_13 (by decide) (fun h => absurd h (by decide)) (fun _ => ?_)
  refine lv_iload_n hx hb d_Pf_addConditions_16 rfl (lv_at hl 3 rfl) ?_
  refine lv_i2l (v := 0) hx hb d_Pf_addConditions_17 (by decide) ?_
  refine lv_iload hx hb d_Pf_addConditions_18 (lv_at hl 0 rfl) ?_
  have hPc : va_P (dC, dI) clA [] _ := pu_P (H := H13)
  have hDc : va_D (fun _ => True) [] := pu_D
  have hFc := pu_free hS hA
  refine va_calli (va_runSN (As := [.long 0, .int 6]) (rest := []) ⟨hx, hb, hml, hown, ht⟩ (c_NU_has_0_6 l dC dI cI cL cZ _  ) ⟨va_cnB 2 ht (goodA wd_2_102) rfl rfl rfl hN.2.2.2.2.1 (ht _ wd_1_1) (by decide +kernel) ⟨Nat.le_of_ble_eq_true rfl, Nat.le_of_ble_eq_true rfl⟩, ht _ wd_2_101, trivial⟩ ⟨fun a U g mk q => by obtain ⟨q0, q1, qP, qK, qD, qN⟩ := q; exact ⟨q0, q1, qP, va_K.moved (u := U) (U := U.calling g mk a) (Vm.Alike.refl U.vm) qK, qD, NwA.same (u := U) rfl qN⟩, fun U hU hW => ⟨rfl, by rw [hU], by rw [hU]; exact hPc, va_K.moved hW.alike hK, hDc.weaken (fun _ _ _ _ => trivial), NwA.warm hW hN⟩⟩ rfl rfl hl.1 rfl (lv_room (Nat.le_of_ble_eq_true rfl)) d_Pf_addConditions_20 ⟨Nat.le_of_ble_eq_true rfl, Nat.le_of_ble_eq_true rfl⟩) hS (fun q _ h => hFc q h) hFc (fun r9 u t H15 locs ht9 hvm hw16 hB hz1 hk1 hSn => ?_)
  replace hP : va_P (dC, dI) clA [(a2, .inr (2, [.int 0, .ref a8, .ref a9, .ref a10, .ref a11, .ref a12, .int 0, .ref a13, .ref a14, .ref a15, .ref a16, .ref a17, .int 0, .int 0]))] H15 := pu_keep hP hk1
  replace hS := hSn
  clear hSn hPc hDc hFc hk1 hz1 ht9 hvm hB
  refine W.cs (cells' := 0) (slots' := 0) rfl rfl ?_
  subst hw16
  refine lv_if_eq (tgt := 92) hx hb d_Pf_addConditions_23 (by decide) (fun _ => ?_) (fun h => (h (by decide)).elim)
  refine lv_iinc (k := 0) (v := 7) (lv' := [(7, .int 7), (5, .long 0), (0, .ref a2), (1, .int 0), (2, .int (-1)), (3, .long 0)]) hx hb d_Pf_addConditions_92 hl rfl (by decide) (by decide) rfl (fun ls hln => ?_)
  replace hl : lv_has ls 10 [(7, .int 7), (5, .long 0), (0, .ref a2), (1, .int 0), (2, .int (-1)), (3, .long 0)] := hln
  clear hln
  refine lv_goto (tgt := 9) hx hb d_Pf_addConditions_95 (by decide) ?_
  refine lv_iload hx hb d_Pf_addConditions_9 (lv_at hl 0 rfl) ?_
  refine lv_bipush (v := 8) hx hb d_Pf_addConditions_11 (by decide) ?_
  refine lv_icmp_ge (tgt := 98) hx hb d_Pf_addConditions_13 (by decide) (fun h => absurd h (by decide)) (fun _ => ?_)
  refine lv_iload_n hx hb d_Pf_addConditions_16 rfl (lv_at hl 3 rfl) ?_
  refine lv_i2l (v := 0) hx hb d_Pf_addConditions_17 (by decide) ?_
  refine lv_iload hx hb d_Pf_addConditions_18 (lv_at hl 0 rfl) ?_
  have hPc : va_P (dC, dI) clA [] _ := pu_P (H := H15)
  have hDc : va_D (fun _ => True) [] := pu_D
  have hFc := pu_free hS hA
  refine va_calli (va_runSN (As := [.long 0, .int 7]) (rest := []) ⟨hx, hb, hml, hown, ht⟩ (c_NU_has_0_7 l dC dI cI cL cZ _  ) ⟨va_cnB 2 ht (goodA wd_2_102) rfl rfl rfl hN.2.2.2.2.1 (ht _ wd_1_1) (by decide +kernel) ⟨Nat.le_of_ble_eq_true rfl, Nat.le_of_ble_eq_true rfl⟩, ht _ wd_2_101, trivial⟩ ⟨fun a U g mk q => by obtain ⟨q0, q1, qP, qK, qD, qN⟩ := q; exact ⟨q0, q1, qP, va_K.moved (u := U) (U := U.calling g mk a) (Vm.Alike.refl U.vm) qK, qD, NwA.same (u := U) rfl qN⟩, fun U hU hW => ⟨rfl, by rw [hU], by rw [hU]; exact hPc, va_K.moved hW.alike hK, hDc.weaken (fun _ _ _ _ => trivial), NwA.warm hW hN⟩⟩ rfl rfl hl.1 rfl (lv_room (Nat.le_of_ble_eq_true rfl)) d_Pf_addConditions_20 ⟨Nat.le_of_ble_eq_true rfl, Nat.le_of_ble_eq_true rfl⟩) hS (fun q _ h => hFc q h) hFc (fun r9 u t H17 locs ht9 hvm hw18 hB hz1 hk1 hSn => ?_)
  replace hP : va_P (dC, dI) clA [(a2, .inr (2, [.int 0, .ref a8, .ref a9, .ref a10, .ref a11, .ref a12, .int 0, .ref a13, .ref a14, .ref a15, .ref a16, .ref a17, .int 0, .int 0]))] H17 := pu_keep hP hk1
  replace hS := hSn
  clear hSn hPc hDc hFc hk1 hz1 ht9 hvm hB
  refine W.cs (cells' := 0) (slots' := 0) rfl rfl ?_
  subst hw18
  refine lv_if_eq (tgt := 92) hx hb d_Pf_addConditions_23 (by decide) (fun _ => ?_) (fun h => (h (by decide)).elim)
  refine lv_iinc (k := 0) (v := 8) (lv' := [(7, .int 8), (5, .long 0), (0, .ref a2), (1, .int 0), (2, .int (-1)), (3, .long 0)]) hx hb d_Pf_addConditions_92 hl rfl (by decide) (by decide) rfl (fun ls hln => ?_)
  replace hl : lv_has ls 10 [(7, .int 8), (5, .long 0), (0, .ref a2), (1, .int 0), (2, .int (-1)), (3, .long 0)] := hln
  clear hln
  refine lv_goto (tgt := 9) hx hb d_Pf_addConditions_95 (by decide) ?_
  refine lv_iload hx hb d_Pf_addConditions_9 (lv_at hl 0 rfl) ?_
  refine lv_bipush (v := 8) hx hb d_Pf_addConditions_11 (by decide) ?_
  refine lv_icmp_ge (tgt := 98) hx hb d_Pf_addConditions_13 (by decide) (fun _ => ?_) (fun h => (h (by decide)).elim)
  refine lv_aload_n hx hb d_Pf_addConditions_98 rfl (lv_at hl 2 rfl) ?_
  have hPc := hP.sub (ws' := [(a2, .inr (2, [.int 0, .ref a8, .ref a9, .ref a10, .ref a11, .ref a12, .int 0, .ref a13, .ref a14, .ref a15, .ref a16, .ref a17, .int 0, .int 0]))]) [0] rfl
  have hDc := hD.sub (ws' := [(a2, .inr (2, [.int 0, .ref a8, .ref a9, .ref a10, .ref a11, .ref a12, .int 0, .ref a13, .ref a14, .ref a15, .ref a16, .ref a17, .int 0, .int 0]))]) [0] (by decide) rfl
  have hFc := va_free (wc := [(a2, .inr (2, [.int 0, .ref a8, .ref a9, .ref a10, .ref a11, .ref a12, .int 0, .ref a13, .ref a14, .ref a15, .ref a16, .ref a17, .int 0, .int 0]))]) hD hS hA [0] rfl
  refine va_calll (va_runV (C := "NetUnfolder$Prefix") (As := []) (rest := []) ⟨hx, hb, hml, hown, ht⟩ (c_Pf_allConditions l dC dI cI cL cZ _ a2 a8 a9 a10 a11 a12 a13 a14 a15 a16 a17 ) (cwV 0 ht (good_V wd_2_96 wd_2_97 wd_2_98 wd_1_3 wd_2_99) rfl rfl rfl (by decide +kernel) ⟨Nat.le_of_ble_eq_true rfl, Nat.le_of_ble_eq_true rfl⟩) ⟨fun a U g mk q => by obtain ⟨q0, q1, qP, qK, qD, qN⟩ := q; exact ⟨q0, q1, qP, va_K.moved (u := U) (U := U.calling g mk a) (Vm.Alike.refl U.vm) qK, qD, NwA.same (u := U) rfl qN⟩, (va_recv (q0 := 0) (ci := 2) hK hP rfl rfl), fun U hU hW => ⟨rfl, by rw [hU], by rw [hU]; exact hPc, va_K.moved hW.alike hK, hDc.weaken (fun _ _ _ _ => trivial), NwA.warm hW hN⟩⟩ rfl rfl hl.1 rfl (lv_room (Nat.le_of_ble_eq_true rfl)) d_Pf_addConditions_99 ⟨Nat.le_of_ble_eq_true rfl, Nat.le_of_ble_eq_true rfl⟩) hS (fun q _ h => hFc q h) hFc (fun r9 u t H19 locs ht9 hvm hw20 hB hz1 hk1 hSn => ?_)
  obtain ⟨hP1, hD1⟩ := hB
  rw [ht9] at hP1
  obtain ⟨hPn, hDn⟩ := va_join (wr := []) (w1 := [(a2, .inr (2, [.int 0, .ref a8, .ref a9, .ref a10, .ref a11, .ref a12, .int 0, .ref a13, .ref a14, .ref a15, .ref a16, .ref a17, .int 0, .int 0]))]) hP hD [0] [] rfl rfl (by decide) (by decide) hk1 hFc hP1 hD1
  replace hP : va_P (dC, dI) clA [(a2, .inr (2, [.int 0, .ref a8, .ref a9, .ref a10, .ref a11, .ref a12, .int 0, .ref a13, .ref a14, .ref a15, .ref a16, .ref a17, .int 0, .int 0]))] H19 := hPn
  replace hD : va_D A [(a2, .inr (2, [.int 0, .ref a8, .ref a9, .ref a10, .ref a11, .ref a12, .int 0, .ref a13, .ref a14, .ref a15, .ref a16, .ref a17, .int 0, .int 0]))] := hDn
  replace hS := hSn
  clear hPn hDn hSn
  clear hPc hDc hFc hP1 hD1 hk1 hz1 ht9 hvm
  refine W.cs (cells' := 0) (slots' := 0) rfl rfl ?_
  subst hw20
  refine lv_lload hx hb d_Pf_addConditions_102 (lv_at hl 1 rfl) ?_
  refine lv_ldc2 hx hb hown (ht _ wd_2_103) d_Pf_addConditions_104 ?_
  refine lv_lxor hx hb d_Pf_addConditions_107 ?_
  refine ci_l (y := (-1)) (by decide) ?_
  refine lv_land hx hb d_Pf_addConditions_108 ?_
  refine ci_l (y := 0) (by decide) ?_
  refine lv_lstore (lv' := [(7, .long 0), (5, .long 0), (0, .ref a2), (1, .int 0), (2, .int (-1)), (3, .long 0)]) hx hb d_Pf_addConditions_109 hl (by decide) rfl (fun ls hln => ?_)
  replace hl : lv_has ls 10 [(7, .long 0), (5, .long 0), (0, .ref a2), (1, .int 0), (2, .int (-1)), (3, .long 0)] := hln
  clear hln
  refine lv_iconst (v := 0) hx hb d_Pf_addConditions_111 (by decide) ?_
  refine lv_istore (lv' := [(9, .int 0), (7, .long 0), (5, .long 0), (0, .ref a2), (1, .int 0), (2, .int (-1)), (3, .long 0)]) hx hb d_Pf_addConditions_112 hl (by decide) rfl (fun ls hln => ?_)
  replace hl : lv_has ls 10 [(9, .int 0), (7, .long 0), (5, .long 0), (0, .ref a2), (1, .int 0), (2, .int (-1)), (3, .long 0)] := hln
  clear hln
  refine lv_iload hx hb d_Pf_addConditions_114 (lv_at hl 0 rfl) ?_
  refine lv_aload_n hx hb d_Pf_addConditions_116 rfl (lv_at hl 3 rfl) ?_
  refine va_get (D := (dC, dI)) (ci := 2) (v := .int 0) (C := "NetUnfolder$Prefix") (T := T_Pf) (N := 14) hx hb ht in_Pf hown hK hP 0 rfl rfl 0 (by decide) (ht _ wd_1_62) (fun _ h9 => h9) rfl d_Pf_addConditions_117 ?_
  refine lv_icmp_ge (tgt := 183) hx hb d_Pf_addConditions_120 (by decide) (fun _ => ?_) (fun h => (h (by decide)).elim)
  refine lv_lload hx hb d_Pf_addConditions_183 (lv_at hl 1 rfl) ?_
  have hP9 := hP.sub (ws' := [(a2, .inr (2, [.int 0, .ref a8, .ref a9, .ref a10, .ref a11, .ref a12, .int 0, .ref a13, .ref a14, .ref a15, .ref a16, .ref a17, .int 0, .int 0]))]) [0] rfl
  have hD9 := hD.sub (ws' := [(a2, .inr (2, [.int 0, .ref a8, .ref a9, .ref a10, .ref a11, .ref a12, .int 0, .ref a13, .ref a14, .ref a15, .ref a16, .ref a17, .int 0, .int 0]))]) [0] (by decide) rfl
  exact W.lret (v := 0) hx hb hr (fun t ht9 hW => ⟨⟨0, (), rfl, rfl, by rw [ht9]; exact hP9, hD9⟩, hS.F ht9⟩) hS.2.2 d_Pf_addConditions_185

set_option maxHeartbeats 4000000 in
set_option maxRecDepth 100000 in
theorem c_Po_wipe (l : Launch) (dC : Nat → ClassId) (dI : Nat → Nat → Nat) (cI cL cZ : ClassId) (sz : Nat) (a19 : Nat) (a2 : Nat) (a22 : Nat) (a23 : Nat) (a24 : Nat) : Met l y_Po_wipe (Cond.code y_Po_wipe prog_4_method_2_code 1 none :: wsA) { frames := 0, cells := 0, slots := 0, locals := 0 } (va_Pc [.ref a19] (fun U => U.heap.size = sz ∧ va_P (dC, dI) clA [(a19, .inr (5, [.ref a2, .int 0, .ref a22, .ref a23, .ref a24]))] U.heap ∧ va_K (dC, dI) clA [(cI, .int), (cL, .long), (cZ, .boolean)] U ∧ va_D (fun _ => True) [(a19, .inr (5, [.ref a2, .int 0, .ref a22, .ref a23, .ref a24]))] ∧ NwA U)) (va_Qv (fun _ : Unit => True) (fun _ t => va_P (dC, dI) clA [(a19, .inr (5, [.ref a2, .int 0, .ref a22, .ref a23, .ref a24]))] t.heap ∧ va_D (va_A [(a19, .inr (5, [.ref a2, .int 0, .ref a22, .ref a23, .ref a24]))] sz) [(a19, .inr (5, [.ref a2, .int 0, .ref a22, .ref a23, .ref a24]))]) (va_A [(a19, .inr (5, [.ref a2, .int 0, .ref a22, .ref a23, .ref a24]))] sz)) 0 0 (va_A [(a19, .inr (5, [.ref a2, .int 0, .ref a22, .ref a23, .ref a24]))] sz) := by
  refine Met.ofW (cc := prog_4_method_2_code) (maxL := 1) (ret := none) (by decide) rfl ?_
  intro p e s m args below meth c s₁ B hml hv
  obtain ⟨rfl, hsz, hP, hK, hD0, hN⟩ := hv
  have hx := B.exec
  have hb := B.bytes
  have hr := B.returns
  have ht : ∀ w ∈ wsA, w.before _ s = true := fun w h => atoms_spec (ws := (Cond.code y_Po_wipe prog_4_method_2_code 1 none :: wsA)) B.pre w (List.mem_cons_of_mem _ h)
  have hown : s.vm.findClass "NetUnfolder$Possible" = some m.cls := findClass_of_methodNamed B.named
  have hlocks := B.notSynchronized
  subst hsz
  have hD := hD0.self (sz := s.heap.size)
  generalize hAe : va_A [(a19, .inr (5, [.ref a2, .int 0, .ref a22, .ref a23, .ref a24]))] s.heap.size = A at hD ⊢
  have hA : ∀ q : Nat, s.heap.size ≤ q → A q := fun q h => by rw [← hAe]; exact Or.inr h
  have hS : va_S A s.heap s.heap [] := va_S.rf
  have hl := lv_entry ([.ref a19]) (n := 1) (Nat.le_of_ble_eq_true rfl)
  rw [lg_entry_eq]
  generalize (lg_sl ([.ref a19]) ++ List.replicate (1 - (lg_sl ([.ref a19])).length) Slot.unset).toArray = ls at hl ⊢
  replace hl : lv_has ls 1 [(0, .ref a19)] := hl
  refine lv_aload_n hx hb d_Po_wipe_0 rfl (lv_at hl 0 rfl) ?_
  refine lv_iconst (v := 0) hx hb d_Po_wipe_1 (by decide) ?_
  refine va_put (D := (dC, dI)) (ci := 5) (v := .int 0) (ty := .int) (C := "NetUnfolder$Possible") (T := T_Po) (N := 5) hx hb ht in_Po ty_Po ok_Po nm_Po hown hK hP hD hS 0 rfl rfl 1 (by decide) (ht _ wd_1_165) (fun _ h9 => h9) rfl (by decide +kernel) rfl rfl (Nat.le_of_ble_eq_true rfl) d_Po_wipe_2 (fun H1 locs hPn hDn hSn => ?_)
  replace hP : va_P (dC, dI) clA [(a19, .inr (5, [.ref a2, .int 0, .ref a22, .ref a23, .ref a24]))] H1 := hPn
  replace hD : va_D A [(a19, .inr (5, [.ref a2, .int 0, .ref a22, .ref a23, .ref a24]))] := hDn
  replace hS := hSn
  clear hPn hDn hSn
  have hP9 := hP.sub (ws' := [(a19, .inr (5, [.ref a2, .int 0, .ref a22, .ref a23, .ref a24]))]) [0] rfl
  have hD9 := hD.sub (ws' := [(a19, .inr (5, [.ref a2, .int 0, .ref a22, .ref a23, .ref a24]))]) [0] (by decide) rfl
  exact W.vret hx hb hr (fun t ht9 hW => ⟨⟨(), rfl, trivial, by rw [ht9]; exact hP9, hD9⟩, hS.F ht9⟩) hS.2.2 d_Po_wipe_5

set_option maxHeartbeats 4000000 in
set_option maxRecDepth 100000 in
theorem c_Po_tooMany (l : Launch) (dC : Nat → ClassId) (dI : Nat → Nat → Nat) (cI cL cZ : ClassId) (sz : Nat) (a19 : Nat) (a2 : Nat) (a22 : Nat) (a23 : Nat) (a24 : Nat) : Met l y_Po_tooMany (Cond.code y_Po_tooMany prog_4_method_3_code 1 (some .boolean) :: wsA) { frames := 0, cells := 0, slots := 0, locals := 0 } (va_Pc [.ref a19] (fun U => U.heap.size = sz ∧ va_P (dC, dI) clA [(a19, .inr (5, [.ref a2, .int 0, .ref a22, .ref a23, .ref a24]))] U.heap ∧ va_K (dC, dI) clA [(cI, .int), (cL, .long), (cZ, .boolean)] U ∧ va_D (fun _ => True) [(a19, .inr (5, [.ref a2, .int 0, .ref a22, .ref a23, .ref a24]))] ∧ NwA U)) (va_Qi (fun r (_ : Unit) => r = 0) (fun _ t => va_P (dC, dI) clA [(a19, .inr (5, [.ref a2, .int 0, .ref a22, .ref a23, .ref a24]))] t.heap ∧ va_D (va_A [(a19, .inr (5, [.ref a2, .int 0, .ref a22, .ref a23, .ref a24]))] sz) [(a19, .inr (5, [.ref a2, .int 0, .ref a22, .ref a23, .ref a24]))]) (va_A [(a19, .inr (5, [.ref a2, .int 0, .ref a22, .ref a23, .ref a24]))] sz)) 0 0 (va_A [(a19, .inr (5, [.ref a2, .int 0, .ref a22, .ref a23, .ref a24]))] sz) := by
  refine Met.ofW (cc := prog_4_method_3_code) (maxL := 1) (ret := (some .boolean)) (by decide) rfl ?_
  intro p e s m args below meth c s₁ B hml hv
  obtain ⟨rfl, hsz, hP, hK, hD0, hN⟩ := hv
  have hx := B.exec
  have hb := B.bytes
  have hr := B.returns
  have ht : ∀ w ∈ wsA, w.before _ s = true := fun w h => atoms_spec (ws := (Cond.code y_Po_tooMany prog_4_method_3_code 1 (some .boolean) :: wsA)) B.pre w (List.mem_cons_of_mem _ h)
  have hown : s.vm.findClass "NetUnfolder$Possible" = some m.cls := findClass_of_methodNamed B.named
  have hlocks := B.notSynchronized
  subst hsz
  have hD := hD0.self (sz := s.heap.size)
  generalize hAe : va_A [(a19, .inr (5, [.ref a2, .int 0, .ref a22, .ref a23, .ref a24]))] s.heap.size = A at hD ⊢
  have hA : ∀ q : Nat, s.heap.size ≤ q → A q := fun q h => by rw [← hAe]; exact Or.inr h
  have hS : va_S A s.heap s.heap [] := va_S.rf
  have hl := lv_entry ([.ref a19]) (n := 1) (Nat.le_of_ble_eq_true rfl)
  rw [lg_entry_eq]
  generalize (lg_sl ([.ref a19]) ++ List.replicate (1 - (lg_sl ([.ref a19])).length) Slot.unset).toArray = ls at hl ⊢
  replace hl : lv_has ls 1 [(0, .ref a19)] := hl
  refine lv_aload_n hx hb d_Po_tooMany_0 rfl (lv_at hl 0 rfl) ?_
  refine va_get (D := (dC, dI)) (ci := 5) (v := .int 0) (C := "NetUnfolder$Possible") (T := T_Po) (N := 5) hx hb ht in_Po hown hK hP 0 rfl rfl 1 (by decide) (ht _ wd_1_165) (fun _ h9 => h9) rfl d_Po_tooMany_1 ?_
  refine lv_sipush (v := 200) hx hb d_Po_tooMany_4 (by decide) ?_
  refine lv_icmp_le (tgt := 14) hx hb d_Po_tooMany_7 (by decide) (fun _ => ?_) (fun h => (h (by decide)).elim)
  refine lv_iconst (v := 0) hx hb d_Po_tooMany_14 (by decide) ?_
  have hP9 := hP.sub (ws' := [(a19, .inr (5, [.ref a2, .int 0, .ref a22, .ref a23, .ref a24]))]) [0] rfl
  have hD9 := hD.sub (ws' := [(a19, .inr (5, [.ref a2, .int 0, .ref a22, .ref a23, .ref a24]))]) [0] (by decide) rfl
  exact W.zret (v := 0) hx hb hr rfl (fun t ht9 hW => ⟨⟨0, (), rfl, rfl, by rw [ht9]; exact hP9, hD9⟩, hS.F ht9⟩) hS.2.2 d_Po_tooMany_15

set_option maxHeartbeats 4000000 in
set_option maxRecDepth 100000 in
theorem c_Un_findPossible (l : Launch) (dC : Nat → ClassId) (dI : Nat → Nat → Nat) (cI cL cZ : ClassId) (sz : Nat) (a4 : Nat) (a1 : Nat) (a2 : Nat) (a3 : Nat) (a19 : Nat) (a6 : Nat) (a7 : Nat) : Met l y_Un_findPossible (Cond.code y_Un_findPossible prog_8_method_9_code 6 none :: wsA) { frames := 0, cells := 0, slots := 0, locals := 0 } (va_Pc [.ref a4, .long 0, .long 0] (fun U => U.heap.size = sz ∧ va_P (dC, dI) clA [(a4, .inr (4, [.ref a1, .ref a2, .ref a3, .ref a19])), (a1, .inr (1, [.ref a6, .ref a7, .int 0, .int 0]))] U.heap ∧ va_K (dC, dI) clA [(cI, .int), (cL, .long), (cZ, .boolean)] U ∧ va_D (fun _ => True) [(a4, .inr (4, [.ref a1, .ref a2, .ref a3, .ref a19])), (a1, .inr (1, [.ref a6, .ref a7, .int 0, .int 0]))] ∧ NwA U)) (va_Qv (fun _ : Unit => True) (fun _ t => va_P (dC, dI) clA [(a4, .inr (4, [.ref a1, .ref a2, .ref a3, .ref a19])), (a1, .inr (1, [.ref a6, .ref a7, .int 0, .int 0]))] t.heap ∧ va_D (va_A [(a4, .inr (4, [.ref a1, .ref a2, .ref a3, .ref a19])), (a1, .inr (1, [.ref a6, .ref a7, .int 0, .int 0]))] sz) [(a4, .inr (4, [.ref a1, .ref a2, .ref a3, .ref a19])), (a1, .inr (1, [.ref a6, .ref a7, .int 0, .int 0]))]) (va_A [(a4, .inr (4, [.ref a1, .ref a2, .ref a3, .ref a19])), (a1, .inr (1, [.ref a6, .ref a7, .int 0, .int 0]))] sz)) 0 0 (va_A [(a4, .inr (4, [.ref a1, .ref a2, .ref a3, .ref a19])), (a1, .inr (1, [.ref a6, .ref a7, .int 0, .int 0]))] sz) := by
  refine Met.ofW (cc := prog_8_method_9_code) (maxL := 6) (ret := none) (by decide) rfl ?_
  intro p e s m args below meth c s₁ B hml hv
  obtain ⟨rfl, hsz, hP, hK, hD0, hN⟩ := hv
  have hx := B.exec
  have hb := B.bytes
  have hr := B.returns
  have ht : ∀ w ∈ wsA, w.before _ s = true := fun w h => atoms_spec (ws := (Cond.code y_Un_findPossible prog_8_method_9_code 6 none :: wsA)) B.pre w (List.mem_cons_of_mem _ h)
  have hown : s.vm.findClass "NetUnfolder$Unfolding" = some m.cls := findClass_of_methodNamed B.named
  have hlocks := B.notSynchronized
  subst hsz
  have hD := hD0.self (sz := s.heap.size)
  generalize hAe : va_A [(a4, .inr (4, [.ref a1, .ref a2, .ref a3, .ref a19])), (a1, .inr (1, [.ref a6, .ref a7, .int 0, .int 0]))] s.heap.size = A at hD ⊢
  have hA : ∀ q : Nat, s.heap.size ≤ q → A q := fun q h => by rw [← hAe]; exact Or.inr h
  have hS : va_S A s.heap s.heap [] := va_S.rf
  have hl := lv_entry ([.ref a4, .long 0, .long 0]) (n := 6) (Nat.le_of_ble_eq_true rfl)
  rw [lg_entry_eq]
  generalize (lg_sl ([.ref a4, .long 0, .long 0]) ++ List.replicate (6 - (lg_sl ([.ref a4, .long 0, .long 0])).length) Slot.unset).toArray = ls at hl ⊢
  replace hl : lv_has ls 6 [(0, .ref a4), (1, .long 0), (3, .long 0)] := hl
  refine lv_iconst (v := 0) hx hb d_Un_findPossible_0 (by decide) ?_
  refine lv_istore (lv' := [(5, .int 0), (0, .ref a4), (1, .long 0), (3, .long 0)]) hx hb d_Un_findPossible_1 hl (by decide) rfl (fun ls hln => ?_)
  replace hl : lv_has ls 6 [(5, .int 0), (0, .ref a4), (1, .long 0), (3, .long 0)] := hln
  clear hln
  refine lv_iload hx hb d_Un_findPossible_3 (lv_at hl 0 rfl) ?_
  refine lv_aload_n hx hb d_Un_findPossible_5 rfl (lv_at hl 1 rfl) ?_
  refine va_get (D := (dC, dI)) (ci := 4) (v := .ref a1) (C := "NetUnfolder$Unfolding") (T := T_Un) (N := 4) hx hb ht in_Un hown hK hP 0 rfl rfl 0 (by decide) (ht _ wd_1_184) (fun _ h9 => h9) rfl d_Un_findPossible_6 ?_
  refine va_get (D := (dC, dI)) (ci := 1) (v := .int 0) (C := "NetUnfolder$Net") (T := T_Ne) (N := 4) hx hb ht in_Ne hown hK hP 1 rfl rfl 2 (by decide) (ht _ wd_1_41) (fun _ h9 => h9) rfl d_Un_findPossible_9 ?_
  refine lv_icmp_ge (tgt := 31) hx hb d_Un_findPossible_12 (by decide) (fun _ => ?_) (fun h => (h (by decide)).elim)
  have hP9 := hP.sub (ws' := [(a4, .inr (4, [.ref a1, .ref a2, .ref a3, .ref a19])), (a1, .inr (1, [.ref a6, .ref a7, .int 0, .int 0]))]) [0, 1] rfl
  have hD9 := hD.sub (ws' := [(a4, .inr (4, [.ref a1, .ref a2, .ref a3, .ref a19])), (a1, .inr (1, [.ref a6, .ref a7, .int 0, .int 0]))]) [0, 1] (by decide) rfl
  exact W.vret hx hb hr (fun t ht9 hW => ⟨⟨(), rfl, trivial, by rw [ht9]; exact hP9, hD9⟩, hS.F ht9⟩) hS.2.2 d_Un_findPossible_31

set_option maxHeartbeats 4000000 in
set_option maxRecDepth 100000 in
theorem c_Un_begin (l : Launch) (dC : Nat → ClassId) (dI : Nat → Nat → Nat) (cI cL cZ : ClassId) (sz : Nat) (a4 : Nat) (a1 : Nat) (a2 : Nat) (a12 : Nat) (a19 : Nat) (a3 : Nat) (a6 : Nat) (a7 : Nat) (a8 : Nat) (a9 : Nat) (a10 : Nat) (a11 : Nat) (a13 : Nat) (a14 : Nat) (a15 : Nat) (a16 : Nat) (a17 : Nat) (a22 : Nat) (a23 : Nat) (a24 : Nat) : Met l y_Un_begin (Cond.code y_Un_begin prog_8_method_3_code 3 none :: wsA) { frames := 2, cells := 0, slots := 0, locals := 51 } (va_Pc [.ref a4] (fun U => U.heap.size = sz ∧ va_P (dC, dI) clA [(a4, .inr (4, [.ref a1, .ref a2, .ref a3, .ref a19])), (a1, .inr (1, [.ref a6, .ref a7, .int 0, .int 0])), (a2, .inr (2, [.int 0, .ref a8, .ref a9, .ref a10, .ref a11, .ref a12, .int 0, .ref a13, .ref a14, .ref a15, .ref a16, .ref a17, .int 0, .int 0])), (a12, .inl (cL, 8, .inr (.inl (fun _ => 0)))), (a19, .inr (5, [.ref a2, .int 0, .ref a22, .ref a23, .ref a24]))] U.heap ∧ va_K (dC, dI) clA [(cI, .int), (cL, .long), (cZ, .boolean)] U ∧ va_D (fun _ => True) [(a4, .inr (4, [.ref a1, .ref a2, .ref a3, .ref a19])), (a1, .inr (1, [.ref a6, .ref a7, .int 0, .int 0])), (a2, .inr (2, [.int 0, .ref a8, .ref a9, .ref a10, .ref a11, .ref a12, .int 0, .ref a13, .ref a14, .ref a15, .ref a16, .ref a17, .int 0, .int 0])), (a12, .inl (cL, 8, .inr (.inl (fun _ => 0)))), (a19, .inr (5, [.ref a2, .int 0, .ref a22, .ref a23, .ref a24]))] ∧ NwA U)) (va_Qv (fun _ : Unit => True) (fun _ t => va_P (dC, dI) clA [(a12, .inl (cL, 8, .inr (.inl (fun _ => 0)))), (a19, .inr (5, [.ref a2, .int 0, .ref a22, .ref a23, .ref a24])), (a2, .inr (2, [.int 0, .ref a8, .ref a9, .ref a10, .ref a11, .ref a12, .int 0, .ref a13, .ref a14, .ref a15, .ref a16, .ref a17, .int 0, .int 0])), (a4, .inr (4, [.ref a1, .ref a2, .ref a3, .ref a19])), (a1, .inr (1, [.ref a6, .ref a7, .int 0, .int 0]))] t.heap ∧ va_D (va_A [(a4, .inr (4, [.ref a1, .ref a2, .ref a3, .ref a19])), (a1, .inr (1, [.ref a6, .ref a7, .int 0, .int 0])), (a2, .inr (2, [.int 0, .ref a8, .ref a9, .ref a10, .ref a11, .ref a12, .int 0, .ref a13, .ref a14, .ref a15, .ref a16, .ref a17, .int 0, .int 0])), (a12, .inl (cL, 8, .inr (.inl (fun _ => 0)))), (a19, .inr (5, [.ref a2, .int 0, .ref a22, .ref a23, .ref a24]))] sz) [(a12, .inl (cL, 8, .inr (.inl (fun _ => 0)))), (a19, .inr (5, [.ref a2, .int 0, .ref a22, .ref a23, .ref a24])), (a2, .inr (2, [.int 0, .ref a8, .ref a9, .ref a10, .ref a11, .ref a12, .int 0, .ref a13, .ref a14, .ref a15, .ref a16, .ref a17, .int 0, .int 0])), (a4, .inr (4, [.ref a1, .ref a2, .ref a3, .ref a19])), (a1, .inr (1, [.ref a6, .ref a7, .int 0, .int 0]))]) (va_A [(a4, .inr (4, [.ref a1, .ref a2, .ref a3, .ref a19])), (a1, .inr (1, [.ref a6, .ref a7, .int 0, .int 0])), (a2, .inr (2, [.int 0, .ref a8, .ref a9, .ref a10, .ref a11, .ref a12, .int 0, .ref a13, .ref a14, .ref a15, .ref a16, .ref a17, .int 0, .int 0])), (a12, .inl (cL, 8, .inr (.inl (fun _ => 0)))), (a19, .inr (5, [.ref a2, .int 0, .ref a22, .ref a23, .ref a24]))] sz)) 0 0 (va_A [(a4, .inr (4, [.ref a1, .ref a2, .ref a3, .ref a19])), (a1, .inr (1, [.ref a6, .ref a7, .int 0, .int 0])), (a2, .inr (2, [.int 0, .ref a8, .ref a9, .ref a10, .ref a11, .ref a12, .int 0, .ref a13, .ref a14, .ref a15, .ref a16, .ref a17, .int 0, .int 0])), (a12, .inl (cL, 8, .inr (.inl (fun _ => 0)))), (a19, .inr (5, [.ref a2, .int 0, .ref a22, .ref a23, .ref a24]))] sz) := by
  refine Met.ofW (cc := prog_8_method_3_code) (maxL := 3) (ret := none) (by decide) rfl ?_
  intro p e s m args below meth c s₁ B hml hv
  obtain ⟨rfl, hsz, hP, hK, hD0, hN⟩ := hv
  have hx := B.exec
  have hb := B.bytes
  have hr := B.returns
  have ht : ∀ w ∈ wsA, w.before _ s = true := fun w h => atoms_spec (ws := (Cond.code y_Un_begin prog_8_method_3_code 3 none :: wsA)) B.pre w (List.mem_cons_of_mem _ h)
  have hown : s.vm.findClass "NetUnfolder$Unfolding" = some m.cls := findClass_of_methodNamed B.named
  have hlocks := B.notSynchronized
  subst hsz
  have hD := hD0.self (sz := s.heap.size)
  generalize hAe : va_A [(a4, .inr (4, [.ref a1, .ref a2, .ref a3, .ref a19])), (a1, .inr (1, [.ref a6, .ref a7, .int 0, .int 0])), (a2, .inr (2, [.int 0, .ref a8, .ref a9, .ref a10, .ref a11, .ref a12, .int 0, .ref a13, .ref a14, .ref a15, .ref a16, .ref a17, .int 0, .int 0])), (a12, .inl (cL, 8, .inr (.inl (fun _ => 0)))), (a19, .inr (5, [.ref a2, .int 0, .ref a22, .ref a23, .ref a24]))] s.heap.size = A at hD ⊢
  have hA : ∀ q : Nat, s.heap.size ≤ q → A q := fun q h => by rw [← hAe]; exact Or.inr h
  have hS : va_S A s.heap s.heap [] := va_S.rf
  have hl := lv_entry ([.ref a4]) (n := 3) (Nat.le_of_ble_eq_true rfl)
  rw [lg_entry_eq]
  generalize (lg_sl ([.ref a4]) ++ List.replicate (3 - (lg_sl ([.ref a4])).length) Slot.unset).toArray = ls at hl ⊢
  replace hl : lv_has ls 3 [(0, .ref a4)] := hl
  refine lv_aload_n hx hb d_Un_begin_0 rfl (lv_at hl 0 rfl) ?_
  refine va_get (D := (dC, dI)) (ci := 4) (v := .ref a2) (C := "NetUnfolder$Unfolding") (T := T_Un) (N := 4) hx hb ht in_Un hown hK hP 0 rfl rfl 1 (by decide) (ht _ wd_1_185) (fun _ h9 => h9) rfl d_Un_begin_1 ?_
  have hPc := hP.sub (ws' := [(a2, .inr (2, [.int 0, .ref a8, .ref a9, .ref a10, .ref a11, .ref a12, .int 0, .ref a13, .ref a14, .ref a15, .ref a16, .ref a17, .int 0, .int 0])), (a12, .inl (cL, 8, .inr (.inl (fun _ => 0))))]) [2, 3] rfl
  have hDc := hD.sub (ws' := [(a2, .inr (2, [.int 0, .ref a8, .ref a9, .ref a10, .ref a11, .ref a12, .int 0, .ref a13, .ref a14, .ref a15, .ref a16, .ref a17, .int 0, .int 0])), (a12, .inl (cL, 8, .inr (.inl (fun _ => 0))))]) [2, 3] (by decide) rfl
  have hFc := va_free (wc := [(a2, .inr (2, [.int 0, .ref a8, .ref a9, .ref a10, .ref a11, .ref a12, .int 0, .ref a13, .ref a14, .ref a15, .ref a16, .ref a17, .int 0, .int 0])), (a12, .inl (cL, 8, .inr (.inl (fun _ => 0))))]) hD hS hA [2, 3] rfl
  refine va_callv (va_runV (C := "NetUnfolder$Prefix") (As := []) (rest := []) ⟨hx, hb, hml, hown, ht⟩ (c_Pf_wipe l dC dI cI cL cZ _ a2 a12 a8 a9 a10 a11 a13 a14 a15 a16 a17 ) (cwV 0 ht (good_V wd_2_87 wd_2_61 wd_2_62 wd_1_3 wd_2_63) rfl rfl rfl (by decide +kernel) ⟨Nat.le_of_ble_eq_true rfl, Nat.le_of_ble_eq_true rfl⟩) ⟨fun a U g mk q => by obtain ⟨q0, q1, qP, qK, qD, qN⟩ := q; exact ⟨q0, q1, qP, va_K.moved (u := U) (U := U.calling g mk a) (Vm.Alike.refl U.vm) qK, qD, NwA.same (u := U) rfl qN⟩, (va_recv (q0 := 2) (ci := 2) hK hP rfl rfl), fun U hU hW => ⟨rfl, by rw [hU], by rw [hU]; exact hPc, va_K.moved hW.alike hK, hDc.weaken (fun _ _ _ _ => trivial), NwA.warm hW hN⟩⟩ rfl rfl hl.1 rfl (lv_room (Nat.le_of_ble_eq_true rfl)) d_Un_begin_4 ⟨Nat.le_of_ble_eq_true rfl, Nat.le_of_ble_eq_true rfl⟩) hS (fun q _ h => hFc q h) hFc (fun u t H1 locs ht9 hvm hw2 hB hz1 hk1 hSn => ?_)
  obtain ⟨hP1, hD1⟩ := hB
  rw [ht9] at hP1
  obtain ⟨hPn, hDn⟩ := va_join (wr := [(a4, .inr (4, [.ref a1, .ref a2, .ref a3, .ref a19])), (a1, .inr (1, [.ref a6, .ref a7, .int 0, .int 0])), (a19, .inr (5, [.ref a2, .int 0, .ref a22, .ref a23, .ref a24]))]) (w1 := [(a2, .inr (2, [.int 0, .ref a8, .ref a9, .ref a10, .ref a11, .ref a12, .int 0, .ref a13, .ref a14, .ref a15, .ref a16, .ref a17, .int 0, .int 0])), (a12, .inl (cL, 8, .inr (.inl (fun _ => 0))))]) hP hD [2, 3] [0, 1, 4] rfl rfl (by decide) (by decide) hk1 hFc hP1 hD1
  replace hP : va_P (dC, dI) clA [(a4, .inr (4, [.ref a1, .ref a2, .ref a3, .ref a19])), (a1, .inr (1, [.ref a6, .ref a7, .int 0, .int 0])), (a19, .inr (5, [.ref a2, .int 0, .ref a22, .ref a23, .ref a24])), (a2, .inr (2, [.int 0, .ref a8, .ref a9, .ref a10, .ref a11, .ref a12, .int 0, .ref a13, .ref a14, .ref a15, .ref a16, .ref a17, .int 0, .int 0])), (a12, .inl (cL, 8, .inr (.inl (fun _ => 0))))] H1 := hPn
  replace hD : va_D A [(a4, .inr (4, [.ref a1, .ref a2, .ref a3, .ref a19])), (a1, .inr (1, [.ref a6, .ref a7, .int 0, .int 0])), (a19, .inr (5, [.ref a2, .int 0, .ref a22, .ref a23, .ref a24])), (a2, .inr (2, [.int 0, .ref a8, .ref a9, .ref a10, .ref a11, .ref a12, .int 0, .ref a13, .ref a14, .ref a15, .ref a16, .ref a17, .int 0, .int 0])), (a12, .inl (cL, 8, .inr (.inl (fun _ => 0))))] := hDn
  replace hS := hSn
  clear hPn hDn hSn
  clear hPc hDc hFc hP1 hD1 hk1 hz1 ht9 hvm
  refine W.cs (cells' := 0) (slots' := 0) rfl rfl ?_
  refine lv_aload_n hx hb d_Un_begin_7 rfl (lv_at hl 0 rfl) ?_
  refine va_get (D := (dC, dI)) (ci := 4) (v := .ref a19) (C := "NetUnfolder$Unfolding") (T := T_Un) (N := 4) hx hb ht in_Un hown hK hP 0 rfl rfl 3 (by decide) (ht _ wd_1_187) (fun _ h9 => h9) rfl d_Un_begin_8 ?_
  have hPc := hP.sub (ws' := [(a19, .inr (5, [.ref a2, .int 0, .ref a22, .ref a23, .ref a24]))]) [2] rfl
  have hDc := hD.sub (ws' := [(a19, .inr (5, [.ref a2, .int 0, .ref a22, .ref a23, .ref a24]))]) [2] (by decide) rfl
  have hFc := va_free (wc := [(a19, .inr (5, [.ref a2, .int 0, .ref a22, .ref a23, .ref a24]))]) hD hS hA [2] rfl
  refine va_callv (va_runV (C := "NetUnfolder$Possible") (As := []) (rest := []) ⟨hx, hb, hml, hown, ht⟩ (c_Po_wipe l dC dI cI cL cZ _ a19 a2 a22 a23 a24 ) (cwV 0 ht (good_V wd_2_88 wd_2_89 wd_2_90 wd_1_6 wd_2_91) rfl rfl rfl (by decide +kernel) ⟨Nat.le_of_ble_eq_true rfl, Nat.le_of_ble_eq_true rfl⟩) ⟨fun a U g mk q => by obtain ⟨q0, q1, qP, qK, qD, qN⟩ := q; exact ⟨q0, q1, qP, va_K.moved (u := U) (U := U.calling g mk a) (Vm.Alike.refl U.vm) qK, qD, NwA.same (u := U) rfl qN⟩, (va_recv (q0 := 2) (ci := 5) hK hP rfl rfl), fun U hU hW => ⟨rfl, by rw [hU], by rw [hU]; exact hPc, va_K.moved hW.alike hK, hDc.weaken (fun _ _ _ _ => trivial), NwA.warm hW hN⟩⟩ rfl rfl hl.1 rfl (lv_room (Nat.le_of_ble_eq_true rfl)) d_Un_begin_11 ⟨Nat.le_of_ble_eq_true rfl, Nat.le_of_ble_eq_true rfl⟩) hS (fun q _ h => hFc q h) hFc (fun u t H3 locs ht9 hvm hw4 hB hz1 hk1 hSn => ?_)
  obtain ⟨hP1, hD1⟩ := hB
  rw [ht9] at hP1
  obtain ⟨hPn, hDn⟩ := va_join (wr := [(a4, .inr (4, [.ref a1, .ref a2, .ref a3, .ref a19])), (a1, .inr (1, [.ref a6, .ref a7, .int 0, .int 0])), (a2, .inr (2, [.int 0, .ref a8, .ref a9, .ref a10, .ref a11, .ref a12, .int 0, .ref a13, .ref a14, .ref a15, .ref a16, .ref a17, .int 0, .int 0])), (a12, .inl (cL, 8, .inr (.inl (fun _ => 0))))]) (w1 := [(a19, .inr (5, [.ref a2, .int 0, .ref a22, .ref a23, .ref a24]))]) hP hD [2] [0, 1, 3, 4] rfl rfl (by decide) (by decide) hk1 hFc hP1 hD1
  replace hP : va_P (dC, dI) clA [(a4, .inr (4, [.ref a1, .ref a2, .ref a3, .ref a19])), (a1, .inr (1, [.ref a6, .ref a7, .int 0, .int 0])), (a2, .inr (2, [.int 0, .ref a8, .ref a9, .ref a10, .ref a11, .ref a12, .int 0, .ref a13, .ref a14, .ref a15, .ref a16, .ref a17, .int 0, .int 0])), (a12, .inl (cL, 8, .inr (.inl (fun _ => 0)))), (a19, .inr (5, [.ref a2, .int 0, .ref a22, .ref a23, .ref a24]))] H3 := hPn
  replace hD : va_D A [(a4, .inr (4, [.ref a1, .ref a2, .ref a3, .ref a19])), (a1, .inr (1, [.ref a6, .ref a7, .int 0, .int 0])), (a2, .inr (2, [.int 0, .ref a8, .ref a9, .ref a10, .ref a11, .ref a12, .int 0, .ref a13, .ref a14, .ref a15, .ref a16, .ref a17, .int 0, .int 0])), (a12, .inl (cL, 8, .inr (.inl (fun _ => 0)))), (a19, .inr (5, [.ref a2, .int 0, .ref a22, .ref a23, .ref a24]))] := hDn
  replace hS := hSn
  clear hPn hDn hSn
  clear hPc hDc hFc hP1 hD1 hk1 hz1 ht9 hvm
  refine W.cs (cells' := 0) (slots' := 0) rfl rfl ?_
  refine lv_aload_n hx hb d_Un_begin_14 rfl (lv_at hl 0 rfl) ?_
  refine va_get (D := (dC, dI)) (ci := 4) (v := .ref a2) (C := "NetUnfolder$Unfolding") (T := T_Un) (N := 4) hx hb ht in_Un hown hK hP 0 rfl rfl 1 (by decide) (ht _ wd_1_185) (fun _ h9 => h9) rfl d_Un_begin_15 ?_
  refine lv_aload_n hx hb d_Un_begin_18 rfl (lv_at hl 0 rfl) ?_
  refine va_get (D := (dC, dI)) (ci := 4) (v := .ref a1) (C := "NetUnfolder$Unfolding") (T := T_Un) (N := 4) hx hb ht in_Un hown hK hP 0 rfl rfl 0 (by decide) (ht _ wd_1_184) (fun _ h9 => h9) rfl d_Un_begin_19 ?_
  refine va_get (D := (dC, dI)) (ci := 1) (v := .int 0) (C := "NetUnfolder$Net") (T := T_Ne) (N := 4) hx hb ht in_Ne hown hK hP 1 rfl rfl 3 (by decide) (ht _ wd_1_43) (fun _ h9 => h9) rfl d_Un_begin_22 ?_
  refine lv_iconst (v := (-1)) hx hb d_Un_begin_25 (by decide) ?_
  refine lv_lconst (v := 0) hx hb d_Un_begin_26 (by decide) ?_
  have hPc := hP.sub (ws' := [(a2, .inr (2, [.int 0, .ref a8, .ref a9, .ref a10, .ref a11, .ref a12, .int 0, .ref a13, .ref a14, .ref a15, .ref a16, .ref a17, .int 0, .int 0]))]) [2] rfl
  have hDc := hD.sub (ws' := [(a2, .inr (2, [.int 0, .ref a8, .ref a9, .ref a10, .ref a11, .ref a12, .int 0, .ref a13, .ref a14, .ref a15, .ref a16, .ref a17, .int 0, .int 0]))]) [2] (by decide) rfl
  have hFc := va_free (wc := [(a2, .inr (2, [.int 0, .ref a8, .ref a9, .ref a10, .ref a11, .ref a12, .int 0, .ref a13, .ref a14, .ref a15, .ref a16, .ref a17, .int 0, .int 0]))]) hD hS hA [2] rfl
  refine va_calll (va_runV (C := "NetUnfolder$Prefix") (As := [.int 0, .int (-1), .long 0]) (rest := []) ⟨hx, hb, hml, hown, ht⟩ (c_Pf_addConditions l dC dI cI cL cZ _ a2 a8 a9 a10 a11 a12 a13 a14 a15 a16 a17 ) (cwV 3 ht (good_V wd_2_92 wd_2_93 wd_2_94 wd_1_3 wd_2_95) rfl rfl rfl (by decide +kernel) ⟨Nat.le_of_ble_eq_true rfl, Nat.le_of_ble_eq_true rfl⟩) ⟨fun a U g mk q => by obtain ⟨q0, q1, qP, qK, qD, qN⟩ := q; exact ⟨q0, q1, qP, va_K.moved (u := U) (U := U.calling g mk a) (Vm.Alike.refl U.vm) qK, qD, NwA.same (u := U) rfl qN⟩, (va_recv (q0 := 2) (ci := 2) hK hP rfl rfl), fun U hU hW => ⟨rfl, by rw [hU], by rw [hU]; exact hPc, va_K.moved hW.alike hK, hDc.weaken (fun _ _ _ _ => trivial), NwA.warm hW hN⟩⟩ rfl rfl hl.1 rfl (lv_room (Nat.le_of_ble_eq_true rfl)) d_Un_begin_27 ⟨Nat.le_of_ble_eq_true rfl, Nat.le_of_ble_eq_true rfl⟩) hS (fun q _ h => hFc q h) hFc (fun r9 u t H5 locs ht9 hvm hw6 hB hz1 hk1 hSn => ?_)
  obtain ⟨hP1, hD1⟩ := hB
  rw [ht9] at hP1
  obtain ⟨hPn, hDn⟩ := va_join (wr := [(a4, .inr (4, [.ref a1, .ref a2, .ref a3, .ref a19])), (a1, .inr (1, [.ref a6, .ref a7, .int 0, .int 0])), (a12, .inl (cL, 8, .inr (.inl (fun _ => 0)))), (a19, .inr (5, [.ref a2, .int 0, .ref a22, .ref a23, .ref a24]))]) (w1 := [(a2, .inr (2, [.int 0, .ref a8, .ref a9, .ref a10, .ref a11, .ref a12, .int 0, .ref a13, .ref a14, .ref a15, .ref a16, .ref a17, .int 0, .int 0]))]) hP hD [2] [0, 1, 3, 4] rfl rfl (by decide) (by decide) hk1 hFc hP1 hD1
  replace hP : va_P (dC, dI) clA [(a4, .inr (4, [.ref a1, .ref a2, .ref a3, .ref a19])), (a1, .inr (1, [.ref a6, .ref a7, .int 0, .int 0])), (a12, .inl (cL, 8, .inr (.inl (fun _ => 0)))), (a19, .inr (5, [.ref a2, .int 0, .ref a22, .ref a23, .ref a24])), (a2, .inr (2, [.int 0, .ref a8, .ref a9, .ref a10, .ref a11, .ref a12, .int 0, .ref a13, .ref a14, .ref a15, .ref a16, .ref a17, .int 0, .int 0]))] H5 := hPn
  replace hD : va_D A [(a4, .inr (4, [.ref a1, .ref a2, .ref a3, .ref a19])), (a1, .inr (1, [.ref a6, .ref a7, .int 0, .int 0])), (a12, .inl (cL, 8, .inr (.inl (fun _ => 0)))), (a19, .inr (5, [.ref a2, .int 0, .ref a22, .ref a23, .ref a24])), (a2, .inr (2, [.int 0, .ref a8, .ref a9, .ref a10, .ref a11, .ref a12, .int 0, .ref a13, .ref a14, .ref a15, .ref a16, .ref a17, .int 0, .int 0]))] := hDn
  replace hS := hSn
  clear hPn hDn hSn
  clear hPc hDc hFc hP1 hD1 hk1 hz1 ht9 hvm
  refine W.cs (cells' := 0) (slots' := 0) rfl rfl ?_
  subst hw6
  refine lv_lstore_n (lv' := [(1, .long 0), (0, .ref a4)]) hx hb d_Un_begin_30 rfl hl (by decide) rfl (fun ls hln => ?_)
  replace hl : lv_has ls 3 [(1, .long 0), (0, .ref a4)] := hln
  clear hln
  refine lv_aload_n hx hb d_Un_begin_31 rfl (lv_at hl 1 rfl) ?_
  refine lv_lload_n hx hb d_Un_begin_32 rfl (lv_at hl 0 rfl) ?_
  refine lv_lload_n hx hb d_Un_begin_33 rfl (lv_at hl 0 rfl) ?_
  have hPc := hP.sub (ws' := [(a4, .inr (4, [.ref a1, .ref a2, .ref a3, .ref a19])), (a1, .inr (1, [.ref a6, .ref a7, .int 0, .int 0]))]) [0, 1] rfl
  have hDc := hD.sub (ws' := [(a4, .inr (4, [.ref a1, .ref a2, .ref a3, .ref a19])), (a1, .inr (1, [.ref a6, .ref a7, .int 0, .int 0]))]) [0, 1] (by decide) rfl
  have hFc := va_free (wc := [(a4, .inr (4, [.ref a1, .ref a2, .ref a3, .ref a19])), (a1, .inr (1, [.ref a6, .ref a7, .int 0, .int 0]))]) hD hS hA [0, 1] rfl
  refine va_callv (va_runV (C := "NetUnfolder$Unfolding") (As := [.long 0, .long 0]) (rest := []) ⟨hx, hb, hml, hown, ht⟩ (c_Un_findPossible l dC dI cI cL cZ _ a4 a1 a2 a3 a19 a6 a7 ) (cwV 2 ht (good_V wd_2_104 wd_2_106 ws_Un_findPossible wd_1_5 wd_2_107) rfl rfl rfl (by decide +kernel) ⟨Nat.le_of_ble_eq_true rfl, Nat.le_of_ble_eq_true rfl⟩) ⟨fun a U g mk q => by obtain ⟨q0, q1, qP, qK, qD, qN⟩ := q; exact ⟨q0, q1, qP, va_K.moved (u := U) (U := U.calling g mk a) (Vm.Alike.refl U.vm) qK, qD, NwA.same (u := U) rfl qN⟩, (va_recv (q0 := 0) (ci := 4) hK hP rfl rfl), fun U hU hW => ⟨rfl, by rw [hU], by rw [hU]; exact hPc, va_K.moved hW.alike hK, hDc.weaken (fun _ _ _ _ => trivial), NwA.warm hW hN⟩⟩ rfl rfl hl.1 rfl (lv_room (Nat.le_of_ble_eq_true rfl)) d_Un_begin_34 ⟨Nat.le_of_ble_eq_true rfl, Nat.le_of_ble_eq_true rfl⟩) hS (fun q _ h => hFc q h) hFc (fun u t H7 locs ht9 hvm hw8 hB hz1 hk1 hSn => ?_)
  obtain ⟨hP1, hD1⟩ := hB
  rw [ht9] at hP1
  obtain ⟨hPn, hDn⟩ := va_join (wr := [(a12, .inl (cL, 8, .inr (.inl (fun _ => 0)))), (a19, .inr (5, [.ref a2, .int 0, .ref a22, .ref a23, .ref a24])), (a2, .inr (2, [.int 0, .ref a8, .ref a9, .ref a10, .ref a11, .ref a12, .int 0, .ref a13, .ref a14, .ref a15, .ref a16, .ref a17, .int 0, .int 0]))]) (w1 := [(a4, .inr (4, [.ref a1, .ref a2, .ref a3, .ref a19])), (a1, .inr (1, [.ref a6, .ref a7, .int 0, .int 0]))]) hP hD [0, 1] [2, 3, 4] rfl rfl (by decide) (by decide) hk1 hFc hP1 hD1
  replace hP : va_P (dC, dI) clA [(a12, .inl (cL, 8, .inr (.inl (fun _ => 0)))), (a19, .inr (5, [.ref a2, .int 0, .ref a22, .ref a23, .ref a24])), (a2, .inr (2, [.int 0, .ref a8, .ref a9, .ref a10, .ref a11, .ref a12, .int 0, .ref a13, .ref a14, .ref a15, .ref a16, .ref a17, .int 0, .int 0])), (a4, .inr (4, [.ref a1, .ref a2, .ref a3, .ref a19])), (a1, .inr (1, [.ref a6, .ref a7, .int 0, .int 0]))] H7 := hPn
  replace hD : va_D A [(a12, .inl (cL, 8, .inr (.inl (fun _ => 0)))), (a19, .inr (5, [.ref a2, .int 0, .ref a22, .ref a23, .ref a24])), (a2, .inr (2, [.int 0, .ref a8, .ref a9, .ref a10, .ref a11, .ref a12, .int 0, .ref a13, .ref a14, .ref a15, .ref a16, .ref a17, .int 0, .int 0])), (a4, .inr (4, [.ref a1, .ref a2, .ref a3, .ref a19])), (a1, .inr (1, [.ref a6, .ref a7, .int 0, .int 0]))] := hDn
  replace hS := hSn
  clear hPn hDn hSn
  clear hPc hDc hFc hP1 hD1 hk1 hz1 ht9 hvm
  refine W.cs (cells' := 0) (slots' := 0) rfl rfl ?_
  have hP9 := hP.sub (ws' := [(a12, .inl (cL, 8, .inr (.inl (fun _ => 0)))), (a19, .inr (5, [.ref a2, .int 0, .ref a22, .ref a23, .ref a24])), (a2, .inr (2, [.int 0, .ref a8, .ref a9, .ref a10, .ref a11, .ref a12, .int 0, .ref a13, .ref a14, .ref a15, .ref a16, .ref a17, .int 0, .int 0])), (a4, .inr (4, [.ref a1, .ref a2, .ref a3, .ref a19])), (a1, .inr (1, [.ref a6, .ref a7, .int 0, .int 0]))]) [0, 1, 2, 3, 4] rfl
  have hD9 := hD.sub (ws' := [(a12, .inl (cL, 8, .inr (.inl (fun _ => 0)))), (a19, .inr (5, [.ref a2, .int 0, .ref a22, .ref a23, .ref a24])), (a2, .inr (2, [.int 0, .ref a8, .ref a9, .ref a10, .ref a11, .ref a12, .int 0, .ref a13, .ref a14, .ref a15, .ref a16, .ref a17, .int 0, .int 0])), (a4, .inr (4, [.ref a1, .ref a2, .ref a3, .ref a19])), (a1, .inr (1, [.ref a6, .ref a7, .int 0, .int 0]))]) [0, 1, 2, 3, 4] (by decide) rfl
  exact W.vret hx hb hr (fun t ht9 hW => ⟨⟨(), rfl, trivial, by rw [ht9]; exact hP9, hD9⟩, hS.F ht9⟩) hS.2.2 d_Un_begin_37

set_option maxHeartbeats 4000000 in
set_option maxRecDepth 100000 in
theorem c_Un_run (l : Launch) (dC : Nat → ClassId) (dI : Nat → Nat → Nat) (cI cL cZ : ClassId) (sz : Nat) (a4 : Nat) (a1 : Nat) (a2 : Nat) (a12 : Nat) (a19 : Nat) (a3 : Nat) (a6 : Nat) (a7 : Nat) (a8 : Nat) (a9 : Nat) (a10 : Nat) (a11 : Nat) (a13 : Nat) (a14 : Nat) (a15 : Nat) (a16 : Nat) (a17 : Nat) (a22 : Nat) (a23 : Nat) (a24 : Nat) : Met l y_Un_run (Cond.code y_Un_run prog_8_method_2_code 4 (some .int) :: wsA) { frames := 3, cells := 0, slots := 0, locals := 73 } (va_Pc [.ref a4] (fun U => U.heap.size = sz ∧ va_P (dC, dI) clA [(a4, .inr (4, [.ref a1, .ref a2, .ref a3, .ref a19])), (a1, .inr (1, [.ref a6, .ref a7, .int 0, .int 0])), (a2, .inr (2, [.int 0, .ref a8, .ref a9, .ref a10, .ref a11, .ref a12, .int 0, .ref a13, .ref a14, .ref a15, .ref a16, .ref a17, .int 0, .int 0])), (a12, .inl (cL, 8, .inr (.inl (fun _ => 0)))), (a19, .inr (5, [.ref a2, .int 0, .ref a22, .ref a23, .ref a24]))] U.heap ∧ va_K (dC, dI) clA [(cI, .int), (cL, .long), (cZ, .boolean)] U ∧ va_D (fun _ => True) [(a4, .inr (4, [.ref a1, .ref a2, .ref a3, .ref a19])), (a1, .inr (1, [.ref a6, .ref a7, .int 0, .int 0])), (a2, .inr (2, [.int 0, .ref a8, .ref a9, .ref a10, .ref a11, .ref a12, .int 0, .ref a13, .ref a14, .ref a15, .ref a16, .ref a17, .int 0, .int 0])), (a12, .inl (cL, 8, .inr (.inl (fun _ => 0)))), (a19, .inr (5, [.ref a2, .int 0, .ref a22, .ref a23, .ref a24]))] ∧ NwA U)) (va_Qi (fun r (_ : Unit) => r = 0) (fun _ t => va_P (dC, dI) clA [(a12, .inl (cL, 8, .inr (.inl (fun _ => 0)))), (a2, .inr (2, [.int 0, .ref a8, .ref a9, .ref a10, .ref a11, .ref a12, .int 0, .ref a13, .ref a14, .ref a15, .ref a16, .ref a17, .int 0, .int 1])), (a4, .inr (4, [.ref a1, .ref a2, .ref a3, .ref a19])), (a1, .inr (1, [.ref a6, .ref a7, .int 0, .int 0])), (a19, .inr (5, [.ref a2, .int 0, .ref a22, .ref a23, .ref a24]))] t.heap ∧ va_D (va_A [(a4, .inr (4, [.ref a1, .ref a2, .ref a3, .ref a19])), (a1, .inr (1, [.ref a6, .ref a7, .int 0, .int 0])), (a2, .inr (2, [.int 0, .ref a8, .ref a9, .ref a10, .ref a11, .ref a12, .int 0, .ref a13, .ref a14, .ref a15, .ref a16, .ref a17, .int 0, .int 0])), (a12, .inl (cL, 8, .inr (.inl (fun _ => 0)))), (a19, .inr (5, [.ref a2, .int 0, .ref a22, .ref a23, .ref a24]))] sz) [(a12, .inl (cL, 8, .inr (.inl (fun _ => 0)))), (a2, .inr (2, [.int 0, .ref a8, .ref a9, .ref a10, .ref a11, .ref a12, .int 0, .ref a13, .ref a14, .ref a15, .ref a16, .ref a17, .int 0, .int 1])), (a4, .inr (4, [.ref a1, .ref a2, .ref a3, .ref a19])), (a1, .inr (1, [.ref a6, .ref a7, .int 0, .int 0])), (a19, .inr (5, [.ref a2, .int 0, .ref a22, .ref a23, .ref a24]))]) (va_A [(a4, .inr (4, [.ref a1, .ref a2, .ref a3, .ref a19])), (a1, .inr (1, [.ref a6, .ref a7, .int 0, .int 0])), (a2, .inr (2, [.int 0, .ref a8, .ref a9, .ref a10, .ref a11, .ref a12, .int 0, .ref a13, .ref a14, .ref a15, .ref a16, .ref a17, .int 0, .int 0])), (a12, .inl (cL, 8, .inr (.inl (fun _ => 0)))), (a19, .inr (5, [.ref a2, .int 0, .ref a22, .ref a23, .ref a24]))] sz)) 0 0 (va_A [(a4, .inr (4, [.ref a1, .ref a2, .ref a3, .ref a19])), (a1, .inr (1, [.ref a6, .ref a7, .int 0, .int 0])), (a2, .inr (2, [.int 0, .ref a8, .ref a9, .ref a10, .ref a11, .ref a12, .int 0, .ref a13, .ref a14, .ref a15, .ref a16, .ref a17, .int 0, .int 0])), (a12, .inl (cL, 8, .inr (.inl (fun _ => 0)))), (a19, .inr (5, [.ref a2, .int 0, .ref a22, .ref a23, .ref a24]))] sz) := by
  refine Met.ofW (cc := prog_8_method_2_code) (maxL := 4) (ret := (some .int)) (by decide) rfl ?_
  intro p e s m args below meth c s₁ B hml hv
  obtain ⟨rfl, hsz, hP, hK, hD0, hN⟩ := hv
  have hx := B.exec
  have hb := B.bytes
  have hr := B.returns
  have ht : ∀ w ∈ wsA, w.before _ s = true := fun w h => atoms_spec (ws := (Cond.code y_Un_run prog_8_method_2_code 4 (some .int) :: wsA)) B.pre w (List.mem_cons_of_mem _ h)
  have hown : s.vm.findClass "NetUnfolder$Unfolding" = some m.cls := findClass_of_methodNamed B.named
  have hlocks := B.notSynchronized
  subst hsz
  have hD := hD0.self (sz := s.heap.size)
  generalize hAe : va_A [(a4, .inr (4, [.ref a1, .ref a2, .ref a3, .ref a19])), (a1, .inr (1, [.ref a6, .ref a7, .int 0, .int 0])), (a2, .inr (2, [.int 0, .ref a8, .ref a9, .ref a10, .ref a11, .ref a12, .int 0, .ref a13, .ref a14, .ref a15, .ref a16, .ref a17, .int 0, .int 0])), (a12, .inl (cL, 8, .inr (.inl (fun _ => 0)))), (a19, .inr (5, [.ref a2, .int 0, .ref a22, .ref a23, .ref a24]))] s.heap.size = A at hD ⊢
  have hA : ∀ q : Nat, s.heap.size ≤ q → A q := fun q h => by rw [← hAe]; exact Or.inr h
  have hS : va_S A s.heap s.heap [] := va_S.rf
  have hl := lv_entry ([.ref a4]) (n := 4) (Nat.le_of_ble_eq_true rfl)
  rw [lg_entry_eq]
  generalize (lg_sl ([.ref a4]) ++ List.replicate (4 - (lg_sl ([.ref a4])).length) Slot.unset).toArray = ls at hl ⊢
  replace hl : lv_has ls 4 [(0, .ref a4)] := hl
  refine lv_aload_n hx hb d_Un_run_0 rfl (lv_at hl 0 rfl) ?_
  have hPc := hP.sub (ws' := [(a4, .inr (4, [.ref a1, .ref a2, .ref a3, .ref a19])), (a1, .inr (1, [.ref a6, .ref a7, .int 0, .int 0])), (a2, .inr (2, [.int 0, .ref a8, .ref a9, .ref a10, .ref a11, .ref a12, .int 0, .ref a13, .ref a14, .ref a15, .ref a16, .ref a17, .int 0, .int 0])), (a12, .inl (cL, 8, .inr (.inl (fun _ => 0)))), (a19, .inr (5, [.ref a2, .int 0, .ref a22, .ref a23, .ref a24]))]) [0, 1, 2, 3, 4] rfl
  have hDc := hD.sub (ws' := [(a4, .inr (4, [.ref a1, .ref a2, .ref a3, .ref a19])), (a1, .inr (1, [.ref a6, .ref a7, .int 0, .int 0])), (a2, .inr (2, [.int 0, .ref a8, .ref a9, .ref a10, .ref a11, .ref a12, .int 0, .ref a13, .ref a14, .ref a15, .ref a16, .ref a17, .int 0, .int 0])), (a12, .inl (cL, 8, .inr (.inl (fun _ => 0)))), (a19, .inr (5, [.ref a2, .int 0, .ref a22, .ref a23, .ref a24]))]) [0, 1, 2, 3, 4] (by decide) rfl
  have hFc := va_free (wc := [(a4, .inr (4, [.ref a1, .ref a2, .ref a3, .ref a19])), (a1, .inr (1, [.ref a6, .ref a7, .int 0, .int 0])), (a2, .inr (2, [.int 0, .ref a8, .ref a9, .ref a10, .ref a11, .ref a12, .int 0, .ref a13, .ref a14, .ref a15, .ref a16, .ref a17, .int 0, .int 0])), (a12, .inl (cL, 8, .inr (.inl (fun _ => 0)))), (a19, .inr (5, [.ref a2, .int 0, .ref a22, .ref a23, .ref a24]))]) hD hS hA [0, 1, 2, 3, 4] rfl
  refine va_callv (va_runV (C := "NetUnfolder$Unfolding") (As := []) (rest := []) ⟨hx, hb, hml, hown, ht⟩ (c_Un_begin l dC dI cI cL cZ _ a4 a1 a2 a12 a19 a3 a6 a7 a8 a9 a10 a11 a13 a14 a15 a16 a17 a22 a23 a24 ) (cwV 0 ht (good_V wd_2_83 wd_2_85 ws_Un_begin wd_1_5 wd_2_86) rfl rfl rfl (by decide +kernel) ⟨Nat.le_of_ble_eq_true rfl, Nat.le_of_ble_eq_true rfl⟩) ⟨fun a U g mk q => by obtain ⟨q0, q1, qP, qK, qD, qN⟩ := q; exact ⟨q0, q1, qP, va_K.moved (u := U) (U := U.calling g mk a) (Vm.Alike.refl U.vm) qK, qD, NwA.same (u := U) rfl qN⟩, (va_recv (q0 := 0) (ci := 4) hK hP rfl rfl), fun U hU hW => ⟨rfl, by rw [hU], by rw [hU]; exact hPc, va_K.moved hW.alike hK, hDc.weaken (fun _ _ _ _ => trivial), NwA.warm hW hN⟩⟩ rfl rfl hl.1 rfl (lv_room (Nat.le_of_ble_eq_true rfl)) d_Un_run_1 ⟨Nat.le_of_ble_eq_true rfl, Nat.le_of_ble_eq_true rfl⟩) hS (fun q _ h => hFc q h) hFc (fun u t H1 locs ht9 hvm hw2 hB hz1 hk1 hSn => ?_)
  obtain ⟨hP1, hD1⟩ := hB
  rw [ht9] at hP1
  obtain ⟨hPn, hDn⟩ := va_join (wr := []) (w1 := [(a12, .inl (cL, 8, .inr (.inl (fun _ => 0)))), (a19, .inr (5, [.ref a2, .int 0, .ref a22, .ref a23, .ref a24])), (a2, .inr (2, [.int 0, .ref a8, .ref a9, .ref a10, .ref a11, .ref a12, .int 0, .ref a13, .ref a14, .ref a15, .ref a16, .ref a17, .int 0, .int 0])), (a4, .inr (4, [.ref a1, .ref a2, .ref a3, .ref a19])), (a1, .inr (1, [.ref a6, .ref a7, .int 0, .int 0]))]) hP hD [0, 1, 2, 3, 4] [] rfl rfl (by decide) (by decide) hk1 hFc hP1 hD1
  replace hP : va_P (dC, dI) clA [(a12, .inl (cL, 8, .inr (.inl (fun _ => 0)))), (a19, .inr (5, [.ref a2, .int 0, .ref a22, .ref a23, .ref a24])), (a2, .inr (2, [.int 0, .ref a8, .ref a9, .ref a10, .ref a11, .ref a12, .int 0, .ref a13, .ref a14, .ref a15, .ref a16, .ref a17, .int 0, .int 0])), (a4, .inr (4, [.ref a1, .ref a2, .ref a3, .ref a19])), (a1, .inr (1, [.ref a6, .ref a7, .int 0, .int 0]))] H1 := hPn
  replace hD : va_D A [(a12, .inl (cL, 8, .inr (.inl (fun _ => 0)))), (a19, .inr (5, [.ref a2, .int 0, .ref a22, .ref a23, .ref a24])), (a2, .inr (2, [.int 0, .ref a8, .ref a9, .ref a10, .ref a11, .ref a12, .int 0, .ref a13, .ref a14, .ref a15, .ref a16, .ref a17, .int 0, .int 0])), (a4, .inr (4, [.ref a1, .ref a2, .ref a3, .ref a19])), (a1, .inr (1, [.ref a6, .ref a7, .int 0, .int 0]))] := hDn
  replace hS := hSn
  clear hPn hDn hSn
  clear hPc hDc hFc hP1 hD1 hk1 hz1 ht9 hvm
  refine W.cs (cells' := 0) (slots' := 0) rfl rfl ?_
  refine lv_iconst (v := 0) hx hb d_Un_run_4 (by decide) ?_
  refine lv_istore_n (lv' := [(1, .int 0), (0, .ref a4)]) hx hb d_Un_run_5 rfl hl (by decide) rfl (fun ls hln => ?_)
  replace hl : lv_has ls 4 [(1, .int 0), (0, .ref a4)] := hln
  clear hln
  refine lv_iload_n hx hb d_Un_run_6 rfl (lv_at hl 0 rfl) ?_
  refine lv_bipush (v := 30) hx hb d_Un_run_7 (by decide) ?_
  refine lv_icmp_gt (tgt := 96) hx hb d_Un_run_9 (by decide) (fun h => absurd h (by decide)) (fun _ => ?_)
  refine lv_aload_n hx hb d_Un_run_12 rfl (lv_at hl 1 rfl) ?_
  refine va_get (D := (dC, dI)) (ci := 4) (v := .ref a19) (C := "NetUnfolder$Unfolding") (T := T_Un) (N := 4) hx hb ht in_Un hown hK hP 3 rfl rfl 3 (by decide) (ht _ wd_1_187) (fun _ h9 => h9) rfl d_Un_run_13 ?_
  have hPc := hP.sub (ws' := [(a19, .inr (5, [.ref a2, .int 0, .ref a22, .ref a23, .ref a24]))]) [1] rfl
  have hDc := hD.sub (ws' := [(a19, .inr (5, [.ref a2, .int 0, .ref a22, .ref a23, .ref a24]))]) [1] (by decide) rfl
  have hFc := va_free (wc := [(a19, .inr (5, [.ref a2, .int 0, .ref a22, .ref a23, .ref a24]))]) hD hS hA [1] rfl
  refine va_calli (va_runV (C := "NetUnfolder$Possible") (As := []) (rest := []) ⟨hx, hb, hml, hown, ht⟩ (c_Po_tooMany l dC dI cI cL cZ _ a19 a2 a22 a23 a24 ) (cwV 0 ht (good_V wd_2_112 wd_2_113 wd_2_114 wd_1_6 wd_2_115) rfl rfl rfl (by decide +kernel) ⟨Nat.le_of_ble_eq_true rfl, Nat.le_of_ble_eq_true rfl⟩) ⟨fun a U g mk q => by obtain ⟨q0, q1, qP, qK, qD, qN⟩ := q; exact ⟨q0, q1, qP, va_K.moved (u := U) (U := U.calling g mk a) (Vm.Alike.refl U.vm) qK, qD, NwA.same (u := U) rfl qN⟩, (va_recv (q0 := 1) (ci := 5) hK hP rfl rfl), fun U hU hW => ⟨rfl, by rw [hU], by rw [hU]; exact hPc, va_K.moved hW.alike hK, hDc.weaken (fun _ _ _ _ => trivial), NwA.warm hW hN⟩⟩ rfl rfl hl.1 rfl (lv_room (Nat.le_of_ble_eq_true rfl)) d_Un_run_16 ⟨Nat.le_of_ble_eq_true rfl, Nat.le_of_ble_eq_true rfl⟩) hS (fun q _ h => hFc q h) hFc (fun r9 u t H3 locs ht9 hvm hw4 hB hz1 hk1 hSn => ?_)
  obtain ⟨hP1, hD1⟩ := hB
  rw [ht9] at hP1
  obtain ⟨hPn, hDn⟩ := va_join (wr := [(a12, .inl (cL, 8, .inr (.inl (fun _ => 0)))), (a2, .inr (2, [.int 0, .ref a8, .ref a9, .ref a10, .ref a11, .ref a12, .int 0, .ref a13, .ref a14, .ref a15, .ref a16, .ref a17, .int 0, .int 0])), (a4, .inr (4, [.ref a1, .ref a2, .ref a3, .ref a19])), (a1, .inr (1, [.ref a6, .ref a7, .int 0, .int 0]))]) (w1 := [(a19, .inr (5, [.ref a2, .int 0, .ref a22, .ref a23, .ref a24]))]) hP hD [1] [0, 2, 3, 4] rfl rfl (by decide) (by decide) hk1 hFc hP1 hD1
  replace hP : va_P (dC, dI) clA [(a12, .inl (cL, 8, .inr (.inl (fun _ => 0)))), (a2, .inr (2, [.int 0, .ref a8, .ref a9, .ref a10, .ref a11, .ref a12, .int 0, .ref a13, .ref a14, .ref a15, .ref a16, .ref a17, .int 0, .int 0])), (a4, .inr (4, [.ref a1, .ref a2, .ref a3, .ref a19])), (a1, .inr (1, [.ref a6, .ref a7, .int 0, .int 0])), (a19, .inr (5, [.ref a2, .int 0, .ref a22, .ref a23, .ref a24]))] H3 := hPn
  replace hD : va_D A [(a12, .inl (cL, 8, .inr (.inl (fun _ => 0)))), (a2, .inr (2, [.int 0, .ref a8, .ref a9, .ref a10, .ref a11, .ref a12, .int 0, .ref a13, .ref a14, .ref a15, .ref a16, .ref a17, .int 0, .int 0])), (a4, .inr (4, [.ref a1, .ref a2, .ref a3, .ref a19])), (a1, .inr (1, [.ref a6, .ref a7, .int 0, .int 0])), (a19, .inr (5, [.ref a2, .int 0, .ref a22, .ref a23, .ref a24]))] := hDn
  replace hS := hSn
  clear hPn hDn hSn
  clear hPc hDc hFc hP1 hD1 hk1 hz1 ht9 hvm
  refine W.cs (cells' := 0) (slots' := 0) rfl rfl ?_
  subst hw4
  refine lv_if_eq (tgt := 25) hx hb d_Un_run_19 (by decide) (fun _ => ?_) (fun h => (h (by decide)).elim)
  refine lv_aload_n hx hb d_Un_run_25 rfl (lv_at hl 1 rfl) ?_
  refine va_get (D := (dC, dI)) (ci := 4) (v := .ref a19) (C := "NetUnfolder$Unfolding") (T := T_Un) (N := 4) hx hb ht in_Un hown hK hP 2 rfl rfl 3 (by decide) (ht _ wd_1_187) (fun _ h9 => h9) rfl d_Un_run_26 ?_
  refine va_get (D := (dC, dI)) (ci := 5) (v := .int 0) (C := "NetUnfolder$Possible") (T := T_Po) (N := 5) hx hb ht in_Po hown hK hP 4 rfl rfl 1 (by decide) (ht _ wd_1_166) (fun _ h9 => h9) rfl d_Un_run_29 ?_
  refine lv_if_ne (tgt := 51) hx hb d_Un_run_32 (by decide) (fun h => (h (by decide)).elim) (fun _ => ?_)
  refine lv_aload_n hx hb d_Un_run_35 rfl (lv_at hl 1 rfl) ?_
  refine va_get (D := (dC, dI)) (ci := 4) (v := .ref a2) (C := "NetUnfolder$Unfolding") (T := T_Un) (N := 4) hx hb ht in_Un hown hK hP 2 rfl rfl 1 (by decide) (ht _ wd_1_185) (fun _ h9 => h9) rfl d_Un_run_36 ?_
  refine lv_iconst (v := 1) hx hb d_Un_run_39 (by decide) ?_
  refine va_put (D := (dC, dI)) (ci := 2) (v := .int 1) (ty := .boolean) (C := "NetUnfolder$Prefix") (T := T_Pf) (N := 14) hx hb ht in_Pf ty_Pf ok_Pf nm_Pf hown hK hP hD hS 1 rfl rfl 13 (by decide) (ht _ wd_1_105) (fun _ h9 => h9) rfl (by decide +kernel) rfl rfl (Nat.le_of_ble_eq_true rfl) d_Un_run_40 (fun H5 locs hPn hDn hSn => ?_)
  replace hP : va_P (dC, dI) clA [(a12, .inl (cL, 8, .inr (.inl (fun _ => 0)))), (a2, .inr (2, [.int 0, .ref a8, .ref a9, .ref a10, .ref a11, .ref a12, .int 0, .ref a13, .ref a14, .ref a15, .ref a16, .ref a17, .int 0, .int 1])), (a4, .inr (4, [.ref a1, .ref a2, .ref a3, .ref a19])), (a1, .inr (1, [.ref a6, .ref a7, .int 0, .int 0])), (a19, .inr (5, [.ref a2, .int 0, .ref a22, .ref a23, .ref a24]))] H5 := hPn
  replace hD : va_D A [(a12, .inl (cL, 8, .inr (.inl (fun _ => 0)))), (a2, .inr (2, [.int 0, .ref a8, .ref a9, .ref a10, .ref a11, .ref a12, .int 0, .ref a13, .ref a14, .ref a15, .ref a16, .ref a17, .int 0, .int 1])), (a4, .inr (4, [.ref a1, .ref a2, .ref a3, .ref a19])), (a1, .inr (1, [.ref a6, .ref a7, .int 0, .int 0])), (a19, .inr (5, [.ref a2, .int 0, .ref a22, .ref a23, .ref a24]))] := hDn
  replace hS := hSn
  clear hPn hDn hSn
  refine lv_aload_n hx hb d_Un_run_43 rfl (lv_at hl 1 rfl) ?_
  refine va_get (D := (dC, dI)) (ci := 4) (v := .ref a2) (C := "NetUnfolder$Unfolding") (T := T_Un) (N := 4) hx hb ht in_Un hown hK hP 2 rfl rfl 1 (by decide) (ht _ wd_1_185) (fun _ h9 => h9) rfl d_Un_run_44 ?_
  refine va_get (D := (dC, dI)) (ci := 2) (v := .int 0) (C := "NetUnfolder$Prefix") (T := T_Pf) (N := 14) hx hb ht in_Pf hown hK hP 1 rfl rfl 6 (by decide) (ht _ wd_1_83) (fun _ h9 => h9) rfl d_Un_run_47 ?_
  have hP9 := hP.sub (ws' := [(a12, .inl (cL, 8, .inr (.inl (fun _ => 0)))), (a2, .inr (2, [.int 0, .ref a8, .ref a9, .ref a10, .ref a11, .ref a12, .int 0, .ref a13, .ref a14, .ref a15, .ref a16, .ref a17, .int 0, .int 1])), (a4, .inr (4, [.ref a1, .ref a2, .ref a3, .ref a19])), (a1, .inr (1, [.ref a6, .ref a7, .int 0, .int 0])), (a19, .inr (5, [.ref a2, .int 0, .ref a22, .ref a23, .ref a24]))]) [0, 1, 2, 3, 4] rfl
  have hD9 := hD.sub (ws' := [(a12, .inl (cL, 8, .inr (.inl (fun _ => 0)))), (a2, .inr (2, [.int 0, .ref a8, .ref a9, .ref a10, .ref a11, .ref a12, .int 0, .ref a13, .ref a14, .ref a15, .ref a16, .ref a17, .int 0, .int 1])), (a4, .inr (4, [.ref a1, .ref a2, .ref a3, .ref a19])), (a1, .inr (1, [.ref a6, .ref a7, .int 0, .int 0])), (a19, .inr (5, [.ref a2, .int 0, .ref a22, .ref a23, .ref a24]))]) [0, 1, 2, 3, 4] (by decide) rfl
  exact W.iret (v := 0) hx hb hr (fun t ht9 hW => ⟨⟨0, (), rfl, rfl, by rw [ht9]; exact hP9, hD9⟩, hS.F ht9⟩) hS.2.2 d_Un_run_50
end
section
set_option maxHeartbeats 4000000 in
set_option maxRecDepth 100000 in
theorem c_NU_clear (l : Launch) (dC : Nat → ClassId) (dI : Nat → Nat → Nat) (cI cL cZ : ClassId) (sz : Nat) (a0 : Nat) (a2 : Nat) (a12 : Nat) (a3 : Nat) (a1 : Nat) (a4 : Nat) (a5 : Nat) (a8 : Nat) (a9 : Nat) (a10 : Nat) (a11 : Nat) (a13 : Nat) (a14 : Nat) (a15 : Nat) (a16 : Nat) (a17 : Nat) (a18 : Nat) (a6 : Nat) (a7 : Nat) : Met l y_NU_clear (Cond.code y_NU_clear prog_1_method_4_code 1 none :: wsA) { frames := 3, cells := 0, slots := 0, locals := 64 } (va_Pc [.ref a0] (fun U => U.heap.size = sz ∧ va_P (dC, dI) clA [(a0, .inr (0, [.ref a1, .ref a2, .ref a3, .ref a4, .ref a5])), (a2, .inr (2, [.int 0, .ref a8, .ref a9, .ref a10, .ref a11, .ref a12, .int 0, .ref a13, .ref a14, .ref a15, .ref a16, .ref a17, .int 0, .int 0])), (a12, .inl (cL, 8, .inr (.inl (fun _ => 0)))), (a3, .inr (3, [.ref a18, .int (-1)])), (a1, .inr (1, [.ref a6, .ref a7, .int 0, .int 0]))] U.heap ∧ va_K (dC, dI) clA [(cI, .int), (cL, .long), (cZ, .boolean)] U ∧ va_D (fun _ => True) [(a0, .inr (0, [.ref a1, .ref a2, .ref a3, .ref a4, .ref a5])), (a2, .inr (2, [.int 0, .ref a8, .ref a9, .ref a10, .ref a11, .ref a12, .int 0, .ref a13, .ref a14, .ref a15, .ref a16, .ref a17, .int 0, .int 0])), (a12, .inl (cL, 8, .inr (.inl (fun _ => 0)))), (a3, .inr (3, [.ref a18, .int (-1)])), (a1, .inr (1, [.ref a6, .ref a7, .int 0, .int 0]))] ∧ NwA U)) (va_Qv (fun _ : Unit => True) (fun _ t => va_P (dC, dI) clA [(a0, .inr (0, [.ref a1, .ref a2, .ref a3, .ref a4, .ref a5])), (a2, .inr (2, [.int 0, .ref a8, .ref a9, .ref a10, .ref a11, .ref a12, .int 0, .ref a13, .ref a14, .ref a15, .ref a16, .ref a17, .int 0, .int 0])), (a12, .inl (cL, 8, .inr (.inl (fun _ => 0)))), (a3, .inr (3, [.ref a18, .int (-1)])), (a1, .inr (1, [.ref a6, .ref a7, .int 0, .int 0]))] t.heap ∧ va_D (va_A [(a0, .inr (0, [.ref a1, .ref a2, .ref a3, .ref a4, .ref a5])), (a2, .inr (2, [.int 0, .ref a8, .ref a9, .ref a10, .ref a11, .ref a12, .int 0, .ref a13, .ref a14, .ref a15, .ref a16, .ref a17, .int 0, .int 0])), (a12, .inl (cL, 8, .inr (.inl (fun _ => 0)))), (a3, .inr (3, [.ref a18, .int (-1)])), (a1, .inr (1, [.ref a6, .ref a7, .int 0, .int 0]))] sz) [(a0, .inr (0, [.ref a1, .ref a2, .ref a3, .ref a4, .ref a5])), (a2, .inr (2, [.int 0, .ref a8, .ref a9, .ref a10, .ref a11, .ref a12, .int 0, .ref a13, .ref a14, .ref a15, .ref a16, .ref a17, .int 0, .int 0])), (a12, .inl (cL, 8, .inr (.inl (fun _ => 0)))), (a3, .inr (3, [.ref a18, .int (-1)])), (a1, .inr (1, [.ref a6, .ref a7, .int 0, .int 0]))]) (va_A [(a0, .inr (0, [.ref a1, .ref a2, .ref a3, .ref a4, .ref a5])), (a2, .inr (2, [.int 0, .ref a8, .ref a9, .ref a10, .ref a11, .ref a12, .int 0, .ref a13, .ref a14, .ref a15, .ref a16, .ref a17, .int 0, .int 0])), (a12, .inl (cL, 8, .inr (.inl (fun _ => 0)))), (a3, .inr (3, [.ref a18, .int (-1)])), (a1, .inr (1, [.ref a6, .ref a7, .int 0, .int 0]))] sz)) 0 0 (va_A [(a0, .inr (0, [.ref a1, .ref a2, .ref a3, .ref a4, .ref a5])), (a2, .inr (2, [.int 0, .ref a8, .ref a9, .ref a10, .ref a11, .ref a12, .int 0, .ref a13, .ref a14, .ref a15, .ref a16, .ref a17, .int 0, .int 0])), (a12, .inl (cL, 8, .inr (.inl (fun _ => 0)))), (a3, .inr (3, [.ref a18, .int (-1)])), (a1, .inr (1, [.ref a6, .ref a7, .int 0, .int 0]))] sz) := by
  refine Met.ofW (cc := prog_1_method_4_code) (maxL := 1) (ret := none) (by decide) rfl ?_
  intro p e s m args below meth c s₁ B hml hv
  obtain ⟨rfl, hsz, hP, hK, hD0, hN⟩ := hv
  have hx := B.exec
  have hb := B.bytes
  have hr := B.returns
  have ht : ∀ w ∈ wsA, w.before _ s = true := fun w h => atoms_spec (ws := (Cond.code y_NU_clear prog_1_method_4_code 1 none :: wsA)) B.pre w (List.mem_cons_of_mem _ h)
  have hown : s.vm.findClass "NetUnfolder" = some m.cls := findClass_of_methodNamed B.named
  have hlocks := B.notSynchronized
  subst hsz
  have hD := hD0.self (sz := s.heap.size)
  generalize hAe : va_A [(a0, .inr (0, [.ref a1, .ref a2, .ref a3, .ref a4, .ref a5])), (a2, .inr (2, [.int 0, .ref a8, .ref a9, .ref a10, .ref a11, .ref a12, .int 0, .ref a13, .ref a14, .ref a15, .ref a16, .ref a17, .int 0, .int 0])), (a12, .inl (cL, 8, .inr (.inl (fun _ => 0)))), (a3, .inr (3, [.ref a18, .int (-1)])), (a1, .inr (1, [.ref a6, .ref a7, .int 0, .int 0]))] s.heap.size = A at hD ⊢
  have hA : ∀ q : Nat, s.heap.size ≤ q → A q := fun q h => by rw [← hAe]; exact Or.inr h
  have hS : va_S A s.heap s.heap [] := va_S.rf
  have hl := lv_entry ([.ref a0]) (n := 1) (Nat.le_of_ble_eq_true rfl)
  rw [lg_entry_eq]
  generalize (lg_sl ([.ref a0]) ++ List.replicate (1 - (lg_sl ([.ref a0])).length) Slot.unset).toArray = ls at hl ⊢
  replace hl : lv_has ls 1 [(0, .ref a0)] := hl
  refine lv_aload_n hx hb d_NU_clear_0 rfl (lv_at hl 0 rfl) ?_
  have hPc := hP.sub (ws' := [(a0, .inr (0, [.ref a1, .ref a2, .ref a3, .ref a4, .ref a5])), (a2, .inr (2, [.int 0, .ref a8, .ref a9, .ref a10, .ref a11, .ref a12, .int 0, .ref a13, .ref a14, .ref a15, .ref a16, .ref a17, .int 0, .int 0])), (a12, .inl (cL, 8, .inr (.inl (fun _ => 0)))), (a3, .inr (3, [.ref a18, .int (-1)]))]) [0, 1, 2, 3] rfl
  have hDc := hD.sub (ws' := [(a0, .inr (0, [.ref a1, .ref a2, .ref a3, .ref a4, .ref a5])), (a2, .inr (2, [.int 0, .ref a8, .ref a9, .ref a10, .ref a11, .ref a12, .int 0, .ref a13, .ref a14, .ref a15, .ref a16, .ref a17, .int 0, .int 0])), (a12, .inl (cL, 8, .inr (.inl (fun _ => 0)))), (a3, .inr (3, [.ref a18, .int (-1)]))]) [0, 1, 2, 3] (by decide) rfl
  have hFc := va_free (wc := [(a0, .inr (0, [.ref a1, .ref a2, .ref a3, .ref a4, .ref a5])), (a2, .inr (2, [.int 0, .ref a8, .ref a9, .ref a10, .ref a11, .ref a12, .int 0, .ref a13, .ref a14, .ref a15, .ref a16, .ref a17, .int 0, .int 0])), (a12, .inl (cL, 8, .inr (.inl (fun _ => 0)))), (a3, .inr (3, [.ref a18, .int (-1)]))]) hD hS hA [0, 1, 2, 3] rfl
  refine va_callv (va_runV (C := "NetUnfolder") (As := []) (rest := []) ⟨hx, hb, hml, hown, ht⟩ (c_NU_drop l dC dI cI cL cZ _ a0 a2 a12 a3 a1 a4 a5 a8 a9 a10 a11 a13 a14 a15 a16 a17 a18 ) (cwV 0 ht (good_V wd_2_56 wd_2_58 ws_NU_dropPrefixAndWay wd_1_1 wd_2_59) rfl rfl rfl (by decide +kernel) ⟨Nat.le_of_ble_eq_true rfl, Nat.le_of_ble_eq_true rfl⟩) ⟨fun a U g mk q => by obtain ⟨q0, q1, qP, qK, qD, qN⟩ := q; exact ⟨q0, q1, qP, va_K.moved (u := U) (U := U.calling g mk a) (Vm.Alike.refl U.vm) qK, qD, NwA.same (u := U) rfl qN⟩, (va_recv (q0 := 0) (ci := 0) hK hP rfl rfl), fun U hU hW => ⟨rfl, by rw [hU], by rw [hU]; exact hPc, va_K.moved hW.alike hK, hDc.weaken (fun _ _ _ _ => trivial), NwA.warm hW hN⟩⟩ rfl rfl hl.1 rfl (lv_room (Nat.le_of_ble_eq_true rfl)) d_NU_clear_1 ⟨Nat.le_of_ble_eq_true rfl, Nat.le_of_ble_eq_true rfl⟩) hS (fun q _ h => hFc q h) hFc (fun u t H1 locs ht9 hvm hw2 hB hz1 hk1 hSn => ?_)
  obtain ⟨hP1, hD1⟩ := hB
  rw [ht9] at hP1
  obtain ⟨hPn, hDn⟩ := va_join (wr := [(a1, .inr (1, [.ref a6, .ref a7, .int 0, .int 0]))]) (w1 := [(a0, .inr (0, [.ref a1, .ref a2, .ref a3, .ref a4, .ref a5])), (a2, .inr (2, [.int 0, .ref a8, .ref a9, .ref a10, .ref a11, .ref a12, .int 0, .ref a13, .ref a14, .ref a15, .ref a16, .ref a17, .int 0, .int 0])), (a12, .inl (cL, 8, .inr (.inl (fun _ => 0)))), (a3, .inr (3, [.ref a18, .int (-1)]))]) hP hD [0, 1, 2, 3] [4] rfl rfl (by decide) (by decide) hk1 hFc hP1 hD1
  replace hP : va_P (dC, dI) clA [(a1, .inr (1, [.ref a6, .ref a7, .int 0, .int 0])), (a0, .inr (0, [.ref a1, .ref a2, .ref a3, .ref a4, .ref a5])), (a2, .inr (2, [.int 0, .ref a8, .ref a9, .ref a10, .ref a11, .ref a12, .int 0, .ref a13, .ref a14, .ref a15, .ref a16, .ref a17, .int 0, .int 0])), (a12, .inl (cL, 8, .inr (.inl (fun _ => 0)))), (a3, .inr (3, [.ref a18, .int (-1)]))] H1 := hPn
  replace hD : va_D A [(a1, .inr (1, [.ref a6, .ref a7, .int 0, .int 0])), (a0, .inr (0, [.ref a1, .ref a2, .ref a3, .ref a4, .ref a5])), (a2, .inr (2, [.int 0, .ref a8, .ref a9, .ref a10, .ref a11, .ref a12, .int 0, .ref a13, .ref a14, .ref a15, .ref a16, .ref a17, .int 0, .int 0])), (a12, .inl (cL, 8, .inr (.inl (fun _ => 0)))), (a3, .inr (3, [.ref a18, .int (-1)]))] := hDn
  replace hS := hSn
  clear hPn hDn hSn
  clear hPc hDc hFc hP1 hD1 hk1 hz1 ht9 hvm
  refine W.cs (cells' := 0) (slots' := 0) rfl rfl ?_
  refine lv_aload_n hx hb d_NU_clear_4 rfl (lv_at hl 0 rfl) ?_
  refine va_get (D := (dC, dI)) (ci := 0) (v := .ref a1) (C := "NetUnfolder") (T := T_NU) (N := 5) hx hb ht in_NU hown hK hP 1 rfl rfl 0 (by decide) (ht _ wd_2_36) (fun _ h9 => h9) rfl d_NU_clear_5 ?_
  have hPc := hP.sub (ws' := [(a1, .inr (1, [.ref a6, .ref a7, .int 0, .int 0]))]) [0] rfl
  have hDc := hD.sub (ws' := [(a1, .inr (1, [.ref a6, .ref a7, .int 0, .int 0]))]) [0] (by decide) rfl
  have hFc := va_free (wc := [(a1, .inr (1, [.ref a6, .ref a7, .int 0, .int 0]))]) hD hS hA [0] rfl
  refine va_callv (va_runV (C := "NetUnfolder$Net") (As := []) (rest := []) ⟨hx, hb, hml, hown, ht⟩ (c_Ne_wipe l dC dI cI cL cZ _ a1 a6 a7 ) (cwV 0 ht (good_V wd_2_71 wd_2_72 wd_2_73 wd_1_2 wd_2_74) rfl rfl rfl (by decide +kernel) ⟨Nat.le_of_ble_eq_true rfl, Nat.le_of_ble_eq_true rfl⟩) ⟨fun a U g mk q => by obtain ⟨q0, q1, qP, qK, qD, qN⟩ := q; exact ⟨q0, q1, qP, va_K.moved (u := U) (U := U.calling g mk a) (Vm.Alike.refl U.vm) qK, qD, NwA.same (u := U) rfl qN⟩, (va_recv (q0 := 0) (ci := 1) hK hP rfl rfl), fun U hU hW => ⟨rfl, by rw [hU], by rw [hU]; exact hPc, va_K.moved hW.alike hK, hDc.weaken (fun _ _ _ _ => trivial), NwA.warm hW hN⟩⟩ rfl rfl hl.1 rfl (lv_room (Nat.le_of_ble_eq_true rfl)) d_NU_clear_8 ⟨Nat.le_of_ble_eq_true rfl, Nat.le_of_ble_eq_true rfl⟩) hS (fun q _ h => hFc q h) hFc (fun u t H3 locs ht9 hvm hw4 hB hz1 hk1 hSn => ?_)
  obtain ⟨hP1, hD1⟩ := hB
  rw [ht9] at hP1
  obtain ⟨hPn, hDn⟩ := va_join (wr := [(a0, .inr (0, [.ref a1, .ref a2, .ref a3, .ref a4, .ref a5])), (a2, .inr (2, [.int 0, .ref a8, .ref a9, .ref a10, .ref a11, .ref a12, .int 0, .ref a13, .ref a14, .ref a15, .ref a16, .ref a17, .int 0, .int 0])), (a12, .inl (cL, 8, .inr (.inl (fun _ => 0)))), (a3, .inr (3, [.ref a18, .int (-1)]))]) (w1 := [(a1, .inr (1, [.ref a6, .ref a7, .int 0, .int 0]))]) hP hD [0] [1, 2, 3, 4] rfl rfl (by decide) (by decide) hk1 hFc hP1 hD1
  replace hP : va_P (dC, dI) clA [(a0, .inr (0, [.ref a1, .ref a2, .ref a3, .ref a4, .ref a5])), (a2, .inr (2, [.int 0, .ref a8, .ref a9, .ref a10, .ref a11, .ref a12, .int 0, .ref a13, .ref a14, .ref a15, .ref a16, .ref a17, .int 0, .int 0])), (a12, .inl (cL, 8, .inr (.inl (fun _ => 0)))), (a3, .inr (3, [.ref a18, .int (-1)])), (a1, .inr (1, [.ref a6, .ref a7, .int 0, .int 0]))] H3 := hPn
  replace hD : va_D A [(a0, .inr (0, [.ref a1, .ref a2, .ref a3, .ref a4, .ref a5])), (a2, .inr (2, [.int 0, .ref a8, .ref a9, .ref a10, .ref a11, .ref a12, .int 0, .ref a13, .ref a14, .ref a15, .ref a16, .ref a17, .int 0, .int 0])), (a12, .inl (cL, 8, .inr (.inl (fun _ => 0)))), (a3, .inr (3, [.ref a18, .int (-1)])), (a1, .inr (1, [.ref a6, .ref a7, .int 0, .int 0]))] := hDn
  replace hS := hSn
  clear hPn hDn hSn
  clear hPc hDc hFc hP1 hD1 hk1 hz1 ht9 hvm
  refine W.cs (cells' := 0) (slots' := 0) rfl rfl ?_
  have hP9 := hP.sub (ws' := [(a0, .inr (0, [.ref a1, .ref a2, .ref a3, .ref a4, .ref a5])), (a2, .inr (2, [.int 0, .ref a8, .ref a9, .ref a10, .ref a11, .ref a12, .int 0, .ref a13, .ref a14, .ref a15, .ref a16, .ref a17, .int 0, .int 0])), (a12, .inl (cL, 8, .inr (.inl (fun _ => 0)))), (a3, .inr (3, [.ref a18, .int (-1)])), (a1, .inr (1, [.ref a6, .ref a7, .int 0, .int 0]))]) [0, 1, 2, 3, 4] rfl
  have hD9 := hD.sub (ws' := [(a0, .inr (0, [.ref a1, .ref a2, .ref a3, .ref a4, .ref a5])), (a2, .inr (2, [.int 0, .ref a8, .ref a9, .ref a10, .ref a11, .ref a12, .int 0, .ref a13, .ref a14, .ref a15, .ref a16, .ref a17, .int 0, .int 0])), (a12, .inl (cL, 8, .inr (.inl (fun _ => 0)))), (a3, .inr (3, [.ref a18, .int (-1)])), (a1, .inr (1, [.ref a6, .ref a7, .int 0, .int 0]))]) [0, 1, 2, 3, 4] (by decide) rfl
  exact W.vret hx hb hr (fun t ht9 hW => ⟨⟨(), rfl, trivial, by rw [ht9]; exact hP9, hD9⟩, hS.F ht9⟩) hS.2.2 d_NU_clear_11

set_option maxHeartbeats 4000000 in
set_option maxRecDepth 100000 in
theorem c_NU_unfold (l : Launch) (dC : Nat → ClassId) (dI : Nat → Nat → Nat) (cI cL cZ : ClassId) (sz : Nat) (a0 : Nat) (a4 : Nat) (a1 : Nat) (a2 : Nat) (a12 : Nat) (a19 : Nat) (a3 : Nat) (a5 : Nat) (a6 : Nat) (a7 : Nat) (a8 : Nat) (a9 : Nat) (a10 : Nat) (a11 : Nat) (a13 : Nat) (a14 : Nat) (a15 : Nat) (a16 : Nat) (a17 : Nat) (a22 : Nat) (a23 : Nat) (a24 : Nat) : Met l y_NU_unfold (Cond.code y_NU_unfold prog_1_method_5_code 2 (some .int) :: wsA) { frames := 4, cells := 0, slots := 0, locals := 96 } (va_Pc [.ref a0] (fun U => U.heap.size = sz ∧ va_P (dC, dI) clA [(a0, .inr (0, [.ref a1, .ref a2, .ref a3, .ref a4, .ref a5])), (a4, .inr (4, [.ref a1, .ref a2, .ref a3, .ref a19])), (a1, .inr (1, [.ref a6, .ref a7, .int 0, .int 0])), (a2, .inr (2, [.int 0, .ref a8, .ref a9, .ref a10, .ref a11, .ref a12, .int 0, .ref a13, .ref a14, .ref a15, .ref a16, .ref a17, .int 0, .int 0])), (a12, .inl (cL, 8, .inr (.inl (fun _ => 0)))), (a19, .inr (5, [.ref a2, .int 0, .ref a22, .ref a23, .ref a24]))] U.heap ∧ va_K (dC, dI) clA [(cI, .int), (cL, .long), (cZ, .boolean)] U ∧ va_D (fun _ => True) [(a0, .inr (0, [.ref a1, .ref a2, .ref a3, .ref a4, .ref a5])), (a4, .inr (4, [.ref a1, .ref a2, .ref a3, .ref a19])), (a1, .inr (1, [.ref a6, .ref a7, .int 0, .int 0])), (a2, .inr (2, [.int 0, .ref a8, .ref a9, .ref a10, .ref a11, .ref a12, .int 0, .ref a13, .ref a14, .ref a15, .ref a16, .ref a17, .int 0, .int 0])), (a12, .inl (cL, 8, .inr (.inl (fun _ => 0)))), (a19, .inr (5, [.ref a2, .int 0, .ref a22, .ref a23, .ref a24]))] ∧ NwA U)) (va_Qi (fun r (_ : Unit) => r = 0) (fun _ t => va_P (dC, dI) clA [(a0, .inr (0, [.ref a1, .ref a2, .ref a3, .ref a4, .ref a5])), (a12, .inl (cL, 8, .inr (.inl (fun _ => 0)))), (a2, .inr (2, [.int 0, .ref a8, .ref a9, .ref a10, .ref a11, .ref a12, .int 0, .ref a13, .ref a14, .ref a15, .ref a16, .ref a17, .int 0, .int 1])), (a4, .inr (4, [.ref a1, .ref a2, .ref a3, .ref a19])), (a1, .inr (1, [.ref a6, .ref a7, .int 0, .int 0])), (a19, .inr (5, [.ref a2, .int 0, .ref a22, .ref a23, .ref a24]))] t.heap ∧ va_D (va_A [(a0, .inr (0, [.ref a1, .ref a2, .ref a3, .ref a4, .ref a5])), (a4, .inr (4, [.ref a1, .ref a2, .ref a3, .ref a19])), (a1, .inr (1, [.ref a6, .ref a7, .int 0, .int 0])), (a2, .inr (2, [.int 0, .ref a8, .ref a9, .ref a10, .ref a11, .ref a12, .int 0, .ref a13, .ref a14, .ref a15, .ref a16, .ref a17, .int 0, .int 0])), (a12, .inl (cL, 8, .inr (.inl (fun _ => 0)))), (a19, .inr (5, [.ref a2, .int 0, .ref a22, .ref a23, .ref a24]))] sz) [(a0, .inr (0, [.ref a1, .ref a2, .ref a3, .ref a4, .ref a5])), (a12, .inl (cL, 8, .inr (.inl (fun _ => 0)))), (a2, .inr (2, [.int 0, .ref a8, .ref a9, .ref a10, .ref a11, .ref a12, .int 0, .ref a13, .ref a14, .ref a15, .ref a16, .ref a17, .int 0, .int 1])), (a4, .inr (4, [.ref a1, .ref a2, .ref a3, .ref a19])), (a1, .inr (1, [.ref a6, .ref a7, .int 0, .int 0])), (a19, .inr (5, [.ref a2, .int 0, .ref a22, .ref a23, .ref a24]))]) (va_A [(a0, .inr (0, [.ref a1, .ref a2, .ref a3, .ref a4, .ref a5])), (a4, .inr (4, [.ref a1, .ref a2, .ref a3, .ref a19])), (a1, .inr (1, [.ref a6, .ref a7, .int 0, .int 0])), (a2, .inr (2, [.int 0, .ref a8, .ref a9, .ref a10, .ref a11, .ref a12, .int 0, .ref a13, .ref a14, .ref a15, .ref a16, .ref a17, .int 0, .int 0])), (a12, .inl (cL, 8, .inr (.inl (fun _ => 0)))), (a19, .inr (5, [.ref a2, .int 0, .ref a22, .ref a23, .ref a24]))] sz)) 0 0 (va_A [(a0, .inr (0, [.ref a1, .ref a2, .ref a3, .ref a4, .ref a5])), (a4, .inr (4, [.ref a1, .ref a2, .ref a3, .ref a19])), (a1, .inr (1, [.ref a6, .ref a7, .int 0, .int 0])), (a2, .inr (2, [.int 0, .ref a8, .ref a9, .ref a10, .ref a11, .ref a12, .int 0, .ref a13, .ref a14, .ref a15, .ref a16, .ref a17, .int 0, .int 0])), (a12, .inl (cL, 8, .inr (.inl (fun _ => 0)))), (a19, .inr (5, [.ref a2, .int 0, .ref a22, .ref a23, .ref a24]))] sz) := by
  refine Met.ofW (cc := prog_1_method_5_code) (maxL := 2) (ret := (some .int)) (by decide) rfl ?_
  intro p e s m args below meth c s₁ B hml hv
  obtain ⟨rfl, hsz, hP, hK, hD0, hN⟩ := hv
  have hx := B.exec
  have hb := B.bytes
  have hr := B.returns
  have ht : ∀ w ∈ wsA, w.before _ s = true := fun w h => atoms_spec (ws := (Cond.code y_NU_unfold prog_1_method_5_code 2 (some .int) :: wsA)) B.pre w (List.mem_cons_of_mem _ h)
  have hown : s.vm.findClass "NetUnfolder" = some m.cls := findClass_of_methodNamed B.named
  have hlocks := B.notSynchronized
  subst hsz
  have hD := hD0.self (sz := s.heap.size)
  generalize hAe : va_A [(a0, .inr (0, [.ref a1, .ref a2, .ref a3, .ref a4, .ref a5])), (a4, .inr (4, [.ref a1, .ref a2, .ref a3, .ref a19])), (a1, .inr (1, [.ref a6, .ref a7, .int 0, .int 0])), (a2, .inr (2, [.int 0, .ref a8, .ref a9, .ref a10, .ref a11, .ref a12, .int 0, .ref a13, .ref a14, .ref a15, .ref a16, .ref a17, .int 0, .int 0])), (a12, .inl (cL, 8, .inr (.inl (fun _ => 0)))), (a19, .inr (5, [.ref a2, .int 0, .ref a22, .ref a23, .ref a24]))] s.heap.size = A at hD ⊢
  have hA : ∀ q : Nat, s.heap.size ≤ q → A q := fun q h => by rw [← hAe]; exact Or.inr h
  have hS : va_S A s.heap s.heap [] := va_S.rf
  have hl := lv_entry ([.ref a0]) (n := 2) (Nat.le_of_ble_eq_true rfl)
  rw [lg_entry_eq]
  generalize (lg_sl ([.ref a0]) ++ List.replicate (2 - (lg_sl ([.ref a0])).length) Slot.unset).toArray = ls at hl ⊢
  replace hl : lv_has ls 2 [(0, .ref a0)] := hl
  refine lv_aload_n hx hb d_NU_unfold_0 rfl (lv_at hl 0 rfl) ?_
  refine va_get (D := (dC, dI)) (ci := 0) (v := .ref a4) (C := "NetUnfolder") (T := T_NU) (N := 5) hx hb ht in_NU hown hK hP 0 rfl rfl 3 (by decide) (ht _ wd_2_39) (fun _ h9 => h9) rfl d_NU_unfold_1 ?_
  have hPc := hP.sub (ws' := [(a4, .inr (4, [.ref a1, .ref a2, .ref a3, .ref a19])), (a1, .inr (1, [.ref a6, .ref a7, .int 0, .int 0])), (a2, .inr (2, [.int 0, .ref a8, .ref a9, .ref a10, .ref a11, .ref a12, .int 0, .ref a13, .ref a14, .ref a15, .ref a16, .ref a17, .int 0, .int 0])), (a12, .inl (cL, 8, .inr (.inl (fun _ => 0)))), (a19, .inr (5, [.ref a2, .int 0, .ref a22, .ref a23, .ref a24]))]) [1, 2, 3, 4, 5] rfl
  have hDc := hD.sub (ws' := [(a4, .inr (4, [.ref a1, .ref a2, .ref a3, .ref a19])), (a1, .inr (1, [.ref a6, .ref a7, .int 0, .int 0])), (a2, .inr (2, [.int 0, .ref a8, .ref a9, .ref a10, .ref a11, .ref a12, .int 0, .ref a13, .ref a14, .ref a15, .ref a16, .ref a17, .int 0, .int 0])), (a12, .inl (cL, 8, .inr (.inl (fun _ => 0)))), (a19, .inr (5, [.ref a2, .int 0, .ref a22, .ref a23, .ref a24]))]) [1, 2, 3, 4, 5] (by decide) rfl
  have hFc := va_free (wc := [(a4, .inr (4, [.ref a1, .ref a2, .ref a3, .ref a19])), (a1, .inr (1, [.ref a6, .ref a7, .int 0, .int 0])), (a2, .inr (2, [.int 0, .ref a8, .ref a9, .ref a10, .ref a11, .ref a12, .int 0, .ref a13, .ref a14, .ref a15, .ref a16, .ref a17, .int 0, .int 0])), (a12, .inl (cL, 8, .inr (.inl (fun _ => 0)))), (a19, .inr (5, [.ref a2, .int 0, .ref a22, .ref a23, .ref a24]))]) hD hS hA [1, 2, 3, 4, 5] rfl
  refine va_calli (va_runV (C := "NetUnfolder$Unfolding") (As := []) (rest := []) ⟨hx, hb, hml, hown, ht⟩ (c_Un_run l dC dI cI cL cZ _ a4 a1 a2 a12 a19 a3 a6 a7 a8 a9 a10 a11 a13 a14 a15 a16 a17 a22 a23 a24 ) (cwV 0 ht (good_V wd_2_79 wd_2_80 wd_2_81 wd_1_5 wd_2_82) rfl rfl rfl (by decide +kernel) ⟨Nat.le_of_ble_eq_true rfl, Nat.le_of_ble_eq_true rfl⟩) ⟨fun a U g mk q => by obtain ⟨q0, q1, qP, qK, qD, qN⟩ := q; exact ⟨q0, q1, qP, va_K.moved (u := U) (U := U.calling g mk a) (Vm.Alike.refl U.vm) qK, qD, NwA.same (u := U) rfl qN⟩, (va_recv (q0 := 1) (ci := 4) hK hP rfl rfl), fun U hU hW => ⟨rfl, by rw [hU], by rw [hU]; exact hPc, va_K.moved hW.alike hK, hDc.weaken (fun _ _ _ _ => trivial), NwA.warm hW hN⟩⟩ rfl rfl hl.1 rfl (lv_room (Nat.le_of_ble_eq_true rfl)) d_NU_unfold_4 ⟨Nat.le_of_ble_eq_true rfl, Nat.le_of_ble_eq_true rfl⟩) hS (fun q _ h => hFc q h) hFc (fun r9 u t H1 locs ht9 hvm hw2 hB hz1 hk1 hSn => ?_)
  obtain ⟨hP1, hD1⟩ := hB
  rw [ht9] at hP1
  obtain ⟨hPn, hDn⟩ := va_join (wr := [(a0, .inr (0, [.ref a1, .ref a2, .ref a3, .ref a4, .ref a5]))]) (w1 := [(a12, .inl (cL, 8, .inr (.inl (fun _ => 0)))), (a2, .inr (2, [.int 0, .ref a8, .ref a9, .ref a10, .ref a11, .ref a12, .int 0, .ref a13, .ref a14, .ref a15, .ref a16, .ref a17, .int 0, .int 1])), (a4, .inr (4, [.ref a1, .ref a2, .ref a3, .ref a19])), (a1, .inr (1, [.ref a6, .ref a7, .int 0, .int 0])), (a19, .inr (5, [.ref a2, .int 0, .ref a22, .ref a23, .ref a24]))]) hP hD [1, 2, 3, 4, 5] [0] rfl rfl (by decide) (by decide) hk1 hFc hP1 hD1
  replace hP : va_P (dC, dI) clA [(a0, .inr (0, [.ref a1, .ref a2, .ref a3, .ref a4, .ref a5])), (a12, .inl (cL, 8, .inr (.inl (fun _ => 0)))), (a2, .inr (2, [.int 0, .ref a8, .ref a9, .ref a10, .ref a11, .ref a12, .int 0, .ref a13, .ref a14, .ref a15, .ref a16, .ref a17, .int 0, .int 1])), (a4, .inr (4, [.ref a1, .ref a2, .ref a3, .ref a19])), (a1, .inr (1, [.ref a6, .ref a7, .int 0, .int 0])), (a19, .inr (5, [.ref a2, .int 0, .ref a22, .ref a23, .ref a24]))] H1 := hPn
  replace hD : va_D A [(a0, .inr (0, [.ref a1, .ref a2, .ref a3, .ref a4, .ref a5])), (a12, .inl (cL, 8, .inr (.inl (fun _ => 0)))), (a2, .inr (2, [.int 0, .ref a8, .ref a9, .ref a10, .ref a11, .ref a12, .int 0, .ref a13, .ref a14, .ref a15, .ref a16, .ref a17, .int 0, .int 1])), (a4, .inr (4, [.ref a1, .ref a2, .ref a3, .ref a19])), (a1, .inr (1, [.ref a6, .ref a7, .int 0, .int 0])), (a19, .inr (5, [.ref a2, .int 0, .ref a22, .ref a23, .ref a24]))] := hDn
  replace hS := hSn
  clear hPn hDn hSn
  clear hPc hDc hFc hP1 hD1 hk1 hz1 ht9 hvm
  refine W.cs (cells' := 0) (slots' := 0) rfl rfl ?_
  subst hw2
  refine lv_istore_n (lv' := [(1, .int 0), (0, .ref a0)]) hx hb d_NU_unfold_7 rfl hl (by decide) rfl (fun ls hln => ?_)
  replace hl : lv_has ls 2 [(1, .int 0), (0, .ref a0)] := hln
  clear hln
  refine lv_iload_n hx hb d_NU_unfold_8 rfl (lv_at hl 0 rfl) ?_
  refine lv_bipush (v := (-3)) hx hb d_NU_unfold_9 (by decide) ?_
  refine lv_icmp_ne (tgt := 18) hx hb d_NU_unfold_11 (by decide) (fun _ => ?_) (fun h => absurd h (by decide))
  refine lv_iload_n hx hb d_NU_unfold_18 rfl (lv_at hl 0 rfl) ?_
  have hP9 := hP.sub (ws' := [(a0, .inr (0, [.ref a1, .ref a2, .ref a3, .ref a4, .ref a5])), (a12, .inl (cL, 8, .inr (.inl (fun _ => 0)))), (a2, .inr (2, [.int 0, .ref a8, .ref a9, .ref a10, .ref a11, .ref a12, .int 0, .ref a13, .ref a14, .ref a15, .ref a16, .ref a17, .int 0, .int 1])), (a4, .inr (4, [.ref a1, .ref a2, .ref a3, .ref a19])), (a1, .inr (1, [.ref a6, .ref a7, .int 0, .int 0])), (a19, .inr (5, [.ref a2, .int 0, .ref a22, .ref a23, .ref a24]))]) [0, 1, 2, 3, 4, 5] rfl
  have hD9 := hD.sub (ws' := [(a0, .inr (0, [.ref a1, .ref a2, .ref a3, .ref a4, .ref a5])), (a12, .inl (cL, 8, .inr (.inl (fun _ => 0)))), (a2, .inr (2, [.int 0, .ref a8, .ref a9, .ref a10, .ref a11, .ref a12, .int 0, .ref a13, .ref a14, .ref a15, .ref a16, .ref a17, .int 0, .int 1])), (a4, .inr (4, [.ref a1, .ref a2, .ref a3, .ref a19])), (a1, .inr (1, [.ref a6, .ref a7, .int 0, .int 0])), (a19, .inr (5, [.ref a2, .int 0, .ref a22, .ref a23, .ref a24]))]) [0, 1, 2, 3, 4, 5] (by decide) rfl
  exact W.iret (v := 0) hx hb hr (fun t ht9 hW => ⟨⟨0, (), rfl, rfl, by rw [ht9]; exact hP9, hD9⟩, hS.F ht9⟩) hS.2.2 d_NU_unfold_19

set_option maxHeartbeats 4000000 in
set_option maxRecDepth 100000 in
theorem c_NU_transition_ok (l : Launch) (dC : Nat → ClassId) (dI : Nat → Nat → Nat) (cI cL cZ : ClassId) (sz : Nat) (a0 : Nat) (a2 : Nat) (a12 : Nat) (a3 : Nat) (a1 : Nat) (a6 : Nat) (a7 : Nat) (a4 : Nat) (a5 : Nat) (a8 : Nat) (a9 : Nat) (a10 : Nat) (a11 : Nat) (a13 : Nat) (a14 : Nat) (a15 : Nat) (a16 : Nat) (a17 : Nat) (a18 : Nat) (k0 : Int32) (k1 : Int32) (h1 : ¬ k0 < 1) (h2 : ¬ 255 < k0) (h3 : ¬ k1 < 0) (h4 : ¬ 255 < k1) : Met l y_NU_transition (Cond.code y_NU_transition prog_1_method_2_code 3 (some .int) :: wsA) { frames := 3, cells := 0, slots := 0, locals := 64 } (va_Pc [.ref a0, .int k0, .int k1] (fun U => U.heap.size = sz ∧ va_P (dC, dI) clA [(a0, .inr (0, [.ref a1, .ref a2, .ref a3, .ref a4, .ref a5])), (a2, .inr (2, [.int 0, .ref a8, .ref a9, .ref a10, .ref a11, .ref a12, .int 0, .ref a13, .ref a14, .ref a15, .ref a16, .ref a17, .int 0, .int 0])), (a12, .inl (cL, 8, .inr (.inl (fun _ => 0)))), (a3, .inr (3, [.ref a18, .int (-1)])), (a1, .inr (1, [.ref a6, .ref a7, .int 0, .int 0])), (a6, .inl (cI, 8, .inl (fun _ => 0))), (a7, .inl (cI, 8, .inl (fun _ => 0)))] U.heap ∧ va_K (dC, dI) clA [(cI, .int), (cL, .long), (cZ, .boolean)] U ∧ va_D (fun _ => True) [(a0, .inr (0, [.ref a1, .ref a2, .ref a3, .ref a4, .ref a5])), (a2, .inr (2, [.int 0, .ref a8, .ref a9, .ref a10, .ref a11, .ref a12, .int 0, .ref a13, .ref a14, .ref a15, .ref a16, .ref a17, .int 0, .int 0])), (a12, .inl (cL, 8, .inr (.inl (fun _ => 0)))), (a3, .inr (3, [.ref a18, .int (-1)])), (a1, .inr (1, [.ref a6, .ref a7, .int 0, .int 0])), (a6, .inl (cI, 8, .inl (fun _ => 0))), (a7, .inl (cI, 8, .inl (fun _ => 0)))] ∧ NwA U)) (va_Qi (fun r (_ : Unit) => r = 0) (fun _ t => va_P (dC, dI) clA [(a0, .inr (0, [.ref a1, .ref a2, .ref a3, .ref a4, .ref a5])), (a2, .inr (2, [.int 0, .ref a8, .ref a9, .ref a10, .ref a11, .ref a12, .int 0, .ref a13, .ref a14, .ref a15, .ref a16, .ref a17, .int 0, .int 0])), (a12, .inl (cL, 8, .inr (.inl (fun _ => 0)))), (a3, .inr (3, [.ref a18, .int (-1)])), (a1, .inr (1, [.ref a6, .ref a7, .int 1, .int 0])), (a6, .inl (cI, 8, .inl (upd (fun _ => 0) (0 : Int32).toNatClampNeg k0))), (a7, .inl (cI, 8, .inl (upd (fun _ => 0) (0 : Int32).toNatClampNeg k1)))] t.heap ∧ va_D (va_A [(a0, .inr (0, [.ref a1, .ref a2, .ref a3, .ref a4, .ref a5])), (a2, .inr (2, [.int 0, .ref a8, .ref a9, .ref a10, .ref a11, .ref a12, .int 0, .ref a13, .ref a14, .ref a15, .ref a16, .ref a17, .int 0, .int 0])), (a12, .inl (cL, 8, .inr (.inl (fun _ => 0)))), (a3, .inr (3, [.ref a18, .int (-1)])), (a1, .inr (1, [.ref a6, .ref a7, .int 0, .int 0])), (a6, .inl (cI, 8, .inl (fun _ => 0))), (a7, .inl (cI, 8, .inl (fun _ => 0)))] sz) [(a0, .inr (0, [.ref a1, .ref a2, .ref a3, .ref a4, .ref a5])), (a2, .inr (2, [.int 0, .ref a8, .ref a9, .ref a10, .ref a11, .ref a12, .int 0, .ref a13, .ref a14, .ref a15, .ref a16, .ref a17, .int 0, .int 0])), (a12, .inl (cL, 8, .inr (.inl (fun _ => 0)))), (a3, .inr (3, [.ref a18, .int (-1)])), (a1, .inr (1, [.ref a6, .ref a7, .int 1, .int 0])), (a6, .inl (cI, 8, .inl (upd (fun _ => 0) (0 : Int32).toNatClampNeg k0))), (a7, .inl (cI, 8, .inl (upd (fun _ => 0) (0 : Int32).toNatClampNeg k1)))]) (va_A [(a0, .inr (0, [.ref a1, .ref a2, .ref a3, .ref a4, .ref a5])), (a2, .inr (2, [.int 0, .ref a8, .ref a9, .ref a10, .ref a11, .ref a12, .int 0, .ref a13, .ref a14, .ref a15, .ref a16, .ref a17, .int 0, .int 0])), (a12, .inl (cL, 8, .inr (.inl (fun _ => 0)))), (a3, .inr (3, [.ref a18, .int (-1)])), (a1, .inr (1, [.ref a6, .ref a7, .int 0, .int 0])), (a6, .inl (cI, 8, .inl (fun _ => 0))), (a7, .inl (cI, 8, .inl (fun _ => 0)))] sz)) 0 0 (va_A [(a0, .inr (0, [.ref a1, .ref a2, .ref a3, .ref a4, .ref a5])), (a2, .inr (2, [.int 0, .ref a8, .ref a9, .ref a10, .ref a11, .ref a12, .int 0, .ref a13, .ref a14, .ref a15, .ref a16, .ref a17, .int 0, .int 0])), (a12, .inl (cL, 8, .inr (.inl (fun _ => 0)))), (a3, .inr (3, [.ref a18, .int (-1)])), (a1, .inr (1, [.ref a6, .ref a7, .int 0, .int 0])), (a6, .inl (cI, 8, .inl (fun _ => 0))), (a7, .inl (cI, 8, .inl (fun _ => 0)))] sz) := by
  refine Met.ofW (cc := prog_1_method_2_code) (maxL := 3) (ret := (some .int)) (by decide) rfl ?_
  intro p e s m args below meth c s₁ B hml hv
  obtain ⟨rfl, hsz, hP, hK, hD0, hN⟩ := hv
  have hx := B.exec
  have hb := B.bytes
  have hr := B.returns
  have ht : ∀ w ∈ wsA, w.before _ s = true := fun w h => atoms_spec (ws := (Cond.code y_NU_transition prog_1_method_2_code 3 (some .int) :: wsA)) B.pre w (List.mem_cons_of_mem _ h)
  have hown : s.vm.findClass "NetUnfolder" = some m.cls := findClass_of_methodNamed B.named
  have hlocks := B.notSynchronized
  subst hsz
  have hD := hD0.self (sz := s.heap.size)
  generalize hAe : va_A [(a0, .inr (0, [.ref a1, .ref a2, .ref a3, .ref a4, .ref a5])), (a2, .inr (2, [.int 0, .ref a8, .ref a9, .ref a10, .ref a11, .ref a12, .int 0, .ref a13, .ref a14, .ref a15, .ref a16, .ref a17, .int 0, .int 0])), (a12, .inl (cL, 8, .inr (.inl (fun _ => 0)))), (a3, .inr (3, [.ref a18, .int (-1)])), (a1, .inr (1, [.ref a6, .ref a7, .int 0, .int 0])), (a6, .inl (cI, 8, .inl (fun _ => 0))), (a7, .inl (cI, 8, .inl (fun _ => 0)))] s.heap.size = A at hD ⊢
  have hA : ∀ q : Nat, s.heap.size ≤ q → A q := fun q h => by rw [← hAe]; exact Or.inr h
  have hS : va_S A s.heap s.heap [] := va_S.rf
  have hl := lv_entry ([.ref a0, .int k0, .int k1]) (n := 3) (Nat.le_of_ble_eq_true rfl)
  rw [lg_entry_eq]
  generalize (lg_sl ([.ref a0, .int k0, .int k1]) ++ List.replicate (3 - (lg_sl ([.ref a0, .int k0, .int k1])).length) Slot.unset).toArray = ls at hl ⊢
  replace hl : lv_has ls 3 [(0, .ref a0), (1, .int k0), (2, .int k1)] := hl
  refine lv_iload_n hx hb d_NU_transition_0 rfl (lv_at hl 1 rfl) ?_
  refine lv_if_eq (tgt := 18) hx hb d_NU_transition_1 (by decide) (fun h9 => (by exfalso; have eh1 := fa_nlt (k := 1) (by decide) h1; have eh2 := fb_nlt (k := 255) (by decide) h2; have eh9 := fa_eq (k := 0) (by decide) h9; omega)) (fun _ => ?_)
  refine lv_iload_n hx hb d_NU_transition_4 rfl (lv_at hl 1 rfl) ?_
  have hPc : va_P (dC, dI) clA [] _ := pu_P (H := s.heap)
  have hDc : va_D (fun _ => True) [] := pu_D
  have hFc := pu_free hS hA
  refine va_calli (va_runS (As := [.int k0]) (rest := []) ⟨hx, hb, hml, hown, ht⟩ (c_NU_isMarking_ok l dC dI cI cL cZ _ k0 (ga_nlt (k := 0) (by decide) (by have eh1 := fa_nlt (k := 1) (by decide) h1; have eh2 := fb_nlt (k := 255) (by decide) h2; omega)) h2) (va_cwS 1 ht (good_S wd_3_10 wd_3_11 wd_1_1 wd_3_12) rfl rfl rfl (by decide +kernel) ⟨Nat.le_of_ble_eq_true rfl, Nat.le_of_ble_eq_true rfl⟩) ⟨fun a U g mk q => by obtain ⟨q0, q1, qP, qK, qD, qN⟩ := q; exact ⟨q0, q1, qP, va_K.moved (u := U) (U := U.calling g mk a) (Vm.Alike.refl U.vm) qK, qD, NwA.same (u := U) rfl qN⟩, fun U hU hW => ⟨rfl, by rw [hU], by rw [hU]; exact hPc, va_K.moved hW.alike hK, hDc.weaken (fun _ _ _ _ => trivial), NwA.warm hW hN⟩⟩ rfl rfl hl.1 rfl (lv_room (Nat.le_of_ble_eq_true rfl)) d_NU_transition_5 ⟨Nat.le_of_ble_eq_true rfl, Nat.le_of_ble_eq_true rfl⟩) hS (fun q _ h => hFc q h) hFc (fun r9 u t H1 locs ht9 hvm hw2 hB hz1 hk1 hSn => ?_)
  replace hP : va_P (dC, dI) clA [(a0, .inr (0, [.ref a1, .ref a2, .ref a3, .ref a4, .ref a5])), (a2, .inr (2, [.int 0, .ref a8, .ref a9, .ref a10, .ref a11, .ref a12, .int 0, .ref a13, .ref a14, .ref a15, .ref a16, .ref a17, .int 0, .int 0])), (a12, .inl (cL, 8, .inr (.inl (fun _ => 0)))), (a3, .inr (3, [.ref a18, .int (-1)])), (a1, .inr (1, [.ref a6, .ref a7, .int 0, .int 0])), (a6, .inl (cI, 8, .inl (fun _ => 0))), (a7, .inl (cI, 8, .inl (fun _ => 0)))] H1 := pu_keep hP hk1
  replace hS := hSn
  clear hSn hPc hDc hFc hk1 hz1 ht9 hvm hB
  refine W.cs (cells' := 0) (slots' := 0) rfl rfl ?_
  subst hw2
  refine lv_if_eq (tgt := 18) hx hb d_NU_transition_8 (by decide) (fun h => absurd h (by decide)) (fun _ => ?_)
  refine lv_iload_n hx hb d_NU_transition_11 rfl (lv_at hl 2 rfl) ?_
  have hPc : va_P (dC, dI) clA [] _ := pu_P (H := H1)
  have hDc : va_D (fun _ => True) [] := pu_D
  have hFc := pu_free hS hA
  refine va_calli (va_runS (As := [.int k1]) (rest := []) ⟨hx, hb, hml, hown, ht⟩ (c_NU_isMarking_ok l dC dI cI cL cZ _ k1 h3 h4) (va_cwS 1 ht (good_S wd_3_10 wd_3_11 wd_1_1 wd_3_12) rfl rfl rfl (by decide +kernel) ⟨Nat.le_of_ble_eq_true rfl, Nat.le_of_ble_eq_true rfl⟩) ⟨fun a U g mk q => by obtain ⟨q0, q1, qP, qK, qD, qN⟩ := q; exact ⟨q0, q1, qP, va_K.moved (u := U) (U := U.calling g mk a) (Vm.Alike.refl U.vm) qK, qD, NwA.same (u := U) rfl qN⟩, fun U hU hW => ⟨rfl, by rw [hU], by rw [hU]; exact hPc, va_K.moved hW.alike hK, hDc.weaken (fun _ _ _ _ => trivial), NwA.warm hW hN⟩⟩ rfl rfl hl.1 rfl (lv_room (Nat.le_of_ble_eq_true rfl)) d_NU_transition_12 ⟨Nat.le_of_ble_eq_true rfl, Nat.le_of_ble_eq_true rfl⟩) hS (fun q _ h => hFc q h) hFc (fun r9 u t H3 locs ht9 hvm hw4 hB hz1 hk1 hSn => ?_)
  replace hP : va_P (dC, dI) clA [(a0, .inr (0, [.ref a1, .ref a2, .ref a3, .ref a4, .ref a5])), (a2, .inr (2, [.int 0, .ref a8, .ref a9, .ref a10, .ref a11, .ref a12, .int 0, .ref a13, .ref a14, .ref a15, .ref a16, .ref a17, .int 0, .int 0])), (a12, .inl (cL, 8, .inr (.inl (fun _ => 0)))), (a3, .inr (3, [.ref a18, .int (-1)])), (a1, .inr (1, [.ref a6, .ref a7, .int 0, .int 0])), (a6, .inl (cI, 8, .inl (fun _ => 0))), (a7, .inl (cI, 8, .inl (fun _ => 0)))] H3 := pu_keep hP hk1
  replace hS := hSn
  clear hSn hPc hDc hFc hk1 hz1 ht9 hvm hB
  refine W.cs (cells' := 0) (slots' := 0) rfl rfl ?_
  subst hw4
  refine lv_if_ne (tgt := 26) hx hb d_NU_transition_15 (by decide) (fun _ => ?_) (fun h => absurd h (by decide))
  refine lv_aload_n hx hb d_NU_transition_26 rfl (lv_at hl 0 rfl) ?_
  refine va_get (D := (dC, dI)) (ci := 0) (v := .ref a1) (C := "NetUnfolder") (T := T_NU) (N := 5) hx hb ht in_NU hown hK hP 0 rfl rfl 0 (by decide) (ht _ wd_2_36) (fun _ h9 => h9) rfl d_NU_transition_27 ?_
  refine va_get (D := (dC, dI)) (ci := 1) (v := .int 0) (C := "NetUnfolder$Net") (T := T_Ne) (N := 4) hx hb ht in_Ne hown hK hP 4 rfl rfl 2 (by decide) (ht _ wd_1_39) (fun _ h9 => h9) rfl d_NU_transition_30 ?_
  refine lv_bipush (v := 8) hx hb d_NU_transition_33 (by decide) ?_
  refine lv_icmp_lt (tgt := 46) hx hb d_NU_transition_35 (by decide) (fun _ => ?_) (fun h => (h (by decide)).elim)
  refine lv_aload_n hx hb d_NU_transition_46 rfl (lv_at hl 0 rfl) ?_
  have hPc := hP.sub (ws' := [(a0, .inr (0, [.ref a1, .ref a2, .ref a3, .ref a4, .ref a5])), (a2, .inr (2, [.int 0, .ref a8, .ref a9, .ref a10, .ref a11, .ref a12, .int 0, .ref a13, .ref a14, .ref a15, .ref a16, .ref a17, .int 0, .int 0])), (a12, .inl (cL, 8, .inr (.inl (fun _ => 0)))), (a3, .inr (3, [.ref a18, .int (-1)]))]) [0, 1, 2, 3] rfl
  have hDc := hD.sub (ws' := [(a0, .inr (0, [.ref a1, .ref a2, .ref a3, .ref a4, .ref a5])), (a2, .inr (2, [.int 0, .ref a8, .ref a9, .ref a10, .ref a11, .ref a12, .int 0, .ref a13, .ref a14, .ref a15, .ref a16, .ref a17, .int 0, .int 0])), (a12, .inl (cL, 8, .inr (.inl (fun _ => 0)))), (a3, .inr (3, [.ref a18, .int (-1)]))]) [0, 1, 2, 3] (by decide) rfl
  have hFc := va_free (wc := [(a0, .inr (0, [.ref a1, .ref a2, .ref a3, .ref a4, .ref a5])), (a2, .inr (2, [.int 0, .ref a8, .ref a9, .ref a10, .ref a11, .ref a12, .int 0, .ref a13, .ref a14, .ref a15, .ref a16, .ref a17, .int 0, .int 0])), (a12, .inl (cL, 8, .inr (.inl (fun _ => 0)))), (a3, .inr (3, [.ref a18, .int (-1)]))]) hD hS hA [0, 1, 2, 3] rfl
  refine va_callv (va_runV (C := "NetUnfolder") (As := []) (rest := []) ⟨hx, hb, hml, hown, ht⟩ (c_NU_drop l dC dI cI cL cZ _ a0 a2 a12 a3 a1 a4 a5 a8 a9 a10 a11 a13 a14 a15 a16 a17 a18 ) (cwV 0 ht (good_V wd_2_56 wd_2_58 ws_NU_dropPrefixAndWay wd_1_1 wd_2_59) rfl rfl rfl (by decide +kernel) ⟨Nat.le_of_ble_eq_true rfl, Nat.le_of_ble_eq_true rfl⟩) ⟨fun a U g mk q => by obtain ⟨q0, q1, qP, qK, qD, qN⟩ := q; exact ⟨q0, q1, qP, va_K.moved (u := U) (U := U.calling g mk a) (Vm.Alike.refl U.vm) qK, qD, NwA.same (u := U) rfl qN⟩, (va_recv (q0 := 0) (ci := 0) hK hP rfl rfl), fun U hU hW => ⟨rfl, by rw [hU], by rw [hU]; exact hPc, va_K.moved hW.alike hK, hDc.weaken (fun _ _ _ _ => trivial), NwA.warm hW hN⟩⟩ rfl rfl hl.1 rfl (lv_room (Nat.le_of_ble_eq_true rfl)) d_NU_transition_47 ⟨Nat.le_of_ble_eq_true rfl, Nat.le_of_ble_eq_true rfl⟩) hS (fun q _ h => hFc q h) hFc (fun u t H5 locs ht9 hvm hw6 hB hz1 hk1 hSn => ?_)
  obtain ⟨hP1, hD1⟩ := hB
  rw [ht9] at hP1
  obtain ⟨hPn, hDn⟩ := va_join (wr := [(a1, .inr (1, [.ref a6, .ref a7, .int 0, .int 0])), (a6, .inl (cI, 8, .inl (fun _ => 0))), (a7, .inl (cI, 8, .inl (fun _ => 0)))]) (w1 := [(a0, .inr (0, [.ref a1, .ref a2, .ref a3, .ref a4, .ref a5])), (a2, .inr (2, [.int 0, .ref a8, .ref a9, .ref a10, .ref a11, .ref a12, .int 0, .ref a13, .ref a14, .ref a15, .ref a16, .ref a17, .int 0, .int 0])), (a12, .inl (cL, 8, .inr (.inl (fun _ => 0)))), (a3, .inr (3, [.ref a18, .int (-1)]))]) hP hD [0, 1, 2, 3] [4, 5, 6] rfl rfl (by decide) (by decide) hk1 hFc hP1 hD1
  replace hP : va_P (dC, dI) clA [(a1, .inr (1, [.ref a6, .ref a7, .int 0, .int 0])), (a6, .inl (cI, 8, .inl (fun _ => 0))), (a7, .inl (cI, 8, .inl (fun _ => 0))), (a0, .inr (0, [.ref a1, .ref a2, .ref a3, .ref a4, .ref a5])), (a2, .inr (2, [.int 0, .ref a8, .ref a9, .ref a10, .ref a11, .ref a12, .int 0, .ref a13, .ref a14, .ref a15, .ref a16, .ref a17, .int 0, .int 0])), (a12, .inl (cL, 8, .inr (.inl (fun _ => 0)))), (a3, .inr (3, [.ref a18, .int (-1)]))] H5 := hPn
  replace hD : va_D A [(a1, .inr (1, [.ref a6, .ref a7, .int 0, .int 0])), (a6, .inl (cI, 8, .inl (fun _ => 0))), (a7, .inl (cI, 8, .inl (fun _ => 0))), (a0, .inr (0, [.ref a1, .ref a2, .ref a3, .ref a4, .ref a5])), (a2, .inr (2, [.int 0, .ref a8, .ref a9, .ref a10, .ref a11, .ref a12, .int 0, .ref a13, .ref a14, .ref a15, .ref a16, .ref a17, .int 0, .int 0])), (a12, .inl (cL, 8, .inr (.inl (fun _ => 0)))), (a3, .inr (3, [.ref a18, .int (-1)]))] := hDn
  replace hS := hSn
  clear hPn hDn hSn
  clear hPc hDc hFc hP1 hD1 hk1 hz1 ht9 hvm
  refine W.cs (cells' := 0) (slots' := 0) rfl rfl ?_
  refine lv_aload_n hx hb d_NU_transition_50 rfl (lv_at hl 0 rfl) ?_
  refine va_get (D := (dC, dI)) (ci := 0) (v := .ref a1) (C := "NetUnfolder") (T := T_NU) (N := 5) hx hb ht in_NU hown hK hP 3 rfl rfl 0 (by decide) (ht _ wd_2_36) (fun _ h9 => h9) rfl d_NU_transition_51 ?_
  refine lv_iload_n hx hb d_NU_transition_54 rfl (lv_at hl 1 rfl) ?_
  refine lv_iload_n hx hb d_NU_transition_55 rfl (lv_at hl 2 rfl) ?_
  have hPc := hP.sub (ws' := [(a1, .inr (1, [.ref a6, .ref a7, .int 0, .int 0])), (a6, .inl (cI, 8, .inl (fun _ => 0))), (a7, .inl (cI, 8, .inl (fun _ => 0)))]) [0, 1, 2] rfl
  have hDc := hD.sub (ws' := [(a1, .inr (1, [.ref a6, .ref a7, .int 0, .int 0])), (a6, .inl (cI, 8, .inl (fun _ => 0))), (a7, .inl (cI, 8, .inl (fun _ => 0)))]) [0, 1, 2] (by decide) rfl
  have hFc := va_free (wc := [(a1, .inr (1, [.ref a6, .ref a7, .int 0, .int 0])), (a6, .inl (cI, 8, .inl (fun _ => 0))), (a7, .inl (cI, 8, .inl (fun _ => 0)))]) hD hS hA [0, 1, 2] rfl
  refine va_calli (va_runV (C := "NetUnfolder$Net") (As := [.int k0, .int k1]) (rest := []) ⟨hx, hb, hml, hown, ht⟩ (c_Ne_add l dC dI cI cL cZ _ a1 a6 a7 k0 k1 ) (cwV 2 ht (good_V wd_3_90 wd_3_91 wd_3_92 wd_1_2 wd_3_93) rfl rfl rfl (by decide +kernel) ⟨Nat.le_of_ble_eq_true rfl, Nat.le_of_ble_eq_true rfl⟩) ⟨fun a U g mk q => by obtain ⟨q0, q1, qP, qK, qD, qN⟩ := q; exact ⟨q0, q1, qP, va_K.moved (u := U) (U := U.calling g mk a) (Vm.Alike.refl U.vm) qK, qD, NwA.same (u := U) rfl qN⟩, (va_recv (q0 := 0) (ci := 1) hK hP rfl rfl), fun U hU hW => ⟨rfl, by rw [hU], by rw [hU]; exact hPc, va_K.moved hW.alike hK, hDc.weaken (fun _ _ _ _ => trivial), NwA.warm hW hN⟩⟩ rfl rfl hl.1 rfl (lv_room (Nat.le_of_ble_eq_true rfl)) d_NU_transition_56 ⟨Nat.le_of_ble_eq_true rfl, Nat.le_of_ble_eq_true rfl⟩) hS (fun q _ h => hFc q h) hFc (fun r9 u t H7 locs ht9 hvm hw8 hB hz1 hk1 hSn => ?_)
  obtain ⟨hP1, hD1⟩ := hB
  rw [ht9] at hP1
  obtain ⟨hPn, hDn⟩ := va_join (wr := [(a0, .inr (0, [.ref a1, .ref a2, .ref a3, .ref a4, .ref a5])), (a2, .inr (2, [.int 0, .ref a8, .ref a9, .ref a10, .ref a11, .ref a12, .int 0, .ref a13, .ref a14, .ref a15, .ref a16, .ref a17, .int 0, .int 0])), (a12, .inl (cL, 8, .inr (.inl (fun _ => 0)))), (a3, .inr (3, [.ref a18, .int (-1)]))]) (w1 := [(a1, .inr (1, [.ref a6, .ref a7, .int 1, .int 0])), (a6, .inl (cI, 8, .inl (upd (fun _ => 0) (0 : Int32).toNatClampNeg k0))), (a7, .inl (cI, 8, .inl (upd (fun _ => 0) (0 : Int32).toNatClampNeg k1)))]) hP hD [0, 1, 2] [3, 4, 5, 6] rfl rfl (by decide) (by decide) hk1 hFc hP1 hD1
  replace hP : va_P (dC, dI) clA [(a0, .inr (0, [.ref a1, .ref a2, .ref a3, .ref a4, .ref a5])), (a2, .inr (2, [.int 0, .ref a8, .ref a9, .ref a10, .ref a11, .ref a12, .int 0, .ref a13, .ref a14, .ref a15, .ref a16, .ref a17, .int 0, .int 0])), (a12, .inl (cL, 8, .inr (.inl (fun _ => 0)))), (a3, .inr (3, [.ref a18, .int (-1)])), (a1, .inr (1, [.ref a6, .ref a7, .int 1, .int 0])), (a6, .inl (cI, 8, .inl (upd (fun _ => 0) (0 : Int32).toNatClampNeg k0))), (a7, .inl (cI, 8, .inl (upd (fun _ => 0) (0 : Int32).toNatClampNeg k1)))] H7 := hPn
  replace hD : va_D A [(a0, .inr (0, [.ref a1, .ref a2, .ref a3, .ref a4, .ref a5])), (a2, .inr (2, [.int 0, .ref a8, .ref a9, .ref a10, .ref a11, .ref a12, .int 0, .ref a13, .ref a14, .ref a15, .ref a16, .ref a17, .int 0, .int 0])), (a12, .inl (cL, 8, .inr (.inl (fun _ => 0)))), (a3, .inr (3, [.ref a18, .int (-1)])), (a1, .inr (1, [.ref a6, .ref a7, .int 1, .int 0])), (a6, .inl (cI, 8, .inl (upd (fun _ => 0) (0 : Int32).toNatClampNeg k0))), (a7, .inl (cI, 8, .inl (upd (fun _ => 0) (0 : Int32).toNatClampNeg k1)))] := hDn
  replace hS := hSn
  clear hPn hDn hSn
  clear hPc hDc hFc hP1 hD1 hk1 hz1 ht9 hvm
  refine W.cs (cells' := 0) (slots' := 0) rfl rfl ?_
  subst hw8
  have hP9 := hP.sub (ws' := [(a0, .inr (0, [.ref a1, .ref a2, .ref a3, .ref a4, .ref a5])), (a2, .inr (2, [.int 0, .ref a8, .ref a9, .ref a10, .ref a11, .ref a12, .int 0, .ref a13, .ref a14, .ref a15, .ref a16, .ref a17, .int 0, .int 0])), (a12, .inl (cL, 8, .inr (.inl (fun _ => 0)))), (a3, .inr (3, [.ref a18, .int (-1)])), (a1, .inr (1, [.ref a6, .ref a7, .int 1, .int 0])), (a6, .inl (cI, 8, .inl (upd (fun _ => 0) (0 : Int32).toNatClampNeg k0))), (a7, .inl (cI, 8, .inl (upd (fun _ => 0) (0 : Int32).toNatClampNeg k1)))]) [0, 1, 2, 3, 4, 5, 6] rfl
  have hD9 := hD.sub (ws' := [(a0, .inr (0, [.ref a1, .ref a2, .ref a3, .ref a4, .ref a5])), (a2, .inr (2, [.int 0, .ref a8, .ref a9, .ref a10, .ref a11, .ref a12, .int 0, .ref a13, .ref a14, .ref a15, .ref a16, .ref a17, .int 0, .int 0])), (a12, .inl (cL, 8, .inr (.inl (fun _ => 0)))), (a3, .inr (3, [.ref a18, .int (-1)])), (a1, .inr (1, [.ref a6, .ref a7, .int 1, .int 0])), (a6, .inl (cI, 8, .inl (upd (fun _ => 0) (0 : Int32).toNatClampNeg k0))), (a7, .inl (cI, 8, .inl (upd (fun _ => 0) (0 : Int32).toNatClampNeg k1)))]) [0, 1, 2, 3, 4, 5, 6] (by decide) rfl
  exact W.iret (v := 0) hx hb hr (fun t ht9 hW => ⟨⟨0, (), rfl, rfl, by rw [ht9]; exact hP9, hD9⟩, hS.F ht9⟩) hS.2.2 d_NU_transition_59

set_option maxHeartbeats 4000000 in
set_option maxRecDepth 100000 in
theorem c_NU_first_ok (l : Launch) (dC : Nat → ClassId) (dI : Nat → Nat → Nat) (cI cL cZ : ClassId) (sz : Nat) (a0 : Nat) (a2 : Nat) (a12 : Nat) (a3 : Nat) (a1 : Nat) (a4 : Nat) (a5 : Nat) (a8 : Nat) (a9 : Nat) (a10 : Nat) (a11 : Nat) (a13 : Nat) (a14 : Nat) (a15 : Nat) (a16 : Nat) (a17 : Nat) (a18 : Nat) (a6 : Nat) (a7 : Nat) (k0 : Int32) (h1 : ¬ k0 < 0) (h2 : ¬ 255 < k0) : Met l y_NU_first (Cond.code y_NU_first prog_1_method_3_code 2 none :: wsA) { frames := 3, cells := 0, slots := 0, locals := 64 } (va_Pc [.ref a0, .int k0] (fun U => U.heap.size = sz ∧ va_P (dC, dI) clA [(a0, .inr (0, [.ref a1, .ref a2, .ref a3, .ref a4, .ref a5])), (a2, .inr (2, [.int 0, .ref a8, .ref a9, .ref a10, .ref a11, .ref a12, .int 0, .ref a13, .ref a14, .ref a15, .ref a16, .ref a17, .int 0, .int 0])), (a12, .inl (cL, 8, .inr (.inl (fun _ => 0)))), (a3, .inr (3, [.ref a18, .int (-1)])), (a1, .inr (1, [.ref a6, .ref a7, .int 0, .int 0]))] U.heap ∧ va_K (dC, dI) clA [(cI, .int), (cL, .long), (cZ, .boolean)] U ∧ va_D (fun _ => True) [(a0, .inr (0, [.ref a1, .ref a2, .ref a3, .ref a4, .ref a5])), (a2, .inr (2, [.int 0, .ref a8, .ref a9, .ref a10, .ref a11, .ref a12, .int 0, .ref a13, .ref a14, .ref a15, .ref a16, .ref a17, .int 0, .int 0])), (a12, .inl (cL, 8, .inr (.inl (fun _ => 0)))), (a3, .inr (3, [.ref a18, .int (-1)])), (a1, .inr (1, [.ref a6, .ref a7, .int 0, .int 0]))] ∧ NwA U)) (va_Qv (fun _ : Unit => True) (fun _ t => va_P (dC, dI) clA [(a1, .inr (1, [.ref a6, .ref a7, .int 0, .int k0])), (a0, .inr (0, [.ref a1, .ref a2, .ref a3, .ref a4, .ref a5])), (a2, .inr (2, [.int 0, .ref a8, .ref a9, .ref a10, .ref a11, .ref a12, .int 0, .ref a13, .ref a14, .ref a15, .ref a16, .ref a17, .int 0, .int 0])), (a12, .inl (cL, 8, .inr (.inl (fun _ => 0)))), (a3, .inr (3, [.ref a18, .int (-1)]))] t.heap ∧ va_D (va_A [(a0, .inr (0, [.ref a1, .ref a2, .ref a3, .ref a4, .ref a5])), (a2, .inr (2, [.int 0, .ref a8, .ref a9, .ref a10, .ref a11, .ref a12, .int 0, .ref a13, .ref a14, .ref a15, .ref a16, .ref a17, .int 0, .int 0])), (a12, .inl (cL, 8, .inr (.inl (fun _ => 0)))), (a3, .inr (3, [.ref a18, .int (-1)])), (a1, .inr (1, [.ref a6, .ref a7, .int 0, .int 0]))] sz) [(a1, .inr (1, [.ref a6, .ref a7, .int 0, .int k0])), (a0, .inr (0, [.ref a1, .ref a2, .ref a3, .ref a4, .ref a5])), (a2, .inr (2, [.int 0, .ref a8, .ref a9, .ref a10, .ref a11, .ref a12, .int 0, .ref a13, .ref a14, .ref a15, .ref a16, .ref a17, .int 0, .int 0])), (a12, .inl (cL, 8, .inr (.inl (fun _ => 0)))), (a3, .inr (3, [.ref a18, .int (-1)]))]) (va_A [(a0, .inr (0, [.ref a1, .ref a2, .ref a3, .ref a4, .ref a5])), (a2, .inr (2, [.int 0, .ref a8, .ref a9, .ref a10, .ref a11, .ref a12, .int 0, .ref a13, .ref a14, .ref a15, .ref a16, .ref a17, .int 0, .int 0])), (a12, .inl (cL, 8, .inr (.inl (fun _ => 0)))), (a3, .inr (3, [.ref a18, .int (-1)])), (a1, .inr (1, [.ref a6, .ref a7, .int 0, .int 0]))] sz)) 0 0 (va_A [(a0, .inr (0, [.ref a1, .ref a2, .ref a3, .ref a4, .ref a5])), (a2, .inr (2, [.int 0, .ref a8, .ref a9, .ref a10, .ref a11, .ref a12, .int 0, .ref a13, .ref a14, .ref a15, .ref a16, .ref a17, .int 0, .int 0])), (a12, .inl (cL, 8, .inr (.inl (fun _ => 0)))), (a3, .inr (3, [.ref a18, .int (-1)])), (a1, .inr (1, [.ref a6, .ref a7, .int 0, .int 0]))] sz) := by
  refine Met.ofW (cc := prog_1_method_3_code) (maxL := 2) (ret := none) (by decide) rfl ?_
  intro p e s m args below meth c s₁ B hml hv
  obtain ⟨rfl, hsz, hP, hK, hD0, hN⟩ := hv
  have hx := B.exec
  have hb := B.bytes
  have hr := B.returns
  have ht : ∀ w ∈ wsA, w.before _ s = true := fun w h => atoms_spec (ws := (Cond.code y_NU_first prog_1_method_3_code 2 none :: wsA)) B.pre w (List.mem_cons_of_mem _ h)
  have hown : s.vm.findClass "NetUnfolder" = some m.cls := findClass_of_methodNamed B.named
  have hlocks := B.notSynchronized
  subst hsz
  have hD := hD0.self (sz := s.heap.size)
  generalize hAe : va_A [(a0, .inr (0, [.ref a1, .ref a2, .ref a3, .ref a4, .ref a5])), (a2, .inr (2, [.int 0, .ref a8, .ref a9, .ref a10, .ref a11, .ref a12, .int 0, .ref a13, .ref a14, .ref a15, .ref a16, .ref a17, .int 0, .int 0])), (a12, .inl (cL, 8, .inr (.inl (fun _ => 0)))), (a3, .inr (3, [.ref a18, .int (-1)])), (a1, .inr (1, [.ref a6, .ref a7, .int 0, .int 0]))] s.heap.size = A at hD ⊢
  have hA : ∀ q : Nat, s.heap.size ≤ q → A q := fun q h => by rw [← hAe]; exact Or.inr h
  have hS : va_S A s.heap s.heap [] := va_S.rf
  have hl := lv_entry ([.ref a0, .int k0]) (n := 2) (Nat.le_of_ble_eq_true rfl)
  rw [lg_entry_eq]
  generalize (lg_sl ([.ref a0, .int k0]) ++ List.replicate (2 - (lg_sl ([.ref a0, .int k0])).length) Slot.unset).toArray = ls at hl ⊢
  replace hl : lv_has ls 2 [(0, .ref a0), (1, .int k0)] := hl
  refine lv_iload_n hx hb d_NU_first_0 rfl (lv_at hl 1 rfl) ?_
  have hPc : va_P (dC, dI) clA [] _ := pu_P (H := s.heap)
  have hDc : va_D (fun _ => True) [] := pu_D
  have hFc := pu_free hS hA
  refine va_calli (va_runS (As := [.int k0]) (rest := []) ⟨hx, hb, hml, hown, ht⟩ (c_NU_isMarking_ok l dC dI cI cL cZ _ k0 h1 h2) (va_cwS 1 ht (good_S wd_3_10 wd_3_11 wd_1_1 wd_3_12) rfl rfl rfl (by decide +kernel) ⟨Nat.le_of_ble_eq_true rfl, Nat.le_of_ble_eq_true rfl⟩) ⟨fun a U g mk q => by obtain ⟨q0, q1, qP, qK, qD, qN⟩ := q; exact ⟨q0, q1, qP, va_K.moved (u := U) (U := U.calling g mk a) (Vm.Alike.refl U.vm) qK, qD, NwA.same (u := U) rfl qN⟩, fun U hU hW => ⟨rfl, by rw [hU], by rw [hU]; exact hPc, va_K.moved hW.alike hK, hDc.weaken (fun _ _ _ _ => trivial), NwA.warm hW hN⟩⟩ rfl rfl hl.1 rfl (lv_room (Nat.le_of_ble_eq_true rfl)) d_NU_first_1 ⟨Nat.le_of_ble_eq_true rfl, Nat.le_of_ble_eq_true rfl⟩) hS (fun q _ h => hFc q h) hFc (fun r9 u t H1 locs ht9 hvm hw2 hB hz1 hk1 hSn => ?_)
  replace hP : va_P (dC, dI) clA [(a0, .inr (0, [.ref a1, .ref a2, .ref a3, .ref a4, .ref a5])), (a2, .inr (2, [.int 0, .ref a8, .ref a9, .ref a10, .ref a11, .ref a12, .int 0, .ref a13, .ref a14, .ref a15, .ref a16, .ref a17, .int 0, .int 0])), (a12, .inl (cL, 8, .inr (.inl (fun _ => 0)))), (a3, .inr (3, [.ref a18, .int (-1)])), (a1, .inr (1, [.ref a6, .ref a7, .int 0, .int 0]))] H1 := pu_keep hP hk1
  replace hS := hSn
  clear hSn hPc hDc hFc hk1 hz1 ht9 hvm hB
  refine W.cs (cells' := 0) (slots' := 0) rfl rfl ?_
  subst hw2
  refine lv_if_ne (tgt := 15) hx hb d_NU_first_4 (by decide) (fun _ => ?_) (fun h => absurd h (by decide))
  refine lv_aload_n hx hb d_NU_first_15 rfl (lv_at hl 0 rfl) ?_
  have hPc := hP.sub (ws' := [(a0, .inr (0, [.ref a1, .ref a2, .ref a3, .ref a4, .ref a5])), (a2, .inr (2, [.int 0, .ref a8, .ref a9, .ref a10, .ref a11, .ref a12, .int 0, .ref a13, .ref a14, .ref a15, .ref a16, .ref a17, .int 0, .int 0])), (a12, .inl (cL, 8, .inr (.inl (fun _ => 0)))), (a3, .inr (3, [.ref a18, .int (-1)]))]) [0, 1, 2, 3] rfl
  have hDc := hD.sub (ws' := [(a0, .inr (0, [.ref a1, .ref a2, .ref a3, .ref a4, .ref a5])), (a2, .inr (2, [.int 0, .ref a8, .ref a9, .ref a10, .ref a11, .ref a12, .int 0, .ref a13, .ref a14, .ref a15, .ref a16, .ref a17, .int 0, .int 0])), (a12, .inl (cL, 8, .inr (.inl (fun _ => 0)))), (a3, .inr (3, [.ref a18, .int (-1)]))]) [0, 1, 2, 3] (by decide) rfl
  have hFc := va_free (wc := [(a0, .inr (0, [.ref a1, .ref a2, .ref a3, .ref a4, .ref a5])), (a2, .inr (2, [.int 0, .ref a8, .ref a9, .ref a10, .ref a11, .ref a12, .int 0, .ref a13, .ref a14, .ref a15, .ref a16, .ref a17, .int 0, .int 0])), (a12, .inl (cL, 8, .inr (.inl (fun _ => 0)))), (a3, .inr (3, [.ref a18, .int (-1)]))]) hD hS hA [0, 1, 2, 3] rfl
  refine va_callv (va_runV (C := "NetUnfolder") (As := []) (rest := []) ⟨hx, hb, hml, hown, ht⟩ (c_NU_drop l dC dI cI cL cZ _ a0 a2 a12 a3 a1 a4 a5 a8 a9 a10 a11 a13 a14 a15 a16 a17 a18 ) (cwV 0 ht (good_V wd_2_56 wd_2_58 ws_NU_dropPrefixAndWay wd_1_1 wd_2_59) rfl rfl rfl (by decide +kernel) ⟨Nat.le_of_ble_eq_true rfl, Nat.le_of_ble_eq_true rfl⟩) ⟨fun a U g mk q => by obtain ⟨q0, q1, qP, qK, qD, qN⟩ := q; exact ⟨q0, q1, qP, va_K.moved (u := U) (U := U.calling g mk a) (Vm.Alike.refl U.vm) qK, qD, NwA.same (u := U) rfl qN⟩, (va_recv (q0 := 0) (ci := 0) hK hP rfl rfl), fun U hU hW => ⟨rfl, by rw [hU], by rw [hU]; exact hPc, va_K.moved hW.alike hK, hDc.weaken (fun _ _ _ _ => trivial), NwA.warm hW hN⟩⟩ rfl rfl hl.1 rfl (lv_room (Nat.le_of_ble_eq_true rfl)) d_NU_first_16 ⟨Nat.le_of_ble_eq_true rfl, Nat.le_of_ble_eq_true rfl⟩) hS (fun q _ h => hFc q h) hFc (fun u t H3 locs ht9 hvm hw4 hB hz1 hk1 hSn => ?_)
  obtain ⟨hP1, hD1⟩ := hB
  rw [ht9] at hP1
  obtain ⟨hPn, hDn⟩ := va_join (wr := [(a1, .inr (1, [.ref a6, .ref a7, .int 0, .int 0]))]) (w1 := [(a0, .inr (0, [.ref a1, .ref a2, .ref a3, .ref a4, .ref a5])), (a2, .inr (2, [.int 0, .ref a8, .ref a9, .ref a10, .ref a11, .ref a12, .int 0, .ref a13, .ref a14, .ref a15, .ref a16, .ref a17, .int 0, .int 0])), (a12, .inl (cL, 8, .inr (.inl (fun _ => 0)))), (a3, .inr (3, [.ref a18, .int (-1)]))]) hP hD [0, 1, 2, 3] [4] rfl rfl (by decide) (by decide) hk1 hFc hP1 hD1
  replace hP : va_P (dC, dI) clA [(a1, .inr (1, [.ref a6, .ref a7, .int 0, .int 0])), (a0, .inr (0, [.ref a1, .ref a2, .ref a3, .ref a4, .ref a5])), (a2, .inr (2, [.int 0, .ref a8, .ref a9, .ref a10, .ref a11, .ref a12, .int 0, .ref a13, .ref a14, .ref a15, .ref a16, .ref a17, .int 0, .int 0])), (a12, .inl (cL, 8, .inr (.inl (fun _ => 0)))), (a3, .inr (3, [.ref a18, .int (-1)]))] H3 := hPn
  replace hD : va_D A [(a1, .inr (1, [.ref a6, .ref a7, .int 0, .int 0])), (a0, .inr (0, [.ref a1, .ref a2, .ref a3, .ref a4, .ref a5])), (a2, .inr (2, [.int 0, .ref a8, .ref a9, .ref a10, .ref a11, .ref a12, .int 0, .ref a13, .ref a14, .ref a15, .ref a16, .ref a17, .int 0, .int 0])), (a12, .inl (cL, 8, .inr (.inl (fun _ => 0)))), (a3, .inr (3, [.ref a18, .int (-1)]))] := hDn
  replace hS := hSn
  clear hPn hDn hSn
  clear hPc hDc hFc hP1 hD1 hk1 hz1 ht9 hvm
  refine W.cs (cells' := 0) (slots' := 0) rfl rfl ?_
  refine lv_aload_n hx hb d_NU_first_19 rfl (lv_at hl 0 rfl) ?_
  refine va_get (D := (dC, dI)) (ci := 0) (v := .ref a1) (C := "NetUnfolder") (T := T_NU) (N := 5) hx hb ht in_NU hown hK hP 1 rfl rfl 0 (by decide) (ht _ wd_2_36) (fun _ h9 => h9) rfl d_NU_first_20 ?_
  refine lv_iload_n hx hb d_NU_first_23 rfl (lv_at hl 1 rfl) ?_
  refine va_put (D := (dC, dI)) (ci := 1) (v := .int k0) (ty := .int) (C := "NetUnfolder$Net") (T := T_Ne) (N := 4) hx hb ht in_Ne ty_Ne ok_Ne nm_Ne hown hK hP hD hS 0 rfl rfl 3 (by decide) (ht _ wd_1_44) (fun _ h9 => h9) rfl (by decide +kernel) rfl rfl (Nat.le_of_ble_eq_true rfl) d_NU_first_24 (fun H5 locs hPn hDn hSn => ?_)
  replace hP : va_P (dC, dI) clA [(a1, .inr (1, [.ref a6, .ref a7, .int 0, .int k0])), (a0, .inr (0, [.ref a1, .ref a2, .ref a3, .ref a4, .ref a5])), (a2, .inr (2, [.int 0, .ref a8, .ref a9, .ref a10, .ref a11, .ref a12, .int 0, .ref a13, .ref a14, .ref a15, .ref a16, .ref a17, .int 0, .int 0])), (a12, .inl (cL, 8, .inr (.inl (fun _ => 0)))), (a3, .inr (3, [.ref a18, .int (-1)]))] H5 := hPn
  replace hD : va_D A [(a1, .inr (1, [.ref a6, .ref a7, .int 0, .int k0])), (a0, .inr (0, [.ref a1, .ref a2, .ref a3, .ref a4, .ref a5])), (a2, .inr (2, [.int 0, .ref a8, .ref a9, .ref a10, .ref a11, .ref a12, .int 0, .ref a13, .ref a14, .ref a15, .ref a16, .ref a17, .int 0, .int 0])), (a12, .inl (cL, 8, .inr (.inl (fun _ => 0)))), (a3, .inr (3, [.ref a18, .int (-1)]))] := hDn
  replace hS := hSn
  clear hPn hDn hSn
  have hP9 := hP.sub (ws' := [(a1, .inr (1, [.ref a6, .ref a7, .int 0, .int k0])), (a0, .inr (0, [.ref a1, .ref a2, .ref a3, .ref a4, .ref a5])), (a2, .inr (2, [.int 0, .ref a8, .ref a9, .ref a10, .ref a11, .ref a12, .int 0, .ref a13, .ref a14, .ref a15, .ref a16, .ref a17, .int 0, .int 0])), (a12, .inl (cL, 8, .inr (.inl (fun _ => 0)))), (a3, .inr (3, [.ref a18, .int (-1)]))]) [0, 1, 2, 3, 4] rfl
  have hD9 := hD.sub (ws' := [(a1, .inr (1, [.ref a6, .ref a7, .int 0, .int k0])), (a0, .inr (0, [.ref a1, .ref a2, .ref a3, .ref a4, .ref a5])), (a2, .inr (2, [.int 0, .ref a8, .ref a9, .ref a10, .ref a11, .ref a12, .int 0, .ref a13, .ref a14, .ref a15, .ref a16, .ref a17, .int 0, .int 0])), (a12, .inl (cL, 8, .inr (.inl (fun _ => 0)))), (a3, .inr (3, [.ref a18, .int (-1)]))]) [0, 1, 2, 3, 4] (by decide) rfl
  exact W.vret hx hb hr (fun t ht9 hW => ⟨⟨(), rfl, trivial, by rw [ht9]; exact hP9, hD9⟩, hS.F ht9⟩) hS.2.2 d_NU_first_27

set_option maxHeartbeats 4000000 in
set_option maxRecDepth 100000 in
theorem c_Wa_step (l : Launch) (dC : Nat → ClassId) (dI : Nat → Nat → Nat) (cI cL cZ : ClassId) (sz : Nat) (a3 : Nat) (a18 : Nat) (k0 : Int32) : Met l y_Wa_step (Cond.code y_Wa_step prog_9_method_5_code 2 (some .int) :: wsA) { frames := 0, cells := 0, slots := 0, locals := 0 } (va_Pc [.ref a3, .int k0] (fun U => U.heap.size = sz ∧ va_P (dC, dI) clA [(a3, .inr (3, [.ref a18, .int (-1)]))] U.heap ∧ va_K (dC, dI) clA [(cI, .int), (cL, .long), (cZ, .boolean)] U ∧ va_D (fun _ => True) [(a3, .inr (3, [.ref a18, .int (-1)]))] ∧ NwA U)) (va_Qi (fun r (_ : Unit) => r = (-1)) (fun _ t => va_P (dC, dI) clA [(a3, .inr (3, [.ref a18, .int (-1)]))] t.heap ∧ va_D (va_A [(a3, .inr (3, [.ref a18, .int (-1)]))] sz) [(a3, .inr (3, [.ref a18, .int (-1)]))]) (va_A [(a3, .inr (3, [.ref a18, .int (-1)]))] sz)) 0 0 (va_A [(a3, .inr (3, [.ref a18, .int (-1)]))] sz) := by
  refine Met.ofW (cc := prog_9_method_5_code) (maxL := 2) (ret := (some .int)) (by decide) rfl ?_
  intro p e s m args below meth c s₁ B hml hv
  obtain ⟨rfl, hsz, hP, hK, hD0, hN⟩ := hv
  have hx := B.exec
  have hb := B.bytes
  have hr := B.returns
  have ht : ∀ w ∈ wsA, w.before _ s = true := fun w h => atoms_spec (ws := (Cond.code y_Wa_step prog_9_method_5_code 2 (some .int) :: wsA)) B.pre w (List.mem_cons_of_mem _ h)
  have hown : s.vm.findClass "NetUnfolder$Way" = some m.cls := findClass_of_methodNamed B.named
  have hlocks := B.notSynchronized
  subst hsz
  have hD := hD0.self (sz := s.heap.size)
  generalize hAe : va_A [(a3, .inr (3, [.ref a18, .int (-1)]))] s.heap.size = A at hD ⊢
  have hA : ∀ q : Nat, s.heap.size ≤ q → A q := fun q h => by rw [← hAe]; exact Or.inr h
  have hS : va_S A s.heap s.heap [] := va_S.rf
  have hl := lv_entry ([.ref a3, .int k0]) (n := 2) (Nat.le_of_ble_eq_true rfl)
  rw [lg_entry_eq]
  generalize (lg_sl ([.ref a3, .int k0]) ++ List.replicate (2 - (lg_sl ([.ref a3, .int k0])).length) Slot.unset).toArray = ls at hl ⊢
  replace hl : lv_has ls 2 [(0, .ref a3), (1, .int k0)] := hl
  refine lv_iload_n hx hb d_Wa_step_0 rfl (lv_at hl 1 rfl) ?_
  refine lv_if_lt (tgt := 21) hx hb d_Wa_step_1 (by decide) (fun hb1 => ?_) (fun hb1 => ?_)
  · skip
    refine lv_iconst (v := (-1)) hx hb d_Wa_step_21 (by decide) ?_
    have hP9 := hP.sub (ws' := [(a3, .inr (3, [.ref a18, .int (-1)]))]) [0] rfl
    have hD9 := hD.sub (ws' := [(a3, .inr (3, [.ref a18, .int (-1)]))]) [0] (by decide) rfl
    exact W.iret (v := (-1)) hx hb hr (fun t ht9 hW => ⟨⟨(-1), (), rfl, rfl, by rw [ht9]; exact hP9, hD9⟩, hS.F ht9⟩) hS.2.2 d_Wa_step_22
  · skip
    refine lv_iload_n hx hb d_Wa_step_4 rfl (lv_at hl 1 rfl) ?_
    refine lv_aload_n hx hb d_Wa_step_5 rfl (lv_at hl 0 rfl) ?_
    refine va_get (D := (dC, dI)) (ci := 3) (v := .int (-1)) (C := "NetUnfolder$Way") (T := T_Wa) (N := 2) hx hb ht in_Wa hown hK hP 0 rfl rfl 1 (by decide) (ht _ wd_1_144) (fun _ h9 => h9) rfl d_Wa_step_6 ?_
    refine lv_icmp_ge (tgt := 21) hx hb d_Wa_step_9 (by decide) (fun _ => ?_) (fun h9 => (by exfalso; have ehb1 := fa_nlt (k := 0) (by decide) hb1; have eh9 := fb_nle (k := -1) (by decide) h9; omega))
    refine lv_iconst (v := (-1)) hx hb d_Wa_step_21 (by decide) ?_
    have hP9 := hP.sub (ws' := [(a3, .inr (3, [.ref a18, .int (-1)]))]) [0] rfl
    have hD9 := hD.sub (ws' := [(a3, .inr (3, [.ref a18, .int (-1)]))]) [0] (by decide) rfl
    exact W.iret (v := (-1)) hx hb hr (fun t ht9 hW => ⟨⟨(-1), (), rfl, rfl, by rw [ht9]; exact hP9, hD9⟩, hS.F ht9⟩) hS.2.2 d_Wa_step_22

set_option maxHeartbeats 4000000 in
set_option maxRecDepth 100000 in
theorem c_NU_way (l : Launch) (dC : Nat → ClassId) (dI : Nat → Nat → Nat) (cI cL cZ : ClassId) (sz : Nat) (a0 : Nat) (a3 : Nat) (a1 : Nat) (a2 : Nat) (a4 : Nat) (a5 : Nat) (a18 : Nat) (k0 : Int32) : Met l y_NU_way (Cond.code y_NU_way prog_1_method_8_code 2 (some .int) :: wsA) { frames := 1, cells := 0, slots := 0, locals := 21 } (va_Pc [.ref a0, .int k0] (fun U => U.heap.size = sz ∧ va_P (dC, dI) clA [(a0, .inr (0, [.ref a1, .ref a2, .ref a3, .ref a4, .ref a5])), (a3, .inr (3, [.ref a18, .int (-1)]))] U.heap ∧ va_K (dC, dI) clA [(cI, .int), (cL, .long), (cZ, .boolean)] U ∧ va_D (fun _ => True) [(a0, .inr (0, [.ref a1, .ref a2, .ref a3, .ref a4, .ref a5])), (a3, .inr (3, [.ref a18, .int (-1)]))] ∧ NwA U)) (va_Qi (fun r (_ : Unit) => r = (-1)) (fun _ t => va_P (dC, dI) clA [(a0, .inr (0, [.ref a1, .ref a2, .ref a3, .ref a4, .ref a5])), (a3, .inr (3, [.ref a18, .int (-1)]))] t.heap ∧ va_D (va_A [(a0, .inr (0, [.ref a1, .ref a2, .ref a3, .ref a4, .ref a5])), (a3, .inr (3, [.ref a18, .int (-1)]))] sz) [(a0, .inr (0, [.ref a1, .ref a2, .ref a3, .ref a4, .ref a5])), (a3, .inr (3, [.ref a18, .int (-1)]))]) (va_A [(a0, .inr (0, [.ref a1, .ref a2, .ref a3, .ref a4, .ref a5])), (a3, .inr (3, [.ref a18, .int (-1)]))] sz)) 0 0 (va_A [(a0, .inr (0, [.ref a1, .ref a2, .ref a3, .ref a4, .ref a5])), (a3, .inr (3, [.ref a18, .int (-1)]))] sz) := by
  refine Met.ofW (cc := prog_1_method_8_code) (maxL := 2) (ret := (some .int)) (by decide) rfl ?_
  intro p e s m args below meth c s₁ B hml hv
  obtain ⟨rfl, hsz, hP, hK, hD0, hN⟩ := hv
  have hx := B.exec
  have hb := B.bytes
  have hr := B.returns
  have ht : ∀ w ∈ wsA, w.before _ s = true := fun w h => atoms_spec (ws := (Cond.code y_NU_way prog_1_method_8_code 2 (some .int) :: wsA)) B.pre w (List.mem_cons_of_mem _ h)
  have hown : s.vm.findClass "NetUnfolder" = some m.cls := findClass_of_methodNamed B.named
  have hlocks := B.notSynchronized
  subst hsz
  have hD := hD0.self (sz := s.heap.size)
  generalize hAe : va_A [(a0, .inr (0, [.ref a1, .ref a2, .ref a3, .ref a4, .ref a5])), (a3, .inr (3, [.ref a18, .int (-1)]))] s.heap.size = A at hD ⊢
  have hA : ∀ q : Nat, s.heap.size ≤ q → A q := fun q h => by rw [← hAe]; exact Or.inr h
  have hS : va_S A s.heap s.heap [] := va_S.rf
  have hl := lv_entry ([.ref a0, .int k0]) (n := 2) (Nat.le_of_ble_eq_true rfl)
  rw [lg_entry_eq]
  generalize (lg_sl ([.ref a0, .int k0]) ++ List.replicate (2 - (lg_sl ([.ref a0, .int k0])).length) Slot.unset).toArray = ls at hl ⊢
  replace hl : lv_has ls 2 [(0, .ref a0), (1, .int k0)] := hl
  refine lv_aload_n hx hb d_NU_way_0 rfl (lv_at hl 0 rfl) ?_
  refine va_get (D := (dC, dI)) (ci := 0) (v := .ref a3) (C := "NetUnfolder") (T := T_NU) (N := 5) hx hb ht in_NU hown hK hP 0 rfl rfl 2 (by decide) (ht _ wd_2_38) (fun _ h9 => h9) rfl d_NU_way_1 ?_
  refine lv_iload_n hx hb d_NU_way_4 rfl (lv_at hl 1 rfl) ?_
  have hPc := hP.sub (ws' := [(a3, .inr (3, [.ref a18, .int (-1)]))]) [1] rfl
  have hDc := hD.sub (ws' := [(a3, .inr (3, [.ref a18, .int (-1)]))]) [1] (by decide) rfl
  have hFc := va_free (wc := [(a3, .inr (3, [.ref a18, .int (-1)]))]) hD hS hA [1] rfl
  refine va_calli (va_runV (C := "NetUnfolder$Way") (As := [.int k0]) (rest := []) ⟨hx, hb, hml, hown, ht⟩ (c_Wa_step l dC dI cI cL cZ _ a3 a18 k0 ) (cwV 1 ht (good_V wd_2_198 wd_2_199 wd_2_200 wd_1_4 wd_2_201) rfl rfl rfl (by decide +kernel) ⟨Nat.le_of_ble_eq_true rfl, Nat.le_of_ble_eq_true rfl⟩) ⟨fun a U g mk q => by obtain ⟨q0, q1, qP, qK, qD, qN⟩ := q; exact ⟨q0, q1, qP, va_K.moved (u := U) (U := U.calling g mk a) (Vm.Alike.refl U.vm) qK, qD, NwA.same (u := U) rfl qN⟩, (va_recv (q0 := 1) (ci := 3) hK hP rfl rfl), fun U hU hW => ⟨rfl, by rw [hU], by rw [hU]; exact hPc, va_K.moved hW.alike hK, hDc.weaken (fun _ _ _ _ => trivial), NwA.warm hW hN⟩⟩ rfl rfl hl.1 rfl (lv_room (Nat.le_of_ble_eq_true rfl)) d_NU_way_5 ⟨Nat.le_of_ble_eq_true rfl, Nat.le_of_ble_eq_true rfl⟩) hS (fun q _ h => hFc q h) hFc (fun r9 u t H1 locs ht9 hvm hw2 hB hz1 hk1 hSn => ?_)
  obtain ⟨hP1, hD1⟩ := hB
  rw [ht9] at hP1
  obtain ⟨hPn, hDn⟩ := va_join (wr := [(a0, .inr (0, [.ref a1, .ref a2, .ref a3, .ref a4, .ref a5]))]) (w1 := [(a3, .inr (3, [.ref a18, .int (-1)]))]) hP hD [1] [0] rfl rfl (by decide) (by decide) hk1 hFc hP1 hD1
  replace hP : va_P (dC, dI) clA [(a0, .inr (0, [.ref a1, .ref a2, .ref a3, .ref a4, .ref a5])), (a3, .inr (3, [.ref a18, .int (-1)]))] H1 := hPn
  replace hD : va_D A [(a0, .inr (0, [.ref a1, .ref a2, .ref a3, .ref a4, .ref a5])), (a3, .inr (3, [.ref a18, .int (-1)]))] := hDn
  replace hS := hSn
  clear hPn hDn hSn
  clear hPc hDc hFc hP1 hD1 hk1 hz1 ht9 hvm
  refine W.cs (cells' := 0) (slots' := 0) rfl rfl ?_
  subst hw2
  have hP9 := hP.sub (ws' := [(a0, .inr (0, [.ref a1, .ref a2, .ref a3, .ref a4, .ref a5])), (a3, .inr (3, [.ref a18, .int (-1)]))]) [0, 1] rfl
  have hD9 := hD.sub (ws' := [(a0, .inr (0, [.ref a1, .ref a2, .ref a3, .ref a4, .ref a5])), (a3, .inr (3, [.ref a18, .int (-1)]))]) [0, 1] (by decide) rfl
  exact W.iret (v := (-1)) hx hb hr (fun t ht9 hW => ⟨⟨(-1), (), rfl, rfl, by rw [ht9]; exact hP9, hD9⟩, hS.F ht9⟩) hS.2.2 d_NU_way_8

set_option maxHeartbeats 4000000 in
set_option maxRecDepth 100000 in
theorem c_NU_count_0 (l : Launch) (dC : Nat → ClassId) (dI : Nat → Nat → Nat) (cI cL cZ : ClassId) (sz : Nat) (a0 : Nat) (a2 : Nat) (a3 : Nat) (a1 : Nat) (a4 : Nat) (a5 : Nat) (a8 : Nat) (a9 : Nat) (a10 : Nat) (a11 : Nat) (a12 : Nat) (a13 : Nat) (a14 : Nat) (a15 : Nat) (a16 : Nat) (a17 : Nat) (a18 : Nat) (k0 : Int32) (h1 : k0 = 0) : Met l y_NU_count (Cond.code y_NU_count prog_1_method_10_code 2 (some .int) :: wsA) { frames := 0, cells := 0, slots := 0, locals := 0 } (va_Pc [.ref a0, .int k0] (fun U => U.heap.size = sz ∧ va_P (dC, dI) clA [(a0, .inr (0, [.ref a1, .ref a2, .ref a3, .ref a4, .ref a5])), (a2, .inr (2, [.int 0, .ref a8, .ref a9, .ref a10, .ref a11, .ref a12, .int 0, .ref a13, .ref a14, .ref a15, .ref a16, .ref a17, .int 0, .int 0])), (a3, .inr (3, [.ref a18, .int (-1)]))] U.heap ∧ va_K (dC, dI) clA [(cI, .int), (cL, .long), (cZ, .boolean)] U ∧ va_D (fun _ => True) [(a0, .inr (0, [.ref a1, .ref a2, .ref a3, .ref a4, .ref a5])), (a2, .inr (2, [.int 0, .ref a8, .ref a9, .ref a10, .ref a11, .ref a12, .int 0, .ref a13, .ref a14, .ref a15, .ref a16, .ref a17, .int 0, .int 0])), (a3, .inr (3, [.ref a18, .int (-1)]))] ∧ NwA U)) (va_Qi (fun r (_ : Unit) => r = 0) (fun _ t => va_P (dC, dI) clA [(a0, .inr (0, [.ref a1, .ref a2, .ref a3, .ref a4, .ref a5])), (a2, .inr (2, [.int 0, .ref a8, .ref a9, .ref a10, .ref a11, .ref a12, .int 0, .ref a13, .ref a14, .ref a15, .ref a16, .ref a17, .int 0, .int 0])), (a3, .inr (3, [.ref a18, .int (-1)]))] t.heap ∧ va_D (va_A [(a0, .inr (0, [.ref a1, .ref a2, .ref a3, .ref a4, .ref a5])), (a2, .inr (2, [.int 0, .ref a8, .ref a9, .ref a10, .ref a11, .ref a12, .int 0, .ref a13, .ref a14, .ref a15, .ref a16, .ref a17, .int 0, .int 0])), (a3, .inr (3, [.ref a18, .int (-1)]))] sz) [(a0, .inr (0, [.ref a1, .ref a2, .ref a3, .ref a4, .ref a5])), (a2, .inr (2, [.int 0, .ref a8, .ref a9, .ref a10, .ref a11, .ref a12, .int 0, .ref a13, .ref a14, .ref a15, .ref a16, .ref a17, .int 0, .int 0])), (a3, .inr (3, [.ref a18, .int (-1)]))]) (va_A [(a0, .inr (0, [.ref a1, .ref a2, .ref a3, .ref a4, .ref a5])), (a2, .inr (2, [.int 0, .ref a8, .ref a9, .ref a10, .ref a11, .ref a12, .int 0, .ref a13, .ref a14, .ref a15, .ref a16, .ref a17, .int 0, .int 0])), (a3, .inr (3, [.ref a18, .int (-1)]))] sz)) 0 0 (va_A [(a0, .inr (0, [.ref a1, .ref a2, .ref a3, .ref a4, .ref a5])), (a2, .inr (2, [.int 0, .ref a8, .ref a9, .ref a10, .ref a11, .ref a12, .int 0, .ref a13, .ref a14, .ref a15, .ref a16, .ref a17, .int 0, .int 0])), (a3, .inr (3, [.ref a18, .int (-1)]))] sz) := by
  refine Met.ofW (cc := prog_1_method_10_code) (maxL := 2) (ret := (some .int)) (by decide) rfl ?_
  intro p e s m args below meth c s₁ B hml hv
  obtain ⟨rfl, hsz, hP, hK, hD0, hN⟩ := hv
  have hx := B.exec
  have hb := B.bytes
  have hr := B.returns
  have ht : ∀ w ∈ wsA, w.before _ s = true := fun w h => atoms_spec (ws := (Cond.code y_NU_count prog_1_method_10_code 2 (some .int) :: wsA)) B.pre w (List.mem_cons_of_mem _ h)
  have hown : s.vm.findClass "NetUnfolder" = some m.cls := findClass_of_methodNamed B.named
  have hlocks := B.notSynchronized
  subst hsz
  have hD := hD0.self (sz := s.heap.size)
  generalize hAe : va_A [(a0, .inr (0, [.ref a1, .ref a2, .ref a3, .ref a4, .ref a5])), (a2, .inr (2, [.int 0, .ref a8, .ref a9, .ref a10, .ref a11, .ref a12, .int 0, .ref a13, .ref a14, .ref a15, .ref a16, .ref a17, .int 0, .int 0])), (a3, .inr (3, [.ref a18, .int (-1)]))] s.heap.size = A at hD ⊢
  have hA : ∀ q : Nat, s.heap.size ≤ q → A q := fun q h => by rw [← hAe]; exact Or.inr h
  have hS : va_S A s.heap s.heap [] := va_S.rf
  have hl := lv_entry ([.ref a0, .int k0]) (n := 2) (Nat.le_of_ble_eq_true rfl)
  rw [lg_entry_eq]
  generalize (lg_sl ([.ref a0, .int k0]) ++ List.replicate (2 - (lg_sl ([.ref a0, .int k0])).length) Slot.unset).toArray = ls at hl ⊢
  replace hl : lv_has ls 2 [(0, .ref a0), (1, .int k0)] := hl
  refine lv_iload_n hx hb d_NU_count_0 rfl (lv_at hl 1 rfl) ?_
  have hv1 : k0 = 0 := h1
  refine lv_tableIn (off := 31) (tgt := 32) hx hb d_NU_count_1 (by rw [hv1]; decide) (by rw [hv1]; decide) (by rw [hv1]; decide) (by decide) ?_
  refine lv_aload_n hx hb d_NU_count_32 rfl (lv_at hl 0 rfl) ?_
  refine va_get (D := (dC, dI)) (ci := 0) (v := .ref a2) (C := "NetUnfolder") (T := T_NU) (N := 5) hx hb ht in_NU hown hK hP 0 rfl rfl 1 (by decide) (ht _ wd_2_37) (fun _ h9 => h9) rfl d_NU_count_33 ?_
  refine va_get (D := (dC, dI)) (ci := 2) (v := .int 0) (C := "NetUnfolder$Prefix") (T := T_Pf) (N := 14) hx hb ht in_Pf hown hK hP 1 rfl rfl 6 (by decide) (ht _ wd_1_85) (fun _ h9 => h9) rfl d_NU_count_36 ?_
  have hP9 := hP.sub (ws' := [(a0, .inr (0, [.ref a1, .ref a2, .ref a3, .ref a4, .ref a5])), (a2, .inr (2, [.int 0, .ref a8, .ref a9, .ref a10, .ref a11, .ref a12, .int 0, .ref a13, .ref a14, .ref a15, .ref a16, .ref a17, .int 0, .int 0])), (a3, .inr (3, [.ref a18, .int (-1)]))]) [0, 1, 2] rfl
  have hD9 := hD.sub (ws' := [(a0, .inr (0, [.ref a1, .ref a2, .ref a3, .ref a4, .ref a5])), (a2, .inr (2, [.int 0, .ref a8, .ref a9, .ref a10, .ref a11, .ref a12, .int 0, .ref a13, .ref a14, .ref a15, .ref a16, .ref a17, .int 0, .int 0])), (a3, .inr (3, [.ref a18, .int (-1)]))]) [0, 1, 2] (by decide) rfl
  exact W.iret (v := 0) hx hb hr (fun t ht9 hW => ⟨⟨0, (), rfl, rfl, by rw [ht9]; exact hP9, hD9⟩, hS.F ht9⟩) hS.2.2 d_NU_count_39

set_option maxHeartbeats 4000000 in
set_option maxRecDepth 100000 in
theorem c_NU_count_1 (l : Launch) (dC : Nat → ClassId) (dI : Nat → Nat → Nat) (cI cL cZ : ClassId) (sz : Nat) (a0 : Nat) (a2 : Nat) (a3 : Nat) (a1 : Nat) (a4 : Nat) (a5 : Nat) (a8 : Nat) (a9 : Nat) (a10 : Nat) (a11 : Nat) (a12 : Nat) (a13 : Nat) (a14 : Nat) (a15 : Nat) (a16 : Nat) (a17 : Nat) (a18 : Nat) (k0 : Int32) (h1 : k0 = 1) : Met l y_NU_count (Cond.code y_NU_count prog_1_method_10_code 2 (some .int) :: wsA) { frames := 0, cells := 0, slots := 0, locals := 0 } (va_Pc [.ref a0, .int k0] (fun U => U.heap.size = sz ∧ va_P (dC, dI) clA [(a0, .inr (0, [.ref a1, .ref a2, .ref a3, .ref a4, .ref a5])), (a2, .inr (2, [.int 0, .ref a8, .ref a9, .ref a10, .ref a11, .ref a12, .int 0, .ref a13, .ref a14, .ref a15, .ref a16, .ref a17, .int 0, .int 0])), (a3, .inr (3, [.ref a18, .int (-1)]))] U.heap ∧ va_K (dC, dI) clA [(cI, .int), (cL, .long), (cZ, .boolean)] U ∧ va_D (fun _ => True) [(a0, .inr (0, [.ref a1, .ref a2, .ref a3, .ref a4, .ref a5])), (a2, .inr (2, [.int 0, .ref a8, .ref a9, .ref a10, .ref a11, .ref a12, .int 0, .ref a13, .ref a14, .ref a15, .ref a16, .ref a17, .int 0, .int 0])), (a3, .inr (3, [.ref a18, .int (-1)]))] ∧ NwA U)) (va_Qi (fun r (_ : Unit) => r = 0) (fun _ t => va_P (dC, dI) clA [(a0, .inr (0, [.ref a1, .ref a2, .ref a3, .ref a4, .ref a5])), (a2, .inr (2, [.int 0, .ref a8, .ref a9, .ref a10, .ref a11, .ref a12, .int 0, .ref a13, .ref a14, .ref a15, .ref a16, .ref a17, .int 0, .int 0])), (a3, .inr (3, [.ref a18, .int (-1)]))] t.heap ∧ va_D (va_A [(a0, .inr (0, [.ref a1, .ref a2, .ref a3, .ref a4, .ref a5])), (a2, .inr (2, [.int 0, .ref a8, .ref a9, .ref a10, .ref a11, .ref a12, .int 0, .ref a13, .ref a14, .ref a15, .ref a16, .ref a17, .int 0, .int 0])), (a3, .inr (3, [.ref a18, .int (-1)]))] sz) [(a0, .inr (0, [.ref a1, .ref a2, .ref a3, .ref a4, .ref a5])), (a2, .inr (2, [.int 0, .ref a8, .ref a9, .ref a10, .ref a11, .ref a12, .int 0, .ref a13, .ref a14, .ref a15, .ref a16, .ref a17, .int 0, .int 0])), (a3, .inr (3, [.ref a18, .int (-1)]))]) (va_A [(a0, .inr (0, [.ref a1, .ref a2, .ref a3, .ref a4, .ref a5])), (a2, .inr (2, [.int 0, .ref a8, .ref a9, .ref a10, .ref a11, .ref a12, .int 0, .ref a13, .ref a14, .ref a15, .ref a16, .ref a17, .int 0, .int 0])), (a3, .inr (3, [.ref a18, .int (-1)]))] sz)) 0 0 (va_A [(a0, .inr (0, [.ref a1, .ref a2, .ref a3, .ref a4, .ref a5])), (a2, .inr (2, [.int 0, .ref a8, .ref a9, .ref a10, .ref a11, .ref a12, .int 0, .ref a13, .ref a14, .ref a15, .ref a16, .ref a17, .int 0, .int 0])), (a3, .inr (3, [.ref a18, .int (-1)]))] sz) := by
  refine Met.ofW (cc := prog_1_method_10_code) (maxL := 2) (ret := (some .int)) (by decide) rfl ?_
  intro p e s m args below meth c s₁ B hml hv
  obtain ⟨rfl, hsz, hP, hK, hD0, hN⟩ := hv
  have hx := B.exec
  have hb := B.bytes
  have hr := B.returns
  have ht : ∀ w ∈ wsA, w.before _ s = true := fun w h => atoms_spec (ws := (Cond.code y_NU_count prog_1_method_10_code 2 (some .int) :: wsA)) B.pre w (List.mem_cons_of_mem _ h)
  have hown : s.vm.findClass "NetUnfolder" = some m.cls := findClass_of_methodNamed B.named
  have hlocks := B.notSynchronized
  subst hsz
  have hD := hD0.self (sz := s.heap.size)
  generalize hAe : va_A [(a0, .inr (0, [.ref a1, .ref a2, .ref a3, .ref a4, .ref a5])), (a2, .inr (2, [.int 0, .ref a8, .ref a9, .ref a10, .ref a11, .ref a12, .int 0, .ref a13, .ref a14, .ref a15, .ref a16, .ref a17, .int 0, .int 0])), (a3, .inr (3, [.ref a18, .int (-1)]))] s.heap.size = A at hD ⊢
  have hA : ∀ q : Nat, s.heap.size ≤ q → A q := fun q h => by rw [← hAe]; exact Or.inr h
  have hS : va_S A s.heap s.heap [] := va_S.rf
  have hl := lv_entry ([.ref a0, .int k0]) (n := 2) (Nat.le_of_ble_eq_true rfl)
  rw [lg_entry_eq]
  generalize (lg_sl ([.ref a0, .int k0]) ++ List.replicate (2 - (lg_sl ([.ref a0, .int k0])).length) Slot.unset).toArray = ls at hl ⊢
  replace hl : lv_has ls 2 [(0, .ref a0), (1, .int k0)] := hl
  refine lv_iload_n hx hb d_NU_count_0 rfl (lv_at hl 1 rfl) ?_
  have hv1 : k0 = 1 := h1
  refine lv_tableIn (off := 39) (tgt := 40) hx hb d_NU_count_1 (by rw [hv1]; decide) (by rw [hv1]; decide) (by rw [hv1]; decide) (by decide) ?_
  refine lv_aload_n hx hb d_NU_count_40 rfl (lv_at hl 0 rfl) ?_
  refine va_get (D := (dC, dI)) (ci := 0) (v := .ref a2) (C := "NetUnfolder") (T := T_NU) (N := 5) hx hb ht in_NU hown hK hP 0 rfl rfl 1 (by decide) (ht _ wd_2_37) (fun _ h9 => h9) rfl d_NU_count_41 ?_
  refine va_get (D := (dC, dI)) (ci := 2) (v := .int 0) (C := "NetUnfolder$Prefix") (T := T_Pf) (N := 14) hx hb ht in_Pf hown hK hP 1 rfl rfl 0 (by decide) (ht _ wd_1_65) (fun _ h9 => h9) rfl d_NU_count_44 ?_
  have hP9 := hP.sub (ws' := [(a0, .inr (0, [.ref a1, .ref a2, .ref a3, .ref a4, .ref a5])), (a2, .inr (2, [.int 0, .ref a8, .ref a9, .ref a10, .ref a11, .ref a12, .int 0, .ref a13, .ref a14, .ref a15, .ref a16, .ref a17, .int 0, .int 0])), (a3, .inr (3, [.ref a18, .int (-1)]))]) [0, 1, 2] rfl
  have hD9 := hD.sub (ws' := [(a0, .inr (0, [.ref a1, .ref a2, .ref a3, .ref a4, .ref a5])), (a2, .inr (2, [.int 0, .ref a8, .ref a9, .ref a10, .ref a11, .ref a12, .int 0, .ref a13, .ref a14, .ref a15, .ref a16, .ref a17, .int 0, .int 0])), (a3, .inr (3, [.ref a18, .int (-1)]))]) [0, 1, 2] (by decide) rfl
  exact W.iret (v := 0) hx hb hr (fun t ht9 hW => ⟨⟨0, (), rfl, rfl, by rw [ht9]; exact hP9, hD9⟩, hS.F ht9⟩) hS.2.2 d_NU_count_47

set_option maxHeartbeats 4000000 in
set_option maxRecDepth 100000 in
theorem c_NU_count_2 (l : Launch) (dC : Nat → ClassId) (dI : Nat → Nat → Nat) (cI cL cZ : ClassId) (sz : Nat) (a0 : Nat) (a2 : Nat) (a3 : Nat) (a1 : Nat) (a4 : Nat) (a5 : Nat) (a8 : Nat) (a9 : Nat) (a10 : Nat) (a11 : Nat) (a12 : Nat) (a13 : Nat) (a14 : Nat) (a15 : Nat) (a16 : Nat) (a17 : Nat) (a18 : Nat) (k0 : Int32) (h1 : k0 = 2) : Met l y_NU_count (Cond.code y_NU_count prog_1_method_10_code 2 (some .int) :: wsA) { frames := 1, cells := 0, slots := 0, locals := 20 } (va_Pc [.ref a0, .int k0] (fun U => U.heap.size = sz ∧ va_P (dC, dI) clA [(a0, .inr (0, [.ref a1, .ref a2, .ref a3, .ref a4, .ref a5])), (a2, .inr (2, [.int 0, .ref a8, .ref a9, .ref a10, .ref a11, .ref a12, .int 0, .ref a13, .ref a14, .ref a15, .ref a16, .ref a17, .int 0, .int 0])), (a3, .inr (3, [.ref a18, .int (-1)]))] U.heap ∧ va_K (dC, dI) clA [(cI, .int), (cL, .long), (cZ, .boolean)] U ∧ va_D (fun _ => True) [(a0, .inr (0, [.ref a1, .ref a2, .ref a3, .ref a4, .ref a5])), (a2, .inr (2, [.int 0, .ref a8, .ref a9, .ref a10, .ref a11, .ref a12, .int 0, .ref a13, .ref a14, .ref a15, .ref a16, .ref a17, .int 0, .int 0])), (a3, .inr (3, [.ref a18, .int (-1)]))] ∧ NwA U)) (va_Qi (fun r (_ : Unit) => r = 0) (fun _ t => va_P (dC, dI) clA [(a0, .inr (0, [.ref a1, .ref a2, .ref a3, .ref a4, .ref a5])), (a2, .inr (2, [.int 0, .ref a8, .ref a9, .ref a10, .ref a11, .ref a12, .int 0, .ref a13, .ref a14, .ref a15, .ref a16, .ref a17, .int 0, .int 0])), (a3, .inr (3, [.ref a18, .int (-1)]))] t.heap ∧ va_D (va_A [(a0, .inr (0, [.ref a1, .ref a2, .ref a3, .ref a4, .ref a5])), (a2, .inr (2, [.int 0, .ref a8, .ref a9, .ref a10, .ref a11, .ref a12, .int 0, .ref a13, .ref a14, .ref a15, .ref a16, .ref a17, .int 0, .int 0])), (a3, .inr (3, [.ref a18, .int (-1)]))] sz) [(a0, .inr (0, [.ref a1, .ref a2, .ref a3, .ref a4, .ref a5])), (a2, .inr (2, [.int 0, .ref a8, .ref a9, .ref a10, .ref a11, .ref a12, .int 0, .ref a13, .ref a14, .ref a15, .ref a16, .ref a17, .int 0, .int 0])), (a3, .inr (3, [.ref a18, .int (-1)]))]) (va_A [(a0, .inr (0, [.ref a1, .ref a2, .ref a3, .ref a4, .ref a5])), (a2, .inr (2, [.int 0, .ref a8, .ref a9, .ref a10, .ref a11, .ref a12, .int 0, .ref a13, .ref a14, .ref a15, .ref a16, .ref a17, .int 0, .int 0])), (a3, .inr (3, [.ref a18, .int (-1)]))] sz)) 0 0 (va_A [(a0, .inr (0, [.ref a1, .ref a2, .ref a3, .ref a4, .ref a5])), (a2, .inr (2, [.int 0, .ref a8, .ref a9, .ref a10, .ref a11, .ref a12, .int 0, .ref a13, .ref a14, .ref a15, .ref a16, .ref a17, .int 0, .int 0])), (a3, .inr (3, [.ref a18, .int (-1)]))] sz) := by
  refine Met.ofW (cc := prog_1_method_10_code) (maxL := 2) (ret := (some .int)) (by decide) rfl ?_
  intro p e s m args below meth c s₁ B hml hv
  obtain ⟨rfl, hsz, hP, hK, hD0, hN⟩ := hv
  have hx := B.exec
  have hb := B.bytes
  have hr := B.returns
  have ht : ∀ w ∈ wsA, w.before _ s = true := fun w h => atoms_spec (ws := (Cond.code y_NU_count prog_1_method_10_code 2 (some .int) :: wsA)) B.pre w (List.mem_cons_of_mem _ h)
  have hown : s.vm.findClass "NetUnfolder" = some m.cls := findClass_of_methodNamed B.named
  have hlocks := B.notSynchronized
  subst hsz
  have hD := hD0.self (sz := s.heap.size)
  generalize hAe : va_A [(a0, .inr (0, [.ref a1, .ref a2, .ref a3, .ref a4, .ref a5])), (a2, .inr (2, [.int 0, .ref a8, .ref a9, .ref a10, .ref a11, .ref a12, .int 0, .ref a13, .ref a14, .ref a15, .ref a16, .ref a17, .int 0, .int 0])), (a3, .inr (3, [.ref a18, .int (-1)]))] s.heap.size = A at hD ⊢
  have hA : ∀ q : Nat, s.heap.size ≤ q → A q := fun q h => by rw [← hAe]; exact Or.inr h
  have hS : va_S A s.heap s.heap [] := va_S.rf
  have hl := lv_entry ([.ref a0, .int k0]) (n := 2) (Nat.le_of_ble_eq_true rfl)
  rw [lg_entry_eq]
  generalize (lg_sl ([.ref a0, .int k0]) ++ List.replicate (2 - (lg_sl ([.ref a0, .int k0])).length) Slot.unset).toArray = ls at hl ⊢
  replace hl : lv_has ls 2 [(0, .ref a0), (1, .int k0)] := hl
  refine lv_iload_n hx hb d_NU_count_0 rfl (lv_at hl 1 rfl) ?_
  have hv1 : k0 = 2 := h1
  refine lv_tableIn (off := 47) (tgt := 48) hx hb d_NU_count_1 (by rw [hv1]; decide) (by rw [hv1]; decide) (by rw [hv1]; decide) (by decide) ?_
  refine lv_aload_n hx hb d_NU_count_48 rfl (lv_at hl 0 rfl) ?_
  refine va_get (D := (dC, dI)) (ci := 0) (v := .ref a2) (C := "NetUnfolder") (T := T_NU) (N := 5) hx hb ht in_NU hown hK hP 0 rfl rfl 1 (by decide) (ht _ wd_2_37) (fun _ h9 => h9) rfl d_NU_count_49 ?_
  refine va_get (D := (dC, dI)) (ci := 2) (v := .int 0) (C := "NetUnfolder$Prefix") (T := T_Pf) (N := 14) hx hb ht in_Pf hown hK hP 1 rfl rfl 12 (by decide) (ht _ wd_1_103) (fun _ h9 => h9) rfl d_NU_count_52 ?_
  have hPc : va_P (dC, dI) clA [] _ := pu_P (H := s.heap)
  have hDc : va_D (fun _ => True) [] := pu_D
  have hFc := pu_free hS hA
  refine va_calli (va_runS (As := [.int 0]) (rest := []) ⟨hx, hb, hml, hown, ht⟩ (c_Ig_bitCount_0 l dC dI cI cL cZ _  ) (va_cwS 1 ht (good_S wd_2_206 wd_2_125 wd_1_17 wd_2_126) rfl rfl rfl (by decide +kernel) ⟨Nat.le_of_ble_eq_true rfl, Nat.le_of_ble_eq_true rfl⟩) ⟨fun a U g mk q => by obtain ⟨q0, q1, qP, qK, qD, qN⟩ := q; exact ⟨q0, q1, qP, va_K.moved (u := U) (U := U.calling g mk a) (Vm.Alike.refl U.vm) qK, qD, NwA.same (u := U) rfl qN⟩, fun U hU hW => ⟨rfl, by rw [hU], by rw [hU]; exact hPc, va_K.moved hW.alike hK, hDc.weaken (fun _ _ _ _ => trivial), NwA.warm hW hN⟩⟩ rfl rfl hl.1 rfl (lv_room (Nat.le_of_ble_eq_true rfl)) d_NU_count_55 ⟨Nat.le_of_ble_eq_true rfl, Nat.le_of_ble_eq_true rfl⟩) hS (fun q _ h => hFc q h) hFc (fun r9 u t H2 locs ht9 hvm hw3 hB hz1 hk1 hSn => ?_)
  replace hP : va_P (dC, dI) clA [(a0, .inr (0, [.ref a1, .ref a2, .ref a3, .ref a4, .ref a5])), (a2, .inr (2, [.int 0, .ref a8, .ref a9, .ref a10, .ref a11, .ref a12, .int 0, .ref a13, .ref a14, .ref a15, .ref a16, .ref a17, .int 0, .int 0])), (a3, .inr (3, [.ref a18, .int (-1)]))] H2 := pu_keep hP hk1
  replace hS := hSn
  clear hSn hPc hDc hFc hk1 hz1 ht9 hvm hB
  refine W.cs (cells' := 0) (slots' := 0) rfl rfl ?_
  subst hw3
  have hP9 := hP.sub (ws' := [(a0, .inr (0, [.ref a1, .ref a2, .ref a3, .ref a4, .ref a5])), (a2, .inr (2, [.int 0, .ref a8, .ref a9, .ref a10, .ref a11, .ref a12, .int 0, .ref a13, .ref a14, .ref a15, .ref a16, .ref a17, .int 0, .int 0])), (a3, .inr (3, [.ref a18, .int (-1)]))]) [0, 1, 2] rfl
  have hD9 := hD.sub (ws' := [(a0, .inr (0, [.ref a1, .ref a2, .ref a3, .ref a4, .ref a5])), (a2, .inr (2, [.int 0, .ref a8, .ref a9, .ref a10, .ref a11, .ref a12, .int 0, .ref a13, .ref a14, .ref a15, .ref a16, .ref a17, .int 0, .int 0])), (a3, .inr (3, [.ref a18, .int (-1)]))]) [0, 1, 2] (by decide) rfl
  exact W.iret (v := 0) hx hb hr (fun t ht9 hW => ⟨⟨0, (), rfl, rfl, by rw [ht9]; exact hP9, hD9⟩, hS.F ht9⟩) hS.2.2 d_NU_count_58

set_option maxHeartbeats 4000000 in
set_option maxRecDepth 100000 in
theorem c_NU_count_n (l : Launch) (dC : Nat → ClassId) (dI : Nat → Nat → Nat) (cI cL cZ : ClassId) (sz : Nat) (a0 : Nat) (a2 : Nat) (a3 : Nat) (a1 : Nat) (a4 : Nat) (a5 : Nat) (a8 : Nat) (a9 : Nat) (a10 : Nat) (a11 : Nat) (a12 : Nat) (a13 : Nat) (a14 : Nat) (a15 : Nat) (a16 : Nat) (a17 : Nat) (a18 : Nat) (k0 : Int32) (h0 : ¬ k0 = 0) (h1 : ¬ k0 = 1) (h2 : ¬ k0 = 2) : Met l y_NU_count (Cond.code y_NU_count prog_1_method_10_code 2 (some .int) :: wsA) { frames := 0, cells := 0, slots := 0, locals := 0 } (va_Pc [.ref a0, .int k0] (fun U => U.heap.size = sz ∧ va_P (dC, dI) clA [(a0, .inr (0, [.ref a1, .ref a2, .ref a3, .ref a4, .ref a5])), (a2, .inr (2, [.int 0, .ref a8, .ref a9, .ref a10, .ref a11, .ref a12, .int 0, .ref a13, .ref a14, .ref a15, .ref a16, .ref a17, .int 0, .int 0])), (a3, .inr (3, [.ref a18, .int (-1)]))] U.heap ∧ va_K (dC, dI) clA [(cI, .int), (cL, .long), (cZ, .boolean)] U ∧ va_D (fun _ => True) [(a0, .inr (0, [.ref a1, .ref a2, .ref a3, .ref a4, .ref a5])), (a2, .inr (2, [.int 0, .ref a8, .ref a9, .ref a10, .ref a11, .ref a12, .int 0, .ref a13, .ref a14, .ref a15, .ref a16, .ref a17, .int 0, .int 0])), (a3, .inr (3, [.ref a18, .int (-1)]))] ∧ NwA U)) (va_Qi (fun r (_ : Unit) => r = (-1)) (fun _ t => va_P (dC, dI) clA [(a0, .inr (0, [.ref a1, .ref a2, .ref a3, .ref a4, .ref a5])), (a2, .inr (2, [.int 0, .ref a8, .ref a9, .ref a10, .ref a11, .ref a12, .int 0, .ref a13, .ref a14, .ref a15, .ref a16, .ref a17, .int 0, .int 0])), (a3, .inr (3, [.ref a18, .int (-1)]))] t.heap ∧ va_D (va_A [(a0, .inr (0, [.ref a1, .ref a2, .ref a3, .ref a4, .ref a5])), (a2, .inr (2, [.int 0, .ref a8, .ref a9, .ref a10, .ref a11, .ref a12, .int 0, .ref a13, .ref a14, .ref a15, .ref a16, .ref a17, .int 0, .int 0])), (a3, .inr (3, [.ref a18, .int (-1)]))] sz) [(a0, .inr (0, [.ref a1, .ref a2, .ref a3, .ref a4, .ref a5])), (a2, .inr (2, [.int 0, .ref a8, .ref a9, .ref a10, .ref a11, .ref a12, .int 0, .ref a13, .ref a14, .ref a15, .ref a16, .ref a17, .int 0, .int 0])), (a3, .inr (3, [.ref a18, .int (-1)]))]) (va_A [(a0, .inr (0, [.ref a1, .ref a2, .ref a3, .ref a4, .ref a5])), (a2, .inr (2, [.int 0, .ref a8, .ref a9, .ref a10, .ref a11, .ref a12, .int 0, .ref a13, .ref a14, .ref a15, .ref a16, .ref a17, .int 0, .int 0])), (a3, .inr (3, [.ref a18, .int (-1)]))] sz)) 0 0 (va_A [(a0, .inr (0, [.ref a1, .ref a2, .ref a3, .ref a4, .ref a5])), (a2, .inr (2, [.int 0, .ref a8, .ref a9, .ref a10, .ref a11, .ref a12, .int 0, .ref a13, .ref a14, .ref a15, .ref a16, .ref a17, .int 0, .int 0])), (a3, .inr (3, [.ref a18, .int (-1)]))] sz) := by
  refine Met.ofW (cc := prog_1_method_10_code) (maxL := 2) (ret := (some .int)) (by decide) rfl ?_
  intro p e s m args below meth c s₁ B hml hv
  obtain ⟨rfl, hsz, hP, hK, hD0, hN⟩ := hv
  have hx := B.exec
  have hb := B.bytes
  have hr := B.returns
  have ht : ∀ w ∈ wsA, w.before _ s = true := fun w h => atoms_spec (ws := (Cond.code y_NU_count prog_1_method_10_code 2 (some .int) :: wsA)) B.pre w (List.mem_cons_of_mem _ h)
  have hown : s.vm.findClass "NetUnfolder" = some m.cls := findClass_of_methodNamed B.named
  have hlocks := B.notSynchronized
  subst hsz
  have hD := hD0.self (sz := s.heap.size)
  generalize hAe : va_A [(a0, .inr (0, [.ref a1, .ref a2, .ref a3, .ref a4, .ref a5])), (a2, .inr (2, [.int 0, .ref a8, .ref a9, .ref a10, .ref a11, .ref a12, .int 0, .ref a13, .ref a14, .ref a15, .ref a16, .ref a17, .int 0, .int 0])), (a3, .inr (3, [.ref a18, .int (-1)]))] s.heap.size = A at hD ⊢
  have hA : ∀ q : Nat, s.heap.size ≤ q → A q := fun q h => by rw [← hAe]; exact Or.inr h
  have hS : va_S A s.heap s.heap [] := va_S.rf
  have hl := lv_entry ([.ref a0, .int k0]) (n := 2) (Nat.le_of_ble_eq_true rfl)
  rw [lg_entry_eq]
  generalize (lg_sl ([.ref a0, .int k0]) ++ List.replicate (2 - (lg_sl ([.ref a0, .int k0])).length) Slot.unset).toArray = ls at hl ⊢
  replace hl : lv_has ls 2 [(0, .ref a0), (1, .int k0)] := hl
  refine lv_iload_n hx hb d_NU_count_0 rfl (lv_at hl 1 rfl) ?_
  by_cases hv1 : k0 = 3
  · refine lv_tableIn (off := 58) (tgt := 59) hx hb d_NU_count_1 (by rw [hv1]; decide) (by rw [hv1]; decide) (by rw [hv1]; decide) (by decide) ?_
    refine lv_aload_n hx hb d_NU_count_59 rfl (lv_at hl 0 rfl) ?_
    refine va_get (D := (dC, dI)) (ci := 0) (v := .ref a3) (C := "NetUnfolder") (T := T_NU) (N := 5) hx hb ht in_NU hown hK hP 0 rfl rfl 2 (by decide) (ht _ wd_2_38) (fun _ h9 => h9) rfl d_NU_count_60 ?_
    refine va_get (D := (dC, dI)) (ci := 3) (v := .int (-1)) (C := "NetUnfolder$Way") (T := T_Wa) (N := 2) hx hb ht in_Wa hown hK hP 2 rfl rfl 1 (by decide) (ht _ wd_1_146) (fun _ h9 => h9) rfl d_NU_count_63 ?_
    have hP9 := hP.sub (ws' := [(a0, .inr (0, [.ref a1, .ref a2, .ref a3, .ref a4, .ref a5])), (a2, .inr (2, [.int 0, .ref a8, .ref a9, .ref a10, .ref a11, .ref a12, .int 0, .ref a13, .ref a14, .ref a15, .ref a16, .ref a17, .int 0, .int 0])), (a3, .inr (3, [.ref a18, .int (-1)]))]) [0, 1, 2] rfl
    have hD9 := hD.sub (ws' := [(a0, .inr (0, [.ref a1, .ref a2, .ref a3, .ref a4, .ref a5])), (a2, .inr (2, [.int 0, .ref a8, .ref a9, .ref a10, .ref a11, .ref a12, .int 0, .ref a13, .ref a14, .ref a15, .ref a16, .ref a17, .int 0, .int 0])), (a3, .inr (3, [.ref a18, .int (-1)]))]) [0, 1, 2] (by decide) rfl
    exact W.iret (v := (-1)) hx hb hr (fun t ht9 hW => ⟨⟨(-1), (), rfl, rfl, by rw [ht9]; exact hP9, hD9⟩, hS.F ht9⟩) hS.2.2 d_NU_count_66
  refine lv_tableOut (tgt := 67) hx hb d_NU_count_1 (by have eh0 := fa_ne (k := 0) (by decide) h0; have eh1 := fa_ne (k := 1) (by decide) h1; have eh2 := fa_ne (k := 2) (by decide) h2; have ehv1 := fa_ne (k := 3) (by decide) hv1; omega) (by decide) ?_
  refine lv_iconst (v := (-1)) hx hb d_NU_count_67 (by decide) ?_
  have hP9 := hP.sub (ws' := [(a0, .inr (0, [.ref a1, .ref a2, .ref a3, .ref a4, .ref a5])), (a2, .inr (2, [.int 0, .ref a8, .ref a9, .ref a10, .ref a11, .ref a12, .int 0, .ref a13, .ref a14, .ref a15, .ref a16, .ref a17, .int 0, .int 0])), (a3, .inr (3, [.ref a18, .int (-1)]))]) [0, 1, 2] rfl
  have hD9 := hD.sub (ws' := [(a0, .inr (0, [.ref a1, .ref a2, .ref a3, .ref a4, .ref a5])), (a2, .inr (2, [.int 0, .ref a8, .ref a9, .ref a10, .ref a11, .ref a12, .int 0, .ref a13, .ref a14, .ref a15, .ref a16, .ref a17, .int 0, .int 0])), (a3, .inr (3, [.ref a18, .int (-1)]))]) [0, 1, 2] (by decide) rfl
  exact W.iret (v := (-1)) hx hb hr (fun t ht9 hW => ⟨⟨(-1), (), rfl, rfl, by rw [ht9]; exact hP9, hD9⟩, hS.F ht9⟩) hS.2.2 d_NU_count_68

set_option maxHeartbeats 4000000 in
set_option maxRecDepth 100000 in
theorem c_NU_event (l : Launch) (dC : Nat → ClassId) (dI : Nat → Nat → Nat) (cI cL cZ : ClassId) (sz : Nat) (a0 : Nat) (a2 : Nat) (a1 : Nat) (a3 : Nat) (a4 : Nat) (a5 : Nat) (a8 : Nat) (a9 : Nat) (a10 : Nat) (a11 : Nat) (a12 : Nat) (a13 : Nat) (a14 : Nat) (a15 : Nat) (a16 : Nat) (a17 : Nat) (k0 : Int32) (k1 : Int32) : Met l y_NU_event (Cond.code y_NU_event prog_1_method_11_code 3 (some .int) :: wsA) { frames := 0, cells := 0, slots := 0, locals := 0 } (va_Pc [.ref a0, .int k0, .int k1] (fun U => U.heap.size = sz ∧ va_P (dC, dI) clA [(a0, .inr (0, [.ref a1, .ref a2, .ref a3, .ref a4, .ref a5])), (a2, .inr (2, [.int 0, .ref a8, .ref a9, .ref a10, .ref a11, .ref a12, .int 0, .ref a13, .ref a14, .ref a15, .ref a16, .ref a17, .int 0, .int 0]))] U.heap ∧ va_K (dC, dI) clA [(cI, .int), (cL, .long), (cZ, .boolean)] U ∧ va_D (fun _ => True) [(a0, .inr (0, [.ref a1, .ref a2, .ref a3, .ref a4, .ref a5])), (a2, .inr (2, [.int 0, .ref a8, .ref a9, .ref a10, .ref a11, .ref a12, .int 0, .ref a13, .ref a14, .ref a15, .ref a16, .ref a17, .int 0, .int 0]))] ∧ NwA U)) (va_Qi (fun r (_ : Unit) => r = (-1)) (fun _ t => va_P (dC, dI) clA [(a0, .inr (0, [.ref a1, .ref a2, .ref a3, .ref a4, .ref a5])), (a2, .inr (2, [.int 0, .ref a8, .ref a9, .ref a10, .ref a11, .ref a12, .int 0, .ref a13, .ref a14, .ref a15, .ref a16, .ref a17, .int 0, .int 0]))] t.heap ∧ va_D (va_A [(a0, .inr (0, [.ref a1, .ref a2, .ref a3, .ref a4, .ref a5])), (a2, .inr (2, [.int 0, .ref a8, .ref a9, .ref a10, .ref a11, .ref a12, .int 0, .ref a13, .ref a14, .ref a15, .ref a16, .ref a17, .int 0, .int 0]))] sz) [(a0, .inr (0, [.ref a1, .ref a2, .ref a3, .ref a4, .ref a5])), (a2, .inr (2, [.int 0, .ref a8, .ref a9, .ref a10, .ref a11, .ref a12, .int 0, .ref a13, .ref a14, .ref a15, .ref a16, .ref a17, .int 0, .int 0]))]) (va_A [(a0, .inr (0, [.ref a1, .ref a2, .ref a3, .ref a4, .ref a5])), (a2, .inr (2, [.int 0, .ref a8, .ref a9, .ref a10, .ref a11, .ref a12, .int 0, .ref a13, .ref a14, .ref a15, .ref a16, .ref a17, .int 0, .int 0]))] sz)) 0 0 (va_A [(a0, .inr (0, [.ref a1, .ref a2, .ref a3, .ref a4, .ref a5])), (a2, .inr (2, [.int 0, .ref a8, .ref a9, .ref a10, .ref a11, .ref a12, .int 0, .ref a13, .ref a14, .ref a15, .ref a16, .ref a17, .int 0, .int 0]))] sz) := by
  refine Met.ofW (cc := prog_1_method_11_code) (maxL := 3) (ret := (some .int)) (by decide) rfl ?_
  intro p e s m args below meth c s₁ B hml hv
  obtain ⟨rfl, hsz, hP, hK, hD0, hN⟩ := hv
  have hx := B.exec
  have hb := B.bytes
  have hr := B.returns
  have ht : ∀ w ∈ wsA, w.before _ s = true := fun w h => atoms_spec (ws := (Cond.code y_NU_event prog_1_method_11_code 3 (some .int) :: wsA)) B.pre w (List.mem_cons_of_mem _ h)
  have hown : s.vm.findClass "NetUnfolder" = some m.cls := findClass_of_methodNamed B.named
  have hlocks := B.notSynchronized
  subst hsz
  have hD := hD0.self (sz := s.heap.size)
  generalize hAe : va_A [(a0, .inr (0, [.ref a1, .ref a2, .ref a3, .ref a4, .ref a5])), (a2, .inr (2, [.int 0, .ref a8, .ref a9, .ref a10, .ref a11, .ref a12, .int 0, .ref a13, .ref a14, .ref a15, .ref a16, .ref a17, .int 0, .int 0]))] s.heap.size = A at hD ⊢
  have hA : ∀ q : Nat, s.heap.size ≤ q → A q := fun q h => by rw [← hAe]; exact Or.inr h
  have hS : va_S A s.heap s.heap [] := va_S.rf
  have hl := lv_entry ([.ref a0, .int k0, .int k1]) (n := 3) (Nat.le_of_ble_eq_true rfl)
  rw [lg_entry_eq]
  generalize (lg_sl ([.ref a0, .int k0, .int k1]) ++ List.replicate (3 - (lg_sl ([.ref a0, .int k0, .int k1])).length) Slot.unset).toArray = ls at hl ⊢
  replace hl : lv_has ls 3 [(0, .ref a0), (1, .int k0), (2, .int k1)] := hl
  refine lv_iload_n hx hb d_NU_event_0 rfl (lv_at hl 1 rfl) ?_
  refine lv_if_lt (tgt := 15) hx hb d_NU_event_1 (by decide) (fun hb1 => ?_) (fun hb1 => ?_)
  · skip
    refine lv_iconst (v := (-1)) hx hb d_NU_event_15 (by decide) ?_
    have hP9 := hP.sub (ws' := [(a0, .inr (0, [.ref a1, .ref a2, .ref a3, .ref a4, .ref a5])), (a2, .inr (2, [.int 0, .ref a8, .ref a9, .ref a10, .ref a11, .ref a12, .int 0, .ref a13, .ref a14, .ref a15, .ref a16, .ref a17, .int 0, .int 0]))]) [0, 1] rfl
    have hD9 := hD.sub (ws' := [(a0, .inr (0, [.ref a1, .ref a2, .ref a3, .ref a4, .ref a5])), (a2, .inr (2, [.int 0, .ref a8, .ref a9, .ref a10, .ref a11, .ref a12, .int 0, .ref a13, .ref a14, .ref a15, .ref a16, .ref a17, .int 0, .int 0]))]) [0, 1] (by decide) rfl
    exact W.iret (v := (-1)) hx hb hr (fun t ht9 hW => ⟨⟨(-1), (), rfl, rfl, by rw [ht9]; exact hP9, hD9⟩, hS.F ht9⟩) hS.2.2 d_NU_event_16
  · skip
    refine lv_iload_n hx hb d_NU_event_4 rfl (lv_at hl 1 rfl) ?_
    refine lv_aload_n hx hb d_NU_event_5 rfl (lv_at hl 0 rfl) ?_
    refine va_get (D := (dC, dI)) (ci := 0) (v := .ref a2) (C := "NetUnfolder") (T := T_NU) (N := 5) hx hb ht in_NU hown hK hP 0 rfl rfl 1 (by decide) (ht _ wd_2_37) (fun _ h9 => h9) rfl d_NU_event_6 ?_
    refine va_get (D := (dC, dI)) (ci := 2) (v := .int 0) (C := "NetUnfolder$Prefix") (T := T_Pf) (N := 14) hx hb ht in_Pf hown hK hP 1 rfl rfl 6 (by decide) (ht _ wd_1_85) (fun _ h9 => h9) rfl d_NU_event_9 ?_
    refine lv_icmp_lt (tgt := 17) hx hb d_NU_event_12 (by decide) (fun h9 => (by exfalso; have ehb1 := fa_nlt (k := 0) (by decide) hb1; have eh9 := fa_lt (k := 0) (by decide) h9; omega)) (fun _ => ?_)
    refine lv_iconst (v := (-1)) hx hb d_NU_event_15 (by decide) ?_
    have hP9 := hP.sub (ws' := [(a0, .inr (0, [.ref a1, .ref a2, .ref a3, .ref a4, .ref a5])), (a2, .inr (2, [.int 0, .ref a8, .ref a9, .ref a10, .ref a11, .ref a12, .int 0, .ref a13, .ref a14, .ref a15, .ref a16, .ref a17, .int 0, .int 0]))]) [0, 1] rfl
    have hD9 := hD.sub (ws' := [(a0, .inr (0, [.ref a1, .ref a2, .ref a3, .ref a4, .ref a5])), (a2, .inr (2, [.int 0, .ref a8, .ref a9, .ref a10, .ref a11, .ref a12, .int 0, .ref a13, .ref a14, .ref a15, .ref a16, .ref a17, .int 0, .int 0]))]) [0, 1] (by decide) rfl
    exact W.iret (v := (-1)) hx hb hr (fun t ht9 hW => ⟨⟨(-1), (), rfl, rfl, by rw [ht9]; exact hP9, hD9⟩, hS.F ht9⟩) hS.2.2 d_NU_event_16

set_option maxHeartbeats 4000000 in
set_option maxRecDepth 100000 in
theorem c_NU_takes (l : Launch) (dC : Nat → ClassId) (dI : Nat → Nat → Nat) (cI cL cZ : ClassId) (sz : Nat) (a0 : Nat) (a2 : Nat) (a1 : Nat) (a3 : Nat) (a4 : Nat) (a5 : Nat) (a8 : Nat) (a9 : Nat) (a10 : Nat) (a11 : Nat) (a12 : Nat) (a13 : Nat) (a14 : Nat) (a15 : Nat) (a16 : Nat) (a17 : Nat) (k0 : Int32) (k1 : Int32) : Met l y_NU_takes (Cond.code y_NU_takes prog_1_method_12_code 3 (some .int) :: wsA) { frames := 0, cells := 0, slots := 0, locals := 0 } (va_Pc [.ref a0, .int k0, .int k1] (fun U => U.heap.size = sz ∧ va_P (dC, dI) clA [(a0, .inr (0, [.ref a1, .ref a2, .ref a3, .ref a4, .ref a5])), (a2, .inr (2, [.int 0, .ref a8, .ref a9, .ref a10, .ref a11, .ref a12, .int 0, .ref a13, .ref a14, .ref a15, .ref a16, .ref a17, .int 0, .int 0]))] U.heap ∧ va_K (dC, dI) clA [(cI, .int), (cL, .long), (cZ, .boolean)] U ∧ va_D (fun _ => True) [(a0, .inr (0, [.ref a1, .ref a2, .ref a3, .ref a4, .ref a5])), (a2, .inr (2, [.int 0, .ref a8, .ref a9, .ref a10, .ref a11, .ref a12, .int 0, .ref a13, .ref a14, .ref a15, .ref a16, .ref a17, .int 0, .int 0]))] ∧ NwA U)) (va_Qi (fun r (_ : Unit) => r = (-1)) (fun _ t => va_P (dC, dI) clA [(a0, .inr (0, [.ref a1, .ref a2, .ref a3, .ref a4, .ref a5])), (a2, .inr (2, [.int 0, .ref a8, .ref a9, .ref a10, .ref a11, .ref a12, .int 0, .ref a13, .ref a14, .ref a15, .ref a16, .ref a17, .int 0, .int 0]))] t.heap ∧ va_D (va_A [(a0, .inr (0, [.ref a1, .ref a2, .ref a3, .ref a4, .ref a5])), (a2, .inr (2, [.int 0, .ref a8, .ref a9, .ref a10, .ref a11, .ref a12, .int 0, .ref a13, .ref a14, .ref a15, .ref a16, .ref a17, .int 0, .int 0]))] sz) [(a0, .inr (0, [.ref a1, .ref a2, .ref a3, .ref a4, .ref a5])), (a2, .inr (2, [.int 0, .ref a8, .ref a9, .ref a10, .ref a11, .ref a12, .int 0, .ref a13, .ref a14, .ref a15, .ref a16, .ref a17, .int 0, .int 0]))]) (va_A [(a0, .inr (0, [.ref a1, .ref a2, .ref a3, .ref a4, .ref a5])), (a2, .inr (2, [.int 0, .ref a8, .ref a9, .ref a10, .ref a11, .ref a12, .int 0, .ref a13, .ref a14, .ref a15, .ref a16, .ref a17, .int 0, .int 0]))] sz)) 0 0 (va_A [(a0, .inr (0, [.ref a1, .ref a2, .ref a3, .ref a4, .ref a5])), (a2, .inr (2, [.int 0, .ref a8, .ref a9, .ref a10, .ref a11, .ref a12, .int 0, .ref a13, .ref a14, .ref a15, .ref a16, .ref a17, .int 0, .int 0]))] sz) := by
  refine Met.ofW (cc := prog_1_method_12_code) (maxL := 3) (ret := (some .int)) (by decide) rfl ?_
  intro p e s m args below meth c s₁ B hml hv
  obtain ⟨rfl, hsz, hP, hK, hD0, hN⟩ := hv
  have hx := B.exec
  have hb := B.bytes
  have hr := B.returns
  have ht : ∀ w ∈ wsA, w.before _ s = true := fun w h => atoms_spec (ws := (Cond.code y_NU_takes prog_1_method_12_code 3 (some .int) :: wsA)) B.pre w (List.mem_cons_of_mem _ h)
  have hown : s.vm.findClass "NetUnfolder" = some m.cls := findClass_of_methodNamed B.named
  have hlocks := B.notSynchronized
  subst hsz
  have hD := hD0.self (sz := s.heap.size)
  generalize hAe : va_A [(a0, .inr (0, [.ref a1, .ref a2, .ref a3, .ref a4, .ref a5])), (a2, .inr (2, [.int 0, .ref a8, .ref a9, .ref a10, .ref a11, .ref a12, .int 0, .ref a13, .ref a14, .ref a15, .ref a16, .ref a17, .int 0, .int 0]))] s.heap.size = A at hD ⊢
  have hA : ∀ q : Nat, s.heap.size ≤ q → A q := fun q h => by rw [← hAe]; exact Or.inr h
  have hS : va_S A s.heap s.heap [] := va_S.rf
  have hl := lv_entry ([.ref a0, .int k0, .int k1]) (n := 3) (Nat.le_of_ble_eq_true rfl)
  rw [lg_entry_eq]
  generalize (lg_sl ([.ref a0, .int k0, .int k1]) ++ List.replicate (3 - (lg_sl ([.ref a0, .int k0, .int k1])).length) Slot.unset).toArray = ls at hl ⊢
  replace hl : lv_has ls 3 [(0, .ref a0), (1, .int k0), (2, .int k1)] := hl
  refine lv_iload_n hx hb d_NU_takes_0 rfl (lv_at hl 1 rfl) ?_
  refine lv_if_lt (tgt := 15) hx hb d_NU_takes_1 (by decide) (fun hb1 => ?_) (fun hb1 => ?_)
  · skip
    refine lv_iconst (v := (-1)) hx hb d_NU_takes_15 (by decide) ?_
    have hP9 := hP.sub (ws' := [(a0, .inr (0, [.ref a1, .ref a2, .ref a3, .ref a4, .ref a5])), (a2, .inr (2, [.int 0, .ref a8, .ref a9, .ref a10, .ref a11, .ref a12, .int 0, .ref a13, .ref a14, .ref a15, .ref a16, .ref a17, .int 0, .int 0]))]) [0, 1] rfl
    have hD9 := hD.sub (ws' := [(a0, .inr (0, [.ref a1, .ref a2, .ref a3, .ref a4, .ref a5])), (a2, .inr (2, [.int 0, .ref a8, .ref a9, .ref a10, .ref a11, .ref a12, .int 0, .ref a13, .ref a14, .ref a15, .ref a16, .ref a17, .int 0, .int 0]))]) [0, 1] (by decide) rfl
    exact W.iret (v := (-1)) hx hb hr (fun t ht9 hW => ⟨⟨(-1), (), rfl, rfl, by rw [ht9]; exact hP9, hD9⟩, hS.F ht9⟩) hS.2.2 d_NU_takes_16
  · skip
    refine lv_iload_n hx hb d_NU_takes_4 rfl (lv_at hl 1 rfl) ?_
    refine lv_aload_n hx hb d_NU_takes_5 rfl (lv_at hl 0 rfl) ?_
    refine va_get (D := (dC, dI)) (ci := 0) (v := .ref a2) (C := "NetUnfolder") (T := T_NU) (N := 5) hx hb ht in_NU hown hK hP 0 rfl rfl 1 (by decide) (ht _ wd_2_37) (fun _ h9 => h9) rfl d_NU_takes_6 ?_
    refine va_get (D := (dC, dI)) (ci := 2) (v := .int 0) (C := "NetUnfolder$Prefix") (T := T_Pf) (N := 14) hx hb ht in_Pf hown hK hP 1 rfl rfl 6 (by decide) (ht _ wd_1_85) (fun _ h9 => h9) rfl d_NU_takes_9 ?_
    refine lv_icmp_lt (tgt := 17) hx hb d_NU_takes_12 (by decide) (fun h9 => (by exfalso; have ehb1 := fa_nlt (k := 0) (by decide) hb1; have eh9 := fa_lt (k := 0) (by decide) h9; omega)) (fun _ => ?_)
    refine lv_iconst (v := (-1)) hx hb d_NU_takes_15 (by decide) ?_
    have hP9 := hP.sub (ws' := [(a0, .inr (0, [.ref a1, .ref a2, .ref a3, .ref a4, .ref a5])), (a2, .inr (2, [.int 0, .ref a8, .ref a9, .ref a10, .ref a11, .ref a12, .int 0, .ref a13, .ref a14, .ref a15, .ref a16, .ref a17, .int 0, .int 0]))]) [0, 1] rfl
    have hD9 := hD.sub (ws' := [(a0, .inr (0, [.ref a1, .ref a2, .ref a3, .ref a4, .ref a5])), (a2, .inr (2, [.int 0, .ref a8, .ref a9, .ref a10, .ref a11, .ref a12, .int 0, .ref a13, .ref a14, .ref a15, .ref a16, .ref a17, .int 0, .int 0]))]) [0, 1] (by decide) rfl
    exact W.iret (v := (-1)) hx hb hr (fun t ht9 hW => ⟨⟨(-1), (), rfl, rfl, by rw [ht9]; exact hP9, hD9⟩, hS.F ht9⟩) hS.2.2 d_NU_takes_16

set_option maxHeartbeats 4000000 in
set_option maxRecDepth 100000 in
theorem c_NU_condition (l : Launch) (dC : Nat → ClassId) (dI : Nat → Nat → Nat) (cI cL cZ : ClassId) (sz : Nat) (a0 : Nat) (a2 : Nat) (a1 : Nat) (a3 : Nat) (a4 : Nat) (a5 : Nat) (a8 : Nat) (a9 : Nat) (a10 : Nat) (a11 : Nat) (a12 : Nat) (a13 : Nat) (a14 : Nat) (a15 : Nat) (a16 : Nat) (a17 : Nat) (k0 : Int32) (k1 : Int32) : Met l y_NU_condition (Cond.code y_NU_condition prog_1_method_13_code 3 (some .int) :: wsA) { frames := 0, cells := 0, slots := 0, locals := 0 } (va_Pc [.ref a0, .int k0, .int k1] (fun U => U.heap.size = sz ∧ va_P (dC, dI) clA [(a0, .inr (0, [.ref a1, .ref a2, .ref a3, .ref a4, .ref a5])), (a2, .inr (2, [.int 0, .ref a8, .ref a9, .ref a10, .ref a11, .ref a12, .int 0, .ref a13, .ref a14, .ref a15, .ref a16, .ref a17, .int 0, .int 0]))] U.heap ∧ va_K (dC, dI) clA [(cI, .int), (cL, .long), (cZ, .boolean)] U ∧ va_D (fun _ => True) [(a0, .inr (0, [.ref a1, .ref a2, .ref a3, .ref a4, .ref a5])), (a2, .inr (2, [.int 0, .ref a8, .ref a9, .ref a10, .ref a11, .ref a12, .int 0, .ref a13, .ref a14, .ref a15, .ref a16, .ref a17, .int 0, .int 0]))] ∧ NwA U)) (va_Qi (fun r (_ : Unit) => r = (-1)) (fun _ t => va_P (dC, dI) clA [(a0, .inr (0, [.ref a1, .ref a2, .ref a3, .ref a4, .ref a5])), (a2, .inr (2, [.int 0, .ref a8, .ref a9, .ref a10, .ref a11, .ref a12, .int 0, .ref a13, .ref a14, .ref a15, .ref a16, .ref a17, .int 0, .int 0]))] t.heap ∧ va_D (va_A [(a0, .inr (0, [.ref a1, .ref a2, .ref a3, .ref a4, .ref a5])), (a2, .inr (2, [.int 0, .ref a8, .ref a9, .ref a10, .ref a11, .ref a12, .int 0, .ref a13, .ref a14, .ref a15, .ref a16, .ref a17, .int 0, .int 0]))] sz) [(a0, .inr (0, [.ref a1, .ref a2, .ref a3, .ref a4, .ref a5])), (a2, .inr (2, [.int 0, .ref a8, .ref a9, .ref a10, .ref a11, .ref a12, .int 0, .ref a13, .ref a14, .ref a15, .ref a16, .ref a17, .int 0, .int 0]))]) (va_A [(a0, .inr (0, [.ref a1, .ref a2, .ref a3, .ref a4, .ref a5])), (a2, .inr (2, [.int 0, .ref a8, .ref a9, .ref a10, .ref a11, .ref a12, .int 0, .ref a13, .ref a14, .ref a15, .ref a16, .ref a17, .int 0, .int 0]))] sz)) 0 0 (va_A [(a0, .inr (0, [.ref a1, .ref a2, .ref a3, .ref a4, .ref a5])), (a2, .inr (2, [.int 0, .ref a8, .ref a9, .ref a10, .ref a11, .ref a12, .int 0, .ref a13, .ref a14, .ref a15, .ref a16, .ref a17, .int 0, .int 0]))] sz) := by
  refine Met.ofW (cc := prog_1_method_13_code) (maxL := 3) (ret := (some .int)) (by decide) rfl ?_
  intro p e s m args below meth c s₁ B hml hv
  obtain ⟨rfl, hsz, hP, hK, hD0, hN⟩ := hv
  have hx := B.exec
  have hb := B.bytes
  have hr := B.returns
  have ht : ∀ w ∈ wsA, w.before _ s = true := fun w h => atoms_spec (ws := (Cond.code y_NU_condition prog_1_method_13_code 3 (some .int) :: wsA)) B.pre w (List.mem_cons_of_mem _ h)
  have hown : s.vm.findClass "NetUnfolder" = some m.cls := findClass_of_methodNamed B.named
  have hlocks := B.notSynchronized
  subst hsz
  have hD := hD0.self (sz := s.heap.size)
  generalize hAe : va_A [(a0, .inr (0, [.ref a1, .ref a2, .ref a3, .ref a4, .ref a5])), (a2, .inr (2, [.int 0, .ref a8, .ref a9, .ref a10, .ref a11, .ref a12, .int 0, .ref a13, .ref a14, .ref a15, .ref a16, .ref a17, .int 0, .int 0]))] s.heap.size = A at hD ⊢
  have hA : ∀ q : Nat, s.heap.size ≤ q → A q := fun q h => by rw [← hAe]; exact Or.inr h
  have hS : va_S A s.heap s.heap [] := va_S.rf
  have hl := lv_entry ([.ref a0, .int k0, .int k1]) (n := 3) (Nat.le_of_ble_eq_true rfl)
  rw [lg_entry_eq]
  generalize (lg_sl ([.ref a0, .int k0, .int k1]) ++ List.replicate (3 - (lg_sl ([.ref a0, .int k0, .int k1])).length) Slot.unset).toArray = ls at hl ⊢
  replace hl : lv_has ls 3 [(0, .ref a0), (1, .int k0), (2, .int k1)] := hl
  refine lv_iload_n hx hb d_NU_condition_0 rfl (lv_at hl 1 rfl) ?_
  refine lv_if_lt (tgt := 15) hx hb d_NU_condition_1 (by decide) (fun hb1 => ?_) (fun hb1 => ?_)
  · skip
    refine lv_iconst (v := (-1)) hx hb d_NU_condition_15 (by decide) ?_
    have hP9 := hP.sub (ws' := [(a0, .inr (0, [.ref a1, .ref a2, .ref a3, .ref a4, .ref a5])), (a2, .inr (2, [.int 0, .ref a8, .ref a9, .ref a10, .ref a11, .ref a12, .int 0, .ref a13, .ref a14, .ref a15, .ref a16, .ref a17, .int 0, .int 0]))]) [0, 1] rfl
    have hD9 := hD.sub (ws' := [(a0, .inr (0, [.ref a1, .ref a2, .ref a3, .ref a4, .ref a5])), (a2, .inr (2, [.int 0, .ref a8, .ref a9, .ref a10, .ref a11, .ref a12, .int 0, .ref a13, .ref a14, .ref a15, .ref a16, .ref a17, .int 0, .int 0]))]) [0, 1] (by decide) rfl
    exact W.iret (v := (-1)) hx hb hr (fun t ht9 hW => ⟨⟨(-1), (), rfl, rfl, by rw [ht9]; exact hP9, hD9⟩, hS.F ht9⟩) hS.2.2 d_NU_condition_16
  · skip
    refine lv_iload_n hx hb d_NU_condition_4 rfl (lv_at hl 1 rfl) ?_
    refine lv_aload_n hx hb d_NU_condition_5 rfl (lv_at hl 0 rfl) ?_
    refine va_get (D := (dC, dI)) (ci := 0) (v := .ref a2) (C := "NetUnfolder") (T := T_NU) (N := 5) hx hb ht in_NU hown hK hP 0 rfl rfl 1 (by decide) (ht _ wd_2_37) (fun _ h9 => h9) rfl d_NU_condition_6 ?_
    refine va_get (D := (dC, dI)) (ci := 2) (v := .int 0) (C := "NetUnfolder$Prefix") (T := T_Pf) (N := 14) hx hb ht in_Pf hown hK hP 1 rfl rfl 0 (by decide) (ht _ wd_1_65) (fun _ h9 => h9) rfl d_NU_condition_9 ?_
    refine lv_icmp_lt (tgt := 17) hx hb d_NU_condition_12 (by decide) (fun h9 => (by exfalso; have ehb1 := fa_nlt (k := 0) (by decide) hb1; have eh9 := fa_lt (k := 0) (by decide) h9; omega)) (fun _ => ?_)
    refine lv_iconst (v := (-1)) hx hb d_NU_condition_15 (by decide) ?_
    have hP9 := hP.sub (ws' := [(a0, .inr (0, [.ref a1, .ref a2, .ref a3, .ref a4, .ref a5])), (a2, .inr (2, [.int 0, .ref a8, .ref a9, .ref a10, .ref a11, .ref a12, .int 0, .ref a13, .ref a14, .ref a15, .ref a16, .ref a17, .int 0, .int 0]))]) [0, 1] rfl
    have hD9 := hD.sub (ws' := [(a0, .inr (0, [.ref a1, .ref a2, .ref a3, .ref a4, .ref a5])), (a2, .inr (2, [.int 0, .ref a8, .ref a9, .ref a10, .ref a11, .ref a12, .int 0, .ref a13, .ref a14, .ref a15, .ref a16, .ref a17, .int 0, .int 0]))]) [0, 1] (by decide) rfl
    exact W.iret (v := (-1)) hx hb hr (fun t ht9 hW => ⟨⟨(-1), (), rfl, rfl, by rw [ht9]; exact hP9, hD9⟩, hS.F ht9⟩) hS.2.2 d_NU_condition_16

set_option maxHeartbeats 4000000 in
set_option maxRecDepth 100000 in
theorem c_NU_concurrent (l : Launch) (dC : Nat → ClassId) (dI : Nat → Nat → Nat) (cI cL cZ : ClassId) (sz : Nat) (a0 : Nat) (a2 : Nat) (a1 : Nat) (a3 : Nat) (a4 : Nat) (a5 : Nat) (a8 : Nat) (a9 : Nat) (a10 : Nat) (a11 : Nat) (a12 : Nat) (a13 : Nat) (a14 : Nat) (a15 : Nat) (a16 : Nat) (a17 : Nat) (k0 : Int32) (k1 : Int32) : Met l y_NU_concurrent (Cond.code y_NU_concurrent prog_1_method_14_code 3 (some .boolean) :: wsA) { frames := 0, cells := 0, slots := 0, locals := 0 } (va_Pc [.ref a0, .int k0, .int k1] (fun U => U.heap.size = sz ∧ va_P (dC, dI) clA [(a0, .inr (0, [.ref a1, .ref a2, .ref a3, .ref a4, .ref a5])), (a2, .inr (2, [.int 0, .ref a8, .ref a9, .ref a10, .ref a11, .ref a12, .int 0, .ref a13, .ref a14, .ref a15, .ref a16, .ref a17, .int 0, .int 0]))] U.heap ∧ va_K (dC, dI) clA [(cI, .int), (cL, .long), (cZ, .boolean)] U ∧ va_D (fun _ => True) [(a0, .inr (0, [.ref a1, .ref a2, .ref a3, .ref a4, .ref a5])), (a2, .inr (2, [.int 0, .ref a8, .ref a9, .ref a10, .ref a11, .ref a12, .int 0, .ref a13, .ref a14, .ref a15, .ref a16, .ref a17, .int 0, .int 0]))] ∧ NwA U)) (va_Qi (fun r (_ : Unit) => r = 0) (fun _ t => va_P (dC, dI) clA [(a0, .inr (0, [.ref a1, .ref a2, .ref a3, .ref a4, .ref a5])), (a2, .inr (2, [.int 0, .ref a8, .ref a9, .ref a10, .ref a11, .ref a12, .int 0, .ref a13, .ref a14, .ref a15, .ref a16, .ref a17, .int 0, .int 0]))] t.heap ∧ va_D (va_A [(a0, .inr (0, [.ref a1, .ref a2, .ref a3, .ref a4, .ref a5])), (a2, .inr (2, [.int 0, .ref a8, .ref a9, .ref a10, .ref a11, .ref a12, .int 0, .ref a13, .ref a14, .ref a15, .ref a16, .ref a17, .int 0, .int 0]))] sz) [(a0, .inr (0, [.ref a1, .ref a2, .ref a3, .ref a4, .ref a5])), (a2, .inr (2, [.int 0, .ref a8, .ref a9, .ref a10, .ref a11, .ref a12, .int 0, .ref a13, .ref a14, .ref a15, .ref a16, .ref a17, .int 0, .int 0]))]) (va_A [(a0, .inr (0, [.ref a1, .ref a2, .ref a3, .ref a4, .ref a5])), (a2, .inr (2, [.int 0, .ref a8, .ref a9, .ref a10, .ref a11, .ref a12, .int 0, .ref a13, .ref a14, .ref a15, .ref a16, .ref a17, .int 0, .int 0]))] sz)) 0 0 (va_A [(a0, .inr (0, [.ref a1, .ref a2, .ref a3, .ref a4, .ref a5])), (a2, .inr (2, [.int 0, .ref a8, .ref a9, .ref a10, .ref a11, .ref a12, .int 0, .ref a13, .ref a14, .ref a15, .ref a16, .ref a17, .int 0, .int 0]))] sz) := by
  refine Met.ofW (cc := prog_1_method_14_code) (maxL := 3) (ret := (some .boolean)) (by decide) rfl ?_
  intro p e s m args below meth c s₁ B hml hv
  obtain ⟨rfl, hsz, hP, hK, hD0, hN⟩ := hv
  have hx := B.exec
  have hb := B.bytes
  have hr := B.returns
  have ht : ∀ w ∈ wsA, w.before _ s = true := fun w h => atoms_spec (ws := (Cond.code y_NU_concurrent prog_1_method_14_code 3 (some .boolean) :: wsA)) B.pre w (List.mem_cons_of_mem _ h)
  have hown : s.vm.findClass "NetUnfolder" = some m.cls := findClass_of_methodNamed B.named
  have hlocks := B.notSynchronized
  subst hsz
  have hD := hD0.self (sz := s.heap.size)
  generalize hAe : va_A [(a0, .inr (0, [.ref a1, .ref a2, .ref a3, .ref a4, .ref a5])), (a2, .inr (2, [.int 0, .ref a8, .ref a9, .ref a10, .ref a11, .ref a12, .int 0, .ref a13, .ref a14, .ref a15, .ref a16, .ref a17, .int 0, .int 0]))] s.heap.size = A at hD ⊢
  have hA : ∀ q : Nat, s.heap.size ≤ q → A q := fun q h => by rw [← hAe]; exact Or.inr h
  have hS : va_S A s.heap s.heap [] := va_S.rf
  have hl := lv_entry ([.ref a0, .int k0, .int k1]) (n := 3) (Nat.le_of_ble_eq_true rfl)
  rw [lg_entry_eq]
  generalize (lg_sl ([.ref a0, .int k0, .int k1]) ++ List.replicate (3 - (lg_sl ([.ref a0, .int k0, .int k1])).length) Slot.unset).toArray = ls at hl ⊢
  replace hl : lv_has ls 3 [(0, .ref a0), (1, .int k0), (2, .int k1)] := hl
  refine lv_iload_n hx hb d_NU_concurrent_0 rfl (lv_at hl 1 rfl) ?_
  refine lv_if_lt (tgt := 30) hx hb d_NU_concurrent_1 (by decide) (fun hb1 => ?_) (fun hb1 => ?_)
  · skip
    refine lv_iconst (v := 0) hx hb d_NU_concurrent_30 (by decide) ?_
    have hP9 := hP.sub (ws' := [(a0, .inr (0, [.ref a1, .ref a2, .ref a3, .ref a4, .ref a5])), (a2, .inr (2, [.int 0, .ref a8, .ref a9, .ref a10, .ref a11, .ref a12, .int 0, .ref a13, .ref a14, .ref a15, .ref a16, .ref a17, .int 0, .int 0]))]) [0, 1] rfl
    have hD9 := hD.sub (ws' := [(a0, .inr (0, [.ref a1, .ref a2, .ref a3, .ref a4, .ref a5])), (a2, .inr (2, [.int 0, .ref a8, .ref a9, .ref a10, .ref a11, .ref a12, .int 0, .ref a13, .ref a14, .ref a15, .ref a16, .ref a17, .int 0, .int 0]))]) [0, 1] (by decide) rfl
    exact W.zret (v := 0) hx hb hr rfl (fun t ht9 hW => ⟨⟨0, (), rfl, rfl, by rw [ht9]; exact hP9, hD9⟩, hS.F ht9⟩) hS.2.2 d_NU_concurrent_31
  · skip
    refine lv_iload_n hx hb d_NU_concurrent_4 rfl (lv_at hl 1 rfl) ?_
    refine lv_aload_n hx hb d_NU_concurrent_5 rfl (lv_at hl 0 rfl) ?_
    refine va_get (D := (dC, dI)) (ci := 0) (v := .ref a2) (C := "NetUnfolder") (T := T_NU) (N := 5) hx hb ht in_NU hown hK hP 0 rfl rfl 1 (by decide) (ht _ wd_2_37) (fun _ h9 => h9) rfl d_NU_concurrent_6 ?_
    refine va_get (D := (dC, dI)) (ci := 2) (v := .int 0) (C := "NetUnfolder$Prefix") (T := T_Pf) (N := 14) hx hb ht in_Pf hown hK hP 1 rfl rfl 0 (by decide) (ht _ wd_1_65) (fun _ h9 => h9) rfl d_NU_concurrent_9 ?_
    refine lv_icmp_ge (tgt := 30) hx hb d_NU_concurrent_12 (by decide) (fun _ => ?_) (fun h9 => (by exfalso; have ehb1 := fa_nlt (k := 0) (by decide) hb1; have eh9 := fb_nle (k := 0) (by decide) h9; omega))
    refine lv_iconst (v := 0) hx hb d_NU_concurrent_30 (by decide) ?_
    have hP9 := hP.sub (ws' := [(a0, .inr (0, [.ref a1, .ref a2, .ref a3, .ref a4, .ref a5])), (a2, .inr (2, [.int 0, .ref a8, .ref a9, .ref a10, .ref a11, .ref a12, .int 0, .ref a13, .ref a14, .ref a15, .ref a16, .ref a17, .int 0, .int 0]))]) [0, 1] rfl
    have hD9 := hD.sub (ws' := [(a0, .inr (0, [.ref a1, .ref a2, .ref a3, .ref a4, .ref a5])), (a2, .inr (2, [.int 0, .ref a8, .ref a9, .ref a10, .ref a11, .ref a12, .int 0, .ref a13, .ref a14, .ref a15, .ref a16, .ref a17, .int 0, .int 0]))]) [0, 1] (by decide) rfl
    exact W.zret (v := 0) hx hb hr rfl (fun t ht9 hW => ⟨⟨0, (), rfl, rfl, by rw [ht9]; exact hP9, hD9⟩, hS.F ht9⟩) hS.2.2 d_NU_concurrent_31
end
section
set_option maxHeartbeats 4000000 in
set_option maxRecDepth 100000 in
theorem t_NU_transition_0 (l : Launch) (hfl : l.flags = flags0) (dC : Nat → ClassId) (dI : Nat → Nat → Nat) (cI cL cZ : ClassId) (sz : Nat) (a0 : Nat) (a1 : Nat) (a2 : Nat) (a3 : Nat) (a4 : Nat) (a5 : Nat) (k0 : Int32) (k1 : Int32) (h1 : k0 < 1) : tx_Met l y_NU_transition (Cond.code y_NU_transition prog_1_method_2_code 3 (some .int) :: wsA) { frames := 6, cells := 1, slots := 6, locals := 96 } (va_Pc [.ref a0, .int k0, .int k1] (fun U => U.heap.size = sz ∧ va_P (dC, dI) clA [(a0, .inr (0, [.ref a1, .ref a2, .ref a3, .ref a4, .ref a5]))] U.heap ∧ va_K (dC, dI) clA [(cI, .int), (cL, .long), (cZ, .boolean)] U ∧ va_D (fun _ => True) [(a0, .inr (0, [.ref a1, .ref a2, .ref a3, .ref a4, .ref a5]))] ∧ NwA U ∧ ThA (fun _ => False) U U.heap)) (tx_Q "java/lang/IllegalArgumentException") 1 6 := by
  refine tx_Met.ofW (cc := prog_1_method_2_code) (maxL := 3) (ret := (some .int)) (by decide) rfl ?_
  intro p e s m args below meth c s₁ B hml hv
  obtain ⟨rfl, hsz, hP, hK, hD0, hN, hT⟩ := hv
  have hx := B.exec
  have hb := B.bytes
  have hr := B.returns
  have ht : ∀ w ∈ wsA, w.before _ s = true := fun w h => atoms_spec (ws := (Cond.code y_NU_transition prog_1_method_2_code 3 (some .int) :: wsA)) B.pre w (List.mem_cons_of_mem _ h)
  have hown : s.vm.findClass "NetUnfolder" = some m.cls := findClass_of_methodNamed B.named
  have hlocks := B.notSynchronized
  have hout := B.noHandlers (atoms_spec (ws := (Cond.code y_NU_transition prog_1_method_2_code 3 (some .int) :: wsA)) B.pre _ List.mem_cons_self)
  have htr := Launch.traces_off hfl B.admits
  subst hsz
  have hS : va_S (fun q => s.heap.size ≤ q) s.heap s.heap [] := va_S.rf
  have hA : ∀ q : Nat, s.heap.size ≤ q → (fun q => s.heap.size ≤ q) q := fun q h => h
  have hl := lv_entry ([.ref a0, .int k0, .int k1]) (n := 3) (Nat.le_of_ble_eq_true rfl)
  rw [lg_entry_eq]
  generalize (lg_sl ([.ref a0, .int k0, .int k1]) ++ List.replicate (3 - (lg_sl ([.ref a0, .int k0, .int k1])).length) Slot.unset).toArray = ls at hl ⊢
  replace hl : lv_has ls 3 [(0, .ref a0), (1, .int k0), (2, .int k1)] := hl
  refine lv_iload_n hx hb d_NU_transition_0 rfl (lv_at hl 1 rfl) ?_
  refine lv_if_eq (tgt := 18) hx hb d_NU_transition_1 (by decide) (fun hb1 => ?_) (fun hb1 => ?_)
  · skip
    refine va_forget (fun q hq => hS.2.2 q hq) ?_
    refine W.newc hx hb hown (ht _ wd_3_13) (ht _ wd_3_14) (ht _ wd_1_14) (g := F0 m 18 ls []) rfl d_NU_transition_18 (Nat.le_of_ble_eq_true rfl) (Nat.le_of_ble_eq_true rfl) (fun cX kX hfX hkX _ _ => ?_)
    refine W.eq (g2 := F0 m 21 ls (.ref _ :: [])) rfl ?_
    refine lv_dup hx hb d_NU_transition_21 rfl ?_
    refine W.cs (cells' := 1) (slots' := 6) rfl rfl ?_
    exact tx_throw0 (own := "NetUnfolder") (cls := "java/lang/IllegalArgumentException") (names := ["java/lang/RuntimeException", "java/lang/Exception"]) (ic := 52) hx hb htr hown (by decide +kernel) (by decide +kernel) (fun a ha => own_before (oa_IAE a ha) ht hT) hfX hkX (by simp) hS.1 (by rw [hml]; exact hl.1) d_NU_transition_22 d_NU_transition_25 hout (Nat.le_of_ble_eq_true rfl) (Nat.le_of_ble_eq_true rfl) hlocks (fun U _ h => h)
  · skip
    refine lv_iload_n hx hb d_NU_transition_4 rfl (lv_at hl 1 rfl) ?_
    have hPc : va_P (dC, dI) clA [] _ := pu_P (H := s.heap)
    have hDc : va_D (fun _ => True) [] := pu_D
    have hFc := pu_free hS hA
    refine va_calli (va_runS (As := [.int k0]) (rest := []) ⟨hx, hb, hml, hown, ht⟩ (c_NU_isMarking_lo l dC dI cI cL cZ _ k0 (ga_lt (k := 0) (by decide) (by have eh1 := fa_lt (k := 1) (by decide) h1; have ehb1 := fa_ne (k := 0) (by decide) hb1; omega))) (va_cwS 1 ht (good_S wd_3_10 wd_3_11 wd_1_1 wd_3_12) rfl rfl rfl (by decide +kernel) ⟨Nat.le_of_ble_eq_true rfl, Nat.le_of_ble_eq_true rfl⟩) ⟨fun a U g mk q => by obtain ⟨q0, q1, qP, qK, qD, qN⟩ := q; exact ⟨q0, q1, qP, va_K.moved (u := U) (U := U.calling g mk a) (Vm.Alike.refl U.vm) qK, qD, NwA.same (u := U) rfl qN⟩, fun U hU hW => ⟨rfl, by rw [hU], by rw [hU]; exact hPc, va_K.moved hW.alike hK, hDc.weaken (fun _ _ _ _ => trivial), NwA.warm hW hN⟩⟩ rfl rfl hl.1 rfl (lv_room (Nat.le_of_ble_eq_true rfl)) d_NU_transition_5 ⟨Nat.le_of_ble_eq_true rfl, Nat.le_of_ble_eq_true rfl⟩) hS (fun q _ h => hFc q h) hFc (fun r9 u t H2 locs ht9 hvm hw3 hB hz1 hk1 hSn => ?_)
    replace hP : va_P (dC, dI) clA [(a0, .inr (0, [.ref a1, .ref a2, .ref a3, .ref a4, .ref a5]))] H2 := pu_keep hP hk1
    replace hS := hSn
    clear hSn hPc hDc hFc hk1 hz1 ht9 hvm hB
    refine W.cs (cells' := 0) (slots' := 0) rfl rfl ?_
    subst hw3
    refine lv_if_eq (tgt := 18) hx hb d_NU_transition_8 (by decide) (fun _ => ?_) (fun h => (h (by decide)).elim)
    refine va_forget (fun q hq => hS.2.2 q hq) ?_
    refine W.newc hx hb hown (ht _ wd_3_13) (ht _ wd_3_14) (ht _ wd_1_14) (g := F0 m 18 ls []) rfl d_NU_transition_18 (Nat.le_of_ble_eq_true rfl) (Nat.le_of_ble_eq_true rfl) (fun cX kX hfX hkX _ _ => ?_)
    refine W.eq (g2 := F0 m 21 ls (.ref _ :: [])) rfl ?_
    refine lv_dup hx hb d_NU_transition_21 rfl ?_
    refine W.cs (cells' := 1) (slots' := 6) rfl rfl ?_
    exact tx_throw0 (own := "NetUnfolder") (cls := "java/lang/IllegalArgumentException") (names := ["java/lang/RuntimeException", "java/lang/Exception"]) (ic := 52) hx hb htr hown (by decide +kernel) (by decide +kernel) (fun a ha => own_before (oa_IAE a ha) ht hT) hfX hkX (by simp) hS.1 (by rw [hml]; exact hl.1) d_NU_transition_22 d_NU_transition_25 hout (Nat.le_of_ble_eq_true rfl) (Nat.le_of_ble_eq_true rfl) hlocks (fun U _ h => h)

set_option maxHeartbeats 4000000 in
set_option maxRecDepth 100000 in
theorem t_NU_transition_1 (l : Launch) (hfl : l.flags = flags0) (dC : Nat → ClassId) (dI : Nat → Nat → Nat) (cI cL cZ : ClassId) (sz : Nat) (a0 : Nat) (a1 : Nat) (a2 : Nat) (a3 : Nat) (a4 : Nat) (a5 : Nat) (k0 : Int32) (k1 : Int32) (h2 : 255 < k0) : tx_Met l y_NU_transition (Cond.code y_NU_transition prog_1_method_2_code 3 (some .int) :: wsA) { frames := 6, cells := 1, slots := 6, locals := 96 } (va_Pc [.ref a0, .int k0, .int k1] (fun U => U.heap.size = sz ∧ va_P (dC, dI) clA [(a0, .inr (0, [.ref a1, .ref a2, .ref a3, .ref a4, .ref a5]))] U.heap ∧ va_K (dC, dI) clA [(cI, .int), (cL, .long), (cZ, .boolean)] U ∧ va_D (fun _ => True) [(a0, .inr (0, [.ref a1, .ref a2, .ref a3, .ref a4, .ref a5]))] ∧ NwA U ∧ ThA (fun _ => False) U U.heap)) (tx_Q "java/lang/IllegalArgumentException") 1 6 := by
  refine tx_Met.ofW (cc := prog_1_method_2_code) (maxL := 3) (ret := (some .int)) (by decide) rfl ?_
  intro p e s m args below meth c s₁ B hml hv
  obtain ⟨rfl, hsz, hP, hK, hD0, hN, hT⟩ := hv
  have hx := B.exec
  have hb := B.bytes
  have hr := B.returns
  have ht : ∀ w ∈ wsA, w.before _ s = true := fun w h => atoms_spec (ws := (Cond.code y_NU_transition prog_1_method_2_code 3 (some .int) :: wsA)) B.pre w (List.mem_cons_of_mem _ h)
  have hown : s.vm.findClass "NetUnfolder" = some m.cls := findClass_of_methodNamed B.named
  have hlocks := B.notSynchronized
  have hout := B.noHandlers (atoms_spec (ws := (Cond.code y_NU_transition prog_1_method_2_code 3 (some .int) :: wsA)) B.pre _ List.mem_cons_self)
  have htr := Launch.traces_off hfl B.admits
  subst hsz
  have hS : va_S (fun q => s.heap.size ≤ q) s.heap s.heap [] := va_S.rf
  have hA : ∀ q : Nat, s.heap.size ≤ q → (fun q => s.heap.size ≤ q) q := fun q h => h
  have hl := lv_entry ([.ref a0, .int k0, .int k1]) (n := 3) (Nat.le_of_ble_eq_true rfl)
  rw [lg_entry_eq]
  generalize (lg_sl ([.ref a0, .int k0, .int k1]) ++ List.replicate (3 - (lg_sl ([.ref a0, .int k0, .int k1])).length) Slot.unset).toArray = ls at hl ⊢
  replace hl : lv_has ls 3 [(0, .ref a0), (1, .int k0), (2, .int k1)] := hl
  refine lv_iload_n hx hb d_NU_transition_0 rfl (lv_at hl 1 rfl) ?_
  refine lv_if_eq (tgt := 18) hx hb d_NU_transition_1 (by decide) (fun h9 => (by exfalso; have eh2 := fb_lt (k := 255) (by decide) h2; have eh9 := fa_eq (k := 0) (by decide) h9; omega)) (fun _ => ?_)
  refine lv_iload_n hx hb d_NU_transition_4 rfl (lv_at hl 1 rfl) ?_
  have hPc : va_P (dC, dI) clA [] _ := pu_P (H := s.heap)
  have hDc : va_D (fun _ => True) [] := pu_D
  have hFc := pu_free hS hA
  refine va_calli (va_runS (As := [.int k0]) (rest := []) ⟨hx, hb, hml, hown, ht⟩ (c_NU_isMarking_hi l dC dI cI cL cZ _ k0 h2) (va_cwS 1 ht (good_S wd_3_10 wd_3_11 wd_1_1 wd_3_12) rfl rfl rfl (by decide +kernel) ⟨Nat.le_of_ble_eq_true rfl, Nat.le_of_ble_eq_true rfl⟩) ⟨fun a U g mk q => by obtain ⟨q0, q1, qP, qK, qD, qN⟩ := q; exact ⟨q0, q1, qP, va_K.moved (u := U) (U := U.calling g mk a) (Vm.Alike.refl U.vm) qK, qD, NwA.same (u := U) rfl qN⟩, fun U hU hW => ⟨rfl, by rw [hU], by rw [hU]; exact hPc, va_K.moved hW.alike hK, hDc.weaken (fun _ _ _ _ => trivial), NwA.warm hW hN⟩⟩ rfl rfl hl.1 rfl (lv_room (Nat.le_of_ble_eq_true rfl)) d_NU_transition_5 ⟨Nat.le_of_ble_eq_true rfl, Nat.le_of_ble_eq_true rfl⟩) hS (fun q _ h => hFc q h) hFc (fun r9 u t H1 locs ht9 hvm hw2 hB hz1 hk1 hSn => ?_)
  replace hP : va_P (dC, dI) clA [(a0, .inr (0, [.ref a1, .ref a2, .ref a3, .ref a4, .ref a5]))] H1 := pu_keep hP hk1
  replace hS := hSn
  clear hSn hPc hDc hFc hk1 hz1 ht9 hvm hB
  refine W.cs (cells' := 0) (slots' := 0) rfl rfl ?_
  subst hw2
  refine lv_if_eq (tgt := 18) hx hb d_NU_transition_8 (by decide) (fun _ => ?_) (fun h => (h (by decide)).elim)
  refine va_forget (fun q hq => hS.2.2 q hq) ?_
  refine W.newc hx hb hown (ht _ wd_3_13) (ht _ wd_3_14) (ht _ wd_1_14) (g := F0 m 18 ls []) rfl d_NU_transition_18 (Nat.le_of_ble_eq_true rfl) (Nat.le_of_ble_eq_true rfl) (fun cX kX hfX hkX _ _ => ?_)
  refine W.eq (g2 := F0 m 21 ls (.ref _ :: [])) rfl ?_
  refine lv_dup hx hb d_NU_transition_21 rfl ?_
  refine W.cs (cells' := 1) (slots' := 6) rfl rfl ?_
  exact tx_throw0 (own := "NetUnfolder") (cls := "java/lang/IllegalArgumentException") (names := ["java/lang/RuntimeException", "java/lang/Exception"]) (ic := 52) hx hb htr hown (by decide +kernel) (by decide +kernel) (fun a ha => own_before (oa_IAE a ha) ht hT) hfX hkX (by simp) hS.1 (by rw [hml]; exact hl.1) d_NU_transition_22 d_NU_transition_25 hout (Nat.le_of_ble_eq_true rfl) (Nat.le_of_ble_eq_true rfl) hlocks (fun U _ h => h)

set_option maxHeartbeats 4000000 in
set_option maxRecDepth 100000 in
theorem t_NU_transition_2 (l : Launch) (hfl : l.flags = flags0) (dC : Nat → ClassId) (dI : Nat → Nat → Nat) (cI cL cZ : ClassId) (sz : Nat) (a0 : Nat) (a1 : Nat) (a2 : Nat) (a3 : Nat) (a4 : Nat) (a5 : Nat) (k0 : Int32) (k1 : Int32) (h1 : ¬ k0 < 1) (h2 : ¬ 255 < k0) (h3 : k1 < 0) : tx_Met l y_NU_transition (Cond.code y_NU_transition prog_1_method_2_code 3 (some .int) :: wsA) { frames := 6, cells := 1, slots := 6, locals := 96 } (va_Pc [.ref a0, .int k0, .int k1] (fun U => U.heap.size = sz ∧ va_P (dC, dI) clA [(a0, .inr (0, [.ref a1, .ref a2, .ref a3, .ref a4, .ref a5]))] U.heap ∧ va_K (dC, dI) clA [(cI, .int), (cL, .long), (cZ, .boolean)] U ∧ va_D (fun _ => True) [(a0, .inr (0, [.ref a1, .ref a2, .ref a3, .ref a4, .ref a5]))] ∧ NwA U ∧ ThA (fun _ => False) U U.heap)) (tx_Q "java/lang/IllegalArgumentException") 1 6 := by
  refine tx_Met.ofW (cc := prog_1_method_2_code) (maxL := 3) (ret := (some .int)) (by decide) rfl ?_
  intro p e s m args below meth c s₁ B hml hv
  obtain ⟨rfl, hsz, hP, hK, hD0, hN, hT⟩ := hv
  have hx := B.exec
  have hb := B.bytes
  have hr := B.returns
  have ht : ∀ w ∈ wsA, w.before _ s = true := fun w h => atoms_spec (ws := (Cond.code y_NU_transition prog_1_method_2_code 3 (some .int) :: wsA)) B.pre w (List.mem_cons_of_mem _ h)
  have hown : s.vm.findClass "NetUnfolder" = some m.cls := findClass_of_methodNamed B.named
  have hlocks := B.notSynchronized
  have hout := B.noHandlers (atoms_spec (ws := (Cond.code y_NU_transition prog_1_method_2_code 3 (some .int) :: wsA)) B.pre _ List.mem_cons_self)
  have htr := Launch.traces_off hfl B.admits
  subst hsz
  have hS : va_S (fun q => s.heap.size ≤ q) s.heap s.heap [] := va_S.rf
  have hA : ∀ q : Nat, s.heap.size ≤ q → (fun q => s.heap.size ≤ q) q := fun q h => h
  have hl := lv_entry ([.ref a0, .int k0, .int k1]) (n := 3) (Nat.le_of_ble_eq_true rfl)
  rw [lg_entry_eq]
  generalize (lg_sl ([.ref a0, .int k0, .int k1]) ++ List.replicate (3 - (lg_sl ([.ref a0, .int k0, .int k1])).length) Slot.unset).toArray = ls at hl ⊢
  replace hl : lv_has ls 3 [(0, .ref a0), (1, .int k0), (2, .int k1)] := hl
  refine lv_iload_n hx hb d_NU_transition_0 rfl (lv_at hl 1 rfl) ?_
  refine lv_if_eq (tgt := 18) hx hb d_NU_transition_1 (by decide) (fun h9 => (by exfalso; have eh1 := fa_nlt (k := 1) (by decide) h1; have eh2 := fb_nlt (k := 255) (by decide) h2; have eh9 := fa_eq (k := 0) (by decide) h9; omega)) (fun _ => ?_)
  refine lv_iload_n hx hb d_NU_transition_4 rfl (lv_at hl 1 rfl) ?_
  have hPc : va_P (dC, dI) clA [] _ := pu_P (H := s.heap)
  have hDc : va_D (fun _ => True) [] := pu_D
  have hFc := pu_free hS hA
  refine va_calli (va_runS (As := [.int k0]) (rest := []) ⟨hx, hb, hml, hown, ht⟩ (c_NU_isMarking_ok l dC dI cI cL cZ _ k0 (ga_nlt (k := 0) (by decide) (by have eh1 := fa_nlt (k := 1) (by decide) h1; have eh2 := fb_nlt (k := 255) (by decide) h2; omega)) h2) (va_cwS 1 ht (good_S wd_3_10 wd_3_11 wd_1_1 wd_3_12) rfl rfl rfl (by decide +kernel) ⟨Nat.le_of_ble_eq_true rfl, Nat.le_of_ble_eq_true rfl⟩) ⟨fun a U g mk q => by obtain ⟨q0, q1, qP, qK, qD, qN⟩ := q; exact ⟨q0, q1, qP, va_K.moved (u := U) (U := U.calling g mk a) (Vm.Alike.refl U.vm) qK, qD, NwA.same (u := U) rfl qN⟩, fun U hU hW => ⟨rfl, by rw [hU], by rw [hU]; exact hPc, va_K.moved hW.alike hK, hDc.weaken (fun _ _ _ _ => trivial), NwA.warm hW hN⟩⟩ rfl rfl hl.1 rfl (lv_room (Nat.le_of_ble_eq_true rfl)) d_NU_transition_5 ⟨Nat.le_of_ble_eq_true rfl, Nat.le_of_ble_eq_true rfl⟩) hS (fun q _ h => hFc q h) hFc (fun r9 u t H1 locs ht9 hvm hw2 hB hz1 hk1 hSn => ?_)
  replace hP : va_P (dC, dI) clA [(a0, .inr (0, [.ref a1, .ref a2, .ref a3, .ref a4, .ref a5]))] H1 := pu_keep hP hk1
  replace hS := hSn
  clear hSn hPc hDc hFc hk1 hz1 ht9 hvm hB
  refine W.cs (cells' := 0) (slots' := 0) rfl rfl ?_
  subst hw2
  refine lv_if_eq (tgt := 18) hx hb d_NU_transition_8 (by decide) (fun h => absurd h (by decide)) (fun _ => ?_)
  refine lv_iload_n hx hb d_NU_transition_11 rfl (lv_at hl 2 rfl) ?_
  have hPc : va_P (dC, dI) clA [] _ := pu_P (H := H1)
  have hDc : va_D (fun _ => True) [] := pu_D
  have hFc := pu_free hS hA
  refine va_calli (va_runS (As := [.int k1]) (rest := []) ⟨hx, hb, hml, hown, ht⟩ (c_NU_isMarking_lo l dC dI cI cL cZ _ k1 h3) (va_cwS 1 ht (good_S wd_3_10 wd_3_11 wd_1_1 wd_3_12) rfl rfl rfl (by decide +kernel) ⟨Nat.le_of_ble_eq_true rfl, Nat.le_of_ble_eq_true rfl⟩) ⟨fun a U g mk q => by obtain ⟨q0, q1, qP, qK, qD, qN⟩ := q; exact ⟨q0, q1, qP, va_K.moved (u := U) (U := U.calling g mk a) (Vm.Alike.refl U.vm) qK, qD, NwA.same (u := U) rfl qN⟩, fun U hU hW => ⟨rfl, by rw [hU], by rw [hU]; exact hPc, va_K.moved hW.alike hK, hDc.weaken (fun _ _ _ _ => trivial), NwA.warm hW hN⟩⟩ rfl rfl hl.1 rfl (lv_room (Nat.le_of_ble_eq_true rfl)) d_NU_transition_12 ⟨Nat.le_of_ble_eq_true rfl, Nat.le_of_ble_eq_true rfl⟩) hS (fun q _ h => hFc q h) hFc (fun r9 u t H3 locs ht9 hvm hw4 hB hz1 hk1 hSn => ?_)
  replace hP : va_P (dC, dI) clA [(a0, .inr (0, [.ref a1, .ref a2, .ref a3, .ref a4, .ref a5]))] H3 := pu_keep hP hk1
  replace hS := hSn
  clear hSn hPc hDc hFc hk1 hz1 ht9 hvm hB
  refine W.cs (cells' := 0) (slots' := 0) rfl rfl ?_
  subst hw4
  refine lv_if_ne (tgt := 26) hx hb d_NU_transition_15 (by decide) (fun h => (h (by decide)).elim) (fun _ => ?_)
  refine va_forget (fun q hq => hS.2.2 q hq) ?_
  refine W.newc hx hb hown (ht _ wd_3_13) (ht _ wd_3_14) (ht _ wd_1_14) (g := F0 m 18 ls []) rfl d_NU_transition_18 (Nat.le_of_ble_eq_true rfl) (Nat.le_of_ble_eq_true rfl) (fun cX kX hfX hkX _ _ => ?_)
  refine W.eq (g2 := F0 m 21 ls (.ref _ :: [])) rfl ?_
  refine lv_dup hx hb d_NU_transition_21 rfl ?_
  refine W.cs (cells' := 1) (slots' := 6) rfl rfl ?_
  exact tx_throw0 (own := "NetUnfolder") (cls := "java/lang/IllegalArgumentException") (names := ["java/lang/RuntimeException", "java/lang/Exception"]) (ic := 52) hx hb htr hown (by decide +kernel) (by decide +kernel) (fun a ha => own_before (oa_IAE a ha) ht hT) hfX hkX (by simp) hS.1 (by rw [hml]; exact hl.1) d_NU_transition_22 d_NU_transition_25 hout (Nat.le_of_ble_eq_true rfl) (Nat.le_of_ble_eq_true rfl) hlocks (fun U _ h => h)

set_option maxHeartbeats 4000000 in
set_option maxRecDepth 100000 in
theorem t_NU_transition_3 (l : Launch) (hfl : l.flags = flags0) (dC : Nat → ClassId) (dI : Nat → Nat → Nat) (cI cL cZ : ClassId) (sz : Nat) (a0 : Nat) (a1 : Nat) (a2 : Nat) (a3 : Nat) (a4 : Nat) (a5 : Nat) (k0 : Int32) (k1 : Int32) (h1 : ¬ k0 < 1) (h2 : ¬ 255 < k0) (h4 : 255 < k1) : tx_Met l y_NU_transition (Cond.code y_NU_transition prog_1_method_2_code 3 (some .int) :: wsA) { frames := 6, cells := 1, slots := 6, locals := 96 } (va_Pc [.ref a0, .int k0, .int k1] (fun U => U.heap.size = sz ∧ va_P (dC, dI) clA [(a0, .inr (0, [.ref a1, .ref a2, .ref a3, .ref a4, .ref a5]))] U.heap ∧ va_K (dC, dI) clA [(cI, .int), (cL, .long), (cZ, .boolean)] U ∧ va_D (fun _ => True) [(a0, .inr (0, [.ref a1, .ref a2, .ref a3, .ref a4, .ref a5]))] ∧ NwA U ∧ ThA (fun _ => False) U U.heap)) (tx_Q "java/lang/IllegalArgumentException") 1 6 := by
  refine tx_Met.ofW (cc := prog_1_method_2_code) (maxL := 3) (ret := (some .int)) (by decide) rfl ?_
  intro p e s m args below meth c s₁ B hml hv
  obtain ⟨rfl, hsz, hP, hK, hD0, hN, hT⟩ := hv
  have hx := B.exec
  have hb := B.bytes
  have hr := B.returns
  have ht : ∀ w ∈ wsA, w.before _ s = true := fun w h => atoms_spec (ws := (Cond.code y_NU_transition prog_1_method_2_code 3 (some .int) :: wsA)) B.pre w (List.mem_cons_of_mem _ h)
  have hown : s.vm.findClass "NetUnfolder" = some m.cls := findClass_of_methodNamed B.named
  have hlocks := B.notSynchronized
  have hout := B.noHandlers (atoms_spec (ws := (Cond.code y_NU_transition prog_1_method_2_code 3 (some .int) :: wsA)) B.pre _ List.mem_cons_self)
  have htr := Launch.traces_off hfl B.admits
  subst hsz
  have hS : va_S (fun q => s.heap.size ≤ q) s.heap s.heap [] := va_S.rf
  have hA : ∀ q : Nat, s.heap.size ≤ q → (fun q => s.heap.size ≤ q) q := fun q h => h
  have hl := lv_entry ([.ref a0, .int k0, .int k1]) (n := 3) (Nat.le_of_ble_eq_true rfl)
  rw [lg_entry_eq]
  generalize (lg_sl ([.ref a0, .int k0, .int k1]) ++ List.replicate (3 - (lg_sl ([.ref a0, .int k0, .int k1])).length) Slot.unset).toArray = ls at hl ⊢
  replace hl : lv_has ls 3 [(0, .ref a0), (1, .int k0), (2, .int k1)] := hl
  refine lv_iload_n hx hb d_NU_transition_0 rfl (lv_at hl 1 rfl) ?_
  refine lv_if_eq (tgt := 18) hx hb d_NU_transition_1 (by decide) (fun h9 => (by exfalso; have eh1 := fa_nlt (k := 1) (by decide) h1; have eh2 := fb_nlt (k := 255) (by decide) h2; have eh9 := fa_eq (k := 0) (by decide) h9; omega)) (fun _ => ?_)
  refine lv_iload_n hx hb d_NU_transition_4 rfl (lv_at hl 1 rfl) ?_
  have hPc : va_P (dC, dI) clA [] _ := pu_P (H := s.heap)
  have hDc : va_D (fun _ => True) [] := pu_D
  have hFc := pu_free hS hA
  refine va_calli (va_runS (As := [.int k0]) (rest := []) ⟨hx, hb, hml, hown, ht⟩ (c_NU_isMarking_ok l dC dI cI cL cZ _ k0 (ga_nlt (k := 0) (by decide) (by have eh1 := fa_nlt (k := 1) (by decide) h1; have eh2 := fb_nlt (k := 255) (by decide) h2; omega)) h2) (va_cwS 1 ht (good_S wd_3_10 wd_3_11 wd_1_1 wd_3_12) rfl rfl rfl (by decide +kernel) ⟨Nat.le_of_ble_eq_true rfl, Nat.le_of_ble_eq_true rfl⟩) ⟨fun a U g mk q => by obtain ⟨q0, q1, qP, qK, qD, qN⟩ := q; exact ⟨q0, q1, qP, va_K.moved (u := U) (U := U.calling g mk a) (Vm.Alike.refl U.vm) qK, qD, NwA.same (u := U) rfl qN⟩, fun U hU hW => ⟨rfl, by rw [hU], by rw [hU]; exact hPc, va_K.moved hW.alike hK, hDc.weaken (fun _ _ _ _ => trivial), NwA.warm hW hN⟩⟩ rfl rfl hl.1 rfl (lv_room (Nat.le_of_ble_eq_true rfl)) d_NU_transition_5 ⟨Nat.le_of_ble_eq_true rfl, Nat.le_of_ble_eq_true rfl⟩) hS (fun q _ h => hFc q h) hFc (fun r9 u t H1 locs ht9 hvm hw2 hB hz1 hk1 hSn => ?_)
  replace hP : va_P (dC, dI) clA [(a0, .inr (0, [.ref a1, .ref a2, .ref a3, .ref a4, .ref a5]))] H1 := pu_keep hP hk1
  replace hS := hSn
  clear hSn hPc hDc hFc hk1 hz1 ht9 hvm hB
  refine W.cs (cells' := 0) (slots' := 0) rfl rfl ?_
  subst hw2
  refine lv_if_eq (tgt := 18) hx hb d_NU_transition_8 (by decide) (fun h => absurd h (by decide)) (fun _ => ?_)
  refine lv_iload_n hx hb d_NU_transition_11 rfl (lv_at hl 2 rfl) ?_
  have hPc : va_P (dC, dI) clA [] _ := pu_P (H := H1)
  have hDc : va_D (fun _ => True) [] := pu_D
  have hFc := pu_free hS hA
  refine va_calli (va_runS (As := [.int k1]) (rest := []) ⟨hx, hb, hml, hown, ht⟩ (c_NU_isMarking_hi l dC dI cI cL cZ _ k1 h4) (va_cwS 1 ht (good_S wd_3_10 wd_3_11 wd_1_1 wd_3_12) rfl rfl rfl (by decide +kernel) ⟨Nat.le_of_ble_eq_true rfl, Nat.le_of_ble_eq_true rfl⟩) ⟨fun a U g mk q => by obtain ⟨q0, q1, qP, qK, qD, qN⟩ := q; exact ⟨q0, q1, qP, va_K.moved (u := U) (U := U.calling g mk a) (Vm.Alike.refl U.vm) qK, qD, NwA.same (u := U) rfl qN⟩, fun U hU hW => ⟨rfl, by rw [hU], by rw [hU]; exact hPc, va_K.moved hW.alike hK, hDc.weaken (fun _ _ _ _ => trivial), NwA.warm hW hN⟩⟩ rfl rfl hl.1 rfl (lv_room (Nat.le_of_ble_eq_true rfl)) d_NU_transition_12 ⟨Nat.le_of_ble_eq_true rfl, Nat.le_of_ble_eq_true rfl⟩) hS (fun q _ h => hFc q h) hFc (fun r9 u t H3 locs ht9 hvm hw4 hB hz1 hk1 hSn => ?_)
  replace hP : va_P (dC, dI) clA [(a0, .inr (0, [.ref a1, .ref a2, .ref a3, .ref a4, .ref a5]))] H3 := pu_keep hP hk1
  replace hS := hSn
  clear hSn hPc hDc hFc hk1 hz1 ht9 hvm hB
  refine W.cs (cells' := 0) (slots' := 0) rfl rfl ?_
  subst hw4
  refine lv_if_ne (tgt := 26) hx hb d_NU_transition_15 (by decide) (fun h => (h (by decide)).elim) (fun _ => ?_)
  refine va_forget (fun q hq => hS.2.2 q hq) ?_
  refine W.newc hx hb hown (ht _ wd_3_13) (ht _ wd_3_14) (ht _ wd_1_14) (g := F0 m 18 ls []) rfl d_NU_transition_18 (Nat.le_of_ble_eq_true rfl) (Nat.le_of_ble_eq_true rfl) (fun cX kX hfX hkX _ _ => ?_)
  refine W.eq (g2 := F0 m 21 ls (.ref _ :: [])) rfl ?_
  refine lv_dup hx hb d_NU_transition_21 rfl ?_
  refine W.cs (cells' := 1) (slots' := 6) rfl rfl ?_
  exact tx_throw0 (own := "NetUnfolder") (cls := "java/lang/IllegalArgumentException") (names := ["java/lang/RuntimeException", "java/lang/Exception"]) (ic := 52) hx hb htr hown (by decide +kernel) (by decide +kernel) (fun a ha => own_before (oa_IAE a ha) ht hT) hfX hkX (by simp) hS.1 (by rw [hml]; exact hl.1) d_NU_transition_22 d_NU_transition_25 hout (Nat.le_of_ble_eq_true rfl) (Nat.le_of_ble_eq_true rfl) hlocks (fun U _ h => h)

set_option maxHeartbeats 4000000 in
set_option maxRecDepth 100000 in
theorem t_NU_first_0 (l : Launch) (hfl : l.flags = flags0) (dC : Nat → ClassId) (dI : Nat → Nat → Nat) (cI cL cZ : ClassId) (sz : Nat) (a0 : Nat) (a1 : Nat) (a2 : Nat) (a3 : Nat) (a4 : Nat) (a5 : Nat) (k0 : Int32) (h1 : k0 < 0) : tx_Met l y_NU_first (Cond.code y_NU_first prog_1_method_3_code 2 none :: wsA) { frames := 6, cells := 1, slots := 6, locals := 96 } (va_Pc [.ref a0, .int k0] (fun U => U.heap.size = sz ∧ va_P (dC, dI) clA [(a0, .inr (0, [.ref a1, .ref a2, .ref a3, .ref a4, .ref a5]))] U.heap ∧ va_K (dC, dI) clA [(cI, .int), (cL, .long), (cZ, .boolean)] U ∧ va_D (fun _ => True) [(a0, .inr (0, [.ref a1, .ref a2, .ref a3, .ref a4, .ref a5]))] ∧ NwA U ∧ ThA (fun _ => False) U U.heap)) (tx_Q "java/lang/IllegalArgumentException") 1 6 := by
  refine tx_Met.ofW (cc := prog_1_method_3_code) (maxL := 2) (ret := none) (by decide) rfl ?_
  intro p e s m args below meth c s₁ B hml hv
  obtain ⟨rfl, hsz, hP, hK, hD0, hN, hT⟩ := hv
  have hx := B.exec
  have hb := B.bytes
  have hr := B.returns
  have ht : ∀ w ∈ wsA, w.before _ s = true := fun w h => atoms_spec (ws := (Cond.code y_NU_first prog_1_method_3_code 2 none :: wsA)) B.pre w (List.mem_cons_of_mem _ h)
  have hown : s.vm.findClass "NetUnfolder" = some m.cls := findClass_of_methodNamed B.named
  have hlocks := B.notSynchronized
  have hout := B.noHandlers (atoms_spec (ws := (Cond.code y_NU_first prog_1_method_3_code 2 none :: wsA)) B.pre _ List.mem_cons_self)
  have htr := Launch.traces_off hfl B.admits
  subst hsz
  have hS : va_S (fun q => s.heap.size ≤ q) s.heap s.heap [] := va_S.rf
  have hA : ∀ q : Nat, s.heap.size ≤ q → (fun q => s.heap.size ≤ q) q := fun q h => h
  have hl := lv_entry ([.ref a0, .int k0]) (n := 2) (Nat.le_of_ble_eq_true rfl)
  rw [lg_entry_eq]
  generalize (lg_sl ([.ref a0, .int k0]) ++ List.replicate (2 - (lg_sl ([.ref a0, .int k0])).length) Slot.unset).toArray = ls at hl ⊢
  replace hl : lv_has ls 2 [(0, .ref a0), (1, .int k0)] := hl
  refine lv_iload_n hx hb d_NU_first_0 rfl (lv_at hl 1 rfl) ?_
  have hPc : va_P (dC, dI) clA [] _ := pu_P (H := s.heap)
  have hDc : va_D (fun _ => True) [] := pu_D
  have hFc := pu_free hS hA
  refine va_calli (va_runS (As := [.int k0]) (rest := []) ⟨hx, hb, hml, hown, ht⟩ (c_NU_isMarking_lo l dC dI cI cL cZ _ k0 h1) (va_cwS 1 ht (good_S wd_3_10 wd_3_11 wd_1_1 wd_3_12) rfl rfl rfl (by decide +kernel) ⟨Nat.le_of_ble_eq_true rfl, Nat.le_of_ble_eq_true rfl⟩) ⟨fun a U g mk q => by obtain ⟨q0, q1, qP, qK, qD, qN⟩ := q; exact ⟨q0, q1, qP, va_K.moved (u := U) (U := U.calling g mk a) (Vm.Alike.refl U.vm) qK, qD, NwA.same (u := U) rfl qN⟩, fun U hU hW => ⟨rfl, by rw [hU], by rw [hU]; exact hPc, va_K.moved hW.alike hK, hDc.weaken (fun _ _ _ _ => trivial), NwA.warm hW hN⟩⟩ rfl rfl hl.1 rfl (lv_room (Nat.le_of_ble_eq_true rfl)) d_NU_first_1 ⟨Nat.le_of_ble_eq_true rfl, Nat.le_of_ble_eq_true rfl⟩) hS (fun q _ h => hFc q h) hFc (fun r9 u t H1 locs ht9 hvm hw2 hB hz1 hk1 hSn => ?_)
  replace hP : va_P (dC, dI) clA [(a0, .inr (0, [.ref a1, .ref a2, .ref a3, .ref a4, .ref a5]))] H1 := pu_keep hP hk1
  replace hS := hSn
  clear hSn hPc hDc hFc hk1 hz1 ht9 hvm hB
  refine W.cs (cells' := 0) (slots' := 0) rfl rfl ?_
  subst hw2
  refine lv_if_ne (tgt := 15) hx hb d_NU_first_4 (by decide) (fun h => (h (by decide)).elim) (fun _ => ?_)
  refine va_forget (fun q hq => hS.2.2 q hq) ?_
  refine W.newc hx hb hown (ht _ wd_3_13) (ht _ wd_3_14) (ht _ wd_1_14) (g := F0 m 7 ls []) rfl d_NU_first_7 (Nat.le_of_ble_eq_true rfl) (Nat.le_of_ble_eq_true rfl) (fun cX kX hfX hkX _ _ => ?_)
  refine W.eq (g2 := F0 m 10 ls (.ref _ :: [])) rfl ?_
  refine lv_dup hx hb d_NU_first_10 rfl ?_
  refine W.cs (cells' := 1) (slots' := 6) rfl rfl ?_
  exact tx_throw0 (own := "NetUnfolder") (cls := "java/lang/IllegalArgumentException") (names := ["java/lang/RuntimeException", "java/lang/Exception"]) (ic := 52) hx hb htr hown (by decide +kernel) (by decide +kernel) (fun a ha => own_before (oa_IAE a ha) ht hT) hfX hkX (by simp) hS.1 (by rw [hml]; exact hl.1) d_NU_first_11 d_NU_first_14 hout (Nat.le_of_ble_eq_true rfl) (Nat.le_of_ble_eq_true rfl) hlocks (fun U _ h => h)

set_option maxHeartbeats 4000000 in
set_option maxRecDepth 100000 in
theorem t_NU_first_1 (l : Launch) (hfl : l.flags = flags0) (dC : Nat → ClassId) (dI : Nat → Nat → Nat) (cI cL cZ : ClassId) (sz : Nat) (a0 : Nat) (a1 : Nat) (a2 : Nat) (a3 : Nat) (a4 : Nat) (a5 : Nat) (k0 : Int32) (h2 : 255 < k0) : tx_Met l y_NU_first (Cond.code y_NU_first prog_1_method_3_code 2 none :: wsA) { frames := 6, cells := 1, slots := 6, locals := 96 } (va_Pc [.ref a0, .int k0] (fun U => U.heap.size = sz ∧ va_P (dC, dI) clA [(a0, .inr (0, [.ref a1, .ref a2, .ref a3, .ref a4, .ref a5]))] U.heap ∧ va_K (dC, dI) clA [(cI, .int), (cL, .long), (cZ, .boolean)] U ∧ va_D (fun _ => True) [(a0, .inr (0, [.ref a1, .ref a2, .ref a3, .ref a4, .ref a5]))] ∧ NwA U ∧ ThA (fun _ => False) U U.heap)) (tx_Q "java/lang/IllegalArgumentException") 1 6 := by
  refine tx_Met.ofW (cc := prog_1_method_3_code) (maxL := 2) (ret := none) (by decide) rfl ?_
  intro p e s m args below meth c s₁ B hml hv
  obtain ⟨rfl, hsz, hP, hK, hD0, hN, hT⟩ := hv
  have hx := B.exec
  have hb := B.bytes
  have hr := B.returns
  have ht : ∀ w ∈ wsA, w.before _ s = true := fun w h => atoms_spec (ws := (Cond.code y_NU_first prog_1_method_3_code 2 none :: wsA)) B.pre w (List.mem_cons_of_mem _ h)
  have hown : s.vm.findClass "NetUnfolder" = some m.cls := findClass_of_methodNamed B.named
  have hlocks := B.notSynchronized
  have hout := B.noHandlers (atoms_spec (ws := (Cond.code y_NU_first prog_1_method_3_code 2 none :: wsA)) B.pre _ List.mem_cons_self)
  have htr := Launch.traces_off hfl B.admits
  subst hsz
  have hS : va_S (fun q => s.heap.size ≤ q) s.heap s.heap [] := va_S.rf
  have hA : ∀ q : Nat, s.heap.size ≤ q → (fun q => s.heap.size ≤ q) q := fun q h => h
  have hl := lv_entry ([.ref a0, .int k0]) (n := 2) (Nat.le_of_ble_eq_true rfl)
  rw [lg_entry_eq]
  generalize (lg_sl ([.ref a0, .int k0]) ++ List.replicate (2 - (lg_sl ([.ref a0, .int k0])).length) Slot.unset).toArray = ls at hl ⊢
  replace hl : lv_has ls 2 [(0, .ref a0), (1, .int k0)] := hl
  refine lv_iload_n hx hb d_NU_first_0 rfl (lv_at hl 1 rfl) ?_
  have hPc : va_P (dC, dI) clA [] _ := pu_P (H := s.heap)
  have hDc : va_D (fun _ => True) [] := pu_D
  have hFc := pu_free hS hA
  refine va_calli (va_runS (As := [.int k0]) (rest := []) ⟨hx, hb, hml, hown, ht⟩ (c_NU_isMarking_hi l dC dI cI cL cZ _ k0 h2) (va_cwS 1 ht (good_S wd_3_10 wd_3_11 wd_1_1 wd_3_12) rfl rfl rfl (by decide +kernel) ⟨Nat.le_of_ble_eq_true rfl, Nat.le_of_ble_eq_true rfl⟩) ⟨fun a U g mk q => by obtain ⟨q0, q1, qP, qK, qD, qN⟩ := q; exact ⟨q0, q1, qP, va_K.moved (u := U) (U := U.calling g mk a) (Vm.Alike.refl U.vm) qK, qD, NwA.same (u := U) rfl qN⟩, fun U hU hW => ⟨rfl, by rw [hU], by rw [hU]; exact hPc, va_K.moved hW.alike hK, hDc.weaken (fun _ _ _ _ => trivial), NwA.warm hW hN⟩⟩ rfl rfl hl.1 rfl (lv_room (Nat.le_of_ble_eq_true rfl)) d_NU_first_1 ⟨Nat.le_of_ble_eq_true rfl, Nat.le_of_ble_eq_true rfl⟩) hS (fun q _ h => hFc q h) hFc (fun r9 u t H1 locs ht9 hvm hw2 hB hz1 hk1 hSn => ?_)
  replace hP : va_P (dC, dI) clA [(a0, .inr (0, [.ref a1, .ref a2, .ref a3, .ref a4, .ref a5]))] H1 := pu_keep hP hk1
  replace hS := hSn
  clear hSn hPc hDc hFc hk1 hz1 ht9 hvm hB
  refine W.cs (cells' := 0) (slots' := 0) rfl rfl ?_
  subst hw2
  refine lv_if_ne (tgt := 15) hx hb d_NU_first_4 (by decide) (fun h => (h (by decide)).elim) (fun _ => ?_)
  refine va_forget (fun q hq => hS.2.2 q hq) ?_
  refine W.newc hx hb hown (ht _ wd_3_13) (ht _ wd_3_14) (ht _ wd_1_14) (g := F0 m 7 ls []) rfl d_NU_first_7 (Nat.le_of_ble_eq_true rfl) (Nat.le_of_ble_eq_true rfl) (fun cX kX hfX hkX _ _ => ?_)
  refine W.eq (g2 := F0 m 10 ls (.ref _ :: [])) rfl ?_
  refine lv_dup hx hb d_NU_first_10 rfl ?_
  refine W.cs (cells' := 1) (slots' := 6) rfl rfl ?_
  exact tx_throw0 (own := "NetUnfolder") (cls := "java/lang/IllegalArgumentException") (names := ["java/lang/RuntimeException", "java/lang/Exception"]) (ic := 52) hx hb htr hown (by decide +kernel) (by decide +kernel) (fun a ha => own_before (oa_IAE a ha) ht hT) hfX hkX (by simp) hS.1 (by rw [hml]; exact hl.1) d_NU_first_11 d_NU_first_14 hout (Nat.le_of_ble_eq_true rfl) (Nat.le_of_ble_eq_true rfl) hlocks (fun U _ h => h)

set_option maxHeartbeats 4000000 in
set_option maxRecDepth 100000 in
theorem t_NU_reach_0 (l : Launch) (hfl : l.flags = flags0) (dC : Nat → ClassId) (dI : Nat → Nat → Nat) (cI cL cZ : ClassId) (sz : Nat) (a0 : Nat) (a1 : Nat) (a2 : Nat) (a3 : Nat) (a4 : Nat) (a5 : Nat) (k0 : Int32) (h1 : k0 < 0) : tx_Met l y_NU_reach (Cond.code y_NU_reach prog_1_method_6_code 2 (some .int) :: wsA) { frames := 6, cells := 1, slots := 6, locals := 96 } (va_Pc [.ref a0, .int k0] (fun U => U.heap.size = sz ∧ va_P (dC, dI) clA [(a0, .inr (0, [.ref a1, .ref a2, .ref a3, .ref a4, .ref a5]))] U.heap ∧ va_K (dC, dI) clA [(cI, .int), (cL, .long), (cZ, .boolean)] U ∧ va_D (fun _ => True) [(a0, .inr (0, [.ref a1, .ref a2, .ref a3, .ref a4, .ref a5]))] ∧ NwA U ∧ ThA (fun _ => False) U U.heap)) (tx_Q "java/lang/IllegalArgumentException") 1 6 := by
  refine tx_Met.ofW (cc := prog_1_method_6_code) (maxL := 2) (ret := (some .int)) (by decide) rfl ?_
  intro p e s m args below meth c s₁ B hml hv
  obtain ⟨rfl, hsz, hP, hK, hD0, hN, hT⟩ := hv
  have hx := B.exec
  have hb := B.bytes
  have hr := B.returns
  have ht : ∀ w ∈ wsA, w.before _ s = true := fun w h => atoms_spec (ws := (Cond.code y_NU_reach prog_1_method_6_code 2 (some .int) :: wsA)) B.pre w (List.mem_cons_of_mem _ h)
  have hown : s.vm.findClass "NetUnfolder" = some m.cls := findClass_of_methodNamed B.named
  have hlocks := B.notSynchronized
  have hout := B.noHandlers (atoms_spec (ws := (Cond.code y_NU_reach prog_1_method_6_code 2 (some .int) :: wsA)) B.pre _ List.mem_cons_self)
  have htr := Launch.traces_off hfl B.admits
  subst hsz
  have hS : va_S (fun q => s.heap.size ≤ q) s.heap s.heap [] := va_S.rf
  have hA : ∀ q : Nat, s.heap.size ≤ q → (fun q => s.heap.size ≤ q) q := fun q h => h
  have hl := lv_entry ([.ref a0, .int k0]) (n := 2) (Nat.le_of_ble_eq_true rfl)
  rw [lg_entry_eq]
  generalize (lg_sl ([.ref a0, .int k0]) ++ List.replicate (2 - (lg_sl ([.ref a0, .int k0])).length) Slot.unset).toArray = ls at hl ⊢
  replace hl : lv_has ls 2 [(0, .ref a0), (1, .int k0)] := hl
  refine lv_iload_n hx hb d_NU_reach_0 rfl (lv_at hl 1 rfl) ?_
  have hPc : va_P (dC, dI) clA [] _ := pu_P (H := s.heap)
  have hDc : va_D (fun _ => True) [] := pu_D
  have hFc := pu_free hS hA
  refine va_calli (va_runS (As := [.int k0]) (rest := []) ⟨hx, hb, hml, hown, ht⟩ (c_NU_isMarking_lo l dC dI cI cL cZ _ k0 h1) (va_cwS 1 ht (good_S wd_3_10 wd_3_11 wd_1_1 wd_3_12) rfl rfl rfl (by decide +kernel) ⟨Nat.le_of_ble_eq_true rfl, Nat.le_of_ble_eq_true rfl⟩) ⟨fun a U g mk q => by obtain ⟨q0, q1, qP, qK, qD, qN⟩ := q; exact ⟨q0, q1, qP, va_K.moved (u := U) (U := U.calling g mk a) (Vm.Alike.refl U.vm) qK, qD, NwA.same (u := U) rfl qN⟩, fun U hU hW => ⟨rfl, by rw [hU], by rw [hU]; exact hPc, va_K.moved hW.alike hK, hDc.weaken (fun _ _ _ _ => trivial), NwA.warm hW hN⟩⟩ rfl rfl hl.1 rfl (lv_room (Nat.le_of_ble_eq_true rfl)) d_NU_reach_1 ⟨Nat.le_of_ble_eq_true rfl, Nat.le_of_ble_eq_true rfl⟩) hS (fun q _ h => hFc q h) hFc (fun r9 u t H1 locs ht9 hvm hw2 hB hz1 hk1 hSn => ?_)
  replace hP : va_P (dC, dI) clA [(a0, .inr (0, [.ref a1, .ref a2, .ref a3, .ref a4, .ref a5]))] H1 := pu_keep hP hk1
  replace hS := hSn
  clear hSn hPc hDc hFc hk1 hz1 ht9 hvm hB
  refine W.cs (cells' := 0) (slots' := 0) rfl rfl ?_
  subst hw2
  refine lv_if_ne (tgt := 15) hx hb d_NU_reach_4 (by decide) (fun h => (h (by decide)).elim) (fun _ => ?_)
  refine va_forget (fun q hq => hS.2.2 q hq) ?_
  refine W.newc hx hb hown (ht _ wd_3_13) (ht _ wd_3_14) (ht _ wd_1_14) (g := F0 m 7 ls []) rfl d_NU_reach_7 (Nat.le_of_ble_eq_true rfl) (Nat.le_of_ble_eq_true rfl) (fun cX kX hfX hkX _ _ => ?_)
  refine W.eq (g2 := F0 m 10 ls (.ref _ :: [])) rfl ?_
  refine lv_dup hx hb d_NU_reach_10 rfl ?_
  refine W.cs (cells' := 1) (slots' := 6) rfl rfl ?_
  exact tx_throw0 (own := "NetUnfolder") (cls := "java/lang/IllegalArgumentException") (names := ["java/lang/RuntimeException", "java/lang/Exception"]) (ic := 52) hx hb htr hown (by decide +kernel) (by decide +kernel) (fun a ha => own_before (oa_IAE a ha) ht hT) hfX hkX (by simp) hS.1 (by rw [hml]; exact hl.1) d_NU_reach_11 d_NU_reach_14 hout (Nat.le_of_ble_eq_true rfl) (Nat.le_of_ble_eq_true rfl) hlocks (fun U _ h => h)

set_option maxHeartbeats 4000000 in
set_option maxRecDepth 100000 in
theorem t_NU_reach_1 (l : Launch) (hfl : l.flags = flags0) (dC : Nat → ClassId) (dI : Nat → Nat → Nat) (cI cL cZ : ClassId) (sz : Nat) (a0 : Nat) (a1 : Nat) (a2 : Nat) (a3 : Nat) (a4 : Nat) (a5 : Nat) (k0 : Int32) (h2 : 255 < k0) : tx_Met l y_NU_reach (Cond.code y_NU_reach prog_1_method_6_code 2 (some .int) :: wsA) { frames := 6, cells := 1, slots := 6, locals := 96 } (va_Pc [.ref a0, .int k0] (fun U => U.heap.size = sz ∧ va_P (dC, dI) clA [(a0, .inr (0, [.ref a1, .ref a2, .ref a3, .ref a4, .ref a5]))] U.heap ∧ va_K (dC, dI) clA [(cI, .int), (cL, .long), (cZ, .boolean)] U ∧ va_D (fun _ => True) [(a0, .inr (0, [.ref a1, .ref a2, .ref a3, .ref a4, .ref a5]))] ∧ NwA U ∧ ThA (fun _ => False) U U.heap)) (tx_Q "java/lang/IllegalArgumentException") 1 6 := by
  refine tx_Met.ofW (cc := prog_1_method_6_code) (maxL := 2) (ret := (some .int)) (by decide) rfl ?_
  intro p e s m args below meth c s₁ B hml hv
  obtain ⟨rfl, hsz, hP, hK, hD0, hN, hT⟩ := hv
  have hx := B.exec
  have hb := B.bytes
  have hr := B.returns
  have ht : ∀ w ∈ wsA, w.before _ s = true := fun w h => atoms_spec (ws := (Cond.code y_NU_reach prog_1_method_6_code 2 (some .int) :: wsA)) B.pre w (List.mem_cons_of_mem _ h)
  have hown : s.vm.findClass "NetUnfolder" = some m.cls := findClass_of_methodNamed B.named
  have hlocks := B.notSynchronized
  have hout := B.noHandlers (atoms_spec (ws := (Cond.code y_NU_reach prog_1_method_6_code 2 (some .int) :: wsA)) B.pre _ List.mem_cons_self)
  have htr := Launch.traces_off hfl B.admits
  subst hsz
  have hS : va_S (fun q => s.heap.size ≤ q) s.heap s.heap [] := va_S.rf
  have hA : ∀ q : Nat, s.heap.size ≤ q → (fun q => s.heap.size ≤ q) q := fun q h => h
  have hl := lv_entry ([.ref a0, .int k0]) (n := 2) (Nat.le_of_ble_eq_true rfl)
  rw [lg_entry_eq]
  generalize (lg_sl ([.ref a0, .int k0]) ++ List.replicate (2 - (lg_sl ([.ref a0, .int k0])).length) Slot.unset).toArray = ls at hl ⊢
  replace hl : lv_has ls 2 [(0, .ref a0), (1, .int k0)] := hl
  refine lv_iload_n hx hb d_NU_reach_0 rfl (lv_at hl 1 rfl) ?_
  have hPc : va_P (dC, dI) clA [] _ := pu_P (H := s.heap)
  have hDc : va_D (fun _ => True) [] := pu_D
  have hFc := pu_free hS hA
  refine va_calli (va_runS (As := [.int k0]) (rest := []) ⟨hx, hb, hml, hown, ht⟩ (c_NU_isMarking_hi l dC dI cI cL cZ _ k0 h2) (va_cwS 1 ht (good_S wd_3_10 wd_3_11 wd_1_1 wd_3_12) rfl rfl rfl (by decide +kernel) ⟨Nat.le_of_ble_eq_true rfl, Nat.le_of_ble_eq_true rfl⟩) ⟨fun a U g mk q => by obtain ⟨q0, q1, qP, qK, qD, qN⟩ := q; exact ⟨q0, q1, qP, va_K.moved (u := U) (U := U.calling g mk a) (Vm.Alike.refl U.vm) qK, qD, NwA.same (u := U) rfl qN⟩, fun U hU hW => ⟨rfl, by rw [hU], by rw [hU]; exact hPc, va_K.moved hW.alike hK, hDc.weaken (fun _ _ _ _ => trivial), NwA.warm hW hN⟩⟩ rfl rfl hl.1 rfl (lv_room (Nat.le_of_ble_eq_true rfl)) d_NU_reach_1 ⟨Nat.le_of_ble_eq_true rfl, Nat.le_of_ble_eq_true rfl⟩) hS (fun q _ h => hFc q h) hFc (fun r9 u t H1 locs ht9 hvm hw2 hB hz1 hk1 hSn => ?_)
  replace hP : va_P (dC, dI) clA [(a0, .inr (0, [.ref a1, .ref a2, .ref a3, .ref a4, .ref a5]))] H1 := pu_keep hP hk1
  replace hS := hSn
  clear hSn hPc hDc hFc hk1 hz1 ht9 hvm hB
  refine W.cs (cells' := 0) (slots' := 0) rfl rfl ?_
  subst hw2
  refine lv_if_ne (tgt := 15) hx hb d_NU_reach_4 (by decide) (fun h => (h (by decide)).elim) (fun _ => ?_)
  refine va_forget (fun q hq => hS.2.2 q hq) ?_
  refine W.newc hx hb hown (ht _ wd_3_13) (ht _ wd_3_14) (ht _ wd_1_14) (g := F0 m 7 ls []) rfl d_NU_reach_7 (Nat.le_of_ble_eq_true rfl) (Nat.le_of_ble_eq_true rfl) (fun cX kX hfX hkX _ _ => ?_)
  refine W.eq (g2 := F0 m 10 ls (.ref _ :: [])) rfl ?_
  refine lv_dup hx hb d_NU_reach_10 rfl ?_
  refine W.cs (cells' := 1) (slots' := 6) rfl rfl ?_
  exact tx_throw0 (own := "NetUnfolder") (cls := "java/lang/IllegalArgumentException") (names := ["java/lang/RuntimeException", "java/lang/Exception"]) (ic := 52) hx hb htr hown (by decide +kernel) (by decide +kernel) (fun a ha => own_before (oa_IAE a ha) ht hT) hfX hkX (by simp) hS.1 (by rw [hml]; exact hl.1) d_NU_reach_11 d_NU_reach_14 hout (Nat.le_of_ble_eq_true rfl) (Nat.le_of_ble_eq_true rfl) hlocks (fun U _ h => h)

set_option maxHeartbeats 4000000 in
set_option maxRecDepth 100000 in
theorem t_NU_reach_2 (l : Launch) (hfl : l.flags = flags0) (dC : Nat → ClassId) (dI : Nat → Nat → Nat) (cI cL cZ : ClassId) (sz : Nat) (a0 : Nat) (a2 : Nat) (a1 : Nat) (a3 : Nat) (a4 : Nat) (a5 : Nat) (a8 : Nat) (a9 : Nat) (a10 : Nat) (a11 : Nat) (a12 : Nat) (a13 : Nat) (a14 : Nat) (a15 : Nat) (a16 : Nat) (a17 : Nat) (k0 : Int32) (h1 : ¬ k0 < 0) (h2 : ¬ 255 < k0) : tx_Met l y_NU_reach (Cond.code y_NU_reach prog_1_method_6_code 2 (some .int) :: wsA) { frames := 6, cells := 1, slots := 6, locals := 96 } (va_Pc [.ref a0, .int k0] (fun U => U.heap.size = sz ∧ va_P (dC, dI) clA [(a0, .inr (0, [.ref a1, .ref a2, .ref a3, .ref a4, .ref a5])), (a2, .inr (2, [.int 0, .ref a8, .ref a9, .ref a10, .ref a11, .ref a12, .int 0, .ref a13, .ref a14, .ref a15, .ref a16, .ref a17, .int 0, .int 0]))] U.heap ∧ va_K (dC, dI) clA [(cI, .int), (cL, .long), (cZ, .boolean)] U ∧ va_D (fun _ => True) [(a0, .inr (0, [.ref a1, .ref a2, .ref a3, .ref a4, .ref a5])), (a2, .inr (2, [.int 0, .ref a8, .ref a9, .ref a10, .ref a11, .ref a12, .int 0, .ref a13, .ref a14, .ref a15, .ref a16, .ref a17, .int 0, .int 0]))] ∧ NwA U ∧ ThA (fun _ => False) U U.heap)) (tx_Q "java/lang/IllegalStateException") 1 6 := by
  refine tx_Met.ofW (cc := prog_1_method_6_code) (maxL := 2) (ret := (some .int)) (by decide) rfl ?_
  intro p e s m args below meth c s₁ B hml hv
  obtain ⟨rfl, hsz, hP, hK, hD0, hN, hT⟩ := hv
  have hx := B.exec
  have hb := B.bytes
  have hr := B.returns
  have ht : ∀ w ∈ wsA, w.before _ s = true := fun w h => atoms_spec (ws := (Cond.code y_NU_reach prog_1_method_6_code 2 (some .int) :: wsA)) B.pre w (List.mem_cons_of_mem _ h)
  have hown : s.vm.findClass "NetUnfolder" = some m.cls := findClass_of_methodNamed B.named
  have hlocks := B.notSynchronized
  have hout := B.noHandlers (atoms_spec (ws := (Cond.code y_NU_reach prog_1_method_6_code 2 (some .int) :: wsA)) B.pre _ List.mem_cons_self)
  have htr := Launch.traces_off hfl B.admits
  subst hsz
  have hS : va_S (fun q => s.heap.size ≤ q) s.heap s.heap [] := va_S.rf
  have hA : ∀ q : Nat, s.heap.size ≤ q → (fun q => s.heap.size ≤ q) q := fun q h => h
  have hl := lv_entry ([.ref a0, .int k0]) (n := 2) (Nat.le_of_ble_eq_true rfl)
  rw [lg_entry_eq]
  generalize (lg_sl ([.ref a0, .int k0]) ++ List.replicate (2 - (lg_sl ([.ref a0, .int k0])).length) Slot.unset).toArray = ls at hl ⊢
  replace hl : lv_has ls 2 [(0, .ref a0), (1, .int k0)] := hl
  refine lv_iload_n hx hb d_NU_reach_0 rfl (lv_at hl 1 rfl) ?_
  have hPc : va_P (dC, dI) clA [] _ := pu_P (H := s.heap)
  have hDc : va_D (fun _ => True) [] := pu_D
  have hFc := pu_free hS hA
  refine va_calli (va_runS (As := [.int k0]) (rest := []) ⟨hx, hb, hml, hown, ht⟩ (c_NU_isMarking_ok l dC dI cI cL cZ _ k0 h1 h2) (va_cwS 1 ht (good_S wd_3_10 wd_3_11 wd_1_1 wd_3_12) rfl rfl rfl (by decide +kernel) ⟨Nat.le_of_ble_eq_true rfl, Nat.le_of_ble_eq_true rfl⟩) ⟨fun a U g mk q => by obtain ⟨q0, q1, qP, qK, qD, qN⟩ := q; exact ⟨q0, q1, qP, va_K.moved (u := U) (U := U.calling g mk a) (Vm.Alike.refl U.vm) qK, qD, NwA.same (u := U) rfl qN⟩, fun U hU hW => ⟨rfl, by rw [hU], by rw [hU]; exact hPc, va_K.moved hW.alike hK, hDc.weaken (fun _ _ _ _ => trivial), NwA.warm hW hN⟩⟩ rfl rfl hl.1 rfl (lv_room (Nat.le_of_ble_eq_true rfl)) d_NU_reach_1 ⟨Nat.le_of_ble_eq_true rfl, Nat.le_of_ble_eq_true rfl⟩) hS (fun q _ h => hFc q h) hFc (fun r9 u t H1 locs ht9 hvm hw2 hB hz1 hk1 hSn => ?_)
  replace hP : va_P (dC, dI) clA [(a0, .inr (0, [.ref a1, .ref a2, .ref a3, .ref a4, .ref a5])), (a2, .inr (2, [.int 0, .ref a8, .ref a9, .ref a10, .ref a11, .ref a12, .int 0, .ref a13, .ref a14, .ref a15, .ref a16, .ref a17, .int 0, .int 0]))] H1 := pu_keep hP hk1
  replace hS := hSn
  clear hSn hPc hDc hFc hk1 hz1 ht9 hvm hB
  refine W.cs (cells' := 0) (slots' := 0) rfl rfl ?_
  subst hw2
  refine lv_if_ne (tgt := 15) hx hb d_NU_reach_4 (by decide) (fun _ => ?_) (fun h => absurd h (by decide))
  refine lv_aload_n hx hb d_NU_reach_15 rfl (lv_at hl 0 rfl) ?_
  refine va_get (D := (dC, dI)) (ci := 0) (v := .ref a2) (C := "NetUnfolder") (T := T_NU) (N := 5) hx hb ht in_NU hown hK hP 0 rfl rfl 1 (by decide) (ht _ wd_2_37) (fun _ h9 => h9) rfl d_NU_reach_16 ?_
  refine va_get (D := (dC, dI)) (ci := 2) (v := .int 0) (C := "NetUnfolder$Prefix") (T := T_Pf) (N := 14) hx hb ht in_Pf hown hK hP 1 rfl rfl 13 (by decide) (ht _ wd_1_106) (fun _ h9 => h9) rfl d_NU_reach_19 ?_
  refine lv_if_ne (tgt := 33) hx hb d_NU_reach_22 (by decide) (fun h => (h (by decide)).elim) (fun _ => ?_)
  refine va_forget (fun q hq => hS.2.2 q hq) ?_
  refine W.newc hx hb hown (ht _ wd_3_75) (ht _ wd_3_76) (ht _ wd_1_15) (g := F0 m 25 ls []) rfl d_NU_reach_25 (Nat.le_of_ble_eq_true rfl) (Nat.le_of_ble_eq_true rfl) (fun cX kX hfX hkX _ _ => ?_)
  refine W.eq (g2 := F0 m 28 ls (.ref _ :: [])) rfl ?_
  refine lv_dup hx hb d_NU_reach_28 rfl ?_
  refine W.cs (cells' := 1) (slots' := 6) rfl rfl ?_
  exact tx_throw0 (own := "NetUnfolder") (cls := "java/lang/IllegalStateException") (names := ["java/lang/RuntimeException", "java/lang/Exception"]) (ic := 59) hx hb htr hown (by decide +kernel) (by decide +kernel) (fun a ha => own_before (oa_ISE a ha) ht hT) hfX hkX (by simp) hS.1 (by rw [hml]; exact hl.1) d_NU_reach_29 d_NU_reach_32 hout (Nat.le_of_ble_eq_true rfl) (Nat.le_of_ble_eq_true rfl) hlocks (fun U _ h => h)

set_option maxHeartbeats 4000000 in
set_option maxRecDepth 100000 in
theorem t_NU_deadlock (l : Launch) (hfl : l.flags = flags0) (dC : Nat → ClassId) (dI : Nat → Nat → Nat) (cI cL cZ : ClassId) (sz : Nat) (a0 : Nat) (a2 : Nat) (a1 : Nat) (a3 : Nat) (a4 : Nat) (a5 : Nat) (a8 : Nat) (a9 : Nat) (a10 : Nat) (a11 : Nat) (a12 : Nat) (a13 : Nat) (a14 : Nat) (a15 : Nat) (a16 : Nat) (a17 : Nat) : tx_Met l y_NU_deadlock (Cond.code y_NU_deadlock prog_1_method_7_code 1 (some .int) :: wsA) { frames := 6, cells := 1, slots := 6, locals := 96 } (va_Pc [.ref a0] (fun U => U.heap.size = sz ∧ va_P (dC, dI) clA [(a0, .inr (0, [.ref a1, .ref a2, .ref a3, .ref a4, .ref a5])), (a2, .inr (2, [.int 0, .ref a8, .ref a9, .ref a10, .ref a11, .ref a12, .int 0, .ref a13, .ref a14, .ref a15, .ref a16, .ref a17, .int 0, .int 0]))] U.heap ∧ va_K (dC, dI) clA [(cI, .int), (cL, .long), (cZ, .boolean)] U ∧ va_D (fun _ => True) [(a0, .inr (0, [.ref a1, .ref a2, .ref a3, .ref a4, .ref a5])), (a2, .inr (2, [.int 0, .ref a8, .ref a9, .ref a10, .ref a11, .ref a12, .int 0, .ref a13, .ref a14, .ref a15, .ref a16, .ref a17, .int 0, .int 0]))] ∧ NwA U ∧ ThA (fun _ => False) U U.heap)) (tx_Q "java/lang/IllegalStateException") 1 6 := by
  refine tx_Met.ofW (cc := prog_1_method_7_code) (maxL := 1) (ret := (some .int)) (by decide) rfl ?_
  intro p e s m args below meth c s₁ B hml hv
  obtain ⟨rfl, hsz, hP, hK, hD0, hN, hT⟩ := hv
  have hx := B.exec
  have hb := B.bytes
  have hr := B.returns
  have ht : ∀ w ∈ wsA, w.before _ s = true := fun w h => atoms_spec (ws := (Cond.code y_NU_deadlock prog_1_method_7_code 1 (some .int) :: wsA)) B.pre w (List.mem_cons_of_mem _ h)
  have hown : s.vm.findClass "NetUnfolder" = some m.cls := findClass_of_methodNamed B.named
  have hlocks := B.notSynchronized
  have hout := B.noHandlers (atoms_spec (ws := (Cond.code y_NU_deadlock prog_1_method_7_code 1 (some .int) :: wsA)) B.pre _ List.mem_cons_self)
  have htr := Launch.traces_off hfl B.admits
  subst hsz
  have hS : va_S (fun q => s.heap.size ≤ q) s.heap s.heap [] := va_S.rf
  have hA : ∀ q : Nat, s.heap.size ≤ q → (fun q => s.heap.size ≤ q) q := fun q h => h
  have hl := lv_entry ([.ref a0]) (n := 1) (Nat.le_of_ble_eq_true rfl)
  rw [lg_entry_eq]
  generalize (lg_sl ([.ref a0]) ++ List.replicate (1 - (lg_sl ([.ref a0])).length) Slot.unset).toArray = ls at hl ⊢
  replace hl : lv_has ls 1 [(0, .ref a0)] := hl
  refine lv_aload_n hx hb d_NU_deadlock_0 rfl (lv_at hl 0 rfl) ?_
  refine va_get (D := (dC, dI)) (ci := 0) (v := .ref a2) (C := "NetUnfolder") (T := T_NU) (N := 5) hx hb ht in_NU hown hK hP 0 rfl rfl 1 (by decide) (ht _ wd_2_37) (fun _ h9 => h9) rfl d_NU_deadlock_1 ?_
  refine va_get (D := (dC, dI)) (ci := 2) (v := .int 0) (C := "NetUnfolder$Prefix") (T := T_Pf) (N := 14) hx hb ht in_Pf hown hK hP 1 rfl rfl 13 (by decide) (ht _ wd_1_106) (fun _ h9 => h9) rfl d_NU_deadlock_4 ?_
  refine lv_if_ne (tgt := 18) hx hb d_NU_deadlock_7 (by decide) (fun h => (h (by decide)).elim) (fun _ => ?_)
  refine va_forget (fun q hq => hS.2.2 q hq) ?_
  refine W.newc hx hb hown (ht _ wd_3_75) (ht _ wd_3_76) (ht _ wd_1_15) (g := F0 m 10 ls []) rfl d_NU_deadlock_10 (Nat.le_of_ble_eq_true rfl) (Nat.le_of_ble_eq_true rfl) (fun cX kX hfX hkX _ _ => ?_)
  refine W.eq (g2 := F0 m 13 ls (.ref _ :: [])) rfl ?_
  refine lv_dup hx hb d_NU_deadlock_13 rfl ?_
  refine W.cs (cells' := 1) (slots' := 6) rfl rfl ?_
  exact tx_throw0 (own := "NetUnfolder") (cls := "java/lang/IllegalStateException") (names := ["java/lang/RuntimeException", "java/lang/Exception"]) (ic := 59) hx hb htr hown (by decide +kernel) (by decide +kernel) (fun a ha => own_before (oa_ISE a ha) ht hT) hfX hkX (by simp) hS.1 (by rw [hml]; exact hl.1) d_NU_deadlock_14 d_NU_deadlock_17 hout (Nat.le_of_ble_eq_true rfl) (Nat.le_of_ble_eq_true rfl) hlocks (fun U _ h => h)

set_option maxHeartbeats 4000000 in
set_option maxRecDepth 100000 in
theorem t_NU_play_0 (l : Launch) (hfl : l.flags = flags0) (dC : Nat → ClassId) (dI : Nat → Nat → Nat) (cI cL cZ : ClassId) (sz : Nat) (a0 : Nat) (a3 : Nat) (a1 : Nat) (a2 : Nat) (a4 : Nat) (a5 : Nat) (a18 : Nat) (k0 : Int32) (h1 : k0 < 0) : tx_Met l y_NU_play (Cond.code y_NU_play prog_1_method_9_code 6 (some .int) :: wsA) { frames := 6, cells := 1, slots := 6, locals := 96 } (va_Pc [.ref a0, .int k0] (fun U => U.heap.size = sz ∧ va_P (dC, dI) clA [(a0, .inr (0, [.ref a1, .ref a2, .ref a3, .ref a4, .ref a5])), (a3, .inr (3, [.ref a18, .int (-1)]))] U.heap ∧ va_K (dC, dI) clA [(cI, .int), (cL, .long), (cZ, .boolean)] U ∧ va_D (fun _ => True) [(a0, .inr (0, [.ref a1, .ref a2, .ref a3, .ref a4, .ref a5])), (a3, .inr (3, [.ref a18, .int (-1)]))] ∧ NwA U ∧ ThA (fun _ => False) U U.heap)) (tx_Q "java/lang/IllegalArgumentException") 1 6 := by
  refine tx_Met.ofW (cc := prog_1_method_9_code) (maxL := 6) (ret := (some .int)) (by decide) rfl ?_
  intro p e s m args below meth c s₁ B hml hv
  obtain ⟨rfl, hsz, hP, hK, hD0, hN, hT⟩ := hv
  have hx := B.exec
  have hb := B.bytes
  have hr := B.returns
  have ht : ∀ w ∈ wsA, w.before _ s = true := fun w h => atoms_spec (ws := (Cond.code y_NU_play prog_1_method_9_code 6 (some .int) :: wsA)) B.pre w (List.mem_cons_of_mem _ h)
  have hown : s.vm.findClass "NetUnfolder" = some m.cls := findClass_of_methodNamed B.named
  have hlocks := B.notSynchronized
  have hout := B.noHandlers (atoms_spec (ws := (Cond.code y_NU_play prog_1_method_9_code 6 (some .int) :: wsA)) B.pre _ List.mem_cons_self)
  have htr := Launch.traces_off hfl B.admits
  subst hsz
  have hS : va_S (fun q => s.heap.size ≤ q) s.heap s.heap [] := va_S.rf
  have hA : ∀ q : Nat, s.heap.size ≤ q → (fun q => s.heap.size ≤ q) q := fun q h => h
  have hl := lv_entry ([.ref a0, .int k0]) (n := 6) (Nat.le_of_ble_eq_true rfl)
  rw [lg_entry_eq]
  generalize (lg_sl ([.ref a0, .int k0]) ++ List.replicate (6 - (lg_sl ([.ref a0, .int k0])).length) Slot.unset).toArray = ls at hl ⊢
  replace hl : lv_has ls 6 [(0, .ref a0), (1, .int k0)] := hl
  refine lv_aload_n hx hb d_NU_play_0 rfl (lv_at hl 0 rfl) ?_
  refine va_get (D := (dC, dI)) (ci := 0) (v := .ref a3) (C := "NetUnfolder") (T := T_NU) (N := 5) hx hb ht in_NU hown hK hP 0 rfl rfl 2 (by decide) (ht _ wd_2_38) (fun _ h9 => h9) rfl d_NU_play_1 ?_
  refine va_get (D := (dC, dI)) (ci := 3) (v := .int (-1)) (C := "NetUnfolder$Way") (T := T_Wa) (N := 2) hx hb ht in_Wa hown hK hP 1 rfl rfl 1 (by decide) (ht _ wd_1_146) (fun _ h9 => h9) rfl d_NU_play_4 ?_
  refine lv_iconst (v := (-1)) hx hb d_NU_play_7 (by decide) ?_
  refine lv_icmp_eq (tgt := 15) hx hb d_NU_play_8 (by decide) (fun _ => ?_) (fun h => (h (by decide)).elim)
  refine lv_iconst (v := 0) hx hb d_NU_play_15 (by decide) ?_
  refine lv_istore_n (lv' := [(2, .int 0), (0, .ref a0), (1, .int k0)]) hx hb d_NU_play_16 rfl hl (by decide) rfl (fun ls hln => ?_)
  replace hl : lv_has ls 6 [(2, .int 0), (0, .ref a0), (1, .int k0)] := hln
  clear hln
  refine lv_iload_n hx hb d_NU_play_17 rfl (lv_at hl 2 rfl) ?_
  refine lv_if_lt (tgt := 36) hx hb d_NU_play_18 (by decide) (fun _ => ?_) (fun h9 => (by exfalso; have eh1 := fa_lt (k := 0) (by decide) h1; have eh9 := fa_nlt (k := 0) (by decide) h9; omega))
  refine va_forget (fun q hq => hS.2.2 q hq) ?_
  refine W.newc hx hb hown (ht _ wd_3_13) (ht _ wd_3_14) (ht _ wd_1_14) (g := F0 m 36 ls []) rfl d_NU_play_36 (Nat.le_of_ble_eq_true rfl) (Nat.le_of_ble_eq_true rfl) (fun cX kX hfX hkX _ _ => ?_)
  refine W.eq (g2 := F0 m 39 ls (.ref _ :: [])) rfl ?_
  refine lv_dup hx hb d_NU_play_39 rfl ?_
  refine W.cs (cells' := 1) (slots' := 6) rfl rfl ?_
  exact tx_throw0 (own := "NetUnfolder") (cls := "java/lang/IllegalArgumentException") (names := ["java/lang/RuntimeException", "java/lang/Exception"]) (ic := 52) hx hb htr hown (by decide +kernel) (by decide +kernel) (fun a ha => own_before (oa_IAE a ha) ht hT) hfX hkX (by simp) hS.1 (by rw [hml]; exact hl.1) d_NU_play_40 d_NU_play_43 hout (Nat.le_of_ble_eq_true rfl) (Nat.le_of_ble_eq_true rfl) hlocks (fun U _ h => h)

set_option maxHeartbeats 4000000 in
set_option maxRecDepth 100000 in
theorem t_NU_play_1 (l : Launch) (hfl : l.flags = flags0) (dC : Nat → ClassId) (dI : Nat → Nat → Nat) (cI cL cZ : ClassId) (sz : Nat) (a0 : Nat) (a3 : Nat) (a1 : Nat) (a2 : Nat) (a4 : Nat) (a5 : Nat) (a18 : Nat) (k0 : Int32) (h1 : ¬ k0 < 0) : tx_Met l y_NU_play (Cond.code y_NU_play prog_1_method_9_code 6 (some .int) :: wsA) { frames := 6, cells := 1, slots := 6, locals := 96 } (va_Pc [.ref a0, .int k0] (fun U => U.heap.size = sz ∧ va_P (dC, dI) clA [(a0, .inr (0, [.ref a1, .ref a2, .ref a3, .ref a4, .ref a5])), (a3, .inr (3, [.ref a18, .int (-1)]))] U.heap ∧ va_K (dC, dI) clA [(cI, .int), (cL, .long), (cZ, .boolean)] U ∧ va_D (fun _ => True) [(a0, .inr (0, [.ref a1, .ref a2, .ref a3, .ref a4, .ref a5])), (a3, .inr (3, [.ref a18, .int (-1)]))] ∧ NwA U ∧ ThA (fun _ => False) U U.heap)) (tx_Q "java/lang/IllegalStateException") 1 6 := by
  refine tx_Met.ofW (cc := prog_1_method_9_code) (maxL := 6) (ret := (some .int)) (by decide) rfl ?_
  intro p e s m args below meth c s₁ B hml hv
  obtain ⟨rfl, hsz, hP, hK, hD0, hN, hT⟩ := hv
  have hx := B.exec
  have hb := B.bytes
  have hr := B.returns
  have ht : ∀ w ∈ wsA, w.before _ s = true := fun w h => atoms_spec (ws := (Cond.code y_NU_play prog_1_method_9_code 6 (some .int) :: wsA)) B.pre w (List.mem_cons_of_mem _ h)
  have hown : s.vm.findClass "NetUnfolder" = some m.cls := findClass_of_methodNamed B.named
  have hlocks := B.notSynchronized
  have hout := B.noHandlers (atoms_spec (ws := (Cond.code y_NU_play prog_1_method_9_code 6 (some .int) :: wsA)) B.pre _ List.mem_cons_self)
  have htr := Launch.traces_off hfl B.admits
  subst hsz
  have hS : va_S (fun q => s.heap.size ≤ q) s.heap s.heap [] := va_S.rf
  have hA : ∀ q : Nat, s.heap.size ≤ q → (fun q => s.heap.size ≤ q) q := fun q h => h
  have hl := lv_entry ([.ref a0, .int k0]) (n := 6) (Nat.le_of_ble_eq_true rfl)
  rw [lg_entry_eq]
  generalize (lg_sl ([.ref a0, .int k0]) ++ List.replicate (6 - (lg_sl ([.ref a0, .int k0])).length) Slot.unset).toArray = ls at hl ⊢
  replace hl : lv_has ls 6 [(0, .ref a0), (1, .int k0)] := hl
  refine lv_aload_n hx hb d_NU_play_0 rfl (lv_at hl 0 rfl) ?_
  refine va_get (D := (dC, dI)) (ci := 0) (v := .ref a3) (C := "NetUnfolder") (T := T_NU) (N := 5) hx hb ht in_NU hown hK hP 0 rfl rfl 2 (by decide) (ht _ wd_2_38) (fun _ h9 => h9) rfl d_NU_play_1 ?_
  refine va_get (D := (dC, dI)) (ci := 3) (v := .int (-1)) (C := "NetUnfolder$Way") (T := T_Wa) (N := 2) hx hb ht in_Wa hown hK hP 1 rfl rfl 1 (by decide) (ht _ wd_1_146) (fun _ h9 => h9) rfl d_NU_play_4 ?_
  refine lv_iconst (v := (-1)) hx hb d_NU_play_7 (by decide) ?_
  refine lv_icmp_eq (tgt := 15) hx hb d_NU_play_8 (by decide) (fun _ => ?_) (fun h => (h (by decide)).elim)
  refine lv_iconst (v := 0) hx hb d_NU_play_15 (by decide) ?_
  refine lv_istore_n (lv' := [(2, .int 0), (0, .ref a0), (1, .int k0)]) hx hb d_NU_play_16 rfl hl (by decide) rfl (fun ls hln => ?_)
  replace hl : lv_has ls 6 [(2, .int 0), (0, .ref a0), (1, .int k0)] := hln
  clear hln
  refine lv_iload_n hx hb d_NU_play_17 rfl (lv_at hl 2 rfl) ?_
  refine lv_if_lt (tgt := 36) hx hb d_NU_play_18 (by decide) (fun h9 => (by exfalso; have eh1 := fa_nlt (k := 0) (by decide) h1; have eh9 := fa_lt (k := 0) (by decide) h9; omega)) (fun _ => ?_)
  refine lv_iload_n hx hb d_NU_play_21 rfl (lv_at hl 0 rfl) ?_
  refine lv_if_eq (tgt := 44) hx hb d_NU_play_22 (by decide) (fun _ => ?_) (fun h => (h (by decide)).elim)
  refine lv_iload_n hx hb d_NU_play_44 rfl (lv_at hl 0 rfl) ?_
  refine lv_if_ne (tgt := 56) hx hb d_NU_play_45 (by decide) (fun h => (h (by decide)).elim) (fun _ => ?_)
  refine va_forget (fun q hq => hS.2.2 q hq) ?_
  refine W.newc hx hb hown (ht _ wd_3_75) (ht _ wd_3_76) (ht _ wd_1_15) (g := F0 m 48 ls []) rfl d_NU_play_48 (Nat.le_of_ble_eq_true rfl) (Nat.le_of_ble_eq_true rfl) (fun cX kX hfX hkX _ _ => ?_)
  refine W.eq (g2 := F0 m 51 ls (.ref _ :: [])) rfl ?_
  refine lv_dup hx hb d_NU_play_51 rfl ?_
  refine W.cs (cells' := 1) (slots' := 6) rfl rfl ?_
  exact tx_throw0 (own := "NetUnfolder") (cls := "java/lang/IllegalStateException") (names := ["java/lang/RuntimeException", "java/lang/Exception"]) (ic := 59) hx hb htr hown (by decide +kernel) (by decide +kernel) (fun a ha => own_before (oa_ISE a ha) ht hT) hfX hkX (by simp) hS.1 (by rw [hml]; exact hl.1) d_NU_play_52 d_NU_play_55 hout (Nat.le_of_ble_eq_true rfl) (Nat.le_of_ble_eq_true rfl) hlocks (fun U _ h => h)
end
