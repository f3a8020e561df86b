section
-- ===== PART A: goes FIRST, ahead of the names: the tables' words, and 'selects' of the private methods out of them =====
/-- a private method of a class that the tables say can be made, by its rows of tables_1 -/
def lw_okq (q : MethodName × Nat) : Prop := (q.1.cls ≠ "java/lang/invoke/MethodHandle" ∧ q.1.cls ≠ "java/lang/invoke/VarHandle") ∧ Cond.instantiable q.1.cls q.2 ∈ tables_1 ∧ Cond.privateMethod q.1 ∈ tables_1 ∧ Cond.instanceMethod q.1 ∈ tables_1
theorem lw_p0 : lw_okq (⟨"NetUnfolder", "dropPrefixAndWay", "()V"⟩, 5) := ⟨⟨by decide +kernel, by decide +kernel⟩, List.mem_of_getElem? (i := 20) (by decide +kernel), List.mem_of_getElem? (i := 297) (by decide +kernel), List.mem_of_getElem? (i := 298) (by decide +kernel)⟩
theorem lw_p1 : lw_okq (⟨"NetUnfolder$Unfolding", "begin", "()V"⟩, 4) := ⟨⟨by decide +kernel, by decide +kernel⟩, List.mem_of_getElem? (i := 153) (by decide +kernel), List.mem_of_getElem? (i := 324) (by decide +kernel), List.mem_of_getElem? (i := 325) (by decide +kernel)⟩
theorem lw_p2 : lw_okq (⟨"NetUnfolder$Unfolding", "findPossible", "(JJ)V"⟩, 4) := ⟨⟨by decide +kernel, by decide +kernel⟩, List.mem_of_getElem? (i := 153) (by decide +kernel), List.mem_of_getElem? (i := 345) (by decide +kernel), List.mem_of_getElem? (i := 346) (by decide +kernel)⟩
theorem lw_p3 : lw_okq (⟨"NetUnfolder$Unfolding", "choose", "(IIJJJ)V"⟩, 4) := ⟨⟨by decide +kernel, by decide +kernel⟩, List.mem_of_getElem? (i := 153) (by decide +kernel), List.mem_of_getElem? (i := 349) (by decide +kernel), List.mem_of_getElem? (i := 350) (by decide +kernel)⟩
theorem lw_p4 : lw_okq (⟨"NetUnfolder$Possible", "comesBefore", "(II)Z"⟩, 5) := ⟨⟨by decide +kernel, by decide +kernel⟩, List.mem_of_getElem? (i := 159) (by decide +kernel), List.mem_of_getElem? (i := 381) (by decide +kernel), List.mem_of_getElem? (i := 382) (by decide +kernel)⟩
theorem lw_p5 : lw_okq (⟨"NetUnfolder$Unfolding", "rivalOf", "(I)I"⟩, 4) := ⟨⟨by decide +kernel, by decide +kernel⟩, List.mem_of_getElem? (i := 153) (by decide +kernel), List.mem_of_getElem? (i := 385) (by decide +kernel), List.mem_of_getElem? (i := 386) (by decide +kernel)⟩
theorem lw_p6 : lw_okq (⟨"NetUnfolder$Unfolding", "tellWay", "(II)V"⟩, 4) := ⟨⟨by decide +kernel, by decide +kernel⟩, List.mem_of_getElem? (i := 153) (by decide +kernel), List.mem_of_getElem? (i := 393) (by decide +kernel), List.mem_of_getElem? (i := 394) (by decide +kernel)⟩
theorem lw_p7 : lw_okq (⟨"NetUnfolder$Unfolding", "tellTransitions", "(I)V"⟩, 4) := ⟨⟨by decide +kernel, by decide +kernel⟩, List.mem_of_getElem? (i := 153) (by decide +kernel), List.mem_of_getElem? (i := 401) (by decide +kernel), List.mem_of_getElem? (i := 402) (by decide +kernel)⟩
theorem lw_p8 : lw_okq (⟨"NetUnfolder$Unfolding", "letCome", "(I)Z"⟩, 4) := ⟨⟨by decide +kernel, by decide +kernel⟩, List.mem_of_getElem? (i := 153) (by decide +kernel), List.mem_of_getElem? (i := 409) (by decide +kernel), List.mem_of_getElem? (i := 410) (by decide +kernel)⟩
theorem lw_p9 : lw_okq (⟨"NetUnfolder$Unfolding", "leadsToNothingNew", "(IJ)Z"⟩, 4) := ⟨⟨by decide +kernel, by decide +kernel⟩, List.mem_of_getElem? (i := 153) (by decide +kernel), List.mem_of_getElem? (i := 421) (by decide +kernel), List.mem_of_getElem? (i := 422) (by decide +kernel)⟩
theorem lw_p10 : lw_okq (⟨"java/lang/Throwable", "fillInStackTrace", "(I)Ljava/lang/Throwable;"⟩, 6) := ⟨⟨by decide +kernel, by decide +kernel⟩, List.mem_of_getElem? (i := 531) (by decide +kernel), List.mem_of_getElem? (i := 529) (by decide +kernel), List.mem_of_getElem? (i := 530) (by decide +kernel)⟩
theorem lw_p11 : lw_okq (⟨"NetUnfolder$Question", "describePrefix", "()V"⟩, 6) := ⟨⟨by decide +kernel, by decide +kernel⟩, List.mem_of_getElem? (i := 198) (by decide +kernel), List.mem_of_getElem? (i := 593) (by decide +kernel), List.mem_of_getElem? (i := 594) (by decide +kernel)⟩
theorem lw_p12 : lw_okq (⟨"NetUnfolder$Question", "describeEvent", "(I)V"⟩, 6) := ⟨⟨by decide +kernel, by decide +kernel⟩, List.mem_of_getElem? (i := 198) (by decide +kernel), List.mem_of_getElem? (i := 602) (by decide +kernel), List.mem_of_getElem? (i := 603) (by decide +kernel)⟩
theorem lw_p13 : lw_okq (⟨"NetUnfolder$Question", "describeCondition", "(I)V"⟩, 6) := ⟨⟨by decide +kernel, by decide +kernel⟩, List.mem_of_getElem? (i := 198) (by decide +kernel), List.mem_of_getElem? (i := 610) (by decide +kernel), List.mem_of_getElem? (i := 611) (by decide +kernel)⟩
theorem lw_p14 : lw_okq (⟨"NetUnfolder$Question", "makersOf", "(II)J"⟩, 6) := ⟨⟨by decide +kernel, by decide +kernel⟩, List.mem_of_getElem? (i := 198) (by decide +kernel), List.mem_of_getElem? (i := 617) (by decide +kernel), List.mem_of_getElem? (i := 618) (by decide +kernel)⟩
theorem lw_p15 : lw_okq (⟨"NetUnfolder$Question", "answer", "()I"⟩, 6) := ⟨⟨by decide +kernel, by decide +kernel⟩, List.mem_of_getElem? (i := 198) (by decide +kernel), List.mem_of_getElem? (i := 621) (by decide +kernel), List.mem_of_getElem? (i := 622) (by decide +kernel)⟩
def lw_privs_1 : List (MethodName × Nat) := [(⟨"NetUnfolder", "dropPrefixAndWay", "()V"⟩, 5), (⟨"NetUnfolder$Unfolding", "begin", "()V"⟩, 4), (⟨"NetUnfolder$Unfolding", "findPossible", "(JJ)V"⟩, 4), (⟨"NetUnfolder$Unfolding", "choose", "(IIJJJ)V"⟩, 4), (⟨"NetUnfolder$Possible", "comesBefore", "(II)Z"⟩, 5), (⟨"NetUnfolder$Unfolding", "rivalOf", "(I)I"⟩, 4), (⟨"NetUnfolder$Unfolding", "tellWay", "(II)V"⟩, 4), (⟨"NetUnfolder$Unfolding", "tellTransitions", "(I)V"⟩, 4), (⟨"NetUnfolder$Unfolding", "letCome", "(I)Z"⟩, 4), (⟨"NetUnfolder$Unfolding", "leadsToNothingNew", "(IJ)Z"⟩, 4), (⟨"java/lang/Throwable", "fillInStackTrace", "(I)Ljava/lang/Throwable;"⟩, 6), (⟨"NetUnfolder$Question", "describePrefix", "()V"⟩, 6), (⟨"NetUnfolder$Question", "describeEvent", "(I)V"⟩, 6), (⟨"NetUnfolder$Question", "describeCondition", "(I)V"⟩, 6), (⟨"NetUnfolder$Question", "makersOf", "(II)J"⟩, 6), (⟨"NetUnfolder$Question", "answer", "()I"⟩, 6)]
theorem lw_r1 : ∀ q ∈ lw_privs_1, lw_okq q := List.forall_mem_cons.mpr ⟨lw_p0, List.forall_mem_cons.mpr ⟨lw_p1, List.forall_mem_cons.mpr ⟨lw_p2, List.forall_mem_cons.mpr ⟨lw_p3, List.forall_mem_cons.mpr ⟨lw_p4, List.forall_mem_cons.mpr ⟨lw_p5, List.forall_mem_cons.mpr ⟨lw_p6, List.forall_mem_cons.mpr ⟨lw_p7, List.forall_mem_cons.mpr ⟨lw_p8, List.forall_mem_cons.mpr ⟨lw_p9, List.forall_mem_cons.mpr ⟨lw_p10, List.forall_mem_cons.mpr ⟨lw_p11, List.forall_mem_cons.mpr ⟨lw_p12, List.forall_mem_cons.mpr ⟨lw_p13, List.forall_mem_cons.mpr ⟨lw_p14, List.forall_mem_cons.mpr ⟨lw_p15, fun _ h => absurd h List.not_mem_nil⟩⟩⟩⟩⟩⟩⟩⟩⟩⟩⟩⟩⟩⟩⟩⟩
theorem lw_p16 : lw_okq (⟨"NetUnfolder$Search", "begin", "()V"⟩, 8) := ⟨⟨by decide +kernel, by decide +kernel⟩, List.mem_of_getElem? (i := 227) (by decide +kernel), List.mem_of_getElem? (i := 631) (by decide +kernel), List.mem_of_getElem? (i := 632) (by decide +kernel)⟩
theorem lw_p17 : lw_okq (⟨"NetUnfolder$Search", "propagate", "()I"⟩, 8) := ⟨⟨by decide +kernel, by decide +kernel⟩, List.mem_of_getElem? (i := 227) (by decide +kernel), List.mem_of_getElem? (i := 637) (by decide +kernel), List.mem_of_getElem? (i := 638) (by decide +kernel)⟩
theorem lw_p18 : lw_okq (⟨"NetUnfolder$Search", "assign", "(IZI)V"⟩, 8) := ⟨⟨by decide +kernel, by decide +kernel⟩, List.mem_of_getElem? (i := 227) (by decide +kernel), List.mem_of_getElem? (i := 643) (by decide +kernel), List.mem_of_getElem? (i := 644) (by decide +kernel)⟩
theorem lw_p19 : lw_okq (⟨"NetUnfolder$Search", "learnFrom", "(I)V"⟩, 8) := ⟨⟨by decide +kernel, by decide +kernel⟩, List.mem_of_getElem? (i := 227) (by decide +kernel), List.mem_of_getElem? (i := 647) (by decide +kernel), List.mem_of_getElem? (i := 648) (by decide +kernel)⟩
theorem lw_p20 : lw_okq (⟨"NetUnfolder$Search", "levelBelow", "(J)I"⟩, 8) := ⟨⟨by decide +kernel, by decide +kernel⟩, List.mem_of_getElem? (i := 227) (by decide +kernel), List.mem_of_getElem? (i := 652) (by decide +kernel), List.mem_of_getElem? (i := 653) (by decide +kernel)⟩
theorem lw_p21 : lw_okq (⟨"NetUnfolder$Search", "goBack", "(I)V"⟩, 8) := ⟨⟨by decide +kernel, by decide +kernel⟩, List.mem_of_getElem? (i := 227) (by decide +kernel), List.mem_of_getElem? (i := 656) (by decide +kernel), List.mem_of_getElem? (i := 657) (by decide +kernel)⟩
theorem lw_p22 : lw_okq (⟨"NetUnfolder$Search", "forgetIdle", "()V"⟩, 8) := ⟨⟨by decide +kernel, by decide +kernel⟩, List.mem_of_getElem? (i := 227) (by decide +kernel), List.mem_of_getElem? (i := 664) (by decide +kernel), List.mem_of_getElem? (i := 665) (by decide +kernel)⟩
theorem lw_p23 : lw_okq (⟨"NetUnfolder$Search", "forcedBy", "(I)I"⟩, 8) := ⟨⟨by decide +kernel, by decide +kernel⟩, List.mem_of_getElem? (i := 227) (by decide +kernel), List.mem_of_getElem? (i := 668) (by decide +kernel), List.mem_of_getElem? (i := 669) (by decide +kernel)⟩
theorem lw_p24 : lw_okq (⟨"NetUnfolder$Search", "decide", "(I)V"⟩, 8) := ⟨⟨by decide +kernel, by decide +kernel⟩, List.mem_of_getElem? (i := 227) (by decide +kernel), List.mem_of_getElem? (i := 681) (by decide +kernel), List.mem_of_getElem? (i := 682) (by decide +kernel)⟩
theorem lw_p25 : lw_okq (⟨"NetUnfolderModel", "forget", "()V"⟩, 28) := ⟨⟨by decide +kernel, by decide +kernel⟩, List.mem_of_getElem? (i := 715) (by decide +kernel), List.mem_of_getElem? (i := 818) (by decide +kernel), List.mem_of_getElem? (i := 819) (by decide +kernel)⟩
theorem lw_p26 : lw_okq (⟨"NetUnfolderModel", "condition", "(III)V"⟩, 28) := ⟨⟨by decide +kernel, by decide +kernel⟩, List.mem_of_getElem? (i := 715) (by decide +kernel), List.mem_of_getElem? (i := 834) (by decide +kernel), List.mem_of_getElem? (i := 835) (by decide +kernel)⟩
theorem lw_p27 : lw_okq (⟨"NetUnfolderModel", "together", "(II)Z"⟩, 28) := ⟨⟨by decide +kernel, by decide +kernel⟩, List.mem_of_getElem? (i := 715) (by decide +kernel), List.mem_of_getElem? (i := 838) (by decide +kernel), List.mem_of_getElem? (i := 839) (by decide +kernel)⟩
theorem lw_p28 : lw_okq (⟨"NetUnfolderModel", "takenBy", "(J)J"⟩, 28) := ⟨⟨by decide +kernel, by decide +kernel⟩, List.mem_of_getElem? (i := 715) (by decide +kernel), List.mem_of_getElem? (i := 842) (by decide +kernel), List.mem_of_getElem? (i := 843) (by decide +kernel)⟩
theorem lw_p29 : lw_okq (⟨"NetUnfolderModel", "search", "()V"⟩, 28) := ⟨⟨by decide +kernel, by decide +kernel⟩, List.mem_of_getElem? (i := 715) (by decide +kernel), List.mem_of_getElem? (i := 850) (by decide +kernel), List.mem_of_getElem? (i := 851) (by decide +kernel)⟩
theorem lw_p30 : lw_okq (⟨"NetUnfolderModel", "choices", "(I)V"⟩, 28) := ⟨⟨by decide +kernel, by decide +kernel⟩, List.mem_of_getElem? (i := 715) (by decide +kernel), List.mem_of_getElem? (i := 854) (by decide +kernel), List.mem_of_getElem? (i := 855) (by decide +kernel)⟩
theorem lw_p31 : lw_okq (⟨"NetUnfolderModel", "further", "(IIJ)I"⟩, 28) := ⟨⟨by decide +kernel, by decide +kernel⟩, List.mem_of_getElem? (i := 715) (by decide +kernel), List.mem_of_getElem? (i := 864) (by decide +kernel), List.mem_of_getElem? (i := 865) (by decide +kernel)⟩
def lw_privs_2 : List (MethodName × Nat) := [(⟨"NetUnfolder$Search", "begin", "()V"⟩, 8), (⟨"NetUnfolder$Search", "propagate", "()I"⟩, 8), (⟨"NetUnfolder$Search", "assign", "(IZI)V"⟩, 8), (⟨"NetUnfolder$Search", "learnFrom", "(I)V"⟩, 8), (⟨"NetUnfolder$Search", "levelBelow", "(J)I"⟩, 8), (⟨"NetUnfolder$Search", "goBack", "(I)V"⟩, 8), (⟨"NetUnfolder$Search", "forgetIdle", "()V"⟩, 8), (⟨"NetUnfolder$Search", "forcedBy", "(I)I"⟩, 8), (⟨"NetUnfolder$Search", "decide", "(I)V"⟩, 8), (⟨"NetUnfolderModel", "forget", "()V"⟩, 28), (⟨"NetUnfolderModel", "condition", "(III)V"⟩, 28), (⟨"NetUnfolderModel", "together", "(II)Z"⟩, 28), (⟨"NetUnfolderModel", "takenBy", "(J)J"⟩, 28), (⟨"NetUnfolderModel", "search", "()V"⟩, 28), (⟨"NetUnfolderModel", "choices", "(I)V"⟩, 28), (⟨"NetUnfolderModel", "further", "(IIJ)I"⟩, 28)]
theorem lw_r2 : ∀ q ∈ lw_privs_2, lw_okq q := List.forall_mem_cons.mpr ⟨lw_p16, List.forall_mem_cons.mpr ⟨lw_p17, List.forall_mem_cons.mpr ⟨lw_p18, List.forall_mem_cons.mpr ⟨lw_p19, List.forall_mem_cons.mpr ⟨lw_p20, List.forall_mem_cons.mpr ⟨lw_p21, List.forall_mem_cons.mpr ⟨lw_p22, List.forall_mem_cons.mpr ⟨lw_p23, List.forall_mem_cons.mpr ⟨lw_p24, List.forall_mem_cons.mpr ⟨lw_p25, List.forall_mem_cons.mpr ⟨lw_p26, List.forall_mem_cons.mpr ⟨lw_p27, List.forall_mem_cons.mpr ⟨lw_p28, List.forall_mem_cons.mpr ⟨lw_p29, List.forall_mem_cons.mpr ⟨lw_p30, List.forall_mem_cons.mpr ⟨lw_p31, fun _ h => absurd h List.not_mem_nil⟩⟩⟩⟩⟩⟩⟩⟩⟩⟩⟩⟩⟩⟩⟩⟩
theorem lw_p32 : lw_okq (⟨"NetUnfolderModel", "found", "(II)V"⟩, 28) := ⟨⟨by decide +kernel, by decide +kernel⟩, List.mem_of_getElem? (i := 715) (by decide +kernel), List.mem_of_getElem? (i := 868) (by decide +kernel), List.mem_of_getElem? (i := 869) (by decide +kernel)⟩
theorem lw_p33 : lw_okq (⟨"NetUnfolderModel", "isThere", "(II)Z"⟩, 28) := ⟨⟨by decide +kernel, by decide +kernel⟩, List.mem_of_getElem? (i := 715) (by decide +kernel), List.mem_of_getElem? (i := 872) (by decide +kernel), List.mem_of_getElem? (i := 873) (by decide +kernel)⟩
theorem lw_p34 : lw_okq (⟨"NetUnfolderModel", "setOf", "(I)J"⟩, 28) := ⟨⟨by decide +kernel, by decide +kernel⟩, List.mem_of_getElem? (i := 715) (by decide +kernel), List.mem_of_getElem? (i := 876) (by decide +kernel), List.mem_of_getElem? (i := 877) (by decide +kernel)⟩
theorem lw_p35 : lw_okq (⟨"NetUnfolderModel", "behindAll", "(I)I"⟩, 28) := ⟨⟨by decide +kernel, by decide +kernel⟩, List.mem_of_getElem? (i := 715) (by decide +kernel), List.mem_of_getElem? (i := 880) (by decide +kernel), List.mem_of_getElem? (i := 881) (by decide +kernel)⟩
theorem lw_p36 : lw_okq (⟨"NetUnfolderModel", "rankOf", "(II)J"⟩, 28) := ⟨⟨by decide +kernel, by decide +kernel⟩, List.mem_of_getElem? (i := 715) (by decide +kernel), List.mem_of_getElem? (i := 884) (by decide +kernel), List.mem_of_getElem? (i := 885) (by decide +kernel)⟩
theorem lw_p37 : lw_okq (⟨"NetUnfolderModel", "twice", "()I"⟩, 28) := ⟨⟨by decide +kernel, by decide +kernel⟩, List.mem_of_getElem? (i := 715) (by decide +kernel), List.mem_of_getElem? (i := 890) (by decide +kernel), List.mem_of_getElem? (i := 891) (by decide +kernel)⟩
theorem lw_p38 : lw_okq (⟨"NetUnfolderModel", "besideLeast", "()J"⟩, 28) := ⟨⟨by decide +kernel, by decide +kernel⟩, List.mem_of_getElem? (i := 715) (by decide +kernel), List.mem_of_getElem? (i := 894) (by decide +kernel), List.mem_of_getElem? (i := 895) (by decide +kernel)⟩
theorem lw_p39 : lw_okq (⟨"NetUnfolderModel", "addWay", "(J)V"⟩, 28) := ⟨⟨by decide +kernel, by decide +kernel⟩, List.mem_of_getElem? (i := 715) (by decide +kernel), List.mem_of_getElem? (i := 898) (by decide +kernel), List.mem_of_getElem? (i := 899) (by decide +kernel)⟩
theorem lw_p40 : lw_okq (⟨"NetUnfolderModel", "come", "()Z"⟩, 28) := ⟨⟨by decide +kernel, by decide +kernel⟩, List.mem_of_getElem? (i := 715) (by decide +kernel), List.mem_of_getElem? (i := 902) (by decide +kernel), List.mem_of_getElem? (i := 903) (by decide +kernel)⟩
theorem lw_p41 : lw_okq (⟨"NetUnfolderModel", "markingOf", "(J)I"⟩, 28) := ⟨⟨by decide +kernel, by decide +kernel⟩, List.mem_of_getElem? (i := 715) (by decide +kernel), List.mem_of_getElem? (i := 906) (by decide +kernel), List.mem_of_getElem? (i := 907) (by decide +kernel)⟩
theorem lw_p42 : lw_okq (⟨"NetUnfolderModel", "answer", "(I)I"⟩, 28) := ⟨⟨by decide +kernel, by decide +kernel⟩, List.mem_of_getElem? (i := 715) (by decide +kernel), List.mem_of_getElem? (i := 917) (by decide +kernel), List.mem_of_getElem? (i := 918) (by decide +kernel)⟩
theorem lw_p43 : lw_okq (⟨"NetUnfolderModel", "stuck", "(I)Z"⟩, 28) := ⟨⟨by decide +kernel, by decide +kernel⟩, List.mem_of_getElem? (i := 715) (by decide +kernel), List.mem_of_getElem? (i := 921) (by decide +kernel), List.mem_of_getElem? (i := 922) (by decide +kernel)⟩
theorem lw_p44 : lw_okq (⟨"NetUnfolderModel", "fits", "(JI)Z"⟩, 28) := ⟨⟨by decide +kernel, by decide +kernel⟩, List.mem_of_getElem? (i := 715) (by decide +kernel), List.mem_of_getElem? (i := 925) (by decide +kernel), List.mem_of_getElem? (i := 926) (by decide +kernel)⟩
theorem lw_p45 : lw_okq (⟨"NetUnfolderModel", "refuse", "(I)I"⟩, 28) := ⟨⟨by decide +kernel, by decide +kernel⟩, List.mem_of_getElem? (i := 715) (by decide +kernel), List.mem_of_getElem? (i := 941) (by decide +kernel), List.mem_of_getElem? (i := 942) (by decide +kernel)⟩
def lw_privs_3 : List (MethodName × Nat) := [(⟨"NetUnfolderModel", "found", "(II)V"⟩, 28), (⟨"NetUnfolderModel", "isThere", "(II)Z"⟩, 28), (⟨"NetUnfolderModel", "setOf", "(I)J"⟩, 28), (⟨"NetUnfolderModel", "behindAll", "(I)I"⟩, 28), (⟨"NetUnfolderModel", "rankOf", "(II)J"⟩, 28), (⟨"NetUnfolderModel", "twice", "()I"⟩, 28), (⟨"NetUnfolderModel", "besideLeast", "()J"⟩, 28), (⟨"NetUnfolderModel", "addWay", "(J)V"⟩, 28), (⟨"NetUnfolderModel", "come", "()Z"⟩, 28), (⟨"NetUnfolderModel", "markingOf", "(J)I"⟩, 28), (⟨"NetUnfolderModel", "answer", "(I)I"⟩, 28), (⟨"NetUnfolderModel", "stuck", "(I)Z"⟩, 28), (⟨"NetUnfolderModel", "fits", "(JI)Z"⟩, 28), (⟨"NetUnfolderModel", "refuse", "(I)I"⟩, 28)]
theorem lw_r3 : ∀ q ∈ lw_privs_3, lw_okq q := List.forall_mem_cons.mpr ⟨lw_p32, List.forall_mem_cons.mpr ⟨lw_p33, List.forall_mem_cons.mpr ⟨lw_p34, List.forall_mem_cons.mpr ⟨lw_p35, List.forall_mem_cons.mpr ⟨lw_p36, List.forall_mem_cons.mpr ⟨lw_p37, List.forall_mem_cons.mpr ⟨lw_p38, List.forall_mem_cons.mpr ⟨lw_p39, List.forall_mem_cons.mpr ⟨lw_p40, List.forall_mem_cons.mpr ⟨lw_p41, List.forall_mem_cons.mpr ⟨lw_p42, List.forall_mem_cons.mpr ⟨lw_p43, List.forall_mem_cons.mpr ⟨lw_p44, List.forall_mem_cons.mpr ⟨lw_p45, fun _ h => absurd h List.not_mem_nil⟩⟩⟩⟩⟩⟩⟩⟩⟩⟩⟩⟩⟩⟩
def lw_privs : List (MethodName × Nat) := lw_privs_1 ++ (lw_privs_2 ++ (lw_privs_3))
def lw_tbl : List Cond := k2_sels lw_privs ++ tables_1
theorem lw_privs_ok : ∀ q ∈ lw_privs, lw_okq q := by
  show ∀ q ∈ lw_privs_1 ++ (lw_privs_2 ++ (lw_privs_3)), lw_okq q
  exact List.forall_mem_append.mpr ⟨lw_r1, List.forall_mem_append.mpr ⟨lw_r2, lw_r3⟩⟩
-- ===== end of PART A; then your names; then what follows =====
/-! The words of the tables that a call keeps: one list for all methods. -/
def wsA : List Cond := lw_tbl.filter goodWord
theorem wA_t {w : Cond} (h : w ∈ tables_1) (g : goodWord w = true) : w ∈ wsA := List.mem_filter.mpr ⟨List.mem_append_right _ h, g⟩
theorem wA_1 {w : Cond} (h : w ∈ tables_1_1) (g : goodWord w = true) : w ∈ wsA := wA_t (List.mem_append_left _ h) g
theorem wA_2 {w : Cond} (h : w ∈ tables_1_2) (g : goodWord w = true) : w ∈ wsA := wA_t (List.mem_append_right _ (List.mem_append_left _ h)) g
theorem wA_3 {w : Cond} (h : w ∈ tables_1_3) (g : goodWord w = true) : w ∈ wsA := wA_t (List.mem_append_right _ (List.mem_append_right _ (List.mem_append_left _ h))) g
theorem wA_4 {w : Cond} (h : w ∈ tables_1_4) (g : goodWord w = true) : w ∈ wsA := wA_t (List.mem_append_right _ (List.mem_append_right _ (List.mem_append_right _ (List.mem_append_left _ h)))) g
theorem wA_5 {w : Cond} (h : w ∈ tables_1_5) (g : goodWord w = true) : w ∈ wsA := wA_t (List.mem_append_right _ (List.mem_append_right _ (List.mem_append_right _ (List.mem_append_right _ h)))) g
theorem wA_s {y : MethodName} {n : Nat} (h : (y, n) ∈ lw_privs) (g : goodWord (.selects y.cls y y) = true) : Cond.selects y.cls y y ∈ wsA := List.mem_filter.mpr ⟨List.mem_append_left _ (List.mem_map.mpr ⟨(y, n), h, rfl⟩), g⟩
theorem wA_tbl {w : Cond} (h : w ∈ wsA) : w ∈ lw_tbl := (List.mem_filter.mp h).1
theorem wA_good {w : Cond} (h : w ∈ wsA) : (w.onTables && w.keeps) = true ∨ ∃ ty, w = .arrayClass ty := good_of_word (List.mem_filter.mp h).2
theorem goodA {c : Cond} (h : c ∈ wsA) : GoodIn wsA (c :: wsA) := fun w hw => (List.mem_cons.mp hw).elim (fun e => e ▸ ⟨h, wA_good h⟩) (fun h2 => ⟨h2, wA_good h2⟩)
theorem goodA0 : GoodIn wsA wsA := fun w hw => ⟨hw, wA_good hw⟩
end
section
/-! Methods that throw, and methods with handlers: rows of my own over the library's (Stand.ctorThrow0, Stand.outOfThrown, Stand.catchAt). -/
/-- the contract of a method that throws: from Pc it throws x, 'Qc args s x t'; at most mc cells of ms slots are new; no old cell changes -/
def tx_Met (l : Launch) (y : MethodName) (ws : List Cond) (rm : Room) (Pc : Array Value → State → Prop) (Qc : Array Value → State → Addr → State → Prop) (mc ms : Nat) : Prop :=
  MetFree l y (headSpec ws rm) Pc (fun _ _ _ _ _ => True) (fun a st o t => ∃ x, o = .threw x ∧ Qc a st x t ∧ st.WarmedH t.vm ∧ st.sameButNew ({ t with vm := st.vm } : State) [] mc ms)
def tx_MQ (below : List Frame) (Qc : Array Value → State → Addr → State → Prop) (a : Array Value) (s : State) (mc ms : Nat) : State → Prop := fun t =>
  t.status = .running ∧ ∃ x, Ended t below (.threw x) ∧ Qc a s x t ∧ s.WarmedH t.vm ∧ s.sameButNew ({ t with vm := s.vm } : State) [] mc ms
theorem tx_old {s t : State} {k n : Nat} (h : s.sameButNew t [] k n) (q : Nat) (hq : q < s.heap.size) : t.heap[q]? = s.heap[q]? := by
  obtain ⟨-, -, -, -, -, h6⟩ := h
  obtain ⟨c', h1, h2, h3, h4⟩ := h6 q s.heap[q] (Array.getElem?_eq_getElem hq)
  rw [h1, Array.getElem?_eq_getElem hq]
  have e : c'.slots = s.heap[q].slots := Array.ext_getElem? fun i => h4 i (by simp)
  rw [h2, e]
section TX
variable {p : Program} {l : Launch} {e : Env} {R : Room} {s : State} {m : MethodId} {args : Array Value} {below : List Frame} {meth : Method} {c : Code} {H : Heap} {locs : List Loc} {cells slots : Nat} {Q : State → Prop}
theorem tx_Met.ofW {y : MethodName} {ws ws' : List Cond} {rm : Room} {Pc : Array Value → State → Prop} {Qc : Array Value → State → Addr → State → Prop} {mc ms : Nat} {cc : ByteArray} {maxL : Nat} {ret : Option FieldType}
    (hy : plainName y.cls = true) (hw : ws = Cond.code y cc maxL ret :: ws')
    (body : ∀ p e s m args below meth c s₁, BodyLoose p l y (headSpec ws rm) cc maxL ret e s m args below meth c s₁ → c.maxLocals = maxL → Pc args s →
      W p l e (headSpec ws rm).room s m args below meth c s.heap [] 0 0 (tx_MQ below Qc args s mc ms) (entryFrame m args maxL)) : tx_Met l y ws rm Pc Qc mc ms := by
  refine MetFree.of_bodyS (code := cc) (maxLocals := maxL) (ret := ret) hy ?_ ?_
  · intro args s m h hn
    obtain ⟨meth, c, h1, h2, h3, h4, h5, h6, -, -⟩ := Cond.code_spec hn (atoms_spec (ws := ws) h _ (by rw [hw]; exact List.mem_cons_self))
    exact ⟨meth, c, h1, h2, h3, h4, h5, h6⟩
  · intro p e s m args below meth c s₁ B hml hP _
    have hh0 : s₁.heap = s.heap := by rw [B.state]; rfl
    obtain ⟨t, a1, b1, x, b2, b3, b4, b5⟩ := body p e s m args below meth c s₁ B hml hP s₁ hh0 (Stand.of_body B)
    exact ⟨t, .threw x, a1, b1, b2, x, rfl, b3, b4, b5⟩
/-- 'new X(); athrow' from behind the 'new' and 'dup': it throws -/
theorem tx_throw0 {cc : ByteArray} {Qc : Array Value → State → Addr → State → Prop} (hexec : p.tables.exec = Jvm.exec) (hb : c.code = cc) (htr : e.platform.stackTraces = false) {own cls : String} {names : List String} {ic : Nat}
    (hown : s.vm.findClass own = some m.cls) (hcls : Bundle.fit cls = true) (hnames : ∀ n ∈ names, Bundle.fit n = true)
    (h : ∀ a ∈ Bundle.ownAtoms0 own ic cls names, a.before args s = true)
    {a : Addr} {cX : ClassId} {kX : Class} (hfoundX : s.vm.findClass cls = some cX) (hkX : s.vm.classes[cX]? = some kX) (hcell : H[a]? = some (freshCell cX kX)) (hnew : s.heap.size ≤ a)
    {pc : Nat} {ls : Array Slot} {rest : List Value} (hsize : ls.size = c.maxLocals)
    (hd6 : decode cc pc = .ok (.invokespecial ic, 3)) (hd9 : decode cc (pc + 3) = .ok (.athrow, 1)) (hout : c.exceptionTable.isEmpty = true)
    (hRframes : names.length + 3 < R.frames) (hRlocals : 2 * (F0 m pc ls (.ref a :: .ref a :: rest)).monitorRoom + ((Value.ref a :: rest).map fun v => v.category).sum + (13 * (names.length + 1) + 41) ≤ R.locals) (hlocks : meth.locks = false)
    (hq : ∀ U : State, s.WarmedH U.vm → (∃ ce, U.heap[a]? = some ce ∧ ce.vm = .none ∧ s.vm.findClass cls = some ce.cls) → Qc args s a U) :
    W p l e R s m args below meth c H [] cells slots (tx_MQ below Qc args s cells slots) (F0 m pc ls (.ref a :: .ref a :: rest)) := by
  intro T hT X
  subst hT; subst hb
  obtain ⟨U, st, hrun, hend, hW, hsame, ce, hce, K⟩ := X.ctorThrow0 hexec htr hown hcls hnames h (fun x hx => by cases hx) hfoundX hkX hcell hnew (g := F0 m pc ls (.ref a :: .ref a :: rest)) rfl hsize rfl rfl rfl hd6 hd9
    (fun x hx => by
      have : c.exceptionTable.toList = [] := by simpa using hout
      rw [this] at hx; cases hx) hRframes hRlocals hlocks
  exact ⟨U, st, hrun, a, hend, hq U hW ⟨ce, hce, K.vm, K.cls⟩, hW, hsame⟩
end TX
end
section
/-! Small rows of my own: a computed number by its value; a new array of a known class; the words of a call. -/
section RX
variable {p : Program} {l : Launch} {e : Env} {R : Room} {s : State} {m : MethodId} {args : Array Value} {below : List Frame} {meth : Method} {c : Code} {H : Heap} {locs : List Loc} {cells slots : Nat} {Q : State → Prop} {pc : Nat} {ls : Array Slot} {rest : List Value} {cc : ByteArray}
theorem ci_i {x : Int32} (y : Int32) (h : x = y) (k : W p l e R s m args below meth c H locs cells slots Q (F0 m pc ls (.int y :: rest))) : W p l e R s m args below meth c H locs cells slots Q (F0 m pc ls (.int x :: rest)) := h ▸ k
theorem ci_l {x : Int64} (y : Int64) (h : x = y) (k : W p l e R s m args below meth c H locs cells slots Q (F0 m pc ls (.long y :: rest))) : W p l e R s m args below meth c H locs cells slots Q (F0 m pc ls (.long x :: rest)) := h ▸ k
variable {D : va_G} {cl : List vw_C} {tys : List (ClassId × FieldType)} {ws : va_W} {A : Nat → Prop} {H0 : Heap}
theorem nx_newaI (hexec : p.tables.exec = Jvm.exec) (hb : c.code = cc) (harr : (Cond.arrayClass .int).before args s = true) (hK : va_K D cl tys s) (hP : va_P D cl ws H) (hD : va_D A ws) (hS : va_S A H0 H locs) (hA : ∀ q, H0.size ≤ q → A q)
    (t0 : Nat) {cA : ClassId} (ht : tys[t0]? = some (cA, .int)) {n : Int32} {N' : Nat} (hn : ¬ n < 0) (hN : n.toNatClampNeg = N') (hbytes : N' * componentBytes .int ≤ 536870912) (hcells : cells + 1 ≤ R.cells) (hslots : slots + N' ≤ R.slots) (hdg : decode cc pc = .ok (.newarray .int, 2))
    (kk : ∀ (q : Nat) (H1 : Heap), va_P D cl (ws ++ [(q, .inl (cA, N', .inl (fun _ => 0)))]) H1 → va_D A (ws ++ [(q, .inl (cA, N', .inl (fun _ => 0)))]) → va_S A H0 H1 locs →
      W p l e R s m args below meth c H1 locs (cells + 1) (slots + N') Q (F0 m (pc + 2) ls (.ref q :: rest))) : W p l e R s m args below meth c H locs cells slots Q (F0 m pc ls (.int n :: rest)) := by
  refine va_newa (atype := .int) (ty := .int) hexec hb harr rfl hK hP hD hS hA (a0 := (N', .inl (fun _ => 0))) (fun cA => rfl) hn hN hbytes hcells hslots hdg (fun q cA' H1 hK' hP' hD' hS' => ?_)
  have e : cA' = cA := Option.some.inj (((hK'.2 tys.length (cA', .int) (by simp)).2).symm.trans (hK.2 t0 _ ht).2)
  subst e
  exact kk q H1 hP' hD' hS'
theorem nx_newaJ (hexec : p.tables.exec = Jvm.exec) (hb : c.code = cc) (harr : (Cond.arrayClass .long).before args s = true) (hK : va_K D cl tys s) (hP : va_P D cl ws H) (hD : va_D A ws) (hS : va_S A H0 H locs) (hA : ∀ q, H0.size ≤ q → A q)
    (t0 : Nat) {cA : ClassId} (ht : tys[t0]? = some (cA, .long)) {n : Int32} {N' : Nat} (hn : ¬ n < 0) (hN : n.toNatClampNeg = N') (hbytes : N' * componentBytes .long ≤ 536870912) (hcells : cells + 1 ≤ R.cells) (hslots : slots + N' ≤ R.slots) (hdg : decode cc pc = .ok (.newarray .long, 2))
    (kk : ∀ (q : Nat) (H1 : Heap), va_P D cl (ws ++ [(q, .inl (cA, N', .inr (.inl (fun _ => 0))))]) H1 → va_D A (ws ++ [(q, .inl (cA, N', .inr (.inl (fun _ => 0))))]) → va_S A H0 H1 locs →
      W p l e R s m args below meth c H1 locs (cells + 1) (slots + N') Q (F0 m (pc + 2) ls (.ref q :: rest))) : W p l e R s m args below meth c H locs cells slots Q (F0 m pc ls (.int n :: rest)) := by
  refine va_newa (atype := .long) (ty := .long) hexec hb harr rfl hK hP hD hS hA (a0 := (N', .inr (.inl (fun _ => 0)))) (fun cA => rfl) hn hN hbytes hcells hslots hdg (fun q cA' H1 hK' hP' hD' hS' => ?_)
  have e : cA' = cA := Option.some.inj (((hK'.2 tys.length (cA', .long) (by simp)).2).symm.trans (hK.2 t0 _ ht).2)
  subst e
  exact kk q H1 hP' hD' hS'
theorem nx_newaZ (hexec : p.tables.exec = Jvm.exec) (hb : c.code = cc) (harr : (Cond.arrayClass .boolean).before args s = true) (hK : va_K D cl tys s) (hP : va_P D cl ws H) (hD : va_D A ws) (hS : va_S A H0 H locs) (hA : ∀ q, H0.size ≤ q → A q)
    (t0 : Nat) {cA : ClassId} (ht : tys[t0]? = some (cA, .boolean)) {n : Int32} {N' : Nat} (hn : ¬ n < 0) (hN : n.toNatClampNeg = N') (hbytes : N' * componentBytes .boolean ≤ 536870912) (hcells : cells + 1 ≤ R.cells) (hslots : slots + N' ≤ R.slots) (hdg : decode cc pc = .ok (.newarray .boolean, 2))
    (kk : ∀ (q : Nat) (H1 : Heap), va_P D cl (ws ++ [(q, .inl (cA, N', .inl (fun _ => 0)))]) H1 → va_D A (ws ++ [(q, .inl (cA, N', .inl (fun _ => 0)))]) → va_S A H0 H1 locs →
      W p l e R s m args below meth c H1 locs (cells + 1) (slots + N') Q (F0 m (pc + 2) ls (.ref q :: rest))) : W p l e R s m args below meth c H locs cells slots Q (F0 m pc ls (.int n :: rest)) := by
  refine va_newa (atype := .boolean) (ty := .boolean) hexec hb harr rfl hK hP hD hS hA (a0 := (N', .inl (fun _ => 0))) (fun cA => rfl) hn hN hbytes hcells hslots hdg (fun q cA' H1 hK' hP' hD' hS' => ?_)
  have e : cA' = cA := Option.some.inj (((hK'.2 tys.length (cA', .boolean) (by simp)).2).symm.trans (hK.2 t0 _ ht).2)
  subst e
  exact kk q H1 hP' hD' hS'
end RX
theorem good_S {own : String} {idx : Nat} {y : MethodName} {c : Cond} (h1 : Cond.methodLink own idx y ∈ wsA) (h2 : Cond.static y ∈ wsA) (h3 : Cond.initialized y.cls ∈ wsA) (h4 : c ∈ wsA) : GoodIn wsA (va_wsS own idx y (c :: wsA)) := by
  intro w hw
  rcases List.mem_append.mp (show w ∈ [Cond.methodLink own idx y, .static y, .initialized y.cls] ++ (c :: wsA) from hw) with h | h
  · simp only [List.mem_cons, List.not_mem_nil, or_false] at h
    rcases h with rfl | rfl | rfl
    · exact ⟨h1, wA_good h1⟩
    · exact ⟨h2, wA_good h2⟩
    · exact ⟨h3, wA_good h3⟩
  · exact goodA h4 w h
theorem good_V {own C : String} {idx : Nat} {y : MethodName} {c : Cond} (h1 : Cond.methodLink own idx y ∈ wsA) (h2 : Cond.instanceMethod y ∈ wsA) (h3 : Cond.selects C y y ∈ wsA) (h5 : Cond.initialized C ∈ wsA) (h4 : c ∈ wsA) : GoodIn wsA (wsV own idx C y (c :: wsA)) := by
  intro w hw
  rcases List.mem_append.mp (show w ∈ [Cond.methodLink own idx y, .instanceMethod y, .selects C y y, .initialized C] ++ (c :: wsA) from hw) with h | h
  · simp only [List.mem_cons, List.not_mem_nil, or_false] at h
    rcases h with rfl | rfl | rfl | rfl
    · exact ⟨h1, wA_good h1⟩
    · exact ⟨h2, wA_good h2⟩
    · exact ⟨h3, wA_good h3⟩
    · exact ⟨h5, wA_good h5⟩
  · exact goodA h4 w h
end
section
/-! Names: the classes' fields, the methods' names, the words in wsA, decode rows: printed by my program (wip/gen). -/
def T_NU : u_T := fun k => match k with
  | 0 => ("NetUnfolder", "net", "LNetUnfolder$Net;", true)
  | 1 => ("NetUnfolder", "prefix", "LNetUnfolder$Prefix;", true)
  | 2 => ("NetUnfolder", "latest", "LNetUnfolder$Way;", true)
  | 3 => ("NetUnfolder", "unfolding", "LNetUnfolder$Unfolding;", true)
  | _ => ("NetUnfolder", "question", "LNetUnfolder$Question;", true)
def ty_NU : Nat → FieldType := fun k => match k with
  | 0 => .object "NetUnfolder$Net"
  | 1 => .object "NetUnfolder$Prefix"
  | 2 => .object "NetUnfolder$Way"
  | 3 => .object "NetUnfolder$Unfolding"
  | _ => .object "NetUnfolder$Question"
theorem nm_NU : ∀ a, a < 5 → ∀ b, b < 5 → a ≠ b → (T_NU a).2.1 ≠ (T_NU b).2.1 := by decide +kernel
theorem ok_NU : ∀ k, k < 5 → parseFieldDescriptor (T_NU k).2.2.1 = some (ty_NU k) := by decide +kernel
def T_Ne : u_T := fun k => match k with
  | 0 => ("NetUnfolder$Net", "preset", "[I", true)
  | 1 => ("NetUnfolder$Net", "postset", "[I", true)
  | 2 => ("NetUnfolder$Net", "size", "I", false)
  | _ => ("NetUnfolder$Net", "first", "I", false)
def ty_Ne : Nat → FieldType := fun k => match k with
  | 0 => .array .int
  | 1 => .array .int
  | 2 => .int
  | _ => .int
theorem nm_Ne : ∀ a, a < 4 → ∀ b, b < 4 → a ≠ b → (T_Ne a).2.1 ≠ (T_Ne b).2.1 := by decide +kernel
theorem ok_Ne : ∀ k, k < 4 → parseFieldDescriptor (T_Ne k).2.2.1 = some (ty_Ne k) := by decide +kernel
def T_Pf : u_T := fun k => match k with
  | 0 => ("NetUnfolder$Prefix", "conditions", "I", false)
  | 1 => ("NetUnfolder$Prefix", "place", "[I", true)
  | 2 => ("NetUnfolder$Prefix", "maker", "[I", true)
  | 3 => ("NetUnfolder$Prefix", "takers", "[I", true)
  | 4 => ("NetUnfolder$Prefix", "beside", "[J", true)
  | 5 => ("NetUnfolder$Prefix", "ofPlace", "[J", true)
  | 6 => ("NetUnfolder$Prefix", "events", "I", false)
  | 7 => ("NetUnfolder$Prefix", "transition", "[I", true)
  | 8 => ("NetUnfolder$Prefix", "taken", "[J", true)
  | 9 => ("NetUnfolder$Prefix", "causes", "[I", true)
  | 10 => ("NetUnfolder$Prefix", "marking", "[I", true)
  | 11 => ("NetUnfolder$Prefix", "rank", "[J", true)
  | 12 => ("NetUnfolder$Prefix", "cutOffs", "I", false)
  | _ => ("NetUnfolder$Prefix", "whole", "Z", false)
def ty_Pf : Nat → FieldType := fun k => match k with
  | 0 => .int
  | 1 => .array .int
  | 2 => .array .int
  | 3 => .array .int
  | 4 => .array .long
  | 5 => .array .long
  | 6 => .int
  | 7 => .array .int
  | 8 => .array .long
  | 9 => .array .int
  | 10 => .array .int
  | 11 => .array .long
  | 12 => .int
  | _ => .boolean
theorem nm_Pf : ∀ a, a < 14 → ∀ b, b < 14 → a ≠ b → (T_Pf a).2.1 ≠ (T_Pf b).2.1 := by decide +kernel
theorem ok_Pf : ∀ k, k < 14 → parseFieldDescriptor (T_Pf k).2.2.1 = some (ty_Pf k) := by decide +kernel
def T_Wa : u_T := fun k => match k with
  | 0 => ("NetUnfolder$Way", "steps", "[I", true)
  | _ => ("NetUnfolder$Way", "length", "I", false)
def ty_Wa : Nat → FieldType := fun k => match k with
  | 0 => .array .int
  | _ => .int
theorem nm_Wa : ∀ a, a < 2 → ∀ b, b < 2 → a ≠ b → (T_Wa a).2.1 ≠ (T_Wa b).2.1 := by decide +kernel
theorem ok_Wa : ∀ k, k < 2 → parseFieldDescriptor (T_Wa k).2.2.1 = some (ty_Wa k) := by decide +kernel
def T_Un : u_T := fun k => match k with
  | 0 => ("NetUnfolder$Unfolding", "net", "LNetUnfolder$Net;", true)
  | 1 => ("NetUnfolder$Unfolding", "prefix", "LNetUnfolder$Prefix;", true)
  | 2 => ("NetUnfolder$Unfolding", "way", "LNetUnfolder$Way;", true)
  | _ => ("NetUnfolder$Unfolding", "possible", "LNetUnfolder$Possible;", true)
def ty_Un : Nat → FieldType := fun k => match k with
  | 0 => .object "NetUnfolder$Net"
  | 1 => .object "NetUnfolder$Prefix"
  | 2 => .object "NetUnfolder$Way"
  | _ => .object "NetUnfolder$Possible"
theorem nm_Un : ∀ a, a < 4 → ∀ b, b < 4 → a ≠ b → (T_Un a).2.1 ≠ (T_Un b).2.1 := by decide +kernel
theorem ok_Un : ∀ k, k < 4 → parseFieldDescriptor (T_Un k).2.2.1 = some (ty_Un k) := by decide +kernel
def T_Po : u_T := fun k => match k with
  | 0 => ("NetUnfolder$Possible", "prefix", "LNetUnfolder$Prefix;", true)
  | 1 => ("NetUnfolder$Possible", "size", "I", false)
  | 2 => ("NetUnfolder$Possible", "transition", "[I", true)
  | 3 => ("NetUnfolder$Possible", "taken", "[J", true)
  | _ => ("NetUnfolder$Possible", "rank", "[J", true)
def ty_Po : Nat → FieldType := fun k => match k with
  | 0 => .object "NetUnfolder$Prefix"
  | 1 => .int
  | 2 => .array .int
  | 3 => .array .long
  | _ => .array .long
theorem nm_Po : ∀ a, a < 5 → ∀ b, b < 5 → a ≠ b → (T_Po a).2.1 ≠ (T_Po b).2.1 := by decide +kernel
theorem ok_Po : ∀ k, k < 5 → parseFieldDescriptor (T_Po k).2.2.1 = some (ty_Po k) := by decide +kernel
def T_Qu : u_T := fun k => match k with
  | 0 => ("NetUnfolder$Question", "net", "LNetUnfolder$Net;", true)
  | 1 => ("NetUnfolder$Question", "prefix", "LNetUnfolder$Prefix;", true)
  | 2 => ("NetUnfolder$Question", "way", "LNetUnfolder$Way;", true)
  | 3 => ("NetUnfolder$Question", "clauses", "LNetUnfolder$Clauses;", true)
  | 4 => ("NetUnfolder$Question", "search", "LNetUnfolder$Search;", true)
  | _ => ("NetUnfolder$Question", "usable", "I", false)
def ty_Qu : Nat → FieldType := fun k => match k with
  | 0 => .object "NetUnfolder$Net"
  | 1 => .object "NetUnfolder$Prefix"
  | 2 => .object "NetUnfolder$Way"
  | 3 => .object "NetUnfolder$Clauses"
  | 4 => .object "NetUnfolder$Search"
  | _ => .int
theorem nm_Qu : ∀ a, a < 6 → ∀ b, b < 6 → a ≠ b → (T_Qu a).2.1 ≠ (T_Qu b).2.1 := by decide +kernel
theorem ok_Qu : ∀ k, k < 6 → parseFieldDescriptor (T_Qu k).2.2.1 = some (ty_Qu k) := by decide +kernel
def T_Cs : u_T := fun k => match k with
  | 0 => ("NetUnfolder$Clauses", "yes", "[J", true)
  | 1 => ("NetUnfolder$Clauses", "no", "[J", true)
  | 2 => ("NetUnfolder$Clauses", "size", "I", false)
  | _ => ("NetUnfolder$Clauses", "given", "I", false)
def ty_Cs : Nat → FieldType := fun k => match k with
  | 0 => .array .long
  | 1 => .array .long
  | 2 => .int
  | _ => .int
theorem nm_Cs : ∀ a, a < 4 → ∀ b, b < 4 → a ≠ b → (T_Cs a).2.1 ≠ (T_Cs b).2.1 := by decide +kernel
theorem ok_Cs : ∀ k, k < 4 → parseFieldDescriptor (T_Cs k).2.2.1 = some (ty_Cs k) := by decide +kernel
def T_Se : u_T := fun k => match k with
  | 0 => ("NetUnfolder$Search", "clauses", "LNetUnfolder$Clauses;", true)
  | 1 => ("NetUnfolder$Search", "yes", "J", false)
  | 2 => ("NetUnfolder$Search", "no", "J", false)
  | 3 => ("NetUnfolder$Search", "level", "I", false)
  | 4 => ("NetUnfolder$Search", "setAt", "[J", true)
  | 5 => ("NetUnfolder$Search", "trail", "[I", true)
  | 6 => ("NetUnfolder$Search", "trailSize", "I", false)
  | _ => ("NetUnfolder$Search", "reason", "[I", true)
def ty_Se : Nat → FieldType := fun k => match k with
  | 0 => .object "NetUnfolder$Clauses"
  | 1 => .long
  | 2 => .long
  | 3 => .int
  | 4 => .array .long
  | 5 => .array .int
  | 6 => .int
  | _ => .array .int
theorem nm_Se : ∀ a, a < 8 → ∀ b, b < 8 → a ≠ b → (T_Se a).2.1 ≠ (T_Se b).2.1 := by decide +kernel
theorem ok_Se : ∀ k, k < 8 → parseFieldDescriptor (T_Se k).2.2.1 = some (ty_Se k) := by decide +kernel
def T_Mo : u_T := fun k => match k with
  | 0 => ("NetUnfolderModel", "thrown", "I", false)
  | 1 => ("NetUnfolderModel", "transitions", "I", false)
  | 2 => ("NetUnfolderModel", "pre", "[I", true)
  | 3 => ("NetUnfolderModel", "post", "[I", true)
  | 4 => ("NetUnfolderModel", "first", "I", false)
  | 5 => ("NetUnfolderModel", "conditions", "I", false)
  | 6 => ("NetUnfolderModel", "place", "[I", true)
  | 7 => ("NetUnfolderModel", "maker", "[I", true)
  | 8 => ("NetUnfolderModel", "behind", "[I", true)
  | 9 => ("NetUnfolderModel", "beside", "[J", true)
  | 10 => ("NetUnfolderModel", "events", "I", false)
  | 11 => ("NetUnfolderModel", "transition", "[I", true)
  | 12 => ("NetUnfolderModel", "causes", "[I", true)
  | 13 => ("NetUnfolderModel", "taken", "[J", true)
  | 14 => ("NetUnfolderModel", "takes", "[I", true)
  | 15 => ("NetUnfolderModel", "rank", "[J", true)
  | 16 => ("NetUnfolderModel", "marking", "[I", true)
  | 17 => ("NetUnfolderModel", "cut", "[Z", true)
  | 18 => ("NetUnfolderModel", "whole", "Z", false)
  | 19 => ("NetUnfolderModel", "possible", "I", false)
  | 20 => ("NetUnfolderModel", "chosen", "[I", true)
  | 21 => ("NetUnfolderModel", "open", "[J", true)
  | 22 => ("NetUnfolderModel", "leastRank", "J", false)
  | 23 => ("NetUnfolderModel", "leastTransition", "I", false)
  | 24 => ("NetUnfolderModel", "leastMany", "I", false)
  | 25 => ("NetUnfolderModel", "least", "[I", true)
  | 26 => ("NetUnfolderModel", "length", "I", false)
  | _ => ("NetUnfolderModel", "way", "[I", true)
def ty_Mo : Nat → FieldType := fun k => match k with
  | 0 => .int
  | 1 => .int
  | 2 => .array .int
  | 3 => .array .int
  | 4 => .int
  | 5 => .int
  | 6 => .array .int
  | 7 => .array .int
  | 8 => .array .int
  | 9 => .array .long
  | 10 => .int
  | 11 => .array .int
  | 12 => .array .int
  | 13 => .array .long
  | 14 => .array .int
  | 15 => .array .long
  | 16 => .array .int
  | 17 => .array .boolean
  | 18 => .boolean
  | 19 => .int
  | 20 => .array .int
  | 21 => .array .long
  | 22 => .long
  | 23 => .int
  | 24 => .int
  | 25 => .array .int
  | 26 => .int
  | _ => .array .int
theorem nm_Mo : ∀ a, a < 28 → ∀ b, b < 28 → a ≠ b → (T_Mo a).2.1 ≠ (T_Mo b).2.1 := by decide +kernel
theorem ok_Mo : ∀ k, k < 28 → parseFieldDescriptor (T_Mo k).2.2.1 = some (ty_Mo k) := by decide +kernel
abbrev clA : List vw_C := [("NetUnfolder", T_NU, 5), ("NetUnfolder$Net", T_Ne, 4), ("NetUnfolder$Prefix", T_Pf, 14), ("NetUnfolder$Way", T_Wa, 2), ("NetUnfolder$Unfolding", T_Un, 4), ("NetUnfolder$Possible", T_Po, 5), ("NetUnfolder$Question", T_Qu, 6), ("NetUnfolder$Clauses", T_Cs, 4), ("NetUnfolder$Search", T_Se, 8), ("NetUnfolderModel", T_Mo, 28)]
abbrev y_Ne_init : MethodName := { cls := "NetUnfolder$Net", name := "<init>", desc := "()V" }
abbrev y_Wa_init : MethodName := { cls := "NetUnfolder$Way", name := "<init>", desc := "()V" }
abbrev y_Pf_init : MethodName := { cls := "NetUnfolder$Prefix", name := "<init>", desc := "()V" }
abbrev y_Po_init : MethodName := { cls := "NetUnfolder$Possible", name := "<init>", desc := "(LNetUnfolder$Prefix;)V" }
abbrev y_Un_init : MethodName := { cls := "NetUnfolder$Unfolding", name := "<init>", desc := "(LNetUnfolder$Net;LNetUnfolder$Prefix;LNetUnfolder$Way;)V" }
abbrev y_Cs_init : MethodName := { cls := "NetUnfolder$Clauses", name := "<init>", desc := "()V" }
abbrev y_Se_init : MethodName := { cls := "NetUnfolder$Search", name := "<init>", desc := "(LNetUnfolder$Clauses;)V" }
abbrev y_Qu_init : MethodName := { cls := "NetUnfolder$Question", name := "<init>", desc := "(LNetUnfolder$Net;LNetUnfolder$Prefix;LNetUnfolder$Way;)V" }
abbrev y_NU_init : MethodName := { cls := "NetUnfolder", name := "<init>", desc := "()V" }
abbrev y_Mo_init : MethodName := { cls := "NetUnfolderModel", name := "<init>", desc := "()V" }
def NwA (U : State) : Prop := va_Nw (Jvm.Cond.methodLinkNest "NetUnfolder" (9 : Nat) ({ cls := "NetUnfolder$Net", name := "<init>", desc := "()V" } : Jvm.MethodName) "NetUnfolder") U ∧ va_Nw (Jvm.Cond.methodLinkNest "NetUnfolder" (18 : Nat) ({ cls := "NetUnfolder$Prefix", name := "<init>", desc := "()V" } : Jvm.MethodName) "NetUnfolder") U ∧ va_Nw (Jvm.Cond.methodLinkNest "NetUnfolder" (25 : Nat) ({ cls := "NetUnfolder$Way", name := "<init>", desc := "()V" } : Jvm.MethodName) "NetUnfolder") U ∧ va_Nw (Jvm.Cond.methodLinkNest "NetUnfolder$Question" (11 : Nat) ({ cls := "NetUnfolder$Clauses", name := "<init>", desc := "()V" } : Jvm.MethodName) "NetUnfolder") U ∧ va_Nw (Jvm.Cond.methodLinkNest "NetUnfolder$Prefix" (63 : Nat) ({ cls := "NetUnfolder", name := "has", desc := "(JI)Z" } : Jvm.MethodName) "NetUnfolder") U ∧ va_Nw (Jvm.Cond.methodLinkNest "NetUnfolder$Unfolding" (103 : Nat) ({ cls := "NetUnfolder", name := "has", desc := "(JI)Z" } : Jvm.MethodName) "NetUnfolder") U ∧ va_Nw (Jvm.Cond.methodLinkNest "NetUnfolder$Prefix" (83 : Nat) ({ cls := "NetUnfolder", name := "least", desc := "(J)I" } : Jvm.MethodName) "NetUnfolder") U ∧ va_Nw (Jvm.Cond.methodLinkNest "NetUnfolder$Question" (42 : Nat) ({ cls := "NetUnfolder", name := "has", desc := "(JI)Z" } : Jvm.MethodName) "NetUnfolder") U ∧ va_Nw (Jvm.Cond.methodLinkNest "NetUnfolder$Search" (55 : Nat) ({ cls := "NetUnfolder", name := "least", desc := "(J)I" } : Jvm.MethodName) "NetUnfolder") U ∧ va_Nw (Jvm.Cond.methodLinkNest "NetUnfolder$Search" (30 : Nat) ({ cls := "NetUnfolder", name := "has", desc := "(JI)Z" } : Jvm.MethodName) "NetUnfolder") U
theorem NwA.warm {s U : State} (hW : s.WarmedH U.vm) (h : NwA s) : NwA U := ⟨va_Nw.warmM hW h.1, va_Nw.warmM hW h.2.1, va_Nw.warmM hW h.2.2.1, va_Nw.warmM hW h.2.2.2.1, va_Nw.warmM hW h.2.2.2.2.1, va_Nw.warmM hW h.2.2.2.2.2.1, va_Nw.warmM hW h.2.2.2.2.2.2.1, va_Nw.warmM hW h.2.2.2.2.2.2.2.1, va_Nw.warmM hW h.2.2.2.2.2.2.2.2.1, va_Nw.warmM hW h.2.2.2.2.2.2.2.2.2⟩
theorem NwA.same {u U : State} (h : u.vm = U.vm) (hN : NwA u) : NwA U := ⟨va_Nw.same rfl h hN.1, va_Nw.same rfl h hN.2.1, va_Nw.same rfl h hN.2.2.1, va_Nw.same rfl h hN.2.2.2.1, va_Nw.same rfl h hN.2.2.2.2.1, va_Nw.same rfl h hN.2.2.2.2.2.1, va_Nw.same rfl h hN.2.2.2.2.2.2.1, va_Nw.same rfl h hN.2.2.2.2.2.2.2.1, va_Nw.same rfl h hN.2.2.2.2.2.2.2.2.1, va_Nw.same rfl h hN.2.2.2.2.2.2.2.2.2⟩
set_option maxRecDepth 20000 in
theorem wd_1_2 : (Jvm.Cond.initialized "NetUnfolder$Net") ∈ wsA := wA_1 (List.mem_of_getElem? (i := 2) rfl) rfl
set_option maxRecDepth 20000 in
theorem wd_1_3 : (Jvm.Cond.initialized "NetUnfolder$Prefix") ∈ wsA := wA_1 (List.mem_of_getElem? (i := 3) rfl) rfl
set_option maxRecDepth 20000 in
theorem wd_1_4 : (Jvm.Cond.initialized "NetUnfolder$Way") ∈ wsA := wA_1 (List.mem_of_getElem? (i := 4) rfl) rfl
set_option maxRecDepth 20000 in
theorem wd_1_5 : (Jvm.Cond.initialized "NetUnfolder$Unfolding") ∈ wsA := wA_1 (List.mem_of_getElem? (i := 5) rfl) rfl
set_option maxRecDepth 20000 in
theorem wd_1_6 : (Jvm.Cond.initialized "NetUnfolder$Possible") ∈ wsA := wA_1 (List.mem_of_getElem? (i := 6) rfl) rfl
set_option maxRecDepth 20000 in
theorem wd_1_7 : (Jvm.Cond.initialized "NetUnfolder$Question") ∈ wsA := wA_1 (List.mem_of_getElem? (i := 7) rfl) rfl
set_option maxRecDepth 20000 in
theorem wd_1_8 : (Jvm.Cond.initialized "NetUnfolder$Clauses") ∈ wsA := wA_1 (List.mem_of_getElem? (i := 8) rfl) rfl
set_option maxRecDepth 20000 in
theorem wd_1_9 : (Jvm.Cond.initialized "NetUnfolder$Search") ∈ wsA := wA_1 (List.mem_of_getElem? (i := 9) rfl) rfl
set_option maxRecDepth 20000 in
theorem wd_1_24 : (Jvm.Cond.methodLink "NetUnfolder" (1 : Nat) ({ cls := "java/lang/Object", name := "<init>", desc := "()V" } : Jvm.MethodName)) ∈ wsA := wA_1 (List.mem_of_getElem? (i := 24) rfl) rfl
set_option maxRecDepth 20000 in
theorem wd_1_25 : (Jvm.Cond.instanceMethod ({ cls := "java/lang/Object", name := "<init>", desc := "()V" } : Jvm.MethodName)) ∈ wsA := wA_1 (List.mem_of_getElem? (i := 25) rfl) rfl
set_option maxRecDepth 20000 in
theorem wd_1_26 : (Jvm.Cond.code ({ cls := "java/lang/Object", name := "<init>", desc := "()V" } : Jvm.MethodName) object_method_1_code (1 : Nat) (Option.none : Option Jvm.ClassFile.FieldType)) ∈ wsA := wA_1 (List.mem_of_getElem? (i := 26) rfl) rfl
set_option maxRecDepth 20000 in
theorem wd_1_27 : (Jvm.Cond.classLink "NetUnfolder" (7 : Nat) "NetUnfolder$Net") ∈ wsA := wA_1 (List.mem_of_getElem? (i := 27) rfl) rfl
set_option maxRecDepth 20000 in
theorem wd_1_28 : (Jvm.Cond.instantiable "NetUnfolder$Net" (4 : Nat)) ∈ wsA := wA_1 (List.mem_of_getElem? (i := 28) rfl) rfl
set_option maxRecDepth 20000 in
theorem wd_1_30 : (Jvm.Cond.instanceMethod ({ cls := "NetUnfolder$Net", name := "<init>", desc := "()V" } : Jvm.MethodName)) ∈ wsA := wA_1 (List.mem_of_getElem? (i := 30) rfl) rfl
set_option maxRecDepth 20000 in
theorem wd_1_31 : (Jvm.Cond.code ({ cls := "NetUnfolder$Net", name := "<init>", desc := "()V" } : Jvm.MethodName) prog_3_method_1_code (1 : Nat) (Option.none : Option Jvm.ClassFile.FieldType)) ∈ wsA := wA_1 (List.mem_of_getElem? (i := 31) rfl) rfl
set_option maxRecDepth 20000 in
theorem wd_1_32 : (Jvm.Cond.methodLink "NetUnfolder$Net" (3 : Nat) ({ cls := "java/lang/Object", name := "<init>", desc := "()V" } : Jvm.MethodName)) ∈ wsA := wA_1 (List.mem_of_getElem? (i := 32) rfl) rfl
set_option maxRecDepth 20000 in
theorem wd_1_33 : (Jvm.Cond.fieldLink "NetUnfolder$Net" (9 : Nat) "NetUnfolder$Net" "preset" "[I") ∈ wsA := wA_1 (List.mem_of_getElem? (i := 33) rfl) rfl
set_option maxRecDepth 20000 in
theorem wd_1_36 : (Jvm.Cond.fieldLink "NetUnfolder$Net" (15 : Nat) "NetUnfolder$Net" "postset" "[I") ∈ wsA := wA_1 (List.mem_of_getElem? (i := 36) rfl) rfl
set_option maxRecDepth 20000 in
theorem wd_1_46 : (Jvm.Cond.laysFinal "NetUnfolder$Net" "NetUnfolder$Net" "preset" "[I") ∈ wsA := wA_1 (List.mem_of_getElem? (i := 46) rfl) rfl
set_option maxRecDepth 20000 in
theorem wd_1_48 : (Jvm.Cond.laysFinal "NetUnfolder$Net" "NetUnfolder$Net" "postset" "[I") ∈ wsA := wA_1 (List.mem_of_getElem? (i := 48) rfl) rfl
set_option maxRecDepth 20000 in
theorem wd_1_50 : (Jvm.Cond.lays "NetUnfolder$Net" "NetUnfolder$Net" "size" "I") ∈ wsA := wA_1 (List.mem_of_getElem? (i := 50) rfl) rfl
set_option maxRecDepth 20000 in
theorem wd_1_52 : (Jvm.Cond.lays "NetUnfolder$Net" "NetUnfolder$Net" "first" "I") ∈ wsA := wA_1 (List.mem_of_getElem? (i := 52) rfl) rfl
set_option maxRecDepth 20000 in
theorem wd_1_55 : (Jvm.Cond.arrayClass Jvm.ClassFile.FieldType.int) ∈ wsA := wA_1 (List.mem_of_getElem? (i := 55) rfl) rfl
set_option maxRecDepth 20000 in
theorem wd_1_56 : (Jvm.Cond.classLink "NetUnfolder" (16 : Nat) "NetUnfolder$Prefix") ∈ wsA := wA_1 (List.mem_of_getElem? (i := 56) rfl) rfl
set_option maxRecDepth 20000 in
theorem wd_1_57 : (Jvm.Cond.instantiable "NetUnfolder$Prefix" (14 : Nat)) ∈ wsA := wA_1 (List.mem_of_getElem? (i := 57) rfl) rfl
set_option maxRecDepth 20000 in
theorem wd_1_59 : (Jvm.Cond.instanceMethod ({ cls := "NetUnfolder$Prefix", name := "<init>", desc := "()V" } : Jvm.MethodName)) ∈ wsA := wA_1 (List.mem_of_getElem? (i := 59) rfl) rfl
set_option maxRecDepth 20000 in
theorem wd_1_60 : (Jvm.Cond.code ({ cls := "NetUnfolder$Prefix", name := "<init>", desc := "()V" } : Jvm.MethodName) prog_5_method_1_code (1 : Nat) (Option.none : Option Jvm.ClassFile.FieldType)) ∈ wsA := wA_1 (List.mem_of_getElem? (i := 60) rfl) rfl
set_option maxRecDepth 20000 in
theorem wd_1_61 : (Jvm.Cond.methodLink "NetUnfolder$Prefix" (3 : Nat) ({ cls := "java/lang/Object", name := "<init>", desc := "()V" } : Jvm.MethodName)) ∈ wsA := wA_1 (List.mem_of_getElem? (i := 61) rfl) rfl
set_option maxRecDepth 20000 in
theorem wd_1_66 : (Jvm.Cond.fieldLink "NetUnfolder$Prefix" (9 : Nat) "NetUnfolder$Prefix" "place" "[I") ∈ wsA := wA_1 (List.mem_of_getElem? (i := 66) rfl) rfl
set_option maxRecDepth 20000 in
theorem wd_1_70 : (Jvm.Cond.fieldLink "NetUnfolder$Prefix" (15 : Nat) "NetUnfolder$Prefix" "maker" "[I") ∈ wsA := wA_1 (List.mem_of_getElem? (i := 70) rfl) rfl
set_option maxRecDepth 20000 in
theorem wd_1_73 : (Jvm.Cond.fieldLink "NetUnfolder$Prefix" (18 : Nat) "NetUnfolder$Prefix" "takers" "[I") ∈ wsA := wA_1 (List.mem_of_getElem? (i := 73) rfl) rfl
set_option maxRecDepth 20000 in
theorem wd_1_76 : (Jvm.Cond.fieldLink "NetUnfolder$Prefix" (21 : Nat) "NetUnfolder$Prefix" "beside" "[J") ∈ wsA := wA_1 (List.mem_of_getElem? (i := 76) rfl) rfl
set_option maxRecDepth 20000 in
theorem wd_1_79 : (Jvm.Cond.fieldLink "NetUnfolder$Prefix" (25 : Nat) "NetUnfolder$Prefix" "ofPlace" "[J") ∈ wsA := wA_1 (List.mem_of_getElem? (i := 79) rfl) rfl
set_option maxRecDepth 20000 in
theorem wd_1_86 : (Jvm.Cond.fieldLink "NetUnfolder$Prefix" (28 : Nat) "NetUnfolder$Prefix" "transition" "[I") ∈ wsA := wA_1 (List.mem_of_getElem? (i := 86) rfl) rfl
set_option maxRecDepth 20000 in
theorem wd_1_90 : (Jvm.Cond.fieldLink "NetUnfolder$Prefix" (31 : Nat) "NetUnfolder$Prefix" "taken" "[J") ∈ wsA := wA_1 (List.mem_of_getElem? (i := 90) rfl) rfl
set_option maxRecDepth 20000 in
theorem wd_1_92 : (Jvm.Cond.fieldLink "NetUnfolder$Prefix" (34 : Nat) "NetUnfolder$Prefix" "causes" "[I") ∈ wsA := wA_1 (List.mem_of_getElem? (i := 92) rfl) rfl
set_option maxRecDepth 20000 in
theorem wd_1_95 : (Jvm.Cond.fieldLink "NetUnfolder$Prefix" (37 : Nat) "NetUnfolder$Prefix" "marking" "[I") ∈ wsA := wA_1 (List.mem_of_getElem? (i := 95) rfl) rfl
set_option maxRecDepth 20000 in
theorem wd_1_98 : (Jvm.Cond.fieldLink "NetUnfolder$Prefix" (40 : Nat) "NetUnfolder$Prefix" "rank" "[J") ∈ wsA := wA_1 (List.mem_of_getElem? (i := 98) rfl) rfl
set_option maxRecDepth 20000 in
theorem wd_1_107 : (Jvm.Cond.lays "NetUnfolder$Prefix" "NetUnfolder$Prefix" "conditions" "I") ∈ wsA := wA_1 (List.mem_of_getElem? (i := 107) rfl) rfl
set_option maxRecDepth 20000 in
theorem wd_1_109 : (Jvm.Cond.laysFinal "NetUnfolder$Prefix" "NetUnfolder$Prefix" "place" "[I") ∈ wsA := wA_1 (List.mem_of_getElem? (i := 109) rfl) rfl
set_option maxRecDepth 20000 in
theorem wd_1_111 : (Jvm.Cond.laysFinal "NetUnfolder$Prefix" "NetUnfolder$Prefix" "maker" "[I") ∈ wsA := wA_1 (List.mem_of_getElem? (i := 111) rfl) rfl
set_option maxRecDepth 20000 in
theorem wd_1_113 : (Jvm.Cond.laysFinal "NetUnfolder$Prefix" "NetUnfolder$Prefix" "takers" "[I") ∈ wsA := wA_1 (List.mem_of_getElem? (i := 113) rfl) rfl
set_option maxRecDepth 20000 in
theorem wd_1_115 : (Jvm.Cond.laysFinal "NetUnfolder$Prefix" "NetUnfolder$Prefix" "beside" "[J") ∈ wsA := wA_1 (List.mem_of_getElem? (i := 115) rfl) rfl
set_option maxRecDepth 20000 in
theorem wd_1_117 : (Jvm.Cond.laysFinal "NetUnfolder$Prefix" "NetUnfolder$Prefix" "ofPlace" "[J") ∈ wsA := wA_1 (List.mem_of_getElem? (i := 117) rfl) rfl
set_option maxRecDepth 20000 in
theorem wd_1_119 : (Jvm.Cond.lays "NetUnfolder$Prefix" "NetUnfolder$Prefix" "events" "I") ∈ wsA := wA_1 (List.mem_of_getElem? (i := 119) rfl) rfl
set_option maxRecDepth 20000 in
theorem wd_1_121 : (Jvm.Cond.laysFinal "NetUnfolder$Prefix" "NetUnfolder$Prefix" "transition" "[I") ∈ wsA := wA_1 (List.mem_of_getElem? (i := 121) rfl) rfl
set_option maxRecDepth 20000 in
theorem wd_1_123 : (Jvm.Cond.laysFinal "NetUnfolder$Prefix" "NetUnfolder$Prefix" "taken" "[J") ∈ wsA := wA_1 (List.mem_of_getElem? (i := 123) rfl) rfl
set_option maxRecDepth 20000 in
theorem wd_1_125 : (Jvm.Cond.laysFinal "NetUnfolder$Prefix" "NetUnfolder$Prefix" "causes" "[I") ∈ wsA := wA_1 (List.mem_of_getElem? (i := 125) rfl) rfl
set_option maxRecDepth 20000 in
theorem wd_1_127 : (Jvm.Cond.laysFinal "NetUnfolder$Prefix" "NetUnfolder$Prefix" "marking" "[I") ∈ wsA := wA_1 (List.mem_of_getElem? (i := 127) rfl) rfl
set_option maxRecDepth 20000 in
theorem wd_1_129 : (Jvm.Cond.laysFinal "NetUnfolder$Prefix" "NetUnfolder$Prefix" "rank" "[J") ∈ wsA := wA_1 (List.mem_of_getElem? (i := 129) rfl) rfl
set_option maxRecDepth 20000 in
theorem wd_1_131 : (Jvm.Cond.lays "NetUnfolder$Prefix" "NetUnfolder$Prefix" "cutOffs" "I") ∈ wsA := wA_1 (List.mem_of_getElem? (i := 131) rfl) rfl
set_option maxRecDepth 20000 in
theorem wd_1_133 : (Jvm.Cond.lays "NetUnfolder$Prefix" "NetUnfolder$Prefix" "whole" "Z") ∈ wsA := wA_1 (List.mem_of_getElem? (i := 133) rfl) rfl
set_option maxRecDepth 20000 in
theorem wd_1_136 : (Jvm.Cond.arrayClass Jvm.ClassFile.FieldType.long) ∈ wsA := wA_1 (List.mem_of_getElem? (i := 136) rfl) rfl
set_option maxRecDepth 20000 in
theorem wd_1_137 : (Jvm.Cond.classLink "NetUnfolder" (23 : Nat) "NetUnfolder$Way") ∈ wsA := wA_1 (List.mem_of_getElem? (i := 137) rfl) rfl
set_option maxRecDepth 20000 in
theorem wd_1_138 : (Jvm.Cond.instantiable "NetUnfolder$Way" (2 : Nat)) ∈ wsA := wA_1 (List.mem_of_getElem? (i := 138) rfl) rfl
set_option maxRecDepth 20000 in
theorem wd_1_140 : (Jvm.Cond.instanceMethod ({ cls := "NetUnfolder$Way", name := "<init>", desc := "()V" } : Jvm.MethodName)) ∈ wsA := wA_1 (List.mem_of_getElem? (i := 140) rfl) rfl
set_option maxRecDepth 20000 in
theorem wd_1_141 : (Jvm.Cond.code ({ cls := "NetUnfolder$Way", name := "<init>", desc := "()V" } : Jvm.MethodName) prog_9_method_1_code (1 : Nat) (Option.none : Option Jvm.ClassFile.FieldType)) ∈ wsA := wA_1 (List.mem_of_getElem? (i := 141) rfl) rfl
set_option maxRecDepth 20000 in
theorem wd_1_142 : (Jvm.Cond.methodLink "NetUnfolder$Way" (3 : Nat) ({ cls := "java/lang/Object", name := "<init>", desc := "()V" } : Jvm.MethodName)) ∈ wsA := wA_1 (List.mem_of_getElem? (i := 142) rfl) rfl
set_option maxRecDepth 20000 in
theorem wd_1_143 : (Jvm.Cond.fieldLink "NetUnfolder$Way" (9 : Nat) "NetUnfolder$Way" "steps" "[I") ∈ wsA := wA_1 (List.mem_of_getElem? (i := 143) rfl) rfl
set_option maxRecDepth 20000 in
theorem wd_1_144 : (Jvm.Cond.fieldLink "NetUnfolder$Way" (15 : Nat) "NetUnfolder$Way" "length" "I") ∈ wsA := wA_1 (List.mem_of_getElem? (i := 144) rfl) rfl
set_option maxRecDepth 20000 in
theorem wd_1_147 : (Jvm.Cond.laysFinal "NetUnfolder$Way" "NetUnfolder$Way" "steps" "[I") ∈ wsA := wA_1 (List.mem_of_getElem? (i := 147) rfl) rfl
set_option maxRecDepth 20000 in
theorem wd_1_149 : (Jvm.Cond.lays "NetUnfolder$Way" "NetUnfolder$Way" "length" "I") ∈ wsA := wA_1 (List.mem_of_getElem? (i := 149) rfl) rfl
set_option maxRecDepth 20000 in
theorem wd_1_152 : (Jvm.Cond.classLink "NetUnfolder" (30 : Nat) "NetUnfolder$Unfolding") ∈ wsA := wA_1 (List.mem_of_getElem? (i := 152) rfl) rfl
set_option maxRecDepth 20000 in
theorem wd_1_153 : (Jvm.Cond.instantiable "NetUnfolder$Unfolding" (4 : Nat)) ∈ wsA := wA_1 (List.mem_of_getElem? (i := 153) rfl) rfl
set_option maxRecDepth 20000 in
theorem wd_1_154 : (Jvm.Cond.methodLink "NetUnfolder" (32 : Nat) ({ cls := "NetUnfolder$Unfolding", name := "<init>", desc := "(LNetUnfolder$Net;LNetUnfolder$Prefix;LNetUnfolder$Way;)V" } : Jvm.MethodName)) ∈ wsA := wA_1 (List.mem_of_getElem? (i := 154) rfl) rfl
set_option maxRecDepth 20000 in
theorem wd_1_155 : (Jvm.Cond.instanceMethod ({ cls := "NetUnfolder$Unfolding", name := "<init>", desc := "(LNetUnfolder$Net;LNetUnfolder$Prefix;LNetUnfolder$Way;)V" } : Jvm.MethodName)) ∈ wsA := wA_1 (List.mem_of_getElem? (i := 155) rfl) rfl
set_option maxRecDepth 20000 in
theorem wd_1_156 : (Jvm.Cond.code ({ cls := "NetUnfolder$Unfolding", name := "<init>", desc := "(LNetUnfolder$Net;LNetUnfolder$Prefix;LNetUnfolder$Way;)V" } : Jvm.MethodName) prog_8_method_1_code (4 : Nat) (Option.none : Option Jvm.ClassFile.FieldType)) ∈ wsA := wA_1 (List.mem_of_getElem? (i := 156) rfl) rfl
set_option maxRecDepth 20000 in
theorem wd_1_157 : (Jvm.Cond.methodLink "NetUnfolder$Unfolding" (3 : Nat) ({ cls := "java/lang/Object", name := "<init>", desc := "()V" } : Jvm.MethodName)) ∈ wsA := wA_1 (List.mem_of_getElem? (i := 157) rfl) rfl
set_option maxRecDepth 20000 in
theorem wd_1_158 : (Jvm.Cond.classLink "NetUnfolder$Unfolding" (23 : Nat) "NetUnfolder$Possible") ∈ wsA := wA_1 (List.mem_of_getElem? (i := 158) rfl) rfl
set_option maxRecDepth 20000 in
theorem wd_1_159 : (Jvm.Cond.instantiable "NetUnfolder$Possible" (5 : Nat)) ∈ wsA := wA_1 (List.mem_of_getElem? (i := 159) rfl) rfl
set_option maxRecDepth 20000 in
theorem wd_1_160 : (Jvm.Cond.methodLink "NetUnfolder$Unfolding" (25 : Nat) ({ cls := "NetUnfolder$Possible", name := "<init>", desc := "(LNetUnfolder$Prefix;)V" } : Jvm.MethodName)) ∈ wsA := wA_1 (List.mem_of_getElem? (i := 160) rfl) rfl
set_option maxRecDepth 20000 in
theorem wd_1_161 : (Jvm.Cond.instanceMethod ({ cls := "NetUnfolder$Possible", name := "<init>", desc := "(LNetUnfolder$Prefix;)V" } : Jvm.MethodName)) ∈ wsA := wA_1 (List.mem_of_getElem? (i := 161) rfl) rfl
set_option maxRecDepth 20000 in
theorem wd_1_162 : (Jvm.Cond.code ({ cls := "NetUnfolder$Possible", name := "<init>", desc := "(LNetUnfolder$Prefix;)V" } : Jvm.MethodName) prog_4_method_1_code (2 : Nat) (Option.none : Option Jvm.ClassFile.FieldType)) ∈ wsA := wA_1 (List.mem_of_getElem? (i := 162) rfl) rfl
set_option maxRecDepth 20000 in
theorem wd_1_163 : (Jvm.Cond.methodLink "NetUnfolder$Possible" (3 : Nat) ({ cls := "java/lang/Object", name := "<init>", desc := "()V" } : Jvm.MethodName)) ∈ wsA := wA_1 (List.mem_of_getElem? (i := 163) rfl) rfl
set_option maxRecDepth 20000 in
theorem wd_1_164 : (Jvm.Cond.fieldLink "NetUnfolder$Possible" (22 : Nat) "NetUnfolder$Possible" "prefix" "LNetUnfolder$Prefix;") ∈ wsA := wA_1 (List.mem_of_getElem? (i := 164) rfl) rfl
set_option maxRecDepth 20000 in
theorem wd_1_167 : (Jvm.Cond.fieldLink "NetUnfolder$Possible" (9 : Nat) "NetUnfolder$Possible" "transition" "[I") ∈ wsA := wA_1 (List.mem_of_getElem? (i := 167) rfl) rfl
set_option maxRecDepth 20000 in
theorem wd_1_169 : (Jvm.Cond.fieldLink "NetUnfolder$Possible" (15 : Nat) "NetUnfolder$Possible" "taken" "[J") ∈ wsA := wA_1 (List.mem_of_getElem? (i := 169) rfl) rfl
set_option maxRecDepth 20000 in
theorem wd_1_171 : (Jvm.Cond.fieldLink "NetUnfolder$Possible" (19 : Nat) "NetUnfolder$Possible" "rank" "[J") ∈ wsA := wA_1 (List.mem_of_getElem? (i := 171) rfl) rfl
set_option maxRecDepth 20000 in
theorem wd_1_173 : (Jvm.Cond.laysFinal "NetUnfolder$Possible" "NetUnfolder$Possible" "prefix" "LNetUnfolder$Prefix;") ∈ wsA := wA_1 (List.mem_of_getElem? (i := 173) rfl) rfl
set_option maxRecDepth 20000 in
theorem wd_1_175 : (Jvm.Cond.lays "NetUnfolder$Possible" "NetUnfolder$Possible" "size" "I") ∈ wsA := wA_1 (List.mem_of_getElem? (i := 175) rfl) rfl
set_option maxRecDepth 20000 in
theorem wd_1_177 : (Jvm.Cond.laysFinal "NetUnfolder$Possible" "NetUnfolder$Possible" "transition" "[I") ∈ wsA := wA_1 (List.mem_of_getElem? (i := 177) rfl) rfl
set_option maxRecDepth 20000 in
theorem wd_1_179 : (Jvm.Cond.laysFinal "NetUnfolder$Possible" "NetUnfolder$Possible" "taken" "[J") ∈ wsA := wA_1 (List.mem_of_getElem? (i := 179) rfl) rfl
set_option maxRecDepth 20000 in
theorem wd_1_181 : (Jvm.Cond.laysFinal "NetUnfolder$Possible" "NetUnfolder$Possible" "rank" "[J") ∈ wsA := wA_1 (List.mem_of_getElem? (i := 181) rfl) rfl
set_option maxRecDepth 20000 in
theorem wd_1_184 : (Jvm.Cond.fieldLink "NetUnfolder$Unfolding" (9 : Nat) "NetUnfolder$Unfolding" "net" "LNetUnfolder$Net;") ∈ wsA := wA_1 (List.mem_of_getElem? (i := 184) rfl) rfl
set_option maxRecDepth 20000 in
theorem wd_1_185 : (Jvm.Cond.fieldLink "NetUnfolder$Unfolding" (15 : Nat) "NetUnfolder$Unfolding" "prefix" "LNetUnfolder$Prefix;") ∈ wsA := wA_1 (List.mem_of_getElem? (i := 185) rfl) rfl
set_option maxRecDepth 20000 in
theorem wd_1_186 : (Jvm.Cond.fieldLink "NetUnfolder$Unfolding" (19 : Nat) "NetUnfolder$Unfolding" "way" "LNetUnfolder$Way;") ∈ wsA := wA_1 (List.mem_of_getElem? (i := 186) rfl) rfl
set_option maxRecDepth 20000 in
theorem wd_1_187 : (Jvm.Cond.fieldLink "NetUnfolder$Unfolding" (28 : Nat) "NetUnfolder$Unfolding" "possible" "LNetUnfolder$Possible;") ∈ wsA := wA_1 (List.mem_of_getElem? (i := 187) rfl) rfl
set_option maxRecDepth 20000 in
theorem wd_1_188 : (Jvm.Cond.laysFinal "NetUnfolder$Unfolding" "NetUnfolder$Unfolding" "net" "LNetUnfolder$Net;") ∈ wsA := wA_1 (List.mem_of_getElem? (i := 188) rfl) rfl
set_option maxRecDepth 20000 in
theorem wd_1_190 : (Jvm.Cond.laysFinal "NetUnfolder$Unfolding" "NetUnfolder$Unfolding" "prefix" "LNetUnfolder$Prefix;") ∈ wsA := wA_1 (List.mem_of_getElem? (i := 190) rfl) rfl
set_option maxRecDepth 20000 in
theorem wd_1_192 : (Jvm.Cond.laysFinal "NetUnfolder$Unfolding" "NetUnfolder$Unfolding" "way" "LNetUnfolder$Way;") ∈ wsA := wA_1 (List.mem_of_getElem? (i := 192) rfl) rfl
set_option maxRecDepth 20000 in
theorem wd_1_194 : (Jvm.Cond.laysFinal "NetUnfolder$Unfolding" "NetUnfolder$Unfolding" "possible" "LNetUnfolder$Possible;") ∈ wsA := wA_1 (List.mem_of_getElem? (i := 194) rfl) rfl
set_option maxRecDepth 20000 in
theorem wd_1_197 : (Jvm.Cond.classLink "NetUnfolder" (39 : Nat) "NetUnfolder$Question") ∈ wsA := wA_1 (List.mem_of_getElem? (i := 197) rfl) rfl
set_option maxRecDepth 20000 in
theorem wd_1_198 : (Jvm.Cond.instantiable "NetUnfolder$Question" (6 : Nat)) ∈ wsA := wA_1 (List.mem_of_getElem? (i := 198) rfl) rfl
set_option maxRecDepth 20000 in
theorem wd_1_199 : (Jvm.Cond.methodLink "NetUnfolder" (41 : Nat) ({ cls := "NetUnfolder$Question", name := "<init>", desc := "(LNetUnfolder$Net;LNetUnfolder$Prefix;LNetUnfolder$Way;)V" } : Jvm.MethodName)) ∈ wsA := wA_1 (List.mem_of_getElem? (i := 199) rfl) rfl
set_option maxRecDepth 20000 in
theorem wd_1_200 : (Jvm.Cond.instanceMethod ({ cls := "NetUnfolder$Question", name := "<init>", desc := "(LNetUnfolder$Net;LNetUnfolder$Prefix;LNetUnfolder$Way;)V" } : Jvm.MethodName)) ∈ wsA := wA_1 (List.mem_of_getElem? (i := 200) rfl) rfl
set_option maxRecDepth 20000 in
theorem wd_1_201 : (Jvm.Cond.code ({ cls := "NetUnfolder$Question", name := "<init>", desc := "(LNetUnfolder$Net;LNetUnfolder$Prefix;LNetUnfolder$Way;)V" } : Jvm.MethodName) prog_6_method_1_code (4 : Nat) (Option.none : Option Jvm.ClassFile.FieldType)) ∈ wsA := wA_1 (List.mem_of_getElem? (i := 201) rfl) rfl
set_option maxRecDepth 20000 in
theorem wd_1_202 : (Jvm.Cond.methodLink "NetUnfolder$Question" (3 : Nat) ({ cls := "java/lang/Object", name := "<init>", desc := "()V" } : Jvm.MethodName)) ∈ wsA := wA_1 (List.mem_of_getElem? (i := 202) rfl) rfl
set_option maxRecDepth 20000 in
theorem wd_1_203 : (Jvm.Cond.classLink "NetUnfolder$Question" (9 : Nat) "NetUnfolder$Clauses") ∈ wsA := wA_1 (List.mem_of_getElem? (i := 203) rfl) rfl
set_option maxRecDepth 20000 in
theorem wd_1_204 : (Jvm.Cond.instantiable "NetUnfolder$Clauses" (4 : Nat)) ∈ wsA := wA_1 (List.mem_of_getElem? (i := 204) rfl) rfl
set_option maxRecDepth 20000 in
theorem wd_1_206 : (Jvm.Cond.instanceMethod ({ cls := "NetUnfolder$Clauses", name := "<init>", desc := "()V" } : Jvm.MethodName)) ∈ wsA := wA_1 (List.mem_of_getElem? (i := 206) rfl) rfl
set_option maxRecDepth 20000 in
theorem wd_1_207 : (Jvm.Cond.code ({ cls := "NetUnfolder$Clauses", name := "<init>", desc := "()V" } : Jvm.MethodName) prog_2_method_1_code (1 : Nat) (Option.none : Option Jvm.ClassFile.FieldType)) ∈ wsA := wA_1 (List.mem_of_getElem? (i := 207) rfl) rfl
set_option maxRecDepth 20000 in
theorem wd_1_208 : (Jvm.Cond.methodLink "NetUnfolder$Clauses" (3 : Nat) ({ cls := "java/lang/Object", name := "<init>", desc := "()V" } : Jvm.MethodName)) ∈ wsA := wA_1 (List.mem_of_getElem? (i := 208) rfl) rfl
set_option maxRecDepth 20000 in
theorem wd_1_209 : (Jvm.Cond.fieldLink "NetUnfolder$Clauses" (11 : Nat) "NetUnfolder$Clauses" "yes" "[J") ∈ wsA := wA_1 (List.mem_of_getElem? (i := 209) rfl) rfl
set_option maxRecDepth 20000 in
theorem wd_1_211 : (Jvm.Cond.fieldLink "NetUnfolder$Clauses" (15 : Nat) "NetUnfolder$Clauses" "no" "[J") ∈ wsA := wA_1 (List.mem_of_getElem? (i := 211) rfl) rfl
set_option maxRecDepth 20000 in
theorem wd_1_217 : (Jvm.Cond.laysFinal "NetUnfolder$Clauses" "NetUnfolder$Clauses" "yes" "[J") ∈ wsA := wA_1 (List.mem_of_getElem? (i := 217) rfl) rfl
set_option maxRecDepth 20000 in
theorem wd_1_219 : (Jvm.Cond.laysFinal "NetUnfolder$Clauses" "NetUnfolder$Clauses" "no" "[J") ∈ wsA := wA_1 (List.mem_of_getElem? (i := 219) rfl) rfl
set_option maxRecDepth 20000 in
theorem wd_1_221 : (Jvm.Cond.lays "NetUnfolder$Clauses" "NetUnfolder$Clauses" "size" "I") ∈ wsA := wA_1 (List.mem_of_getElem? (i := 221) rfl) rfl
set_option maxRecDepth 20000 in
theorem wd_1_223 : (Jvm.Cond.lays "NetUnfolder$Clauses" "NetUnfolder$Clauses" "given" "I") ∈ wsA := wA_1 (List.mem_of_getElem? (i := 223) rfl) rfl
set_option maxRecDepth 20000 in
theorem wd_1_226 : (Jvm.Cond.classLink "NetUnfolder$Question" (18 : Nat) "NetUnfolder$Search") ∈ wsA := wA_1 (List.mem_of_getElem? (i := 226) rfl) rfl
set_option maxRecDepth 20000 in
theorem wd_1_227 : (Jvm.Cond.instantiable "NetUnfolder$Search" (8 : Nat)) ∈ wsA := wA_1 (List.mem_of_getElem? (i := 227) rfl) rfl
set_option maxRecDepth 20000 in
theorem wd_1_228 : (Jvm.Cond.methodLink "NetUnfolder$Question" (20 : Nat) ({ cls := "NetUnfolder$Search", name := "<init>", desc := "(LNetUnfolder$Clauses;)V" } : Jvm.MethodName)) ∈ wsA := wA_1 (List.mem_of_getElem? (i := 228) rfl) rfl
set_option maxRecDepth 20000 in
theorem wd_1_229 : (Jvm.Cond.instanceMethod ({ cls := "NetUnfolder$Search", name := "<init>", desc := "(LNetUnfolder$Clauses;)V" } : Jvm.MethodName)) ∈ wsA := wA_1 (List.mem_of_getElem? (i := 229) rfl) rfl
set_option maxRecDepth 20000 in
theorem wd_1_230 : (Jvm.Cond.code ({ cls := "NetUnfolder$Search", name := "<init>", desc := "(LNetUnfolder$Clauses;)V" } : Jvm.MethodName) prog_7_method_1_code (2 : Nat) (Option.none : Option Jvm.ClassFile.FieldType)) ∈ wsA := wA_1 (List.mem_of_getElem? (i := 230) rfl) rfl
set_option maxRecDepth 20000 in
theorem wd_1_231 : (Jvm.Cond.methodLink "NetUnfolder$Search" (3 : Nat) ({ cls := "java/lang/Object", name := "<init>", desc := "()V" } : Jvm.MethodName)) ∈ wsA := wA_1 (List.mem_of_getElem? (i := 231) rfl) rfl
set_option maxRecDepth 20000 in
theorem wd_1_232 : (Jvm.Cond.fieldLink "NetUnfolder$Search" (22 : Nat) "NetUnfolder$Search" "clauses" "LNetUnfolder$Clauses;") ∈ wsA := wA_1 (List.mem_of_getElem? (i := 232) rfl) rfl
set_option maxRecDepth 20000 in
theorem wd_1_236 : (Jvm.Cond.fieldLink "NetUnfolder$Search" (11 : Nat) "NetUnfolder$Search" "setAt" "[J") ∈ wsA := wA_1 (List.mem_of_getElem? (i := 236) rfl) rfl
set_option maxRecDepth 20000 in
theorem wd_1_237 : (Jvm.Cond.fieldLink "NetUnfolder$Search" (15 : Nat) "NetUnfolder$Search" "trail" "[I") ∈ wsA := wA_1 (List.mem_of_getElem? (i := 237) rfl) rfl
set_option maxRecDepth 20000 in
theorem wd_1_239 : (Jvm.Cond.fieldLink "NetUnfolder$Search" (19 : Nat) "NetUnfolder$Search" "reason" "[I") ∈ wsA := wA_1 (List.mem_of_getElem? (i := 239) rfl) rfl
set_option maxRecDepth 20000 in
theorem wd_2_0 : (Jvm.Cond.laysFinal "NetUnfolder$Search" "NetUnfolder$Search" "clauses" "LNetUnfolder$Clauses;") ∈ wsA := wA_2 (List.mem_of_getElem? (i := 0) rfl) rfl
set_option maxRecDepth 20000 in
theorem wd_2_2 : (Jvm.Cond.lays "NetUnfolder$Search" "NetUnfolder$Search" "yes" "J") ∈ wsA := wA_2 (List.mem_of_getElem? (i := 2) rfl) rfl
set_option maxRecDepth 20000 in
theorem wd_2_4 : (Jvm.Cond.lays "NetUnfolder$Search" "NetUnfolder$Search" "no" "J") ∈ wsA := wA_2 (List.mem_of_getElem? (i := 4) rfl) rfl
set_option maxRecDepth 20000 in
theorem wd_2_6 : (Jvm.Cond.lays "NetUnfolder$Search" "NetUnfolder$Search" "level" "I") ∈ wsA := wA_2 (List.mem_of_getElem? (i := 6) rfl) rfl
set_option maxRecDepth 20000 in
theorem wd_2_8 : (Jvm.Cond.laysFinal "NetUnfolder$Search" "NetUnfolder$Search" "setAt" "[J") ∈ wsA := wA_2 (List.mem_of_getElem? (i := 8) rfl) rfl
set_option maxRecDepth 20000 in
theorem wd_2_10 : (Jvm.Cond.laysFinal "NetUnfolder$Search" "NetUnfolder$Search" "trail" "[I") ∈ wsA := wA_2 (List.mem_of_getElem? (i := 10) rfl) rfl
set_option maxRecDepth 20000 in
theorem wd_2_12 : (Jvm.Cond.lays "NetUnfolder$Search" "NetUnfolder$Search" "trailSize" "I") ∈ wsA := wA_2 (List.mem_of_getElem? (i := 12) rfl) rfl
set_option maxRecDepth 20000 in
theorem wd_2_14 : (Jvm.Cond.laysFinal "NetUnfolder$Search" "NetUnfolder$Search" "reason" "[I") ∈ wsA := wA_2 (List.mem_of_getElem? (i := 14) rfl) rfl
set_option maxRecDepth 20000 in
theorem wd_2_17 : (Jvm.Cond.fieldLink "NetUnfolder$Question" (27 : Nat) "NetUnfolder$Question" "net" "LNetUnfolder$Net;") ∈ wsA := wA_2 (List.mem_of_getElem? (i := 17) rfl) rfl
set_option maxRecDepth 20000 in
theorem wd_2_18 : (Jvm.Cond.fieldLink "NetUnfolder$Question" (31 : Nat) "NetUnfolder$Question" "prefix" "LNetUnfolder$Prefix;") ∈ wsA := wA_2 (List.mem_of_getElem? (i := 18) rfl) rfl
set_option maxRecDepth 20000 in
theorem wd_2_19 : (Jvm.Cond.fieldLink "NetUnfolder$Question" (35 : Nat) "NetUnfolder$Question" "way" "LNetUnfolder$Way;") ∈ wsA := wA_2 (List.mem_of_getElem? (i := 19) rfl) rfl
set_option maxRecDepth 20000 in
theorem wd_2_20 : (Jvm.Cond.fieldLink "NetUnfolder$Question" (12 : Nat) "NetUnfolder$Question" "clauses" "LNetUnfolder$Clauses;") ∈ wsA := wA_2 (List.mem_of_getElem? (i := 20) rfl) rfl
set_option maxRecDepth 20000 in
theorem wd_2_21 : (Jvm.Cond.fieldLink "NetUnfolder$Question" (23 : Nat) "NetUnfolder$Question" "search" "LNetUnfolder$Search;") ∈ wsA := wA_2 (List.mem_of_getElem? (i := 21) rfl) rfl
set_option maxRecDepth 20000 in
theorem wd_2_23 : (Jvm.Cond.laysFinal "NetUnfolder$Question" "NetUnfolder$Question" "net" "LNetUnfolder$Net;") ∈ wsA := wA_2 (List.mem_of_getElem? (i := 23) rfl) rfl
set_option maxRecDepth 20000 in
theorem wd_2_25 : (Jvm.Cond.laysFinal "NetUnfolder$Question" "NetUnfolder$Question" "prefix" "LNetUnfolder$Prefix;") ∈ wsA := wA_2 (List.mem_of_getElem? (i := 25) rfl) rfl
set_option maxRecDepth 20000 in
theorem wd_2_27 : (Jvm.Cond.laysFinal "NetUnfolder$Question" "NetUnfolder$Question" "way" "LNetUnfolder$Way;") ∈ wsA := wA_2 (List.mem_of_getElem? (i := 27) rfl) rfl
set_option maxRecDepth 20000 in
theorem wd_2_29 : (Jvm.Cond.laysFinal "NetUnfolder$Question" "NetUnfolder$Question" "clauses" "LNetUnfolder$Clauses;") ∈ wsA := wA_2 (List.mem_of_getElem? (i := 29) rfl) rfl
set_option maxRecDepth 20000 in
theorem wd_2_31 : (Jvm.Cond.laysFinal "NetUnfolder$Question" "NetUnfolder$Question" "search" "LNetUnfolder$Search;") ∈ wsA := wA_2 (List.mem_of_getElem? (i := 31) rfl) rfl
set_option maxRecDepth 20000 in
theorem wd_2_33 : (Jvm.Cond.lays "NetUnfolder$Question" "NetUnfolder$Question" "usable" "I") ∈ wsA := wA_2 (List.mem_of_getElem? (i := 33) rfl) rfl
set_option maxRecDepth 20000 in
theorem wd_2_36 : (Jvm.Cond.fieldLink "NetUnfolder" (10 : Nat) "NetUnfolder" "net" "LNetUnfolder$Net;") ∈ wsA := wA_2 (List.mem_of_getElem? (i := 36) rfl) rfl
set_option maxRecDepth 20000 in
theorem wd_2_37 : (Jvm.Cond.fieldLink "NetUnfolder" (19 : Nat) "NetUnfolder" "prefix" "LNetUnfolder$Prefix;") ∈ wsA := wA_2 (List.mem_of_getElem? (i := 37) rfl) rfl
set_option maxRecDepth 20000 in
theorem wd_2_38 : (Jvm.Cond.fieldLink "NetUnfolder" (26 : Nat) "NetUnfolder" "latest" "LNetUnfolder$Way;") ∈ wsA := wA_2 (List.mem_of_getElem? (i := 38) rfl) rfl
set_option maxRecDepth 20000 in
theorem wd_2_39 : (Jvm.Cond.fieldLink "NetUnfolder" (35 : Nat) "NetUnfolder" "unfolding" "LNetUnfolder$Unfolding;") ∈ wsA := wA_2 (List.mem_of_getElem? (i := 39) rfl) rfl
set_option maxRecDepth 20000 in
theorem wd_2_40 : (Jvm.Cond.fieldLink "NetUnfolder" (42 : Nat) "NetUnfolder" "question" "LNetUnfolder$Question;") ∈ wsA := wA_2 (List.mem_of_getElem? (i := 40) rfl) rfl
set_option maxRecDepth 20000 in
theorem wd_2_41 : (Jvm.Cond.laysFinal "NetUnfolder" "NetUnfolder" "net" "LNetUnfolder$Net;") ∈ wsA := wA_2 (List.mem_of_getElem? (i := 41) rfl) rfl
set_option maxRecDepth 20000 in
theorem wd_2_43 : (Jvm.Cond.laysFinal "NetUnfolder" "NetUnfolder" "prefix" "LNetUnfolder$Prefix;") ∈ wsA := wA_2 (List.mem_of_getElem? (i := 43) rfl) rfl
set_option maxRecDepth 20000 in
theorem wd_2_45 : (Jvm.Cond.laysFinal "NetUnfolder" "NetUnfolder" "latest" "LNetUnfolder$Way;") ∈ wsA := wA_2 (List.mem_of_getElem? (i := 45) rfl) rfl
set_option maxRecDepth 20000 in
theorem wd_2_47 : (Jvm.Cond.laysFinal "NetUnfolder" "NetUnfolder" "unfolding" "LNetUnfolder$Unfolding;") ∈ wsA := wA_2 (List.mem_of_getElem? (i := 47) rfl) rfl
set_option maxRecDepth 20000 in
theorem wd_2_49 : (Jvm.Cond.laysFinal "NetUnfolder" "NetUnfolder" "question" "LNetUnfolder$Question;") ∈ wsA := wA_2 (List.mem_of_getElem? (i := 49) rfl) rfl
set_option maxRecDepth 20000 in
theorem wd_3_239 : (Jvm.Cond.methodLink "NetUnfolderModel" (1 : Nat) ({ cls := "java/lang/Object", name := "<init>", desc := "()V" } : Jvm.MethodName)) ∈ wsA := wA_3 (List.mem_of_getElem? (i := 239) rfl) rfl
set_option maxRecDepth 20000 in
theorem wd_4_2 : (Jvm.Cond.fieldLink "NetUnfolderModel" (7 : Nat) "NetUnfolderModel" "pre" "[I") ∈ wsA := wA_4 (List.mem_of_getElem? (i := 2) rfl) rfl
set_option maxRecDepth 20000 in
theorem wd_4_3 : (Jvm.Cond.fieldLink "NetUnfolderModel" (13 : Nat) "NetUnfolderModel" "post" "[I") ∈ wsA := wA_4 (List.mem_of_getElem? (i := 3) rfl) rfl
set_option maxRecDepth 20000 in
theorem wd_4_6 : (Jvm.Cond.fieldLink "NetUnfolderModel" (16 : Nat) "NetUnfolderModel" "place" "[I") ∈ wsA := wA_4 (List.mem_of_getElem? (i := 6) rfl) rfl
set_option maxRecDepth 20000 in
theorem wd_4_7 : (Jvm.Cond.fieldLink "NetUnfolderModel" (19 : Nat) "NetUnfolderModel" "maker" "[I") ∈ wsA := wA_4 (List.mem_of_getElem? (i := 7) rfl) rfl
set_option maxRecDepth 20000 in
theorem wd_4_8 : (Jvm.Cond.fieldLink "NetUnfolderModel" (22 : Nat) "NetUnfolderModel" "behind" "[I") ∈ wsA := wA_4 (List.mem_of_getElem? (i := 8) rfl) rfl
set_option maxRecDepth 20000 in
theorem wd_4_9 : (Jvm.Cond.fieldLink "NetUnfolderModel" (25 : Nat) "NetUnfolderModel" "beside" "[J") ∈ wsA := wA_4 (List.mem_of_getElem? (i := 9) rfl) rfl
set_option maxRecDepth 20000 in
theorem wd_4_11 : (Jvm.Cond.fieldLink "NetUnfolderModel" (29 : Nat) "NetUnfolderModel" "transition" "[I") ∈ wsA := wA_4 (List.mem_of_getElem? (i := 11) rfl) rfl
set_option maxRecDepth 20000 in
theorem wd_4_12 : (Jvm.Cond.fieldLink "NetUnfolderModel" (32 : Nat) "NetUnfolderModel" "causes" "[I") ∈ wsA := wA_4 (List.mem_of_getElem? (i := 12) rfl) rfl
set_option maxRecDepth 20000 in
theorem wd_4_13 : (Jvm.Cond.fieldLink "NetUnfolderModel" (35 : Nat) "NetUnfolderModel" "taken" "[J") ∈ wsA := wA_4 (List.mem_of_getElem? (i := 13) rfl) rfl
set_option maxRecDepth 20000 in
theorem wd_4_14 : (Jvm.Cond.fieldLink "NetUnfolderModel" (38 : Nat) "NetUnfolderModel" "takes" "[I") ∈ wsA := wA_4 (List.mem_of_getElem? (i := 14) rfl) rfl
set_option maxRecDepth 20000 in
theorem wd_4_15 : (Jvm.Cond.fieldLink "NetUnfolderModel" (41 : Nat) "NetUnfolderModel" "rank" "[J") ∈ wsA := wA_4 (List.mem_of_getElem? (i := 15) rfl) rfl
set_option maxRecDepth 20000 in
theorem wd_4_16 : (Jvm.Cond.fieldLink "NetUnfolderModel" (44 : Nat) "NetUnfolderModel" "marking" "[I") ∈ wsA := wA_4 (List.mem_of_getElem? (i := 16) rfl) rfl
set_option maxRecDepth 20000 in
theorem wd_4_17 : (Jvm.Cond.fieldLink "NetUnfolderModel" (47 : Nat) "NetUnfolderModel" "cut" "[Z") ∈ wsA := wA_4 (List.mem_of_getElem? (i := 17) rfl) rfl
set_option maxRecDepth 20000 in
theorem wd_4_20 : (Jvm.Cond.fieldLink "NetUnfolderModel" (51 : Nat) "NetUnfolderModel" "chosen" "[I") ∈ wsA := wA_4 (List.mem_of_getElem? (i := 20) rfl) rfl
set_option maxRecDepth 20000 in
theorem wd_4_21 : (Jvm.Cond.fieldLink "NetUnfolderModel" (54 : Nat) "NetUnfolderModel" "open" "[J") ∈ wsA := wA_4 (List.mem_of_getElem? (i := 21) rfl) rfl
set_option maxRecDepth 20000 in
theorem wd_4_25 : (Jvm.Cond.fieldLink "NetUnfolderModel" (57 : Nat) "NetUnfolderModel" "least" "[I") ∈ wsA := wA_4 (List.mem_of_getElem? (i := 25) rfl) rfl
set_option maxRecDepth 20000 in
theorem wd_4_26 : (Jvm.Cond.fieldLink "NetUnfolderModel" (63 : Nat) "NetUnfolderModel" "length" "I") ∈ wsA := wA_4 (List.mem_of_getElem? (i := 26) rfl) rfl
set_option maxRecDepth 20000 in
theorem wd_4_27 : (Jvm.Cond.fieldLink "NetUnfolderModel" (60 : Nat) "NetUnfolderModel" "way" "[I") ∈ wsA := wA_4 (List.mem_of_getElem? (i := 27) rfl) rfl
set_option maxRecDepth 20000 in
theorem wd_4_28 : (Jvm.Cond.lays "NetUnfolderModel" "NetUnfolderModel" "thrown" "I") ∈ wsA := wA_4 (List.mem_of_getElem? (i := 28) rfl) rfl
set_option maxRecDepth 20000 in
theorem wd_4_30 : (Jvm.Cond.lays "NetUnfolderModel" "NetUnfolderModel" "transitions" "I") ∈ wsA := wA_4 (List.mem_of_getElem? (i := 30) rfl) rfl
set_option maxRecDepth 20000 in
theorem wd_4_32 : (Jvm.Cond.laysFinal "NetUnfolderModel" "NetUnfolderModel" "pre" "[I") ∈ wsA := wA_4 (List.mem_of_getElem? (i := 32) rfl) rfl
set_option maxRecDepth 20000 in
theorem wd_4_34 : (Jvm.Cond.laysFinal "NetUnfolderModel" "NetUnfolderModel" "post" "[I") ∈ wsA := wA_4 (List.mem_of_getElem? (i := 34) rfl) rfl
set_option maxRecDepth 20000 in
theorem wd_4_36 : (Jvm.Cond.lays "NetUnfolderModel" "NetUnfolderModel" "first" "I") ∈ wsA := wA_4 (List.mem_of_getElem? (i := 36) rfl) rfl
set_option maxRecDepth 20000 in
theorem wd_4_38 : (Jvm.Cond.lays "NetUnfolderModel" "NetUnfolderModel" "conditions" "I") ∈ wsA := wA_4 (List.mem_of_getElem? (i := 38) rfl) rfl
set_option maxRecDepth 20000 in
theorem wd_4_40 : (Jvm.Cond.laysFinal "NetUnfolderModel" "NetUnfolderModel" "place" "[I") ∈ wsA := wA_4 (List.mem_of_getElem? (i := 40) rfl) rfl
set_option maxRecDepth 20000 in
theorem wd_4_42 : (Jvm.Cond.laysFinal "NetUnfolderModel" "NetUnfolderModel" "maker" "[I") ∈ wsA := wA_4 (List.mem_of_getElem? (i := 42) rfl) rfl
set_option maxRecDepth 20000 in
theorem wd_4_44 : (Jvm.Cond.laysFinal "NetUnfolderModel" "NetUnfolderModel" "behind" "[I") ∈ wsA := wA_4 (List.mem_of_getElem? (i := 44) rfl) rfl
set_option maxRecDepth 20000 in
theorem wd_4_46 : (Jvm.Cond.laysFinal "NetUnfolderModel" "NetUnfolderModel" "beside" "[J") ∈ wsA := wA_4 (List.mem_of_getElem? (i := 46) rfl) rfl
set_option maxRecDepth 20000 in
theorem wd_4_48 : (Jvm.Cond.lays "NetUnfolderModel" "NetUnfolderModel" "events" "I") ∈ wsA := wA_4 (List.mem_of_getElem? (i := 48) rfl) rfl
set_option maxRecDepth 20000 in
theorem wd_4_50 : (Jvm.Cond.laysFinal "NetUnfolderModel" "NetUnfolderModel" "transition" "[I") ∈ wsA := wA_4 (List.mem_of_getElem? (i := 50) rfl) rfl
set_option maxRecDepth 20000 in
theorem wd_4_52 : (Jvm.Cond.laysFinal "NetUnfolderModel" "NetUnfolderModel" "causes" "[I") ∈ wsA := wA_4 (List.mem_of_getElem? (i := 52) rfl) rfl
set_option maxRecDepth 20000 in
theorem wd_4_54 : (Jvm.Cond.laysFinal "NetUnfolderModel" "NetUnfolderModel" "taken" "[J") ∈ wsA := wA_4 (List.mem_of_getElem? (i := 54) rfl) rfl
set_option maxRecDepth 20000 in
theorem wd_4_56 : (Jvm.Cond.laysFinal "NetUnfolderModel" "NetUnfolderModel" "takes" "[I") ∈ wsA := wA_4 (List.mem_of_getElem? (i := 56) rfl) rfl
set_option maxRecDepth 20000 in
theorem wd_4_58 : (Jvm.Cond.laysFinal "NetUnfolderModel" "NetUnfolderModel" "rank" "[J") ∈ wsA := wA_4 (List.mem_of_getElem? (i := 58) rfl) rfl
set_option maxRecDepth 20000 in
theorem wd_4_60 : (Jvm.Cond.laysFinal "NetUnfolderModel" "NetUnfolderModel" "marking" "[I") ∈ wsA := wA_4 (List.mem_of_getElem? (i := 60) rfl) rfl
set_option maxRecDepth 20000 in
theorem wd_4_62 : (Jvm.Cond.laysFinal "NetUnfolderModel" "NetUnfolderModel" "cut" "[Z") ∈ wsA := wA_4 (List.mem_of_getElem? (i := 62) rfl) rfl
set_option maxRecDepth 20000 in
theorem wd_4_64 : (Jvm.Cond.lays "NetUnfolderModel" "NetUnfolderModel" "whole" "Z") ∈ wsA := wA_4 (List.mem_of_getElem? (i := 64) rfl) rfl
set_option maxRecDepth 20000 in
theorem wd_4_66 : (Jvm.Cond.lays "NetUnfolderModel" "NetUnfolderModel" "possible" "I") ∈ wsA := wA_4 (List.mem_of_getElem? (i := 66) rfl) rfl
set_option maxRecDepth 20000 in
theorem wd_4_68 : (Jvm.Cond.laysFinal "NetUnfolderModel" "NetUnfolderModel" "chosen" "[I") ∈ wsA := wA_4 (List.mem_of_getElem? (i := 68) rfl) rfl
set_option maxRecDepth 20000 in
theorem wd_4_70 : (Jvm.Cond.laysFinal "NetUnfolderModel" "NetUnfolderModel" "open" "[J") ∈ wsA := wA_4 (List.mem_of_getElem? (i := 70) rfl) rfl
set_option maxRecDepth 20000 in
theorem wd_4_72 : (Jvm.Cond.lays "NetUnfolderModel" "NetUnfolderModel" "leastRank" "J") ∈ wsA := wA_4 (List.mem_of_getElem? (i := 72) rfl) rfl
set_option maxRecDepth 20000 in
theorem wd_4_74 : (Jvm.Cond.lays "NetUnfolderModel" "NetUnfolderModel" "leastTransition" "I") ∈ wsA := wA_4 (List.mem_of_getElem? (i := 74) rfl) rfl
set_option maxRecDepth 20000 in
theorem wd_4_76 : (Jvm.Cond.lays "NetUnfolderModel" "NetUnfolderModel" "leastMany" "I") ∈ wsA := wA_4 (List.mem_of_getElem? (i := 76) rfl) rfl
set_option maxRecDepth 20000 in
theorem wd_4_78 : (Jvm.Cond.laysFinal "NetUnfolderModel" "NetUnfolderModel" "least" "[I") ∈ wsA := wA_4 (List.mem_of_getElem? (i := 78) rfl) rfl
set_option maxRecDepth 20000 in
theorem wd_4_80 : (Jvm.Cond.lays "NetUnfolderModel" "NetUnfolderModel" "length" "I") ∈ wsA := wA_4 (List.mem_of_getElem? (i := 80) rfl) rfl
set_option maxRecDepth 20000 in
theorem wd_4_82 : (Jvm.Cond.laysFinal "NetUnfolderModel" "NetUnfolderModel" "way" "[I") ∈ wsA := wA_4 (List.mem_of_getElem? (i := 82) rfl) rfl
set_option maxRecDepth 20000 in
theorem wd_4_85 : (Jvm.Cond.arrayClass Jvm.ClassFile.FieldType.boolean) ∈ wsA := wA_4 (List.mem_of_getElem? (i := 85) rfl) rfl
theorem in_NU : ∀ w ∈ u_ws "NetUnfolder" T_NU 5, w ∈ wsA := by
  show ∀ w ∈ ([(Jvm.Cond.laysFinal "NetUnfolder" "NetUnfolder" "net" "LNetUnfolder$Net;"), (Jvm.Cond.laysFinal "NetUnfolder" "NetUnfolder" "prefix" "LNetUnfolder$Prefix;"), (Jvm.Cond.laysFinal "NetUnfolder" "NetUnfolder" "latest" "LNetUnfolder$Way;"), (Jvm.Cond.laysFinal "NetUnfolder" "NetUnfolder" "unfolding" "LNetUnfolder$Unfolding;"), (Jvm.Cond.laysFinal "NetUnfolder" "NetUnfolder" "question" "LNetUnfolder$Question;")] : List Cond), w ∈ wsA
  exact List.forall_mem_cons.mpr ⟨wd_2_41, List.forall_mem_cons.mpr ⟨wd_2_43, List.forall_mem_cons.mpr ⟨wd_2_45, List.forall_mem_cons.mpr ⟨wd_2_47, List.forall_mem_cons.mpr ⟨wd_2_49, fun _ h => absurd h List.not_mem_nil⟩⟩⟩⟩⟩
theorem in_Ne : ∀ w ∈ u_ws "NetUnfolder$Net" T_Ne 4, w ∈ wsA := by
  show ∀ w ∈ ([(Jvm.Cond.laysFinal "NetUnfolder$Net" "NetUnfolder$Net" "preset" "[I"), (Jvm.Cond.laysFinal "NetUnfolder$Net" "NetUnfolder$Net" "postset" "[I"), (Jvm.Cond.lays "NetUnfolder$Net" "NetUnfolder$Net" "size" "I"), (Jvm.Cond.lays "NetUnfolder$Net" "NetUnfolder$Net" "first" "I")] : List Cond), w ∈ wsA
  exact List.forall_mem_cons.mpr ⟨wd_1_46, List.forall_mem_cons.mpr ⟨wd_1_48, List.forall_mem_cons.mpr ⟨wd_1_50, List.forall_mem_cons.mpr ⟨wd_1_52, fun _ h => absurd h List.not_mem_nil⟩⟩⟩⟩
theorem in_Pf : ∀ w ∈ u_ws "NetUnfolder$Prefix" T_Pf 14, w ∈ wsA := by
  show ∀ w ∈ ([(Jvm.Cond.lays "NetUnfolder$Prefix" "NetUnfolder$Prefix" "conditions" "I"), (Jvm.Cond.laysFinal "NetUnfolder$Prefix" "NetUnfolder$Prefix" "place" "[I"), (Jvm.Cond.laysFinal "NetUnfolder$Prefix" "NetUnfolder$Prefix" "maker" "[I"), (Jvm.Cond.laysFinal "NetUnfolder$Prefix" "NetUnfolder$Prefix" "takers" "[I"), (Jvm.Cond.laysFinal "NetUnfolder$Prefix" "NetUnfolder$Prefix" "beside" "[J"), (Jvm.Cond.laysFinal "NetUnfolder$Prefix" "NetUnfolder$Prefix" "ofPlace" "[J"), (Jvm.Cond.lays "NetUnfolder$Prefix" "NetUnfolder$Prefix" "events" "I"), (Jvm.Cond.laysFinal "NetUnfolder$Prefix" "NetUnfolder$Prefix" "transition" "[I"), (Jvm.Cond.laysFinal "NetUnfolder$Prefix" "NetUnfolder$Prefix" "taken" "[J"), (Jvm.Cond.laysFinal "NetUnfolder$Prefix" "NetUnfolder$Prefix" "causes" "[I"), (Jvm.Cond.laysFinal "NetUnfolder$Prefix" "NetUnfolder$Prefix" "marking" "[I"), (Jvm.Cond.laysFinal "NetUnfolder$Prefix" "NetUnfolder$Prefix" "rank" "[J"), (Jvm.Cond.lays "NetUnfolder$Prefix" "NetUnfolder$Prefix" "cutOffs" "I"), (Jvm.Cond.lays "NetUnfolder$Prefix" "NetUnfolder$Prefix" "whole" "Z")] : List Cond), w ∈ wsA
  exact List.forall_mem_cons.mpr ⟨wd_1_107, List.forall_mem_cons.mpr ⟨wd_1_109, List.forall_mem_cons.mpr ⟨wd_1_111, List.forall_mem_cons.mpr ⟨wd_1_113, List.forall_mem_cons.mpr ⟨wd_1_115, List.forall_mem_cons.mpr ⟨wd_1_117, List.forall_mem_cons.mpr ⟨wd_1_119, List.forall_mem_cons.mpr ⟨wd_1_121, List.forall_mem_cons.mpr ⟨wd_1_123, List.forall_mem_cons.mpr ⟨wd_1_125, List.forall_mem_cons.mpr ⟨wd_1_127, List.forall_mem_cons.mpr ⟨wd_1_129, List.forall_mem_cons.mpr ⟨wd_1_131, List.forall_mem_cons.mpr ⟨wd_1_133, fun _ h => absurd h List.not_mem_nil⟩⟩⟩⟩⟩⟩⟩⟩⟩⟩⟩⟩⟩⟩
theorem in_Wa : ∀ w ∈ u_ws "NetUnfolder$Way" T_Wa 2, w ∈ wsA := by
  show ∀ w ∈ ([(Jvm.Cond.laysFinal "NetUnfolder$Way" "NetUnfolder$Way" "steps" "[I"), (Jvm.Cond.lays "NetUnfolder$Way" "NetUnfolder$Way" "length" "I")] : List Cond), w ∈ wsA
  exact List.forall_mem_cons.mpr ⟨wd_1_147, List.forall_mem_cons.mpr ⟨wd_1_149, fun _ h => absurd h List.not_mem_nil⟩⟩
theorem in_Un : ∀ w ∈ u_ws "NetUnfolder$Unfolding" T_Un 4, w ∈ wsA := by
  show ∀ w ∈ ([(Jvm.Cond.laysFinal "NetUnfolder$Unfolding" "NetUnfolder$Unfolding" "net" "LNetUnfolder$Net;"), (Jvm.Cond.laysFinal "NetUnfolder$Unfolding" "NetUnfolder$Unfolding" "prefix" "LNetUnfolder$Prefix;"), (Jvm.Cond.laysFinal "NetUnfolder$Unfolding" "NetUnfolder$Unfolding" "way" "LNetUnfolder$Way;"), (Jvm.Cond.laysFinal "NetUnfolder$Unfolding" "NetUnfolder$Unfolding" "possible" "LNetUnfolder$Possible;")] : List Cond), w ∈ wsA
  exact List.forall_mem_cons.mpr ⟨wd_1_188, List.forall_mem_cons.mpr ⟨wd_1_190, List.forall_mem_cons.mpr ⟨wd_1_192, List.forall_mem_cons.mpr ⟨wd_1_194, fun _ h => absurd h List.not_mem_nil⟩⟩⟩⟩
theorem in_Po : ∀ w ∈ u_ws "NetUnfolder$Possible" T_Po 5, w ∈ wsA := by
  show ∀ w ∈ ([(Jvm.Cond.laysFinal "NetUnfolder$Possible" "NetUnfolder$Possible" "prefix" "LNetUnfolder$Prefix;"), (Jvm.Cond.lays "NetUnfolder$Possible" "NetUnfolder$Possible" "size" "I"), (Jvm.Cond.laysFinal "NetUnfolder$Possible" "NetUnfolder$Possible" "transition" "[I"), (Jvm.Cond.laysFinal "NetUnfolder$Possible" "NetUnfolder$Possible" "taken" "[J"), (Jvm.Cond.laysFinal "NetUnfolder$Possible" "NetUnfolder$Possible" "rank" "[J")] : List Cond), w ∈ wsA
  exact List.forall_mem_cons.mpr ⟨wd_1_173, List.forall_mem_cons.mpr ⟨wd_1_175, List.forall_mem_cons.mpr ⟨wd_1_177, List.forall_mem_cons.mpr ⟨wd_1_179, List.forall_mem_cons.mpr ⟨wd_1_181, fun _ h => absurd h List.not_mem_nil⟩⟩⟩⟩⟩
theorem in_Qu : ∀ w ∈ u_ws "NetUnfolder$Question" T_Qu 6, w ∈ wsA := by
  show ∀ w ∈ ([(Jvm.Cond.laysFinal "NetUnfolder$Question" "NetUnfolder$Question" "net" "LNetUnfolder$Net;"), (Jvm.Cond.laysFinal "NetUnfolder$Question" "NetUnfolder$Question" "prefix" "LNetUnfolder$Prefix;"), (Jvm.Cond.laysFinal "NetUnfolder$Question" "NetUnfolder$Question" "way" "LNetUnfolder$Way;"), (Jvm.Cond.laysFinal "NetUnfolder$Question" "NetUnfolder$Question" "clauses" "LNetUnfolder$Clauses;"), (Jvm.Cond.laysFinal "NetUnfolder$Question" "NetUnfolder$Question" "search" "LNetUnfolder$Search;"), (Jvm.Cond.lays "NetUnfolder$Question" "NetUnfolder$Question" "usable" "I")] : List Cond), w ∈ wsA
  exact List.forall_mem_cons.mpr ⟨wd_2_23, List.forall_mem_cons.mpr ⟨wd_2_25, List.forall_mem_cons.mpr ⟨wd_2_27, List.forall_mem_cons.mpr ⟨wd_2_29, List.forall_mem_cons.mpr ⟨wd_2_31, List.forall_mem_cons.mpr ⟨wd_2_33, fun _ h => absurd h List.not_mem_nil⟩⟩⟩⟩⟩⟩
theorem in_Cs : ∀ w ∈ u_ws "NetUnfolder$Clauses" T_Cs 4, w ∈ wsA := by
  show ∀ w ∈ ([(Jvm.Cond.laysFinal "NetUnfolder$Clauses" "NetUnfolder$Clauses" "yes" "[J"), (Jvm.Cond.laysFinal "NetUnfolder$Clauses" "NetUnfolder$Clauses" "no" "[J"), (Jvm.Cond.lays "NetUnfolder$Clauses" "NetUnfolder$Clauses" "size" "I"), (Jvm.Cond.lays "NetUnfolder$Clauses" "NetUnfolder$Clauses" "given" "I")] : List Cond), w ∈ wsA
  exact List.forall_mem_cons.mpr ⟨wd_1_217, List.forall_mem_cons.mpr ⟨wd_1_219, List.forall_mem_cons.mpr ⟨wd_1_221, List.forall_mem_cons.mpr ⟨wd_1_223, fun _ h => absurd h List.not_mem_nil⟩⟩⟩⟩
theorem in_Se : ∀ w ∈ u_ws "NetUnfolder$Search" T_Se 8, w ∈ wsA := by
  show ∀ w ∈ ([(Jvm.Cond.laysFinal "NetUnfolder$Search" "NetUnfolder$Search" "clauses" "LNetUnfolder$Clauses;"), (Jvm.Cond.lays "NetUnfolder$Search" "NetUnfolder$Search" "yes" "J"), (Jvm.Cond.lays "NetUnfolder$Search" "NetUnfolder$Search" "no" "J"), (Jvm.Cond.lays "NetUnfolder$Search" "NetUnfolder$Search" "level" "I"), (Jvm.Cond.laysFinal "NetUnfolder$Search" "NetUnfolder$Search" "setAt" "[J"), (Jvm.Cond.laysFinal "NetUnfolder$Search" "NetUnfolder$Search" "trail" "[I"), (Jvm.Cond.lays "NetUnfolder$Search" "NetUnfolder$Search" "trailSize" "I"), (Jvm.Cond.laysFinal "NetUnfolder$Search" "NetUnfolder$Search" "reason" "[I")] : List Cond), w ∈ wsA
  exact List.forall_mem_cons.mpr ⟨wd_2_0, List.forall_mem_cons.mpr ⟨wd_2_2, List.forall_mem_cons.mpr ⟨wd_2_4, List.forall_mem_cons.mpr ⟨wd_2_6, List.forall_mem_cons.mpr ⟨wd_2_8, List.forall_mem_cons.mpr ⟨wd_2_10, List.forall_mem_cons.mpr ⟨wd_2_12, List.forall_mem_cons.mpr ⟨wd_2_14, fun _ h => absurd h List.not_mem_nil⟩⟩⟩⟩⟩⟩⟩⟩
theorem in_Mo : ∀ w ∈ u_ws "NetUnfolderModel" T_Mo 28, w ∈ wsA := by
  show ∀ w ∈ ([(Jvm.Cond.lays "NetUnfolderModel" "NetUnfolderModel" "thrown" "I"), (Jvm.Cond.lays "NetUnfolderModel" "NetUnfolderModel" "transitions" "I"), (Jvm.Cond.laysFinal "NetUnfolderModel" "NetUnfolderModel" "pre" "[I"), (Jvm.Cond.laysFinal "NetUnfolderModel" "NetUnfolderModel" "post" "[I"), (Jvm.Cond.lays "NetUnfolderModel" "NetUnfolderModel" "first" "I"), (Jvm.Cond.lays "NetUnfolderModel" "NetUnfolderModel" "conditions" "I"), (Jvm.Cond.laysFinal "NetUnfolderModel" "NetUnfolderModel" "place" "[I"), (Jvm.Cond.laysFinal "NetUnfolderModel" "NetUnfolderModel" "maker" "[I"), (Jvm.Cond.laysFinal "NetUnfolderModel" "NetUnfolderModel" "behind" "[I"), (Jvm.Cond.laysFinal "NetUnfolderModel" "NetUnfolderModel" "beside" "[J"), (Jvm.Cond.lays "NetUnfolderModel" "NetUnfolderModel" "events" "I"), (Jvm.Cond.laysFinal "NetUnfolderModel" "NetUnfolderModel" "transition" "[I"), (Jvm.Cond.laysFinal "NetUnfolderModel" "NetUnfolderModel" "causes" "[I"), (Jvm.Cond.laysFinal "NetUnfolderModel" "NetUnfolderModel" "taken" "[J"), (Jvm.Cond.laysFinal "NetUnfolderModel" "NetUnfolderModel" "takes" "[I"), (Jvm.Cond.laysFinal "NetUnfolderModel" "NetUnfolderModel" "rank" "[J"), (Jvm.Cond.laysFinal "NetUnfolderModel" "NetUnfolderModel" "marking" "[I"), (Jvm.Cond.laysFinal "NetUnfolderModel" "NetUnfolderModel" "cut" "[Z"), (Jvm.Cond.lays "NetUnfolderModel" "NetUnfolderModel" "whole" "Z"), (Jvm.Cond.lays "NetUnfolderModel" "NetUnfolderModel" "possible" "I"), (Jvm.Cond.laysFinal "NetUnfolderModel" "NetUnfolderModel" "chosen" "[I"), (Jvm.Cond.laysFinal "NetUnfolderModel" "NetUnfolderModel" "open" "[J"), (Jvm.Cond.lays "NetUnfolderModel" "NetUnfolderModel" "leastRank" "J"), (Jvm.Cond.lays "NetUnfolderModel" "NetUnfolderModel" "leastTransition" "I"), (Jvm.Cond.lays "NetUnfolderModel" "NetUnfolderModel" "leastMany" "I"), (Jvm.Cond.laysFinal "NetUnfolderModel" "NetUnfolderModel" "least" "[I"), (Jvm.Cond.lays "NetUnfolderModel" "NetUnfolderModel" "length" "I"), (Jvm.Cond.laysFinal "NetUnfolderModel" "NetUnfolderModel" "way" "[I")] : List Cond), w ∈ wsA
  exact List.forall_mem_cons.mpr ⟨wd_4_28, List.forall_mem_cons.mpr ⟨wd_4_30, List.forall_mem_cons.mpr ⟨wd_4_32, List.forall_mem_cons.mpr ⟨wd_4_34, List.forall_mem_cons.mpr ⟨wd_4_36, List.forall_mem_cons.mpr ⟨wd_4_38, List.forall_mem_cons.mpr ⟨wd_4_40, List.forall_mem_cons.mpr ⟨wd_4_42, List.forall_mem_cons.mpr ⟨wd_4_44, List.forall_mem_cons.mpr ⟨wd_4_46, List.forall_mem_cons.mpr ⟨wd_4_48, List.forall_mem_cons.mpr ⟨wd_4_50, List.forall_mem_cons.mpr ⟨wd_4_52, List.forall_mem_cons.mpr ⟨wd_4_54, List.forall_mem_cons.mpr ⟨wd_4_56, List.forall_mem_cons.mpr ⟨wd_4_58, List.forall_mem_cons.mpr ⟨wd_4_60, List.forall_mem_cons.mpr ⟨wd_4_62, List.forall_mem_cons.mpr ⟨wd_4_64, List.forall_mem_cons.mpr ⟨wd_4_66, List.forall_mem_cons.mpr ⟨wd_4_68, List.forall_mem_cons.mpr ⟨wd_4_70, List.forall_mem_cons.mpr ⟨wd_4_72, List.forall_mem_cons.mpr ⟨wd_4_74, List.forall_mem_cons.mpr ⟨wd_4_76, List.forall_mem_cons.mpr ⟨wd_4_78, List.forall_mem_cons.mpr ⟨wd_4_80, List.forall_mem_cons.mpr ⟨wd_4_82, fun _ h => absurd h List.not_mem_nil⟩⟩⟩⟩⟩⟩⟩⟩⟩⟩⟩⟩⟩⟩⟩⟩⟩⟩⟩⟩⟩⟩⟩⟩⟩⟩⟩⟩
end
section
theorem d_Ne_init_0 : decode prog_3_method_1_code 0 = .ok (.aload_n 0, 1) := by decide +kernel
theorem d_Ne_init_1 : decode prog_3_method_1_code 1 = .ok (.invokespecial 3, 3) := by decide +kernel
theorem d_Ne_init_4 : decode prog_3_method_1_code 4 = .ok (.aload_n 0, 1) := by decide +kernel
theorem d_Ne_init_5 : decode prog_3_method_1_code 5 = .ok (.bipush 8, 2) := by decide +kernel
theorem d_Ne_init_7 : decode prog_3_method_1_code 7 = .ok (.newarray .int, 2) := by decide +kernel
theorem d_Ne_init_9 : decode prog_3_method_1_code 9 = .ok (.putfield 9, 3) := by decide +kernel
theorem d_Ne_init_12 : decode prog_3_method_1_code 12 = .ok (.aload_n 0, 1) := by decide +kernel
theorem d_Ne_init_13 : decode prog_3_method_1_code 13 = .ok (.bipush 8, 2) := by decide +kernel
theorem d_Ne_init_15 : decode prog_3_method_1_code 15 = .ok (.newarray .int, 2) := by decide +kernel
theorem d_Ne_init_17 : decode prog_3_method_1_code 17 = .ok (.putfield 15, 3) := by decide +kernel
theorem d_Ne_init_20 : decode prog_3_method_1_code 20 = .ok (.return_, 1) := by decide +kernel
theorem d_Wa_init_0 : decode prog_9_method_1_code 0 = .ok (.aload_n 0, 1) := by decide +kernel
theorem d_Wa_init_1 : decode prog_9_method_1_code 1 = .ok (.invokespecial 3, 3) := by decide +kernel
theorem d_Wa_init_4 : decode prog_9_method_1_code 4 = .ok (.aload_n 0, 1) := by decide +kernel
theorem d_Wa_init_5 : decode prog_9_method_1_code 5 = .ok (.bipush 31, 2) := by decide +kernel
theorem d_Wa_init_7 : decode prog_9_method_1_code 7 = .ok (.newarray .int, 2) := by decide +kernel
theorem d_Wa_init_9 : decode prog_9_method_1_code 9 = .ok (.putfield 9, 3) := by decide +kernel
theorem d_Wa_init_12 : decode prog_9_method_1_code 12 = .ok (.aload_n 0, 1) := by decide +kernel
theorem d_Wa_init_13 : decode prog_9_method_1_code 13 = .ok (.iconst (-1), 1) := by decide +kernel
theorem d_Wa_init_14 : decode prog_9_method_1_code 14 = .ok (.putfield 15, 3) := by decide +kernel
theorem d_Wa_init_17 : decode prog_9_method_1_code 17 = .ok (.return_, 1) := by decide +kernel
theorem d_Pf_init_0 : decode prog_5_method_1_code 0 = .ok (.aload_n 0, 1) := by decide +kernel
theorem d_Pf_init_1 : decode prog_5_method_1_code 1 = .ok (.invokespecial 3, 3) := by decide +kernel
theorem d_Pf_init_4 : decode prog_5_method_1_code 4 = .ok (.aload_n 0, 1) := by decide +kernel
theorem d_Pf_init_5 : decode prog_5_method_1_code 5 = .ok (.bipush 60, 2) := by decide +kernel
theorem d_Pf_init_7 : decode prog_5_method_1_code 7 = .ok (.newarray .int, 2) := by decide +kernel
theorem d_Pf_init_9 : decode prog_5_method_1_code 9 = .ok (.putfield 9, 3) := by decide +kernel
theorem d_Pf_init_12 : decode prog_5_method_1_code 12 = .ok (.aload_n 0, 1) := by decide +kernel
theorem d_Pf_init_13 : decode prog_5_method_1_code 13 = .ok (.bipush 60, 2) := by decide +kernel
theorem d_Pf_init_15 : decode prog_5_method_1_code 15 = .ok (.newarray .int, 2) := by decide +kernel
theorem d_Pf_init_17 : decode prog_5_method_1_code 17 = .ok (.putfield 15, 3) := by decide +kernel
theorem d_Pf_init_20 : decode prog_5_method_1_code 20 = .ok (.aload_n 0, 1) := by decide +kernel
theorem d_Pf_init_21 : decode prog_5_method_1_code 21 = .ok (.bipush 60, 2) := by decide +kernel
theorem d_Pf_init_23 : decode prog_5_method_1_code 23 = .ok (.newarray .int, 2) := by decide +kernel
theorem d_Pf_init_25 : decode prog_5_method_1_code 25 = .ok (.putfield 18, 3) := by decide +kernel
theorem d_Pf_init_28 : decode prog_5_method_1_code 28 = .ok (.aload_n 0, 1) := by decide +kernel
theorem d_Pf_init_29 : decode prog_5_method_1_code 29 = .ok (.bipush 60, 2) := by decide +kernel
theorem d_Pf_init_31 : decode prog_5_method_1_code 31 = .ok (.newarray .long, 2) := by decide +kernel
theorem d_Pf_init_33 : decode prog_5_method_1_code 33 = .ok (.putfield 21, 3) := by decide +kernel
theorem d_Pf_init_36 : decode prog_5_method_1_code 36 = .ok (.aload_n 0, 1) := by decide +kernel
theorem d_Pf_init_37 : decode prog_5_method_1_code 37 = .ok (.bipush 8, 2) := by decide +kernel
theorem d_Pf_init_39 : decode prog_5_method_1_code 39 = .ok (.newarray .long, 2) := by decide +kernel
theorem d_Pf_init_41 : decode prog_5_method_1_code 41 = .ok (.putfield 25, 3) := by decide +kernel
theorem d_Pf_init_44 : decode prog_5_method_1_code 44 = .ok (.aload_n 0, 1) := by decide +kernel
theorem d_Pf_init_45 : decode prog_5_method_1_code 45 = .ok (.bipush 30, 2) := by decide +kernel
theorem d_Pf_init_47 : decode prog_5_method_1_code 47 = .ok (.newarray .int, 2) := by decide +kernel
theorem d_Pf_init_49 : decode prog_5_method_1_code 49 = .ok (.putfield 28, 3) := by decide +kernel
theorem d_Pf_init_52 : decode prog_5_method_1_code 52 = .ok (.aload_n 0, 1) := by decide +kernel
theorem d_Pf_init_53 : decode prog_5_method_1_code 53 = .ok (.bipush 30, 2) := by decide +kernel
theorem d_Pf_init_55 : decode prog_5_method_1_code 55 = .ok (.newarray .long, 2) := by decide +kernel
theorem d_Pf_init_57 : decode prog_5_method_1_code 57 = .ok (.putfield 31, 3) := by decide +kernel
theorem d_Pf_init_60 : decode prog_5_method_1_code 60 = .ok (.aload_n 0, 1) := by decide +kernel
theorem d_Pf_init_61 : decode prog_5_method_1_code 61 = .ok (.bipush 30, 2) := by decide +kernel
theorem d_Pf_init_63 : decode prog_5_method_1_code 63 = .ok (.newarray .int, 2) := by decide +kernel
theorem d_Pf_init_65 : decode prog_5_method_1_code 65 = .ok (.putfield 34, 3) := by decide +kernel
theorem d_Pf_init_68 : decode prog_5_method_1_code 68 = .ok (.aload_n 0, 1) := by decide +kernel
theorem d_Pf_init_69 : decode prog_5_method_1_code 69 = .ok (.bipush 30, 2) := by decide +kernel
theorem d_Pf_init_71 : decode prog_5_method_1_code 71 = .ok (.newarray .int, 2) := by decide +kernel
theorem d_Pf_init_73 : decode prog_5_method_1_code 73 = .ok (.putfield 37, 3) := by decide +kernel
theorem d_Pf_init_76 : decode prog_5_method_1_code 76 = .ok (.aload_n 0, 1) := by decide +kernel
theorem d_Pf_init_77 : decode prog_5_method_1_code 77 = .ok (.bipush 30, 2) := by decide +kernel
theorem d_Pf_init_79 : decode prog_5_method_1_code 79 = .ok (.newarray .long, 2) := by decide +kernel
theorem d_Pf_init_81 : decode prog_5_method_1_code 81 = .ok (.putfield 40, 3) := by decide +kernel
theorem d_Pf_init_84 : decode prog_5_method_1_code 84 = .ok (.return_, 1) := by decide +kernel
theorem d_Po_init_0 : decode prog_4_method_1_code 0 = .ok (.aload_n 0, 1) := by decide +kernel
theorem d_Po_init_1 : decode prog_4_method_1_code 1 = .ok (.invokespecial 3, 3) := by decide +kernel
theorem d_Po_init_4 : decode prog_4_method_1_code 4 = .ok (.aload_n 0, 1) := by decide +kernel
theorem d_Po_init_5 : decode prog_4_method_1_code 5 = .ok (.sipush 201, 3) := by decide +kernel
theorem d_Po_init_8 : decode prog_4_method_1_code 8 = .ok (.newarray .int, 2) := by decide +kernel
theorem d_Po_init_10 : decode prog_4_method_1_code 10 = .ok (.putfield 9, 3) := by decide +kernel
theorem d_Po_init_13 : decode prog_4_method_1_code 13 = .ok (.aload_n 0, 1) := by decide +kernel
theorem d_Po_init_14 : decode prog_4_method_1_code 14 = .ok (.sipush 201, 3) := by decide +kernel
theorem d_Po_init_17 : decode prog_4_method_1_code 17 = .ok (.newarray .long, 2) := by decide +kernel
theorem d_Po_init_19 : decode prog_4_method_1_code 19 = .ok (.putfield 15, 3) := by decide +kernel
theorem d_Po_init_22 : decode prog_4_method_1_code 22 = .ok (.aload_n 0, 1) := by decide +kernel
theorem d_Po_init_23 : decode prog_4_method_1_code 23 = .ok (.sipush 201, 3) := by decide +kernel
theorem d_Po_init_26 : decode prog_4_method_1_code 26 = .ok (.newarray .long, 2) := by decide +kernel
theorem d_Po_init_28 : decode prog_4_method_1_code 28 = .ok (.putfield 19, 3) := by decide +kernel
theorem d_Po_init_31 : decode prog_4_method_1_code 31 = .ok (.aload_n 0, 1) := by decide +kernel
theorem d_Po_init_32 : decode prog_4_method_1_code 32 = .ok (.aload_n 1, 1) := by decide +kernel
theorem d_Po_init_33 : decode prog_4_method_1_code 33 = .ok (.putfield 22, 3) := by decide +kernel
theorem d_Po_init_36 : decode prog_4_method_1_code 36 = .ok (.return_, 1) := by decide +kernel
theorem d_Un_init_0 : decode prog_8_method_1_code 0 = .ok (.aload_n 0, 1) := by decide +kernel
theorem d_Un_init_1 : decode prog_8_method_1_code 1 = .ok (.invokespecial 3, 3) := by decide +kernel
theorem d_Un_init_4 : decode prog_8_method_1_code 4 = .ok (.aload_n 0, 1) := by decide +kernel
theorem d_Un_init_5 : decode prog_8_method_1_code 5 = .ok (.aload_n 1, 1) := by decide +kernel
theorem d_Un_init_6 : decode prog_8_method_1_code 6 = .ok (.putfield 9, 3) := by decide +kernel
theorem d_Un_init_9 : decode prog_8_method_1_code 9 = .ok (.aload_n 0, 1) := by decide +kernel
theorem d_Un_init_10 : decode prog_8_method_1_code 10 = .ok (.aload_n 2, 1) := by decide +kernel
theorem d_Un_init_11 : decode prog_8_method_1_code 11 = .ok (.putfield 15, 3) := by decide +kernel
theorem d_Un_init_14 : decode prog_8_method_1_code 14 = .ok (.aload_n 0, 1) := by decide +kernel
theorem d_Un_init_15 : decode prog_8_method_1_code 15 = .ok (.aload_n 3, 1) := by decide +kernel
theorem d_Un_init_16 : decode prog_8_method_1_code 16 = .ok (.putfield 19, 3) := by decide +kernel
theorem d_Un_init_19 : decode prog_8_method_1_code 19 = .ok (.aload_n 0, 1) := by decide +kernel
theorem d_Un_init_20 : decode prog_8_method_1_code 20 = .ok (.new 23, 3) := by decide +kernel
theorem d_Un_init_23 : decode prog_8_method_1_code 23 = .ok (.dup, 1) := by decide +kernel
theorem d_Un_init_24 : decode prog_8_method_1_code 24 = .ok (.aload_n 2, 1) := by decide +kernel
theorem d_Un_init_25 : decode prog_8_method_1_code 25 = .ok (.invokespecial 25, 3) := by decide +kernel
theorem d_Un_init_28 : decode prog_8_method_1_code 28 = .ok (.putfield 28, 3) := by decide +kernel
theorem d_Un_init_31 : decode prog_8_method_1_code 31 = .ok (.return_, 1) := by decide +kernel
theorem d_Cs_init_0 : decode prog_2_method_1_code 0 = .ok (.aload_n 0, 1) := by decide +kernel
theorem d_Cs_init_1 : decode prog_2_method_1_code 1 = .ok (.invokespecial 3, 3) := by decide +kernel
theorem d_Cs_init_4 : decode prog_2_method_1_code 4 = .ok (.aload_n 0, 1) := by decide +kernel
theorem d_Cs_init_5 : decode prog_2_method_1_code 5 = .ok (.sipush 815, 3) := by decide +kernel
theorem d_Cs_init_8 : decode prog_2_method_1_code 8 = .ok (.newarray .long, 2) := by decide +kernel
theorem d_Cs_init_10 : decode prog_2_method_1_code 10 = .ok (.putfield 11, 3) := by decide +kernel
theorem d_Cs_init_13 : decode prog_2_method_1_code 13 = .ok (.aload_n 0, 1) := by decide +kernel
theorem d_Cs_init_14 : decode prog_2_method_1_code 14 = .ok (.sipush 815, 3) := by decide +kernel
theorem d_Cs_init_17 : decode prog_2_method_1_code 17 = .ok (.newarray .long, 2) := by decide +kernel
theorem d_Cs_init_19 : decode prog_2_method_1_code 19 = .ok (.putfield 15, 3) := by decide +kernel
theorem d_Cs_init_22 : decode prog_2_method_1_code 22 = .ok (.return_, 1) := by decide +kernel
theorem d_Se_init_0 : decode prog_7_method_1_code 0 = .ok (.aload_n 0, 1) := by decide +kernel
theorem d_Se_init_1 : decode prog_7_method_1_code 1 = .ok (.invokespecial 3, 3) := by decide +kernel
theorem d_Se_init_4 : decode prog_7_method_1_code 4 = .ok (.aload_n 0, 1) := by decide +kernel
theorem d_Se_init_5 : decode prog_7_method_1_code 5 = .ok (.bipush 39, 2) := by decide +kernel
theorem d_Se_init_7 : decode prog_7_method_1_code 7 = .ok (.newarray .long, 2) := by decide +kernel
theorem d_Se_init_9 : decode prog_7_method_1_code 9 = .ok (.putfield 11, 3) := by decide +kernel
theorem d_Se_init_12 : decode prog_7_method_1_code 12 = .ok (.aload_n 0, 1) := by decide +kernel
theorem d_Se_init_13 : decode prog_7_method_1_code 13 = .ok (.bipush 38, 2) := by decide +kernel
theorem d_Se_init_15 : decode prog_7_method_1_code 15 = .ok (.newarray .int, 2) := by decide +kernel
theorem d_Se_init_17 : decode prog_7_method_1_code 17 = .ok (.putfield 15, 3) := by decide +kernel
theorem d_Se_init_20 : decode prog_7_method_1_code 20 = .ok (.aload_n 0, 1) := by decide +kernel
theorem d_Se_init_21 : decode prog_7_method_1_code 21 = .ok (.bipush 38, 2) := by decide +kernel
theorem d_Se_init_23 : decode prog_7_method_1_code 23 = .ok (.newarray .int, 2) := by decide +kernel
theorem d_Se_init_25 : decode prog_7_method_1_code 25 = .ok (.putfield 19, 3) := by decide +kernel
theorem d_Se_init_28 : decode prog_7_method_1_code 28 = .ok (.aload_n 0, 1) := by decide +kernel
theorem d_Se_init_29 : decode prog_7_method_1_code 29 = .ok (.aload_n 1, 1) := by decide +kernel
theorem d_Se_init_30 : decode prog_7_method_1_code 30 = .ok (.putfield 22, 3) := by decide +kernel
theorem d_Se_init_33 : decode prog_7_method_1_code 33 = .ok (.return_, 1) := by decide +kernel
theorem d_Qu_init_0 : decode prog_6_method_1_code 0 = .ok (.aload_n 0, 1) := by decide +kernel
theorem d_Qu_init_1 : decode prog_6_method_1_code 1 = .ok (.invokespecial 3, 3) := by decide +kernel
theorem d_Qu_init_4 : decode prog_6_method_1_code 4 = .ok (.aload_n 0, 1) := by decide +kernel
theorem d_Qu_init_5 : decode prog_6_method_1_code 5 = .ok (.new 9, 3) := by decide +kernel
theorem d_Qu_init_8 : decode prog_6_method_1_code 8 = .ok (.dup, 1) := by decide +kernel
theorem d_Qu_init_9 : decode prog_6_method_1_code 9 = .ok (.invokespecial 11, 3) := by decide +kernel
theorem d_Qu_init_12 : decode prog_6_method_1_code 12 = .ok (.putfield 12, 3) := by decide +kernel
theorem d_Qu_init_15 : decode prog_6_method_1_code 15 = .ok (.aload_n 0, 1) := by decide +kernel
theorem d_Qu_init_16 : decode prog_6_method_1_code 16 = .ok (.new 18, 3) := by decide +kernel
theorem d_Qu_init_19 : decode prog_6_method_1_code 19 = .ok (.dup, 1) := by decide +kernel
theorem d_Qu_init_20 : decode prog_6_method_1_code 20 = .ok (.aload_n 0, 1) := by decide +kernel
theorem d_Qu_init_21 : decode prog_6_method_1_code 21 = .ok (.getfield 12, 3) := by decide +kernel
theorem d_Qu_init_24 : decode prog_6_method_1_code 24 = .ok (.invokespecial 20, 3) := by decide +kernel
theorem d_Qu_init_27 : decode prog_6_method_1_code 27 = .ok (.putfield 23, 3) := by decide +kernel
theorem d_Qu_init_30 : decode prog_6_method_1_code 30 = .ok (.aload_n 0, 1) := by decide +kernel
theorem d_Qu_init_31 : decode prog_6_method_1_code 31 = .ok (.aload_n 1, 1) := by decide +kernel
theorem d_Qu_init_32 : decode prog_6_method_1_code 32 = .ok (.putfield 27, 3) := by decide +kernel
theorem d_Qu_init_35 : decode prog_6_method_1_code 35 = .ok (.aload_n 0, 1) := by decide +kernel
theorem d_Qu_init_36 : decode prog_6_method_1_code 36 = .ok (.aload_n 2, 1) := by decide +kernel
theorem d_Qu_init_37 : decode prog_6_method_1_code 37 = .ok (.putfield 31, 3) := by decide +kernel
theorem d_Qu_init_40 : decode prog_6_method_1_code 40 = .ok (.aload_n 0, 1) := by decide +kernel
theorem d_Qu_init_41 : decode prog_6_method_1_code 41 = .ok (.aload_n 3, 1) := by decide +kernel
theorem d_Qu_init_42 : decode prog_6_method_1_code 42 = .ok (.putfield 35, 3) := by decide +kernel
theorem d_Qu_init_45 : decode prog_6_method_1_code 45 = .ok (.return_, 1) := by decide +kernel
theorem d_NU_init_0 : decode prog_1_method_1_code 0 = .ok (.aload_n 0, 1) := by decide +kernel
theorem d_NU_init_1 : decode prog_1_method_1_code 1 = .ok (.invokespecial 1, 3) := by decide +kernel
theorem d_NU_init_4 : decode prog_1_method_1_code 4 = .ok (.aload_n 0, 1) := by decide +kernel
theorem d_NU_init_5 : decode prog_1_method_1_code 5 = .ok (.new 7, 3) := by decide +kernel
theorem d_NU_init_8 : decode prog_1_method_1_code 8 = .ok (.dup, 1) := by decide +kernel
theorem d_NU_init_9 : decode prog_1_method_1_code 9 = .ok (.invokespecial 9, 3) := by decide +kernel
theorem d_NU_init_12 : decode prog_1_method_1_code 12 = .ok (.putfield 10, 3) := by decide +kernel
theorem d_NU_init_15 : decode prog_1_method_1_code 15 = .ok (.aload_n 0, 1) := by decide +kernel
theorem d_NU_init_16 : decode prog_1_method_1_code 16 = .ok (.new 16, 3) := by decide +kernel
theorem d_NU_init_19 : decode prog_1_method_1_code 19 = .ok (.dup, 1) := by decide +kernel
theorem d_NU_init_20 : decode prog_1_method_1_code 20 = .ok (.invokespecial 18, 3) := by decide +kernel
theorem d_NU_init_23 : decode prog_1_method_1_code 23 = .ok (.putfield 19, 3) := by decide +kernel
theorem d_NU_init_26 : decode prog_1_method_1_code 26 = .ok (.aload_n 0, 1) := by decide +kernel
theorem d_NU_init_27 : decode prog_1_method_1_code 27 = .ok (.new 23, 3) := by decide +kernel
theorem d_NU_init_30 : decode prog_1_method_1_code 30 = .ok (.dup, 1) := by decide +kernel
theorem d_NU_init_31 : decode prog_1_method_1_code 31 = .ok (.invokespecial 25, 3) := by decide +kernel
theorem d_NU_init_34 : decode prog_1_method_1_code 34 = .ok (.putfield 26, 3) := by decide +kernel
theorem d_NU_init_37 : decode prog_1_method_1_code 37 = .ok (.aload_n 0, 1) := by decide +kernel
theorem d_NU_init_38 : decode prog_1_method_1_code 38 = .ok (.new 30, 3) := by decide +kernel
theorem d_NU_init_41 : decode prog_1_method_1_code 41 = .ok (.dup, 1) := by decide +kernel
theorem d_NU_init_42 : decode prog_1_method_1_code 42 = .ok (.aload_n 0, 1) := by decide +kernel
theorem d_NU_init_43 : decode prog_1_method_1_code 43 = .ok (.getfield 10, 3) := by decide +kernel
theorem d_NU_init_46 : decode prog_1_method_1_code 46 = .ok (.aload_n 0, 1) := by decide +kernel
theorem d_NU_init_47 : decode prog_1_method_1_code 47 = .ok (.getfield 19, 3) := by decide +kernel
theorem d_NU_init_50 : decode prog_1_method_1_code 50 = .ok (.aload_n 0, 1) := by decide +kernel
theorem d_NU_init_51 : decode prog_1_method_1_code 51 = .ok (.getfield 26, 3) := by decide +kernel
theorem d_NU_init_54 : decode prog_1_method_1_code 54 = .ok (.invokespecial 32, 3) := by decide +kernel
theorem d_NU_init_57 : decode prog_1_method_1_code 57 = .ok (.putfield 35, 3) := by decide +kernel
theorem d_NU_init_60 : decode prog_1_method_1_code 60 = .ok (.aload_n 0, 1) := by decide +kernel
theorem d_NU_init_61 : decode prog_1_method_1_code 61 = .ok (.new 39, 3) := by decide +kernel
theorem d_NU_init_64 : decode prog_1_method_1_code 64 = .ok (.dup, 1) := by decide +kernel
theorem d_NU_init_65 : decode prog_1_method_1_code 65 = .ok (.aload_n 0, 1) := by decide +kernel
theorem d_NU_init_66 : decode prog_1_method_1_code 66 = .ok (.getfield 10, 3) := by decide +kernel
theorem d_NU_init_69 : decode prog_1_method_1_code 69 = .ok (.aload_n 0, 1) := by decide +kernel
theorem d_NU_init_70 : decode prog_1_method_1_code 70 = .ok (.getfield 19, 3) := by decide +kernel
theorem d_NU_init_73 : decode prog_1_method_1_code 73 = .ok (.aload_n 0, 1) := by decide +kernel
theorem d_NU_init_74 : decode prog_1_method_1_code 74 = .ok (.getfield 26, 3) := by decide +kernel
theorem d_NU_init_77 : decode prog_1_method_1_code 77 = .ok (.invokespecial 41, 3) := by decide +kernel
theorem d_NU_init_80 : decode prog_1_method_1_code 80 = .ok (.putfield 42, 3) := by decide +kernel
theorem d_NU_init_83 : decode prog_1_method_1_code 83 = .ok (.return_, 1) := by decide +kernel
theorem d_Mo_init_0 : decode prog_11_method_1_code 0 = .ok (.aload_n 0, 1) := by decide +kernel
theorem d_Mo_init_1 : decode prog_11_method_1_code 1 = .ok (.invokespecial 1, 3) := by decide +kernel
theorem d_Mo_init_4 : decode prog_11_method_1_code 4 = .ok (.aload_n 0, 1) := by decide +kernel
theorem d_Mo_init_5 : decode prog_11_method_1_code 5 = .ok (.bipush 8, 2) := by decide +kernel
theorem d_Mo_init_7 : decode prog_11_method_1_code 7 = .ok (.newarray .int, 2) := by decide +kernel
theorem d_Mo_init_9 : decode prog_11_method_1_code 9 = .ok (.putfield 7, 3) := by decide +kernel
theorem d_Mo_init_12 : decode prog_11_method_1_code 12 = .ok (.aload_n 0, 1) := by decide +kernel
theorem d_Mo_init_13 : decode prog_11_method_1_code 13 = .ok (.bipush 8, 2) := by decide +kernel
theorem d_Mo_init_15 : decode prog_11_method_1_code 15 = .ok (.newarray .int, 2) := by decide +kernel
theorem d_Mo_init_17 : decode prog_11_method_1_code 17 = .ok (.putfield 13, 3) := by decide +kernel
theorem d_Mo_init_20 : decode prog_11_method_1_code 20 = .ok (.aload_n 0, 1) := by decide +kernel
theorem d_Mo_init_21 : decode prog_11_method_1_code 21 = .ok (.bipush 60, 2) := by decide +kernel
theorem d_Mo_init_23 : decode prog_11_method_1_code 23 = .ok (.newarray .int, 2) := by decide +kernel
theorem d_Mo_init_25 : decode prog_11_method_1_code 25 = .ok (.putfield 16, 3) := by decide +kernel
theorem d_Mo_init_28 : decode prog_11_method_1_code 28 = .ok (.aload_n 0, 1) := by decide +kernel
theorem d_Mo_init_29 : decode prog_11_method_1_code 29 = .ok (.bipush 60, 2) := by decide +kernel
theorem d_Mo_init_31 : decode prog_11_method_1_code 31 = .ok (.newarray .int, 2) := by decide +kernel
theorem d_Mo_init_33 : decode prog_11_method_1_code 33 = .ok (.putfield 19, 3) := by decide +kernel
theorem d_Mo_init_36 : decode prog_11_method_1_code 36 = .ok (.aload_n 0, 1) := by decide +kernel
theorem d_Mo_init_37 : decode prog_11_method_1_code 37 = .ok (.bipush 60, 2) := by decide +kernel
theorem d_Mo_init_39 : decode prog_11_method_1_code 39 = .ok (.newarray .int, 2) := by decide +kernel
theorem d_Mo_init_41 : decode prog_11_method_1_code 41 = .ok (.putfield 22, 3) := by decide +kernel
theorem d_Mo_init_44 : decode prog_11_method_1_code 44 = .ok (.aload_n 0, 1) := by decide +kernel
theorem d_Mo_init_45 : decode prog_11_method_1_code 45 = .ok (.bipush 60, 2) := by decide +kernel
theorem d_Mo_init_47 : decode prog_11_method_1_code 47 = .ok (.newarray .long, 2) := by decide +kernel
theorem d_Mo_init_49 : decode prog_11_method_1_code 49 = .ok (.putfield 25, 3) := by decide +kernel
theorem d_Mo_init_52 : decode prog_11_method_1_code 52 = .ok (.aload_n 0, 1) := by decide +kernel
theorem d_Mo_init_53 : decode prog_11_method_1_code 53 = .ok (.bipush 30, 2) := by decide +kernel
theorem d_Mo_init_55 : decode prog_11_method_1_code 55 = .ok (.newarray .int, 2) := by decide +kernel
theorem d_Mo_init_57 : decode prog_11_method_1_code 57 = .ok (.putfield 29, 3) := by decide +kernel
theorem d_Mo_init_60 : decode prog_11_method_1_code 60 = .ok (.aload_n 0, 1) := by decide +kernel
theorem d_Mo_init_61 : decode prog_11_method_1_code 61 = .ok (.bipush 30, 2) := by decide +kernel
theorem d_Mo_init_63 : decode prog_11_method_1_code 63 = .ok (.newarray .int, 2) := by decide +kernel
theorem d_Mo_init_65 : decode prog_11_method_1_code 65 = .ok (.putfield 32, 3) := by decide +kernel
theorem d_Mo_init_68 : decode prog_11_method_1_code 68 = .ok (.aload_n 0, 1) := by decide +kernel
theorem d_Mo_init_69 : decode prog_11_method_1_code 69 = .ok (.bipush 30, 2) := by decide +kernel
theorem d_Mo_init_71 : decode prog_11_method_1_code 71 = .ok (.newarray .long, 2) := by decide +kernel
theorem d_Mo_init_73 : decode prog_11_method_1_code 73 = .ok (.putfield 35, 3) := by decide +kernel
theorem d_Mo_init_76 : decode prog_11_method_1_code 76 = .ok (.aload_n 0, 1) := by decide +kernel
theorem d_Mo_init_77 : decode prog_11_method_1_code 77 = .ok (.sipush 240, 3) := by decide +kernel
theorem d_Mo_init_80 : decode prog_11_method_1_code 80 = .ok (.newarray .int, 2) := by decide +kernel
theorem d_Mo_init_82 : decode prog_11_method_1_code 82 = .ok (.putfield 38, 3) := by decide +kernel
theorem d_Mo_init_85 : decode prog_11_method_1_code 85 = .ok (.aload_n 0, 1) := by decide +kernel
theorem d_Mo_init_86 : decode prog_11_method_1_code 86 = .ok (.bipush 30, 2) := by decide +kernel
theorem d_Mo_init_88 : decode prog_11_method_1_code 88 = .ok (.newarray .long, 2) := by decide +kernel
theorem d_Mo_init_90 : decode prog_11_method_1_code 90 = .ok (.putfield 41, 3) := by decide +kernel
theorem d_Mo_init_93 : decode prog_11_method_1_code 93 = .ok (.aload_n 0, 1) := by decide +kernel
theorem d_Mo_init_94 : decode prog_11_method_1_code 94 = .ok (.bipush 30, 2) := by decide +kernel
theorem d_Mo_init_96 : decode prog_11_method_1_code 96 = .ok (.newarray .int, 2) := by decide +kernel
theorem d_Mo_init_98 : decode prog_11_method_1_code 98 = .ok (.putfield 44, 3) := by decide +kernel
theorem d_Mo_init_101 : decode prog_11_method_1_code 101 = .ok (.aload_n 0, 1) := by decide +kernel
theorem d_Mo_init_102 : decode prog_11_method_1_code 102 = .ok (.bipush 30, 2) := by decide +kernel
theorem d_Mo_init_104 : decode prog_11_method_1_code 104 = .ok (.newarray .boolean, 2) := by decide +kernel
theorem d_Mo_init_106 : decode prog_11_method_1_code 106 = .ok (.putfield 47, 3) := by decide +kernel
theorem d_Mo_init_109 : decode prog_11_method_1_code 109 = .ok (.aload_n 0, 1) := by decide +kernel
theorem d_Mo_init_110 : decode prog_11_method_1_code 110 = .ok (.bipush 8, 2) := by decide +kernel
theorem d_Mo_init_112 : decode prog_11_method_1_code 112 = .ok (.newarray .int, 2) := by decide +kernel
theorem d_Mo_init_114 : decode prog_11_method_1_code 114 = .ok (.putfield 51, 3) := by decide +kernel
theorem d_Mo_init_117 : decode prog_11_method_1_code 117 = .ok (.aload_n 0, 1) := by decide +kernel
theorem d_Mo_init_118 : decode prog_11_method_1_code 118 = .ok (.bipush 9, 2) := by decide +kernel
theorem d_Mo_init_120 : decode prog_11_method_1_code 120 = .ok (.newarray .long, 2) := by decide +kernel
theorem d_Mo_init_122 : decode prog_11_method_1_code 122 = .ok (.putfield 54, 3) := by decide +kernel
theorem d_Mo_init_125 : decode prog_11_method_1_code 125 = .ok (.aload_n 0, 1) := by decide +kernel
theorem d_Mo_init_126 : decode prog_11_method_1_code 126 = .ok (.bipush 8, 2) := by decide +kernel
theorem d_Mo_init_128 : decode prog_11_method_1_code 128 = .ok (.newarray .int, 2) := by decide +kernel
theorem d_Mo_init_130 : decode prog_11_method_1_code 130 = .ok (.putfield 57, 3) := by decide +kernel
theorem d_Mo_init_133 : decode prog_11_method_1_code 133 = .ok (.aload_n 0, 1) := by decide +kernel
theorem d_Mo_init_134 : decode prog_11_method_1_code 134 = .ok (.bipush 62, 2) := by decide +kernel
theorem d_Mo_init_136 : decode prog_11_method_1_code 136 = .ok (.newarray .int, 2) := by decide +kernel
theorem d_Mo_init_138 : decode prog_11_method_1_code 138 = .ok (.putfield 60, 3) := by decide +kernel
theorem d_Mo_init_141 : decode prog_11_method_1_code 141 = .ok (.aload_n 0, 1) := by decide +kernel
theorem d_Mo_init_142 : decode prog_11_method_1_code 142 = .ok (.iconst (-1), 1) := by decide +kernel
theorem d_Mo_init_143 : decode prog_11_method_1_code 143 = .ok (.putfield 63, 3) := by decide +kernel
theorem d_Mo_init_146 : decode prog_11_method_1_code 146 = .ok (.return_, 1) := by decide +kernel
end
section
set_option maxHeartbeats 4000000 in
set_option maxRecDepth 100000 in
theorem c_Ne_init (l : Launch) (dC : Nat → ClassId) (dI : Nat → Nat → Nat) (cI cL cZ : ClassId) (sz : Nat) (h0 : Nat) : Met l y_Ne_init (Cond.code y_Ne_init prog_3_method_1_code 1 none :: wsA) { frames := 1, cells := 2, slots := 16, locals := 12 } (va_Pc [.ref h0] (fun U => U.heap.size = sz ∧ va_P (dC, dI) clA [(h0, .inr (1, [.null, .null, .int 0, .int 0]))] U.heap ∧ va_K (dC, dI) clA [(cI, .int), (cL, .long), (cZ, .boolean)] U ∧ va_D (fun _ => True) [(h0, .inr (1, [.null, .null, .int 0, .int 0]))] ∧ NwA U)) (va_Qv (fun _ : Unit => True) (fun _ t => ∃ q1 q4 : Nat, va_P (dC, dI) clA [(h0, .inr (1, [.ref q1, .ref q4, .int 0, .int 0])), (q1, .inl (cI, 8, .inl (fun _ => 0))), (q4, .inl (cI, 8, .inl (fun _ => 0)))] t.heap ∧ va_D (va_A [(h0, .inr (1, [.null, .null, .int 0, .int 0]))] sz) [(h0, .inr (1, [.ref q1, .ref q4, .int 0, .int 0])), (q1, .inl (cI, 8, .inl (fun _ => 0))), (q4, .inl (cI, 8, .inl (fun _ => 0)))]) (va_A [(h0, .inr (1, [.null, .null, .int 0, .int 0]))] sz)) 2 16 (va_A [(h0, .inr (1, [.null, .null, .int 0, .int 0]))] sz) := by
  refine Met.ofW (cc := prog_3_method_1_code) (maxL := 1) (ret := none) (by decide) rfl ?_
  intro p e s m args below meth c s₁ B hml hv
  obtain ⟨rfl, hsz, hP, hK, hD0, hN⟩ := hv
  have hx := B.exec
  have hb := B.bytes
  have hr := B.returns
  have ht : ∀ w ∈ wsA, w.before _ s = true := fun w h => atoms_spec (ws := (Cond.code y_Ne_init prog_3_method_1_code 1 none :: wsA)) B.pre w (List.mem_cons_of_mem _ h)
  have hown : s.vm.findClass "NetUnfolder$Net" = some m.cls := findClass_of_methodNamed B.named
  have hlocks := B.notSynchronized
  have hin : meth.name = "<init>" := (name_of_methodNamed B.named B.method).1
  subst hsz
  have hD := hD0.self (sz := s.heap.size)
  generalize hAe : va_A [(h0, .inr (1, [.null, .null, .int 0, .int 0]))] s.heap.size = A at hD ⊢
  have hA : ∀ q : Nat, s.heap.size ≤ q → A q := fun q h => by rw [← hAe]; exact Or.inr h
  have hS : va_S A s.heap s.heap [] := va_S.rf
  have hl := lv_entry ([.ref h0]) (n := 1) (Nat.le_of_ble_eq_true rfl)
  rw [lg_entry_eq]
  generalize (lg_sl ([.ref h0]) ++ List.replicate (1 - (lg_sl ([.ref h0])).length) Slot.unset).toArray = ls at hl ⊢
  replace hl : lv_has ls 1 [(0, .ref h0)] := hl
  refine lv_aload_n hx hb d_Ne_init_0 rfl (lv_at hl 0 rfl) ?_
  refine W.objInit hx hb hown (ht (.methodLink "NetUnfolder$Net" 3 Lib.objectInit) wd_1_32) (ht (.instanceMethod Lib.objectInit) wd_1_25) (ht (.code Lib.objectInit ⟨#[0xb1]⟩ 1 none) wd_1_26) rfl (by rw [hml]; exact hl.1) rfl d_Ne_init_1 (Nat.le_of_ble_eq_true rfl) (Nat.le_of_ble_eq_true rfl) ?_
  refine W.eq (g2 := F0 m 4 ls []) rfl ?_
  refine lv_aload_n hx hb d_Ne_init_4 rfl (lv_at hl 0 rfl) ?_
  refine lv_bipush (v := 8) hx hb d_Ne_init_5 (by decide) ?_
  refine nx_newaI hx hb (ht _ wd_1_55) hK hP hD hS hA 0 rfl (N' := 8) (by decide) (by decide) (Nat.le_of_ble_eq_true rfl) (Nat.le_of_ble_eq_true rfl) (Nat.le_of_ble_eq_true rfl) d_Ne_init_7 (fun q1 H2 hPn hDn hSn => ?_)
  replace hP : va_P (dC, dI) clA [(h0, .inr (1, [.null, .null, .int 0, .int 0])), (q1, .inl (cI, 8, .inl (fun _ => 0)))] H2 := hPn
  replace hD : va_D A [(h0, .inr (1, [.null, .null, .int 0, .int 0])), (q1, .inl (cI, 8, .inl (fun _ => 0)))] := hDn
  replace hS := hSn
  clear hPn hDn hSn
  refine W.cs (cells' := 1) (slots' := 8) rfl rfl ?_
  refine va_putF (D := (dC, dI)) (ci := 1) (v := .ref q1) (ty := .array .int) (C := "NetUnfolder$Net") (T := T_Ne) (N := 4) hx hb ht in_Ne ty_Ne ok_Ne nm_Ne hown hK hP hD hS 0 rfl rfl 0 (by decide) (ht _ wd_1_33) (fun _ h9 => h9) rfl hin rfl (by decide +kernel) rfl rfl (Nat.le_of_ble_eq_true rfl) d_Ne_init_9 (fun H3 locs hPn hDn hSn => ?_)
  replace hP : va_P (dC, dI) clA [(h0, .inr (1, [.ref q1, .null, .int 0, .int 0])), (q1, .inl (cI, 8, .inl (fun _ => 0)))] H3 := hPn
  replace hD : va_D A [(h0, .inr (1, [.ref q1, .null, .int 0, .int 0])), (q1, .inl (cI, 8, .inl (fun _ => 0)))] := hDn
  replace hS := hSn
  clear hPn hDn hSn
  refine lv_aload_n hx hb d_Ne_init_12 rfl (lv_at hl 0 rfl) ?_
  refine lv_bipush (v := 8) hx hb d_Ne_init_13 (by decide) ?_
  refine nx_newaI hx hb (ht _ wd_1_55) hK hP hD hS hA 0 rfl (N' := 8) (by decide) (by decide) (Nat.le_of_ble_eq_true rfl) (Nat.le_of_ble_eq_true rfl) (Nat.le_of_ble_eq_true rfl) d_Ne_init_15 (fun q4 H5 hPn hDn hSn => ?_)
  replace hP : va_P (dC, dI) clA [(h0, .inr (1, [.ref q1, .null, .int 0, .int 0])), (q1, .inl (cI, 8, .inl (fun _ => 0))), (q4, .inl (cI, 8, .inl (fun _ => 0)))] H5 := hPn
  replace hD : va_D A [(h0, .inr (1, [.ref q1, .null, .int 0, .int 0])), (q1, .inl (cI, 8, .inl (fun _ => 0))), (q4, .inl (cI, 8, .inl (fun _ => 0)))] := hDn
  replace hS := hSn
  clear hPn hDn hSn
  refine W.cs (cells' := 2) (slots' := 16) rfl rfl ?_
  refine va_putF (D := (dC, dI)) (ci := 1) (v := .ref q4) (ty := .array .int) (C := "NetUnfolder$Net") (T := T_Ne) (N := 4) hx hb ht in_Ne ty_Ne ok_Ne nm_Ne hown hK hP hD hS 0 rfl rfl 1 (by decide) (ht _ wd_1_36) (fun _ h9 => h9) rfl hin rfl (by decide +kernel) rfl rfl (Nat.le_of_ble_eq_true rfl) d_Ne_init_17 (fun H6 locs hPn hDn hSn => ?_)
  replace hP : va_P (dC, dI) clA [(h0, .inr (1, [.ref q1, .ref q4, .int 0, .int 0])), (q1, .inl (cI, 8, .inl (fun _ => 0))), (q4, .inl (cI, 8, .inl (fun _ => 0)))] H6 := hPn
  replace hD : va_D A [(h0, .inr (1, [.ref q1, .ref q4, .int 0, .int 0])), (q1, .inl (cI, 8, .inl (fun _ => 0))), (q4, .inl (cI, 8, .inl (fun _ => 0)))] := hDn
  replace hS := hSn
  clear hPn hDn hSn
  have hP9 := hP.sub (ws' := [(h0, .inr (1, [.ref q1, .ref q4, .int 0, .int 0])), (q1, .inl (cI, 8, .inl (fun _ => 0))), (q4, .inl (cI, 8, .inl (fun _ => 0)))]) [0, 1, 2] rfl
  have hD9 := hD.sub (ws' := [(h0, .inr (1, [.ref q1, .ref q4, .int 0, .int 0])), (q1, .inl (cI, 8, .inl (fun _ => 0))), (q4, .inl (cI, 8, .inl (fun _ => 0)))]) [0, 1, 2] (by decide) rfl
  exact W.vret hx hb hr (fun t ht9 hW => ⟨⟨(), rfl, trivial, q1, q4, by rw [ht9]; exact hP9, hD9⟩, hS.F ht9⟩) hS.2.2 d_Ne_init_20

set_option maxHeartbeats 4000000 in
set_option maxRecDepth 100000 in
theorem c_Wa_init (l : Launch) (dC : Nat → ClassId) (dI : Nat → Nat → Nat) (cI cL cZ : ClassId) (sz : Nat) (h0 : Nat) : Met l y_Wa_init (Cond.code y_Wa_init prog_9_method_1_code 1 none :: wsA) { frames := 1, cells := 1, slots := 31, locals := 12 } (va_Pc [.ref h0] (fun U => U.heap.size = sz ∧ va_P (dC, dI) clA [(h0, .inr (3, [.null, .int 0]))] U.heap ∧ va_K (dC, dI) clA [(cI, .int), (cL, .long), (cZ, .boolean)] U ∧ va_D (fun _ => True) [(h0, .inr (3, [.null, .int 0]))] ∧ NwA U)) (va_Qv (fun _ : Unit => True) (fun _ t => ∃ q1 : Nat, va_P (dC, dI) clA [(h0, .inr (3, [.ref q1, .int (-1)])), (q1, .inl (cI, 31, .inl (fun _ => 0)))] t.heap ∧ va_D (va_A [(h0, .inr (3, [.null, .int 0]))] sz) [(h0, .inr (3, [.ref q1, .int (-1)])), (q1, .inl (cI, 31, .inl (fun _ => 0)))]) (va_A [(h0, .inr (3, [.null, .int 0]))] sz)) 1 31 (va_A [(h0, .inr (3, [.null, .int 0]))] sz) := by
  refine Met.ofW (cc := prog_9_method_1_code) (maxL := 1) (ret := none) (by decide) rfl ?_
  intro p e s m args below meth c s₁ B hml hv
  obtain ⟨rfl, hsz, hP, hK, hD0, hN⟩ := hv
  have hx := B.exec
  have hb := B.bytes
  have hr := B.returns
  have ht : ∀ w ∈ wsA, w.before _ s = true := fun w h => atoms_spec (ws := (Cond.code y_Wa_init prog_9_method_1_code 1 none :: wsA)) B.pre w (List.mem_cons_of_mem _ h)
  have hown : s.vm.findClass "NetUnfolder$Way" = some m.cls := findClass_of_methodNamed B.named
  have hlocks := B.notSynchronized
  have hin : meth.name = "<init>" := (name_of_methodNamed B.named B.method).1
  subst hsz
  have hD := hD0.self (sz := s.heap.size)
  generalize hAe : va_A [(h0, .inr (3, [.null, .int 0]))] s.heap.size = A at hD ⊢
  have hA : ∀ q : Nat, s.heap.size ≤ q → A q := fun q h => by rw [← hAe]; exact Or.inr h
  have hS : va_S A s.heap s.heap [] := va_S.rf
  have hl := lv_entry ([.ref h0]) (n := 1) (Nat.le_of_ble_eq_true rfl)
  rw [lg_entry_eq]
  generalize (lg_sl ([.ref h0]) ++ List.replicate (1 - (lg_sl ([.ref h0])).length) Slot.unset).toArray = ls at hl ⊢
  replace hl : lv_has ls 1 [(0, .ref h0)] := hl
  refine lv_aload_n hx hb d_Wa_init_0 rfl (lv_at hl 0 rfl) ?_
  refine W.objInit hx hb hown (ht (.methodLink "NetUnfolder$Way" 3 Lib.objectInit) wd_1_142) (ht (.instanceMethod Lib.objectInit) wd_1_25) (ht (.code Lib.objectInit ⟨#[0xb1]⟩ 1 none) wd_1_26) rfl (by rw [hml]; exact hl.1) rfl d_Wa_init_1 (Nat.le_of_ble_eq_true rfl) (Nat.le_of_ble_eq_true rfl) ?_
  refine W.eq (g2 := F0 m 4 ls []) rfl ?_
  refine lv_aload_n hx hb d_Wa_init_4 rfl (lv_at hl 0 rfl) ?_
  refine lv_bipush (v := 31) hx hb d_Wa_init_5 (by decide) ?_
  refine nx_newaI hx hb (ht _ wd_1_55) hK hP hD hS hA 0 rfl (N' := 31) (by decide) (by decide) (Nat.le_of_ble_eq_true rfl) (Nat.le_of_ble_eq_true rfl) (Nat.le_of_ble_eq_true rfl) d_Wa_init_7 (fun q1 H2 hPn hDn hSn => ?_)
  replace hP : va_P (dC, dI) clA [(h0, .inr (3, [.null, .int 0])), (q1, .inl (cI, 31, .inl (fun _ => 0)))] H2 := hPn
  replace hD : va_D A [(h0, .inr (3, [.null, .int 0])), (q1, .inl (cI, 31, .inl (fun _ => 0)))] := hDn
  replace hS := hSn
  clear hPn hDn hSn
  refine W.cs (cells' := 1) (slots' := 31) rfl rfl ?_
  refine va_putF (D := (dC, dI)) (ci := 3) (v := .ref q1) (ty := .array .int) (C := "NetUnfolder$Way") (T := T_Wa) (N := 2) hx hb ht in_Wa ty_Wa ok_Wa nm_Wa hown hK hP hD hS 0 rfl rfl 0 (by decide) (ht _ wd_1_143) (fun _ h9 => h9) rfl hin rfl (by decide +kernel) rfl rfl (Nat.le_of_ble_eq_true rfl) d_Wa_init_9 (fun H3 locs hPn hDn hSn => ?_)
  replace hP : va_P (dC, dI) clA [(h0, .inr (3, [.ref q1, .int 0])), (q1, .inl (cI, 31, .inl (fun _ => 0)))] H3 := hPn
  replace hD : va_D A [(h0, .inr (3, [.ref q1, .int 0])), (q1, .inl (cI, 31, .inl (fun _ => 0)))] := hDn
  replace hS := hSn
  clear hPn hDn hSn
  refine lv_aload_n hx hb d_Wa_init_12 rfl (lv_at hl 0 rfl) ?_
  refine lv_iconst (v := (-1)) hx hb d_Wa_init_13 (by decide) ?_
  refine va_put (D := (dC, dI)) (ci := 3) (v := .int (-1)) (ty := .int) (C := "NetUnfolder$Way") (T := T_Wa) (N := 2) hx hb ht in_Wa ty_Wa ok_Wa nm_Wa hown hK hP hD hS 0 rfl rfl 1 (by decide) (ht _ wd_1_144) (fun _ h9 => h9) rfl (by decide +kernel) rfl rfl (Nat.le_of_ble_eq_true rfl) d_Wa_init_14 (fun H4 locs hPn hDn hSn => ?_)
  replace hP : va_P (dC, dI) clA [(h0, .inr (3, [.ref q1, .int (-1)])), (q1, .inl (cI, 31, .inl (fun _ => 0)))] H4 := hPn
  replace hD : va_D A [(h0, .inr (3, [.ref q1, .int (-1)])), (q1, .inl (cI, 31, .inl (fun _ => 0)))] := hDn
  replace hS := hSn
  clear hPn hDn hSn
  have hP9 := hP.sub (ws' := [(h0, .inr (3, [.ref q1, .int (-1)])), (q1, .inl (cI, 31, .inl (fun _ => 0)))]) [0, 1] rfl
  have hD9 := hD.sub (ws' := [(h0, .inr (3, [.ref q1, .int (-1)])), (q1, .inl (cI, 31, .inl (fun _ => 0)))]) [0, 1] (by decide) rfl
  exact W.vret hx hb hr (fun t ht9 hW => ⟨⟨(), rfl, trivial, q1, by rw [ht9]; exact hP9, hD9⟩, hS.F ht9⟩) hS.2.2 d_Wa_init_17

set_option maxHeartbeats 4000000 in
set_option maxRecDepth 100000 in
theorem c_Pf_init (l : Launch) (dC : Nat → ClassId) (dI : Nat → Nat → Nat) (cI cL cZ : ClassId) (sz : Nat) (h0 : Nat) : Met l y_Pf_init (Cond.code y_Pf_init prog_5_method_1_code 1 none :: wsA) { frames := 1, cells := 10, slots := 398, locals := 12 } (va_Pc [.ref h0] (fun U => U.heap.size = sz ∧ va_P (dC, dI) clA [(h0, .inr (2, [.int 0, .null, .null, .null, .null, .null, .int 0, .null, .null, .null, .null, .null, .int 0, .int 0]))] U.heap ∧ va_K (dC, dI) clA [(cI, .int), (cL, .long), (cZ, .boolean)] U ∧ va_D (fun _ => True) [(h0, .inr (2, [.int 0, .null, .null, .null, .null, .null, .int 0, .null, .null, .null, .null, .null, .int 0, .int 0]))] ∧ NwA U)) (va_Qv (fun _ : Unit => True) (fun _ t => ∃ q1 q4 q7 q10 q13 q16 q19 q22 q25 q28 : Nat, va_P (dC, dI) clA [(h0, .inr (2, [.int 0, .ref q1, .ref q4, .ref q7, .ref q10, .ref q13, .int 0, .ref q16, .ref q19, .ref q22, .ref q25, .ref q28, .int 0, .int 0])), (q1, .inl (cI, 60, .inl (fun _ => 0))), (q4, .inl (cI, 60, .inl (fun _ => 0))), (q7, .inl (cI, 60, .inl (fun _ => 0))), (q10, .inl (cL, 60, .inr (.inl (fun _ => 0)))), (q13, .inl (cL, 8, .inr (.inl (fun _ => 0)))), (q16, .inl (cI, 30, .inl (fun _ => 0))), (q19, .inl (cL, 30, .inr (.inl (fun _ => 0)))), (q22, .inl (cI, 30, .inl (fun _ => 0))), (q25, .inl (cI, 30, .inl (fun _ => 0))), (q28, .inl (cL, 30, .inr (.inl (fun _ => 0))))] t.heap ∧ va_D (va_A [(h0, .inr (2, [.int 0, .null, .null, .null, .null, .null, .int 0, .null, .null, .null, .null, .null, .int 0, .int 0]))] sz) [(h0, .inr (2, [.int 0, .ref q1, .ref q4, .ref q7, .ref q10, .ref q13, .int 0, .ref q16, .ref q19, .ref q22, .ref q25, .ref q28, .int 0, .int 0])), (q1, .inl (cI, 60, .inl (fun _ => 0))), (q4, .inl (cI, 60, .inl (fun _ => 0))), (q7, .inl (cI, 60, .inl (fun _ => 0))), (q10, .inl (cL, 60, .inr (.inl (fun _ => 0)))), (q13, .inl (cL, 8, .inr (.inl (fun _ => 0)))), (q16, .inl (cI, 30, .inl (fun _ => 0))), (q19, .inl (cL, 30, .inr (.inl (fun _ => 0)))), (q22, .inl (cI, 30, .inl (fun _ => 0))), (q25, .inl (cI, 30, .inl (fun _ => 0))), (q28, .inl (cL, 30, .inr (.inl (fun _ => 0))))]) (va_A [(h0, .inr (2, [.int 0, .null, .null, .null, .null, .null, .int 0, .null, .null, .null, .null, .null, .int 0, .int 0]))] sz)) 10 398 (va_A [(h0, .inr (2, [.int 0, .null, .null, .null, .null, .null, .int 0, .null, .null, .null, .null, .null, .int 0, .int 0]))] sz) := by
  refine Met.ofW (cc := prog_5_method_1_code) (maxL := 1) (ret := none) (by decide) rfl ?_
  intro p e s m args below meth c s₁ B hml hv
  obtain ⟨rfl, hsz, hP, hK, hD0, hN⟩ := hv
  have hx := B.exec
  have hb := B.bytes
  have hr := B.returns
  have ht : ∀ w ∈ wsA, w.before _ s = true := fun w h => atoms_spec (ws := (Cond.code y_Pf_init prog_5_method_1_code 1 none :: wsA)) B.pre w (List.mem_cons_of_mem _ h)
  have hown : s.vm.findClass "NetUnfolder$Prefix" = some m.cls := findClass_of_methodNamed B.named
  have hlocks := B.notSynchronized
  have hin : meth.name = "<init>" := (name_of_methodNamed B.named B.method).1
  subst hsz
  have hD := hD0.self (sz := s.heap.size)
  generalize hAe : va_A [(h0, .inr (2, [.int 0, .null, .null, .null, .null, .null, .int 0, .null, .null, .null, .null, .null, .int 0, .int 0]))] s.heap.size = A at hD ⊢
  have hA : ∀ q : Nat, s.heap.size ≤ q → A q := fun q h => by rw [← hAe]; exact Or.inr h
  have hS : va_S A s.heap s.heap [] := va_S.rf
  have hl := lv_entry ([.ref h0]) (n := 1) (Nat.le_of_ble_eq_true rfl)
  rw [lg_entry_eq]
  generalize (lg_sl ([.ref h0]) ++ List.replicate (1 - (lg_sl ([.ref h0])).length) Slot.unset).toArray = ls at hl ⊢
  replace hl : lv_has ls 1 [(0, .ref h0)] := hl
  refine lv_aload_n hx hb d_Pf_init_0 rfl (lv_at hl 0 rfl) ?_
  refine W.objInit hx hb hown (ht (.methodLink "NetUnfolder$Prefix" 3 Lib.objectInit) wd_1_61) (ht (.instanceMethod Lib.objectInit) wd_1_25) (ht (.code Lib.objectInit ⟨#[0xb1]⟩ 1 none) wd_1_26) rfl (by rw [hml]; exact hl.1) rfl d_Pf_init_1 (Nat.le_of_ble_eq_true rfl) (Nat.le_of_ble_eq_true rfl) ?_
  refine W.eq (g2 := F0 m 4 ls []) rfl ?_
  refine lv_aload_n hx hb d_Pf_init_4 rfl (lv_at hl 0 rfl) ?_
  refine lv_bipush (v := 60) hx hb d_Pf_init_5 (by decide) ?_
  refine nx_newaI hx hb (ht _ wd_1_55) hK hP hD hS hA 0 rfl (N' := 60) (by decide) (by decide) (Nat.le_of_ble_eq_true rfl) (Nat.le_of_ble_eq_true rfl) (Nat.le_of_ble_eq_true rfl) d_Pf_init_7 (fun q1 H2 hPn hDn hSn => ?_)
  replace hP : va_P (dC, dI) clA [(h0, .inr (2, [.int 0, .null, .null, .null, .null, .null, .int 0, .null, .null, .null, .null, .null, .int 0, .int 0])), (q1, .inl (cI, 60, .inl (fun _ => 0)))] H2 := hPn
  replace hD : va_D A [(h0, .inr (2, [.int 0, .null, .null, .null, .null, .null, .int 0, .null, .null, .null, .null, .null, .int 0, .int 0])), (q1, .inl (cI, 60, .inl (fun _ => 0)))] := hDn
  replace hS := hSn
  clear hPn hDn hSn
  refine W.cs (cells' := 1) (slots' := 60) rfl rfl ?_
  refine va_putF (D := (dC, dI)) (ci := 2) (v := .ref q1) (ty := .array .int) (C := "NetUnfolder$Prefix") (T := T_Pf) (N := 14) hx hb ht in_Pf ty_Pf ok_Pf nm_Pf hown hK hP hD hS 0 rfl rfl 1 (by decide) (ht _ wd_1_66) (fun _ h9 => h9) rfl hin rfl (by decide +kernel) rfl rfl (Nat.le_of_ble_eq_true rfl) d_Pf_init_9 (fun H3 locs hPn hDn hSn => ?_)
  replace hP : va_P (dC, dI) clA [(h0, .inr (2, [.int 0, .ref q1, .null, .null, .null, .null, .int 0, .null, .null, .null, .null, .null, .int 0, .int 0])), (q1, .inl (cI, 60, .inl (fun _ => 0)))] H3 := hPn
  replace hD : va_D A [(h0, .inr (2, [.int 0, .ref q1, .null, .null, .null, .null, .int 0, .null, .null, .null, .null, .null, .int 0, .int 0])), (q1, .inl (cI, 60, .inl (fun _ => 0)))] := hDn
  replace hS := hSn
  clear hPn hDn hSn
  refine lv_aload_n hx hb d_Pf_init_12 rfl (lv_at hl 0 rfl) ?_
  refine lv_bipush (v := 60) hx hb d_Pf_init_13 (by decide) ?_
  refine nx_newaI hx hb (ht _ wd_1_55) hK hP hD hS hA 0 rfl (N' := 60) (by decide) (by decide) (Nat.le_of_ble_eq_true rfl) (Nat.le_of_ble_eq_true rfl) (Nat.le_of_ble_eq_true rfl) d_Pf_init_15 (fun q4 H5 hPn hDn hSn => ?_)
  replace hP : va_P (dC, dI) clA [(h0, .inr (2, [.int 0, .ref q1, .null, .null, .null, .null, .int 0, .null, .null, .null, .null, .null, .int 0, .int 0])), (q1, .inl (cI, 60, .inl (fun _ => 0))), (q4, .inl (cI, 60, .inl (fun _ => 0)))] H5 := hPn
  replace hD : va_D A [(h0, .inr (2, [.int 0, .ref q1, .null, .null, .null, .null, .int 0, .null, .null, .null, .null, .null, .int 0, .int 0])), (q1, .inl (cI, 60, .inl (fun _ => 0))), (q4, .inl (cI, 60, .inl (fun _ => 0)))] := hDn
  replace hS := hSn
  clear hPn hDn hSn
  refine W.cs (cells' := 2) (slots' := 120) rfl rfl ?_
  refine va_putF (D := (dC, dI)) (ci := 2) (v := .ref q4) (ty := .array .int) (C := "NetUnfolder$Prefix") (T := T_Pf) (N := 14) hx hb ht in_Pf ty_Pf ok_Pf nm_Pf hown hK hP hD hS 0 rfl rfl 2 (by decide) (ht _ wd_1_70) (fun _ h9 => h9) rfl hin rfl (by decide +kernel) rfl rfl (Nat.le_of_ble_eq_true rfl) d_Pf_init_17 (fun H6 locs hPn hDn hSn => ?_)
  replace hP : va_P (dC, dI) clA [(h0, .inr (2, [.int 0, .ref q1, .ref q4, .null, .null, .null, .int 0, .null, .null, .null, .null, .null, .int 0, .int 0])), (q1, .inl (cI, 60, .inl (fun _ => 0))), (q4, .inl (cI, 60, .inl (fun _ => 0)))] H6 := hPn
  replace hD : va_D A [(h0, .inr (2, [.int 0, .ref q1, .ref q4, .null, .null, .null, .int 0, .null, .null, .null, .null, .null, .int 0, .int 0])), (q1, .inl (cI, 60, .inl (fun _ => 0))), (q4, .inl (cI, 60, .inl (fun _ => 0)))] := hDn
  replace hS := hSn
  clear hPn hDn hSn
  refine lv_aload_n hx hb d_Pf_init_20 rfl (lv_at hl 0 rfl) ?_
  refine lv_bipush (v := 60) hx hb d_Pf_init_21 (by decide) ?_
  refine nx_newaI hx hb (ht _ wd_1_55) hK hP hD hS hA 0 rfl (N' := 60) (by decide) (by decide) (Nat.le_of_ble_eq_true rfl) (Nat.le_of_ble_eq_true rfl) (Nat.le_of_ble_eq_true rfl) d_Pf_init_23 (fun q7 H8 hPn hDn hSn => ?_)
  replace hP : va_P (dC, dI) clA [(h0, .inr (2, [.int 0, .ref q1, .ref q4, .null, .null, .null, .int 0, .null, .null, .null, .null, .null, .int 0, .int 0])), (q1, .inl (cI, 60, .inl (fun _ => 0))), (q4, .inl (cI, 60, .inl (fun _ => 0))), (q7, .inl (cI, 60, .inl (fun _ => 0)))] H8 := hPn
  replace hD : va_D A [(h0, .inr (2, [.int 0, .ref q1, .ref q4, .null, .null, .null, .int 0, .null, .null, .null, .null, .null, .int 0, .int 0])), (q1, .inl (cI, 60, .inl (fun _ => 0))), (q4, .inl (cI, 60, .inl (fun _ => 0))), (q7, .inl (cI, 60, .inl (fun _ => 0)))] := hDn
  replace hS := hSn
  clear hPn hDn hSn
  refine W.cs (cells' := 3) (slots' := 180) rfl rfl ?_
  refine va_putF (D := (dC, dI)) (ci := 2) (v := .ref q7) (ty := .array .int) (C := "NetUnfolder$Prefix") (T := T_Pf) (N := 14) hx hb ht in_Pf ty_Pf ok_Pf nm_Pf hown hK hP hD hS 0 rfl rfl 3 (by decide) (ht _ wd_1_73) (fun _ h9 => h9) rfl hin rfl (by decide +kernel) rfl rfl (Nat.le_of_ble_eq_true rfl) d_Pf_init_25 (fun H9 locs hPn hDn hSn => ?_)
  replace hP : va_P (dC, dI) clA [(h0, .inr (2, [.int 0, .ref q1, .ref q4, .ref q7, .null, .null, .int 0, .null, .null, .null, .null, .null, .int 0, .int 0])), (q1, .inl (cI, 60, .inl (fun _ => 0))), (q4, .inl (cI, 60, .inl (fun _ => 0))), (q7, .inl (cI, 60, .inl (fun _ => 0)))] H9 := hPn
  replace hD : va_D A [(h0, .inr (2, [.int 0, .ref q1, .ref q4, .ref q7, .null, .null, .int 0, .null, .null, .null, .null, .null, .int 0, .int 0])), (q1, .inl (cI, 60, .inl (fun _ => 0))), (q4, .inl (cI, 60, .inl (fun _ => 0))), (q7, .inl (cI, 60, .inl (fun _ => 0)))] := hDn
  replace hS := hSn
  clear hPn hDn hSn
  refine lv_aload_n hx hb d_Pf_init_28 rfl (lv_at hl 0 rfl) ?_
  refine lv_bipush (v := 60) hx hb d_Pf_init_29 (by decide) ?_
  refine nx_newaJ hx hb (ht _ wd_1_136) hK hP hD hS hA 1 rfl (N' := 60) (by decide) (by decide) (Nat.le_of_ble_eq_true rfl) (Nat.le_of_ble_eq_true rfl) (Nat.le_of_ble_eq_true rfl) d_Pf_init_31 (fun q10 H11 hPn hDn hSn => ?_)
  replace hP : va_P (dC, dI) clA [(h0, .inr (2, [.int 0, .ref q1, .ref q4, .ref q7, .null, .null, .int 0, .null, .null, .null, .null, .null, .int 0, .int 0])), (q1, .inl (cI, 60, .inl (fun _ => 0))), (q4, .inl (cI, 60, .inl (fun _ => 0))), (q7, .inl (cI, 60, .inl (fun _ => 0))), (q10, .inl (cL, 60, .inr (.inl (fun _ => 0))))] H11 := hPn
  replace hD : va_D A [(h0, .inr (2, [.int 0, .ref q1, .ref q4, .ref q7, .null, .null, .int 0, .null, .null, .null, .null, .null, .int 0, .int 0])), (q1, .inl (cI, 60, .inl (fun _ => 0))), (q4, .inl (cI, 60, .inl (fun _ => 0))), (q7, .inl (cI, 60, .inl (fun _ => 0))), (q10, .inl (cL, 60, .inr (.inl (fun _ => 0))))] := hDn
  replace hS := hSn
  clear hPn hDn hSn
  refine W.cs (cells' := 4) (slots' := 240) rfl rfl ?_
  refine va_putF (D := (dC, dI)) (ci := 2) (v := .ref q10) (ty := .array .long) (C := "NetUnfolder$Prefix") (T := T_Pf) (N := 14) hx hb ht in_Pf ty_Pf ok_Pf nm_Pf hown hK hP hD hS 0 rfl rfl 4 (by decide) (ht _ wd_1_76) (fun _ h9 => h9) rfl hin rfl (by decide +kernel) rfl rfl (Nat.le_of_ble_eq_true rfl) d_Pf_init_33 (fun H12 locs hPn hDn hSn => ?_)
  replace hP : va_P (dC, dI) clA [(h0, .inr (2, [.int 0, .ref q1, .ref q4, .ref q7, .ref q10, .null, .int 0, .null, .null, .null, .null, .null, .int 0, .int 0])), (q1, .inl (cI, 60, .inl (fun _ => 0))), (q4, .inl (cI, 60, .inl (fun _ => 0))), (q7, .inl (cI, 60, .inl (fun _ => 0))), (q10, .inl (cL, 60, .inr (.inl (fun _ => 0))))] H12 := hPn
  replace hD : va_D A [(h0, .inr (2, [.int 0, .ref q1, .ref q4, .ref q7, .ref q10, .null, .int 0, .null, .null, .null, .null, .null, .int 0, .int 0])), (q1, .inl (cI, 60, .inl (fun _ => 0))), (q4, .inl (cI, 60, .inl (fun _ => 0))), (q7, .inl (cI, 60, .inl (fun _ => 0))), (q10, .inl (cL, 60, .inr (.inl (fun _ => 0))))] := hDn
  replace hS := hSn
  clear hPn hDn hSn
  refine lv_aload_n hx hb d_Pf_init_36 rfl (lv_at hl 0 rfl) ?_
  refine lv_bipush (v := 8) hx hb d_Pf_init_37 (by decide) ?_
  refine nx_newaJ hx hb (ht _ wd_1_136) hK hP hD hS hA 1 rfl (N' := 8) (by decide) (by decide) (Nat.le_of_ble_eq_true rfl) (Nat.le_of_ble_eq_true rfl) (Nat.le_of_ble_eq_true rfl) d_Pf_init_39 (fun q13 H14 hPn hDn hSn => ?_)
  replace hP : va_P (dC, dI) clA [(h0, .inr (2, [.int 0, .ref q1, .ref q4, .ref q7, .ref q10, .null, .int 0, .null, .null, .null, .null, .null, .int 0, .int 0])), (q1, .inl (cI, 60, .inl (fun _ => 0))), (q4, .inl (cI, 60, .inl (fun _ => 0))), (q7, .inl (cI, 60, .inl (fun _ => 0))), (q10, .inl (cL, 60, .inr (.inl (fun _ => 0)))), (q13, .inl (cL, 8, .inr (.inl (fun _ => 0))))] H14 := hPn
  replace hD : va_D A [(h0, .inr (2, [.int 0, .ref q1, .ref q4, .ref q7, .ref q10, .null, .int 0, .null, .null, .null, .null, .null, .int 0, .int 0])), (q1, .inl (cI, 60, .inl (fun _ => 0))), (q4, .inl (cI, 60, .inl (fun _ => 0))), (q7, .inl (cI, 60, .inl (fun _ => 0))), (q10, .inl (cL, 60, .inr (.inl (fun _ => 0)))), (q13, .inl (cL, 8, .inr (.inl (fun _ => 0))))] := hDn
  replace hS := hSn
  clear hPn hDn hSn
  refine W.cs (cells' := 5) (slots' := 248) rfl rfl ?_
  refine va_putF (D := (dC, dI)) (ci := 2) (v := .ref q13) (ty := .array .long) (C := "NetUnfolder$Prefix") (T := T_Pf) (N := 14) hx hb ht in_Pf ty_Pf ok_Pf nm_Pf hown hK hP hD hS 0 rfl rfl 5 (by decide) (ht _ wd_1_79) (fun _ h9 => h9) rfl hin rfl (by decide +kernel) rfl rfl (Nat.le_of_ble_eq_true rfl) d_Pf_init_41 (fun H15 locs hPn hDn hSn => ?_)
  replace hP : va_P (dC, dI) clA [(h0, .inr (2, [.int 0, .ref q1, .ref q4, .ref q7, .ref q10, .ref q13, .int 0, .null, .null, .null, .null, .null, .int 0, .int 0])), (q1, .inl (cI, 60, .inl (fun _ => 0))), (q4, .inl (cI, 60, .inl (fun _ => 0))), (q7, .inl (cI, 60, .inl (fun _ => 0))), (q10, .inl (cL, 60, .inr (.inl (fun _ => 0)))), (q13, .inl (cL, 8, .inr (.inl (fun _ => 0))))] H15 := hPn
  replace hD : va_D A [(h0, .inr (2, [.int 0, .ref q1, .ref q4, .ref q7, .ref q10, .ref q13, .int 0, .null, .null, .null, .null, .null, .int 0, .int 0])), (q1, .inl (cI, 60, .inl (fun _ => 0))), (q4, .inl (cI, 60, .inl (fun _ => 0))), (q7, .inl (cI, 60, .inl (fun _ => 0))), (q10, .inl (cL, 60, .inr (.inl (fun _ => 0)))), (q13, .inl (cL, 8, .inr (.inl (fun _ => 0))))] := hDn
  replace hS := hSn
  clear hPn hDn hSn
  refine lv_aload_n hx hb d_Pf_init_44 rfl (lv_at hl 0 rfl) ?_
  refine lv_bipush (v := 30) hx hb d_Pf_init_45 (by decide) ?_
  refine nx_newaI hx hb (ht _ wd_1_55) hK hP hD hS hA 0 rfl (N' := 30) (by decide) (by decide) (Nat.le_of_ble_eq_true rfl) (Nat.le_of_ble_eq_true rfl) (Nat.le_of_ble_eq_true rfl) d_Pf_init_47 (fun q16 H17 hPn hDn hSn => ?_)
  replace hP : va_P (dC, dI) clA [(h0, .inr (2, [.int 0, .ref q1, .ref q4, .ref q7, .ref q10, .ref q13, .int 0, .null, .null, .null, .null, .null, .int 0, .int 0])), (q1, .inl (cI, 60, .inl (fun _ => 0))), (q4, .inl (cI, 60, .inl (fun _ => 0))), (q7, .inl (cI, 60, .inl (fun _ => 0))), (q10, .inl (cL, 60, .inr (.inl (fun _ => 0)))), (q13, .inl (cL, 8, .inr (.inl (fun _ => 0)))), (q16, .inl (cI, 30, .inl (fun _ => 0)))] H17 := hPn
  replace hD : va_D A [(h0, .inr (2, [.int 0, .ref q1, .ref q4, .ref q7, .ref q10, .ref q13, .int 0, .null, .null, .null, .null, .null, .int 0, .int 0])), (q1, .inl (cI, 60, .inl (fun _ => 0))), (q4, .inl (cI, 60, .inl (fun _ => 0))), (q7, .inl (cI, 60, .inl (fun _ => 0))), (q10, .inl (cL, 60, .inr (.inl (fun _ => 0)))), (q13, .inl (cL, 8, .inr (.inl (fun _ => 0)))), (q16, .inl (cI, 30, .inl (fun _ => 0)))] := hDn
  replace hS := hSn
  clear hPn hDn hSn
  refine W.cs (cells' := 6) (slots' := 278) rfl rfl ?_
  refine va_putF (D := (dC, dI)) (ci := 2) (v := .ref q16) (ty := .array .int) (C := "NetUnfolder$Prefix") (T := T_Pf) (N := 14) hx hb ht in_Pf ty_Pf ok_Pf nm_Pf hown hK hP hD hS 0 rfl rfl 7 (by decide) (ht _ wd_1_86) (fun _ h9 => h9) rfl hin rfl (by decide +kernel) rfl rfl (Nat.le_of_ble_eq_true rfl) d_Pf_init_49 (fun H18 locs hPn hDn hSn => ?_)
  replace hP : va_P (dC, dI) clA [(h0, .inr (2, [.int 0, .ref q1, .ref q4, .ref q7, .ref q10, .ref q13, .int 0, .ref q16, .null, .null, .null, .null, .int 0, .int 0])), (q1, .inl (cI, 60, .inl (fun _ => 0))), (q4, .inl (cI, 60, .inl (fun _ => 0))), (q7, .inl (cI, 60, .inl (fun _ => 0))), (q10, .inl (cL, 60, .inr (.inl (fun _ => 0)))), (q13, .inl (cL, 8, .inr (.inl (fun _ => 0)))), (q16, .inl (cI, 30, .inl (fun _ => 0)))] H18 := hPn
  replace hD : va_D A [(h0, .inr (2, [.int 0, .ref q1, .ref q4, .ref q7, .ref q10, .ref q13, .int 0, .ref q16, .null, .null, .null, .null, .int 0, .int 0])), (q1, .inl (cI, 60, .inl (fun _ => 0))), (q4, .inl (cI, 60, .inl (fun _ => 0))), (q7, .inl (cI, 60, .inl (fun _ => 0))), (q10, .inl (cL, 60, .inr (.inl (fun _ => 0)))), (q13, .inl (cL, 8, .inr (.inl (fun _ => 0)))), (q16, .inl (cI, 30, .inl (fun _ => 0)))] := hDn
  replace hS := hSn
  clear hPn hDn hSn
  refine lv_aload_n hx hb d_Pf_init_52 rfl (lv_at hl 0 rfl) ?_
  refine lv_bipush (v := 30) hx hb d_Pf_init_53 (by decide) ?_
  refine nx_newaJ hx hb (ht _ wd_1_136) hK hP hD hS hA 1 rfl (N' := 30) (by decide) (by decide) (Nat.le_of_ble_eq_true rfl) (Nat.le_of_ble_eq_true rfl) (Nat.le_of_ble_eq_true rfl) d_Pf_init_55 (fun q19 H20 hPn hDn hSn => ?_)
  replace hP : va_P (dC, dI) clA [(h0, .inr (2, [.int 0, .ref q1, .ref q4, .ref q7, .ref q10, .ref q13, .int 0, .ref q16, .null, .null, .null, .null, .int 0, .int 0])), (q1, .inl (cI, 60, .inl (fun _ => 0))), (q4, .inl (cI, 60, .inl (fun _ => 0))), (q7, .inl (cI, 60, .inl (fun _ => 0))), (q10, .inl (cL, 60, .inr (.inl (fun _ => 0)))), (q13, .inl (cL, 8, .inr (.inl (fun _ => 0)))), (q16, .inl (cI, 30, .inl (fun _ => 0))), (q19, .inl (cL, 30, .inr (.inl (fun _ => 0))))] H20 := hPn
  replace hD : va_D A [(h0, .inr (2, [.int 0, .ref q1, .ref q4, .ref q7, .ref q10, .ref q13, .int 0, .ref q16, .null, .null, .null, .null, .int 0, .int 0])), (q1, .inl (cI, 60, .inl (fun _ => 0))), (q4, .inl (cI, 60, .inl (fun _ => 0))), (q7, .inl (cI, 60, .inl (fun _ => 0))), (q10, .inl (cL, 60, .inr (.inl (fun _ => 0)))), (q13, .inl (cL, 8, .inr (.inl (fun _ => 0)))), (q16, .inl (cI, 30, .inl (fun _ => 0))), (q19, .inl (cL, 30, .inr (.inl (fun _ => 0))))] := hDn
  replace hS := hSn
  clear hPn hDn hSn
  refine W.cs (cells' := 7) (slots' := 308) rfl rfl ?_
  refine va_putF (D := (dC, dI)) (ci := 2) (v := .ref q19) (ty := .array .long) (C := "NetUnfolder$Prefix") (T := T_Pf) (N := 14) hx hb ht in_Pf ty_Pf ok_Pf nm_Pf hown hK hP hD hS 0 rfl rfl 8 (by decide) (ht _ wd_1_90) (fun _ h9 => h9) rfl hin rfl (by decide +kernel) rfl rfl (Nat.le_of_ble_eq_true rfl) d_Pf_init_57 (fun H21 locs hPn hDn hSn => ?_)
  replace hP : va_P (dC, dI) clA [(h0, .inr (2, [.int 0, .ref q1, .ref q4, .ref q7, .ref q10, .ref q13, .int 0, .ref q16, .ref q19, .null, .null, .null, .int 0, .int 0])), (q1, .inl (cI, 60, .inl (fun _ => 0))), (q4, .inl (cI, 60, .inl (fun _ => 0))), (q7, .inl (cI, 60, .inl (fun _ => 0))), (q10, .inl (cL, 60, .inr (.inl (fun _ => 0)))), (q13, .inl (cL, 8, .inr (.inl (fun _ => 0)))), (q16, .inl (cI, 30, .inl (fun _ => 0))), (q19, .inl (cL, 30, .inr (.inl (fun _ => 0))))] H21 := hPn
  replace hD : va_D A [(h0, .inr (2, [.int 0, .ref q1, .ref q4, .ref q7, .ref q10, .ref q13, .int 0, .ref q16, .ref q19, .null, .null, .null, .int 0, .int 0])), (q1, .inl (cI, 60, .inl (fun _ => 0))), (q4, .inl (cI, 60, .inl (fun _ => 0))), (q7, .inl (cI, 60, .inl (fun _ => 0))), (q10, .inl (cL, 60, .inr (.inl (fun _ => 0)))), (q13, .inl (cL, 8, .inr (.inl (fun _ => 0)))), (q16, .inl (cI, 30, .inl (fun _ => 0))), (q19, .inl (cL, 30, .inr (.inl (fun _ => 0))))] := hDn
  replace hS := hSn
  clear hPn hDn hSn
  refine lv_aload_n hx hb d_Pf_init_60 rfl (lv_at hl 0 rfl) ?_
  refine lv_bipush (v := 30) hx hb d_Pf_init_61 (by decide) ?_
  refine nx_newaI hx hb (ht _ wd_1_55) hK hP hD hS hA 0 rfl (N' := 30) (by decide) (by decide) (Nat.le_of_ble_eq_true rfl) (Nat.le_of_ble_eq_true rfl) (Nat.le_of_ble_eq_true rfl) d_Pf_init_63 (fun q22 H23 hPn hDn hSn => ?_)
  replace hP : va_P (dC, dI) clA [(h0, .inr (2, [.int 0, .ref q1, .ref q4, .ref q7, .ref q10, .ref q13, .int 0, .ref q16, .ref q19, .null, .null, .null, .int 0, .int 0])), (q1, .inl (cI, 60, .inl (fun _ => 0))), (q4, .inl (cI, 60, .inl (fun _ => 0))), (q7, .inl (cI, 60, .inl (fun _ => 0))), (q10, .inl (cL, 60, .inr (.inl (fun _ => 0)))), (q13, .inl (cL, 8, .inr (.inl (fun _ => 0)))), (q16, .inl (cI, 30, .inl (fun _ => 0))), (q19, .inl (cL, 30, .inr (.inl (fun _ => 0)))), (q22, .inl (cI, 30, .inl (fun _ => 0)))] H23 := hPn
  replace hD : va_D A [(h0, .inr (2, [.int 0, .ref q1, .ref q4, .ref q7, .ref q10, .ref q13, .int 0, .ref q16, .ref q19, .null, .null, .null, .int 0, .int 0])), (q1, .inl (cI, 60, .inl (fun _ => 0))), (q4, .inl (cI, 60, .inl (fun _ => 0))), (q7, .inl (cI, 60, .inl (fun _ => 0))), (q10, .inl (cL, 60, .inr (.inl (fun _ => 0)))), (q13, .inl (cL, 8, .inr (.inl (fun _ => 0)))), (q16, .inl (cI, 30, .inl (fun _ => 0))), (q19, .inl (cL, 30, .inr (.inl (fun _ => 0)))), (q22, .inl (cI, 30, .inl (fun _ => 0)))] := hDn
  replace hS := hSn
  clear hPn hDn hSn
  refine W.cs (cells' := 8) (slots' := 338) rfl rfl ?_
  refine va_putF (D := (dC, dI)) (ci := 2) (v := .ref q22) (ty := .array .int) (C := "NetUnfolder$Prefix") (T := T_Pf) (N := 14) hx hb ht in_Pf ty_Pf ok_Pf nm_Pf hown hK hP hD hS 0 rfl rfl 9 (by decide) (ht _ wd_1_92) (fun _ h9 => h9) rfl hin rfl (by decide +kernel) rfl rfl (Nat.le_of_ble_eq_true rfl) d_Pf_init_65 (fun H24 locs hPn hDn hSn => ?_)
  replace hP : va_P (dC, dI) clA [(h0, .inr (2, [.int 0, .ref q1, .ref q4, .ref q7, .ref q10, .ref q13, .int 0, .ref q16, .ref q19, .ref q22, .null, .null, .int 0, .int 0])), (q1, .inl (cI, 60, .inl (fun _ => 0))), (q4, .inl (cI, 60, .inl (fun _ => 0))), (q7, .inl (cI, 60, .inl (fun _ => 0))), (q10, .inl (cL, 60, .inr (.inl (fun _ => 0)))), (q13, .inl (cL, 8, .inr (.inl (fun _ => 0)))), (q16, .inl (cI, 30, .inl (fun _ => 0))), (q19, .inl (cL, 30, .inr (.inl (fun _ => 0)))), (q22, .inl (cI, 30, .inl (fun _ => 0)))] H24 := hPn
  replace hD : va_D A [(h0, .inr (2, [.int 0, .ref q1, .ref q4, .ref q7, .ref q10, .ref q13, .int 0, .ref q16, .ref q19, .ref q22, .null, .null, .int 0, .int 0])), (q1, .inl (cI, 60, .inl (fun _ => 0))), (q4, .inl (cI, 60, .inl (fun _ => 0))), (q7, .inl (cI, 60, .inl (fun _ => 0))), (q10, .inl (cL, 60, .inr (.inl (fun _ => 0)))), (q13, .inl (cL, 8, .inr (.inl (fun _ => 0)))), (q16, .inl (cI, 30, .inl (fun _ => 0))), (q19, .inl (cL, 30, .inr (.inl (fun _ => 0)))), (q22, .inl (cI, 30, .inl (fun _ => 0)))] := hDn
  replace hS := hSn
  clear hPn hDn hSn
  refine lv_aload_n hx hb d_Pf_init_68 rfl (lv_at hl 0 rfl) ?_
  refine lv_bipush (v := 30) hx hb d_Pf_init_69 (by decide) ?_
  refine nx_newaI hx hb (ht _ wd_1_55) hK hP hD hS hA 0 rfl (N' := 30) (by decide) (by decide) (Nat.le_of_ble_eq_true rfl) (Nat.le_of_ble_eq_true rfl) (Nat.le_of_ble_eq_true rfl) d_Pf_init_71 (fun q25 H26 hPn hDn hSn => ?_)
  replace hP : va_P (dC, dI) clA [(h0, .inr (2, [.int 0, .ref q1, .ref q4, .ref q7, .ref q10, .ref q13, .int 0, .ref q16, .ref q19, .ref q22, .null, .null, .int 0, .int 0])), (q1, .inl (cI, 60, .inl (fun _ => 0))), (q4, .inl (cI, 60, .inl (fun _ => 0))), (q7, .inl (cI, 60, .inl (fun _ => 0))), (q10, .inl (cL, 60, .inr (.inl (fun _ => 0)))), (q13, .inl (cL, 8, .inr (.inl (fun _ => 0)))), (q16, .inl (cI, 30, .inl (fun _ => 0))), (q19, .inl (cL, 30, .inr (.inl (fun _ => 0)))), (q22, .inl (cI, 30, .inl (fun _ => 0))), (q25, .inl (cI, 30, .inl (fun _ => 0)))] H26 := hPn
  replace hD : va_D A [(h0, .inr (2, [.int 0, .ref q1, .ref q4, .ref q7, .ref q10, .ref q13, .int 0, .ref q16, .ref q19, .ref q22, .null, .null, .int 0, .int 0])), (q1, .inl (cI, 60, .inl (fun _ => 0))), (q4, .inl (cI, 60, .inl (fun _ => 0))), (q7, .inl (cI, 60, .inl (fun _ => 0))), (q10, .inl (cL, 60, .inr (.inl (fun _ => 0)))), (q13, .inl (cL, 8, .inr (.inl (fun _ => 0)))), (q16, .inl (cI, 30, .inl (fun _ => 0))), (q19, .inl (cL, 30, .inr (.inl (fun _ => 0)))), (q22, .inl (cI, 30, .inl (fun _ => 0))), (q25, .inl (cI, 30, .inl (fun _ => 0)))] := hDn
  replace hS := hSn
  clear hPn hDn hSn
  refine W.cs (cells' := 9) (slots' := 368) rfl rfl ?_
  refine va_putF (D := (dC, dI)) (ci := 2) (v := .ref q25) (ty := .array .int) (C := "NetUnfolder$Prefix") (T := T_Pf) (N := 14) hx hb ht in_Pf ty_Pf ok_Pf nm_Pf hown hK hP hD hS 0 rfl rfl 10 (by decide) (ht _ wd_1_95) (fun _ h9 => h9) rfl hin rfl (by decide +kernel) rfl rfl (Nat.le_of_ble_eq_true rfl) d_Pf_init_73 (fun H27 locs hPn hDn hSn => ?_)
  replace hP : va_P (dC, dI) clA [(h0, .inr (2, [.int 0, .ref q1, .ref q4, .ref q7, .ref q10, .ref q13, .int 0, .ref q16, .ref q19, .ref q22, .ref q25, .null, .int 0, .int 0])), (q1, .inl (cI, 60, .inl (fun _ => 0))), (q4, .inl (cI, 60, .inl (fun _ => 0))), (q7, .inl (cI, 60, .inl (fun _ => 0))), (q10, .inl (cL, 60, .inr (.inl (fun _ => 0)))), (q13, .inl (cL, 8, .inr (.inl (fun _ => 0)))), (q16, .inl (cI, 30, .inl (fun _ => 0))), (q19, .inl (cL, 30, .inr (.inl (fun _ => 0)))), (q22, .inl (cI, 30, .inl (fun _ => 0))), (q25, .inl (cI, 30, .inl (fun _ => 0)))] H27 := hPn
  replace hD : va_D A [(h0, .inr (2, [.int 0, .ref q1, .ref q4, .ref q7, .ref q10, .ref q13, .int 0, .ref q16, .ref q19, .ref q22, .ref q25, .null, .int 0, .int 0])), (q1, .inl (cI, 60, .inl (fun _ => 0))), (q4, .inl (cI, 60, .inl (fun _ => 0))), (q7, .inl (cI, 60, .inl (fun _ => 0))), (q10, .inl (cL, 60, .inr (.inl (fun _ => 0)))), (q13, .inl (cL, 8, .inr (.inl (fun _ => 0)))), (q16, .inl (cI, 30, .inl (fun _ => 0))), (q19, .inl (cL, 30, .inr (.inl (fun _ => 0)))), (q22, .inl (cI, 30, .inl (fun _ => 0))), (q25, .inl (cI, 30, .inl (fun _ => 0)))] := hDn
  replace hS := hSn
  clear hPn hDn hSn
  refine lv_aload_n hx hb d_Pf_init_76 rfl (lv_at hl 0 rfl) ?_
  refine lv_bipush (v := 30) hx hb d_Pf_init_77 (by decide) ?_
  refine nx_newaJ hx hb (ht _ wd_1_136) hK hP hD hS hA 1 rfl (N' := 30) (by decide) (by decide) (Nat.le_of_ble_eq_true rfl) (Nat.le_of_ble_eq_true rfl) (Nat.le_of_ble_eq_true rfl) d_Pf_init_79 (fun q28 H29 hPn hDn hSn => ?_)
  replace hP : va_P (dC, dI) clA [(h0, .inr (2, [.int 0, .ref q1, .ref q4, .ref q7, .ref q10, .ref q13, .int 0, .ref q16, .ref q19, .ref q22, .ref q25, .null, .int 0, .int 0])), (q1, .inl (cI, 60, .inl (fun _ => 0))), (q4, .inl (cI, 60, .inl (fun _ => 0))), (q7, .inl (cI, 60, .inl (fun _ => 0))), (q10, .inl (cL, 60, .inr (.inl (fun _ => 0)))), (q13, .inl (cL, 8, .inr (.inl (fun _ => 0)))), (q16, .inl (cI, 30, .inl (fun _ => 0))), (q19, .inl (cL, 30, .inr (.inl (fun _ => 0)))), (q22, .inl (cI, 30, .inl (fun _ => 0))), (q25, .inl (cI, 30, .inl (fun _ => 0))), (q28, .inl (cL, 30, .inr (.inl (fun _ => 0))))] H29 := hPn
  replace hD : va_D A [(h0, .inr (2, [.int 0, .ref q1, .ref q4, .ref q7, .ref q10, .ref q13, .int 0, .ref q16, .ref q19, .ref q22, .ref q25, .null, .int 0, .int 0])), (q1, .inl (cI, 60, .inl (fun _ => 0))), (q4, .inl (cI, 60, .inl (fun _ => 0))), (q7, .inl (cI, 60, .inl (fun _ => 0))), (q10, .inl (cL, 60, .inr (.inl (fun _ => 0)))), (q13, .inl (cL, 8, .inr (.inl (fun _ => 0)))), (q16, .inl (cI, 30, .inl (fun _ => 0))), (q19, .inl (cL, 30, .inr (.inl (fun _ => 0)))), (q22, .inl (cI, 30, .inl (fun _ => 0))), (q25, .inl (cI, 30, .inl (fun _ => 0))), (q28, .inl (cL, 30, .inr (.inl (fun _ => 0))))] := hDn
  replace hS := hSn
  clear hPn hDn hSn
  refine W.cs (cells' := 10) (slots' := 398) rfl rfl ?_
  refine va_putF (D := (dC, dI)) (ci := 2) (v := .ref q28) (ty := .array .long) (C := "NetUnfolder$Prefix") (T := T_Pf) (N := 14) hx hb ht in_Pf ty_Pf ok_Pf nm_Pf hown hK hP hD hS 0 rfl rfl 11 (by decide) (ht _ wd_1_98) (fun _ h9 => h9) rfl hin rfl (by decide +kernel) rfl rfl (Nat.le_of_ble_eq_true rfl) d_Pf_init_81 (fun H30 locs hPn hDn hSn => ?_)
  replace hP : va_P (dC, dI) clA [(h0, .inr (2, [.int 0, .ref q1, .ref q4, .ref q7, .ref q10, .ref q13, .int 0, .ref q16, .ref q19, .ref q22, .ref q25, .ref q28, .int 0, .int 0])), (q1, .inl (cI, 60, .inl (fun _ => 0))), (q4, .inl (cI, 60, .inl (fun _ => 0))), (q7, .inl (cI, 60, .inl (fun _ => 0))), (q10, .inl (cL, 60, .inr (.inl (fun _ => 0)))), (q13, .inl (cL, 8, .inr (.inl (fun _ => 0)))), (q16, .inl (cI, 30, .inl (fun _ => 0))), (q19, .inl (cL, 30, .inr (.inl (fun _ => 0)))), (q22, .inl (cI, 30, .inl (fun _ => 0))), (q25, .inl (cI, 30, .inl (fun _ => 0))), (q28, .inl (cL, 30, .inr (.inl (fun _ => 0))))] H30 := hPn
  replace hD : va_D A [(h0, .inr (2, [.int 0, .ref q1, .ref q4, .ref q7, .ref q10, .ref q13, .int 0, .ref q16, .ref q19, .ref q22, .ref q25, .ref q28, .int 0, .int 0])), (q1, .inl (cI, 60, .inl (fun _ => 0))), (q4, .inl (cI, 60, .inl (fun _ => 0))), (q7, .inl (cI, 60, .inl (fun _ => 0))), (q10, .inl (cL, 60, .inr (.inl (fun _ => 0)))), (q13, .inl (cL, 8, .inr (.inl (fun _ => 0)))), (q16, .inl (cI, 30, .inl (fun _ => 0))), (q19, .inl (cL, 30, .inr (.inl (fun _ => 0)))), (q22, .inl (cI, 30, .inl (fun _ => 0))), (q25, .inl (cI, 30, .inl (fun _ => 0))), (q28, .inl (cL, 30, .inr (.inl (fun _ => 0))))] := hDn
  replace hS := hSn
  clear hPn hDn hSn
  have hP9 := hP.sub (ws' := [(h0, .inr (2, [.int 0, .ref q1, .ref q4, .ref q7, .ref q10, .ref q13, .int 0, .ref q16, .ref q19, .ref q22, .ref q25, .ref q28, .int 0, .int 0])), (q1, .inl (cI, 60, .inl (fun _ => 0))), (q4, .inl (cI, 60, .inl (fun _ => 0))), (q7, .inl (cI, 60, .inl (fun _ => 0))), (q10, .inl (cL, 60, .inr (.inl (fun _ => 0)))), (q13, .inl (cL, 8, .inr (.inl (fun _ => 0)))), (q16, .inl (cI, 30, .inl (fun _ => 0))), (q19, .inl (cL, 30, .inr (.inl (fun _ => 0)))), (q22, .inl (cI, 30, .inl (fun _ => 0))), (q25, .inl (cI, 30, .inl (fun _ => 0))), (q28, .inl (cL, 30, .inr (.inl (fun _ => 0))))]) [0, 1, 2, 3, 4, 5, 6, 7, 8, 9, 10] rfl
  have hD9 := hD.sub (ws' := [(h0, .inr (2, [.int 0, .ref q1, .ref q4, .ref q7, .ref q10, .ref q13, .int 0, .ref q16, .ref q19, .ref q22, .ref q25, .ref q28, .int 0, .int 0])), (q1, .inl (cI, 60, .inl (fun _ => 0))), (q4, .inl (cI, 60, .inl (fun _ => 0))), (q7, .inl (cI, 60, .inl (fun _ => 0))), (q10, .inl (cL, 60, .inr (.inl (fun _ => 0)))), (q13, .inl (cL, 8, .inr (.inl (fun _ => 0)))), (q16, .inl (cI, 30, .inl (fun _ => 0))), (q19, .inl (cL, 30, .inr (.inl (fun _ => 0)))), (q22, .inl (cI, 30, .inl (fun _ => 0))), (q25, .inl (cI, 30, .inl (fun _ => 0))), (q28, .inl (cL, 30, .inr (.inl (fun _ => 0))))]) [0, 1, 2, 3, 4, 5, 6, 7, 8, 9, 10] (by decide) rfl
  exact W.vret hx hb hr (fun t ht9 hW => ⟨⟨(), rfl, trivial, q1, q4, q7, q10, q13, q16, q19, q22, q25, q28, by rw [ht9]; exact hP9, hD9⟩, hS.F ht9⟩) hS.2.2 d_Pf_init_84

set_option maxHeartbeats 4000000 in
set_option maxRecDepth 100000 in
theorem c_Po_init (l : Launch) (dC : Nat → ClassId) (dI : Nat → Nat → Nat) (cI cL cZ : ClassId) (sz : Nat) (h0 : Nat) (h1 : Nat) : Met l y_Po_init (Cond.code y_Po_init prog_4_method_1_code 2 none :: wsA) { frames := 1, cells := 3, slots := 603, locals := 12 } (va_Pc [.ref h0, .ref h1] (fun U => U.heap.size = sz ∧ va_P (dC, dI) clA [(h0, .inr (5, [.null, .int 0, .null, .null, .null]))] U.heap ∧ va_K (dC, dI) clA [(cI, .int), (cL, .long), (cZ, .boolean)] U ∧ va_D (fun _ => True) [(h0, .inr (5, [.null, .int 0, .null, .null, .null]))] ∧ NwA U)) (va_Qv (fun _ : Unit => True) (fun _ t => ∃ q1 q4 q7 : Nat, va_P (dC, dI) clA [(h0, .inr (5, [.ref h1, .int 0, .ref q1, .ref q4, .ref q7])), (q1, .inl (cI, 201, .inl (fun _ => 0))), (q4, .inl (cL, 201, .inr (.inl (fun _ => 0)))), (q7, .inl (cL, 201, .inr (.inl (fun _ => 0))))] t.heap ∧ va_D (va_A [(h0, .inr (5, [.null, .int 0, .null, .null, .null]))] sz) [(h0, .inr (5, [.ref h1, .int 0, .ref q1, .ref q4, .ref q7])), (q1, .inl (cI, 201, .inl (fun _ => 0))), (q4, .inl (cL, 201, .inr (.inl (fun _ => 0)))), (q7, .inl (cL, 201, .inr (.inl (fun _ => 0))))]) (va_A [(h0, .inr (5, [.null, .int 0, .null, .null, .null]))] sz)) 3 603 (va_A [(h0, .inr (5, [.null, .int 0, .null, .null, .null]))] sz) := by
  refine Met.ofW (cc := prog_4_method_1_code) (maxL := 2) (ret := none) (by decide) rfl ?_
  intro p e s m args below meth c s₁ B hml hv
  obtain ⟨rfl, hsz, hP, hK, hD0, hN⟩ := hv
  have hx := B.exec
  have hb := B.bytes
  have hr := B.returns
  have ht : ∀ w ∈ wsA, w.before _ s = true := fun w h => atoms_spec (ws := (Cond.code y_Po_init prog_4_method_1_code 2 none :: wsA)) B.pre w (List.mem_cons_of_mem _ h)
  have hown : s.vm.findClass "NetUnfolder$Possible" = some m.cls := findClass_of_methodNamed B.named
  have hlocks := B.notSynchronized
  have hin : meth.name = "<init>" := (name_of_methodNamed B.named B.method).1
  subst hsz
  have hD := hD0.self (sz := s.heap.size)
  generalize hAe : va_A [(h0, .inr (5, [.null, .int 0, .null, .null, .null]))] s.heap.size = A at hD ⊢
  have hA : ∀ q : Nat, s.heap.size ≤ q → A q := fun q h => by rw [← hAe]; exact Or.inr h
  have hS : va_S A s.heap s.heap [] := va_S.rf
  have hl := lv_entry ([.ref h0, .ref h1]) (n := 2) (Nat.le_of_ble_eq_true rfl)
  rw [lg_entry_eq]
  generalize (lg_sl ([.ref h0, .ref h1]) ++ List.replicate (2 - (lg_sl ([.ref h0, .ref h1])).length) Slot.unset).toArray = ls at hl ⊢
  replace hl : lv_has ls 2 [(0, .ref h0), (1, .ref h1)] := hl
  refine lv_aload_n hx hb d_Po_init_0 rfl (lv_at hl 0 rfl) ?_
  refine W.objInit hx hb hown (ht (.methodLink "NetUnfolder$Possible" 3 Lib.objectInit) wd_1_163) (ht (.instanceMethod Lib.objectInit) wd_1_25) (ht (.code Lib.objectInit ⟨#[0xb1]⟩ 1 none) wd_1_26) rfl (by rw [hml]; exact hl.1) rfl d_Po_init_1 (Nat.le_of_ble_eq_true rfl) (Nat.le_of_ble_eq_true rfl) ?_
  refine W.eq (g2 := F0 m 4 ls []) rfl ?_
  refine lv_aload_n hx hb d_Po_init_4 rfl (lv_at hl 0 rfl) ?_
  refine lv_sipush (v := 201) hx hb d_Po_init_5 (by decide) ?_
  refine nx_newaI hx hb (ht _ wd_1_55) hK hP hD hS hA 0 rfl (N' := 201) (by decide) (by decide) (Nat.le_of_ble_eq_true rfl) (Nat.le_of_ble_eq_true rfl) (Nat.le_of_ble_eq_true rfl) d_Po_init_8 (fun q1 H2 hPn hDn hSn => ?_)
  replace hP : va_P (dC, dI) clA [(h0, .inr (5, [.null, .int 0, .null, .null, .null])), (q1, .inl (cI, 201, .inl (fun _ => 0)))] H2 := hPn
  replace hD : va_D A [(h0, .inr (5, [.null, .int 0, .null, .null, .null])), (q1, .inl (cI, 201, .inl (fun _ => 0)))] := hDn
  replace hS := hSn
  clear hPn hDn hSn
  refine W.cs (cells' := 1) (slots' := 201) rfl rfl ?_
  refine va_putF (D := (dC, dI)) (ci := 5) (v := .ref q1) (ty := .array .int) (C := "NetUnfolder$Possible") (T := T_Po) (N := 5) hx hb ht in_Po ty_Po ok_Po nm_Po hown hK hP hD hS 0 rfl rfl 2 (by decide) (ht _ wd_1_167) (fun _ h9 => h9) rfl hin rfl (by decide +kernel) rfl rfl (Nat.le_of_ble_eq_true rfl) d_Po_init_10 (fun H3 locs hPn hDn hSn => ?_)
  replace hP : va_P (dC, dI) clA [(h0, .inr (5, [.null, .int 0, .ref q1, .null, .null])), (q1, .inl (cI, 201, .inl (fun _ => 0)))] H3 := hPn
  replace hD : va_D A [(h0, .inr (5, [.null, .int 0, .ref q1, .null, .null])), (q1, .inl (cI, 201, .inl (fun _ => 0)))] := hDn
  replace hS := hSn
  clear hPn hDn hSn
  refine lv_aload_n hx hb d_Po_init_13 rfl (lv_at hl 0 rfl) ?_
  refine lv_sipush (v := 201) hx hb d_Po_init_14 (by decide) ?_
  refine nx_newaJ hx hb (ht _ wd_1_136) hK hP hD hS hA 1 rfl (N' := 201) (by decide) (by decide) (Nat.le_of_ble_eq_true rfl) (Nat.le_of_ble_eq_true rfl) (Nat.le_of_ble_eq_true rfl) d_Po_init_17 (fun q4 H5 hPn hDn hSn => ?_)
  replace hP : va_P (dC, dI) clA [(h0, .inr (5, [.null, .int 0, .ref q1, .null, .null])), (q1, .inl (cI, 201, .inl (fun _ => 0))), (q4, .inl (cL, 201, .inr (.inl (fun _ => 0))))] H5 := hPn
  replace hD : va_D A [(h0, .inr (5, [.null, .int 0, .ref q1, .null, .null])), (q1, .inl (cI, 201, .inl (fun _ => 0))), (q4, .inl (cL, 201, .inr (.inl (fun _ => 0))))] := hDn
  replace hS := hSn
  clear hPn hDn hSn
  refine W.cs (cells' := 2) (slots' := 402) rfl rfl ?_
  refine va_putF (D := (dC, dI)) (ci := 5) (v := .ref q4) (ty := .array .long) (C := "NetUnfolder$Possible") (T := T_Po) (N := 5) hx hb ht in_Po ty_Po ok_Po nm_Po hown hK hP hD hS 0 rfl rfl 3 (by decide) (ht _ wd_1_169) (fun _ h9 => h9) rfl hin rfl (by decide +kernel) rfl rfl (Nat.le_of_ble_eq_true rfl) d_Po_init_19 (fun H6 locs hPn hDn hSn => ?_)
  replace hP : va_P (dC, dI) clA [(h0, .inr (5, [.null, .int 0, .ref q1, .ref q4, .null])), (q1, .inl (cI, 201, .inl (fun _ => 0))), (q4, .inl (cL, 201, .inr (.inl (fun _ => 0))))] H6 := hPn
  replace hD : va_D A [(h0, .inr (5, [.null, .int 0, .ref q1, .ref q4, .null])), (q1, .inl (cI, 201, .inl (fun _ => 0))), (q4, .inl (cL, 201, .inr (.inl (fun _ => 0))))] := hDn
  replace hS := hSn
  clear hPn hDn hSn
  refine lv_aload_n hx hb d_Po_init_22 rfl (lv_at hl 0 rfl) ?_
  refine lv_sipush (v := 201) hx hb d_Po_init_23 (by decide) ?_
  refine nx_newaJ hx hb (ht _ wd_1_136) hK hP hD hS hA 1 rfl (N' := 201) (by decide) (by decide) (Nat.le_of_ble_eq_true rfl) (Nat.le_of_ble_eq_true rfl) (Nat.le_of_ble_eq_true rfl) d_Po_init_26 (fun q7 H8 hPn hDn hSn => ?_)
  replace hP : va_P (dC, dI) clA [(h0, .inr (5, [.null, .int 0, .ref q1, .ref q4, .null])), (q1, .inl (cI, 201, .inl (fun _ => 0))), (q4, .inl (cL, 201, .inr (.inl (fun _ => 0)))), (q7, .inl (cL, 201, .inr (.inl (fun _ => 0))))] H8 := hPn
  replace hD : va_D A [(h0, .inr (5, [.null, .int 0, .ref q1, .ref q4, .null])), (q1, .inl (cI, 201, .inl (fun _ => 0))), (q4, .inl (cL, 201, .inr (.inl (fun _ => 0)))), (q7, .inl (cL, 201, .inr (.inl (fun _ => 0))))] := hDn
  replace hS := hSn
  clear hPn hDn hSn
  refine W.cs (cells' := 3) (slots' := 603) rfl rfl ?_
  refine va_putF (D := (dC, dI)) (ci := 5) (v := .ref q7) (ty := .array .long) (C := "NetUnfolder$Possible") (T := T_Po) (N := 5) hx hb ht in_Po ty_Po ok_Po nm_Po hown hK hP hD hS 0 rfl rfl 4 (by decide) (ht _ wd_1_171) (fun _ h9 => h9) rfl hin rfl (by decide +kernel) rfl rfl (Nat.le_of_ble_eq_true rfl) d_Po_init_28 (fun H9 locs hPn hDn hSn => ?_)
  replace hP : va_P (dC, dI) clA [(h0, .inr (5, [.null, .int 0, .ref q1, .ref q4, .ref q7])), (q1, .inl (cI, 201, .inl (fun _ => 0))), (q4, .inl (cL, 201, .inr (.inl (fun _ => 0)))), (q7, .inl (cL, 201, .inr (.inl (fun _ => 0))))] H9 := hPn
  replace hD : va_D A [(h0, .inr (5, [.null, .int 0, .ref q1, .ref q4, .ref q7])), (q1, .inl (cI, 201, .inl (fun _ => 0))), (q4, .inl (cL, 201, .inr (.inl (fun _ => 0)))), (q7, .inl (cL, 201, .inr (.inl (fun _ => 0))))] := hDn
  replace hS := hSn
  clear hPn hDn hSn
  refine lv_aload_n hx hb d_Po_init_31 rfl (lv_at hl 0 rfl) ?_
  refine lv_aload_n hx hb d_Po_init_32 rfl (lv_at hl 1 rfl) ?_
  refine va_putF (D := (dC, dI)) (ci := 5) (v := .ref h1) (ty := .object "NetUnfolder$Prefix") (C := "NetUnfolder$Possible") (T := T_Po) (N := 5) hx hb ht in_Po ty_Po ok_Po nm_Po hown hK hP hD hS 0 rfl rfl 0 (by decide) (ht _ wd_1_164) (fun _ h9 => h9) rfl hin rfl (by decide +kernel) rfl rfl (Nat.le_of_ble_eq_true rfl) d_Po_init_33 (fun H10 locs hPn hDn hSn => ?_)
  replace hP : va_P (dC, dI) clA [(h0, .inr (5, [.ref h1, .int 0, .ref q1, .ref q4, .ref q7])), (q1, .inl (cI, 201, .inl (fun _ => 0))), (q4, .inl (cL, 201, .inr (.inl (fun _ => 0)))), (q7, .inl (cL, 201, .inr (.inl (fun _ => 0))))] H10 := hPn
  replace hD : va_D A [(h0, .inr (5, [.ref h1, .int 0, .ref q1, .ref q4, .ref q7])), (q1, .inl (cI, 201, .inl (fun _ => 0))), (q4, .inl (cL, 201, .inr (.inl (fun _ => 0)))), (q7, .inl (cL, 201, .inr (.inl (fun _ => 0))))] := hDn
  replace hS := hSn
  clear hPn hDn hSn
  have hP9 := hP.sub (ws' := [(h0, .inr (5, [.ref h1, .int 0, .ref q1, .ref q4, .ref q7])), (q1, .inl (cI, 201, .inl (fun _ => 0))), (q4, .inl (cL, 201, .inr (.inl (fun _ => 0)))), (q7, .inl (cL, 201, .inr (.inl (fun _ => 0))))]) [0, 1, 2, 3] rfl
  have hD9 := hD.sub (ws' := [(h0, .inr (5, [.ref h1, .int 0, .ref q1, .ref q4, .ref q7])), (q1, .inl (cI, 201, .inl (fun _ => 0))), (q4, .inl (cL, 201, .inr (.inl (fun _ => 0)))), (q7, .inl (cL, 201, .inr (.inl (fun _ => 0))))]) [0, 1, 2, 3] (by decide) rfl
  exact W.vret hx hb hr (fun t ht9 hW => ⟨⟨(), rfl, trivial, q1, q4, q7, by rw [ht9]; exact hP9, hD9⟩, hS.F ht9⟩) hS.2.2 d_Po_init_36

set_option maxHeartbeats 4000000 in
set_option maxRecDepth 100000 in
theorem c_Un_init (l : Launch) (dC : Nat → ClassId) (dI : Nat → Nat → Nat) (cI cL cZ : ClassId) (sz : Nat) (h0 : Nat) (h1 : Nat) (h2 : Nat) (h3 : Nat) : Met l y_Un_init (Cond.code y_Un_init prog_8_method_1_code 4 none :: wsA) { frames := 2, cells := 4, slots := 608, locals := 33 } (va_Pc [.ref h0, .ref h1, .ref h2, .ref h3] (fun U => U.heap.size = sz ∧ va_P (dC, dI) clA [(h0, .inr (4, [.null, .null, .null, .null]))] U.heap ∧ va_K (dC, dI) clA [(cI, .int), (cL, .long), (cZ, .boolean)] U ∧ va_D (fun _ => True) [(h0, .inr (4, [.null, .null, .null, .null]))] ∧ NwA U)) (va_Qv (fun _ : Unit => True) (fun _ t => ∃ q4 q8 q9 q10 : Nat, va_P (dC, dI) clA [(h0, .inr (4, [.ref h1, .ref h2, .ref h3, .ref q4])), (q4, .inr (5, [.ref h2, .int 0, .ref q8, .ref q9, .ref q10])), (q8, .inl (cI, 201, .inl (fun _ => 0))), (q9, .inl (cL, 201, .inr (.inl (fun _ => 0)))), (q10, .inl (cL, 201, .inr (.inl (fun _ => 0))))] t.heap ∧ va_D (va_A [(h0, .inr (4, [.null, .null, .null, .null]))] sz) [(h0, .inr (4, [.ref h1, .ref h2, .ref h3, .ref q4])), (q4, .inr (5, [.ref h2, .int 0, .ref q8, .ref q9, .ref q10])), (q8, .inl (cI, 201, .inl (fun _ => 0))), (q9, .inl (cL, 201, .inr (.inl (fun _ => 0)))), (q10, .inl (cL, 201, .inr (.inl (fun _ => 0))))]) (va_A [(h0, .inr (4, [.null, .null, .null, .null]))] sz)) 4 608 (va_A [(h0, .inr (4, [.null, .null, .null, .null]))] sz) := by
  refine Met.ofW (cc := prog_8_method_1_code) (maxL := 4) (ret := none) (by decide) rfl ?_
  intro p e s m args below meth c s₁ B hml hv
  obtain ⟨rfl, hsz, hP, hK, hD0, hN⟩ := hv
  have hx := B.exec
  have hb := B.bytes
  have hr := B.returns
  have ht : ∀ w ∈ wsA, w.before _ s = true := fun w h => atoms_spec (ws := (Cond.code y_Un_init prog_8_method_1_code 4 none :: wsA)) B.pre w (List.mem_cons_of_mem _ h)
  have hown : s.vm.findClass "NetUnfolder$Unfolding" = some m.cls := findClass_of_methodNamed B.named
  have hlocks := B.notSynchronized
  have hin : meth.name = "<init>" := (name_of_methodNamed B.named B.method).1
  subst hsz
  have hD := hD0.self (sz := s.heap.size)
  generalize hAe : va_A [(h0, .inr (4, [.null, .null, .null, .null]))] s.heap.size = A at hD ⊢
  have hA : ∀ q : Nat, s.heap.size ≤ q → A q := fun q h => by rw [← hAe]; exact Or.inr h
  have hS : va_S A s.heap s.heap [] := va_S.rf
  have hl := lv_entry ([.ref h0, .ref h1, .ref h2, .ref h3]) (n := 4) (Nat.le_of_ble_eq_true rfl)
  rw [lg_entry_eq]
  generalize (lg_sl ([.ref h0, .ref h1, .ref h2, .ref h3]) ++ List.replicate (4 - (lg_sl ([.ref h0, .ref h1, .ref h2, .ref h3])).length) Slot.unset).toArray = ls at hl ⊢
  replace hl : lv_has ls 4 [(0, .ref h0), (1, .ref h1), (2, .ref h2), (3, .ref h3)] := hl
  refine lv_aload_n hx hb d_Un_init_0 rfl (lv_at hl 0 rfl) ?_
  refine W.objInit hx hb hown (ht (.methodLink "NetUnfolder$Unfolding" 3 Lib.objectInit) wd_1_157) (ht (.instanceMethod Lib.objectInit) wd_1_25) (ht (.code Lib.objectInit ⟨#[0xb1]⟩ 1 none) wd_1_26) rfl (by rw [hml]; exact hl.1) rfl d_Un_init_1 (Nat.le_of_ble_eq_true rfl) (Nat.le_of_ble_eq_true rfl) ?_
  refine W.eq (g2 := F0 m 4 ls []) rfl ?_
  refine lv_aload_n hx hb d_Un_init_4 rfl (lv_at hl 0 rfl) ?_
  refine lv_aload_n hx hb d_Un_init_5 rfl (lv_at hl 1 rfl) ?_
  refine va_putF (D := (dC, dI)) (ci := 4) (v := .ref h1) (ty := .object "NetUnfolder$Net") (C := "NetUnfolder$Unfolding") (T := T_Un) (N := 4) hx hb ht in_Un ty_Un ok_Un nm_Un hown hK hP hD hS 0 rfl rfl 0 (by decide) (ht _ wd_1_184) (fun _ h9 => h9) rfl hin rfl (by decide +kernel) rfl rfl (Nat.le_of_ble_eq_true rfl) d_Un_init_6 (fun H1 locs hPn hDn hSn => ?_)
  replace hP : va_P (dC, dI) clA [(h0, .inr (4, [.ref h1, .null, .null, .null]))] H1 := hPn
  replace hD : va_D A [(h0, .inr (4, [.ref h1, .null, .null, .null]))] := hDn
  replace hS := hSn
  clear hPn hDn hSn
  refine lv_aload_n hx hb d_Un_init_9 rfl (lv_at hl 0 rfl) ?_
  refine lv_aload_n hx hb d_Un_init_10 rfl (lv_at hl 2 rfl) ?_
  refine va_putF (D := (dC, dI)) (ci := 4) (v := .ref h2) (ty := .object "NetUnfolder$Prefix") (C := "NetUnfolder$Unfolding") (T := T_Un) (N := 4) hx hb ht in_Un ty_Un ok_Un nm_Un hown hK hP hD hS 0 rfl rfl 1 (by decide) (ht _ wd_1_185) (fun _ h9 => h9) rfl hin rfl (by decide +kernel) rfl rfl (Nat.le_of_ble_eq_true rfl) d_Un_init_11 (fun H2 locs hPn hDn hSn => ?_)
  replace hP : va_P (dC, dI) clA [(h0, .inr (4, [.ref h1, .ref h2, .null, .null]))] H2 := hPn
  replace hD : va_D A [(h0, .inr (4, [.ref h1, .ref h2, .null, .null]))] := hDn
  replace hS := hSn
  clear hPn hDn hSn
  refine lv_aload_n hx hb d_Un_init_14 rfl (lv_at hl 0 rfl) ?_
  refine lv_aload_n hx hb d_Un_init_15 rfl (lv_at hl 3 rfl) ?_
  refine va_putF (D := (dC, dI)) (ci := 4) (v := .ref h3) (ty := .object "NetUnfolder$Way") (C := "NetUnfolder$Unfolding") (T := T_Un) (N := 4) hx hb ht in_Un ty_Un ok_Un nm_Un hown hK hP hD hS 0 rfl rfl 2 (by decide) (ht _ wd_1_186) (fun _ h9 => h9) rfl hin rfl (by decide +kernel) rfl rfl (Nat.le_of_ble_eq_true rfl) d_Un_init_16 (fun H3 locs hPn hDn hSn => ?_)
  replace hP : va_P (dC, dI) clA [(h0, .inr (4, [.ref h1, .ref h2, .ref h3, .null]))] H3 := hPn
  replace hD : va_D A [(h0, .inr (4, [.ref h1, .ref h2, .ref h3, .null]))] := hDn
  replace hS := hSn
  clear hPn hDn hSn
  refine lv_aload_n hx hb d_Un_init_19 rfl (lv_at hl 0 rfl) ?_
  refine va_new (ci := 5) (fs := [.null, .int 0, .null, .null, .null]) (C := "NetUnfolder$Possible") (T := T_Po) (N := 5) hx hb ht in_Po ty_Po ok_Po hown (ht _ wd_1_158) (ht _ wd_1_159) (ht _ wd_1_6) hK hP hD hS hA rfl (by decide +kernel) (Nat.le_of_ble_eq_true rfl) (Nat.le_of_ble_eq_true rfl) d_Un_init_20 (fun q4 H5 hPn hDn hSn => ?_)
  replace hP : va_P (dC, dI) clA [(h0, .inr (4, [.ref h1, .ref h2, .ref h3, .null])), (q4, .inr (5, [.null, .int 0, .null, .null, .null]))] H5 := hPn
  replace hD : va_D A [(h0, .inr (4, [.ref h1, .ref h2, .ref h3, .null])), (q4, .inr (5, [.null, .int 0, .null, .null, .null]))] := hDn
  replace hS := hSn
  clear hPn hDn hSn
  refine W.cs (cells' := 1) (slots' := 5) rfl rfl ?_
  refine lv_dup hx hb d_Un_init_23 rfl ?_
  refine lv_aload_n hx hb d_Un_init_24 rfl (lv_at hl 2 rfl) ?_
  have hPc := hP.sub (ws' := [(q4, .inr (5, [.null, .int 0, .null, .null, .null]))]) [1] rfl
  have hDc := hD.sub (ws' := [(q4, .inr (5, [.null, .int 0, .null, .null, .null]))]) [1] (by decide) rfl
  have hFc := va_free (wc := [(q4, .inr (5, [.null, .int 0, .null, .null, .null]))]) hD hS hA [1] rfl
  refine va_callv (va_runI (As := [.ref h2]) (rest := [.ref q4, .ref h0]) ⟨hx, hb, hml, hown, ht⟩ (c_Po_init l dC dI cI cL cZ _ q4 h2 ) (cwI 1 ht (goodA wd_1_162) rfl rfl rfl (ht _ wd_1_6) (ht _ wd_1_160) (ht _ wd_1_161) rfl (by decide +kernel) ⟨Nat.le_of_ble_eq_true rfl, Nat.le_of_ble_eq_true rfl⟩) ⟨fun a U g mk q => by obtain ⟨q0, q1, qP, qK, qD, qN⟩ := q; exact ⟨q0, q1, qP, va_K.moved (u := U) (U := U.calling g mk a) (Vm.Alike.refl U.vm) qK, qD, NwA.same (u := U) rfl qN⟩, fun U hU hW => ⟨rfl, by rw [hU], by rw [hU]; exact hPc, va_K.moved hW.alike hK, hDc.weaken (fun _ _ _ _ => trivial), NwA.warm hW hN⟩⟩ rfl rfl hl.1 rfl (lv_room (Nat.le_of_ble_eq_true rfl)) d_Un_init_25 ⟨Nat.le_of_ble_eq_true rfl, Nat.le_of_ble_eq_true rfl⟩) hS (fun q _ h => hFc q h) hFc (fun u t H6 locs ht9 hvm hw7 hB hz1 hk1 hSn => ?_)
  obtain ⟨q8, q9, q10, hP1, hD1⟩ := hB
  rw [ht9] at hP1
  obtain ⟨hPn, hDn⟩ := va_join (wr := [(h0, .inr (4, [.ref h1, .ref h2, .ref h3, .null]))]) (w1 := [(q4, .inr (5, [.ref h2, .int 0, .ref q8, .ref q9, .ref q10])), (q8, .inl (cI, 201, .inl (fun _ => 0))), (q9, .inl (cL, 201, .inr (.inl (fun _ => 0)))), (q10, .inl (cL, 201, .inr (.inl (fun _ => 0))))]) hP hD [1] [0] rfl rfl (by decide) (by decide) hk1 hFc hP1 hD1
  replace hP : va_P (dC, dI) clA [(h0, .inr (4, [.ref h1, .ref h2, .ref h3, .null])), (q4, .inr (5, [.ref h2, .int 0, .ref q8, .ref q9, .ref q10])), (q8, .inl (cI, 201, .inl (fun _ => 0))), (q9, .inl (cL, 201, .inr (.inl (fun _ => 0)))), (q10, .inl (cL, 201, .inr (.inl (fun _ => 0))))] H6 := hPn
  replace hD : va_D A [(h0, .inr (4, [.ref h1, .ref h2, .ref h3, .null])), (q4, .inr (5, [.ref h2, .int 0, .ref q8, .ref q9, .ref q10])), (q8, .inl (cI, 201, .inl (fun _ => 0))), (q9, .inl (cL, 201, .inr (.inl (fun _ => 0)))), (q10, .inl (cL, 201, .inr (.inl (fun _ => 0))))] := hDn
  replace hS := hSn
  clear hPn hDn hSn
  clear hPc hDc hFc hP1 hD1 hk1 hz1 ht9 hvm
  refine W.cs (cells' := 4) (slots' := 608) rfl rfl ?_
  refine va_putF (D := (dC, dI)) (ci := 4) (v := .ref q4) (ty := .object "NetUnfolder$Possible") (C := "NetUnfolder$Unfolding") (T := T_Un) (N := 4) hx hb ht in_Un ty_Un ok_Un nm_Un hown hK hP hD hS 0 rfl rfl 3 (by decide) (ht _ wd_1_187) (fun _ h9 => h9) rfl hin rfl (by decide +kernel) rfl rfl (Nat.le_of_ble_eq_true rfl) d_Un_init_28 (fun H11 locs hPn hDn hSn => ?_)
  replace hP : va_P (dC, dI) clA [(h0, .inr (4, [.ref h1, .ref h2, .ref h3, .ref q4])), (q4, .inr (5, [.ref h2, .int 0, .ref q8, .ref q9, .ref q10])), (q8, .inl (cI, 201, .inl (fun _ => 0))), (q9, .inl (cL, 201, .inr (.inl (fun _ => 0)))), (q10, .inl (cL, 201, .inr (.inl (fun _ => 0))))] H11 := hPn
  replace hD : va_D A [(h0, .inr (4, [.ref h1, .ref h2, .ref h3, .ref q4])), (q4, .inr (5, [.ref h2, .int 0, .ref q8, .ref q9, .ref q10])), (q8, .inl (cI, 201, .inl (fun _ => 0))), (q9, .inl (cL, 201, .inr (.inl (fun _ => 0)))), (q10, .inl (cL, 201, .inr (.inl (fun _ => 0))))] := hDn
  replace hS := hSn
  clear hPn hDn hSn
  have hP9 := hP.sub (ws' := [(h0, .inr (4, [.ref h1, .ref h2, .ref h3, .ref q4])), (q4, .inr (5, [.ref h2, .int 0, .ref q8, .ref q9, .ref q10])), (q8, .inl (cI, 201, .inl (fun _ => 0))), (q9, .inl (cL, 201, .inr (.inl (fun _ => 0)))), (q10, .inl (cL, 201, .inr (.inl (fun _ => 0))))]) [0, 1, 2, 3, 4] rfl
  have hD9 := hD.sub (ws' := [(h0, .inr (4, [.ref h1, .ref h2, .ref h3, .ref q4])), (q4, .inr (5, [.ref h2, .int 0, .ref q8, .ref q9, .ref q10])), (q8, .inl (cI, 201, .inl (fun _ => 0))), (q9, .inl (cL, 201, .inr (.inl (fun _ => 0)))), (q10, .inl (cL, 201, .inr (.inl (fun _ => 0))))]) [0, 1, 2, 3, 4] (by decide) rfl
  exact W.vret hx hb hr (fun t ht9 hW => ⟨⟨(), rfl, trivial, q4, q8, q9, q10, by rw [ht9]; exact hP9, hD9⟩, hS.F ht9⟩) hS.2.2 d_Un_init_31

set_option maxHeartbeats 4000000 in
set_option maxRecDepth 100000 in
theorem c_Cs_init (l : Launch) (dC : Nat → ClassId) (dI : Nat → Nat → Nat) (cI cL cZ : ClassId) (sz : Nat) (h0 : Nat) : Met l y_Cs_init (Cond.code y_Cs_init prog_2_method_1_code 1 none :: wsA) { frames := 1, cells := 2, slots := 1630, locals := 12 } (va_Pc [.ref h0] (fun U => U.heap.size = sz ∧ va_P (dC, dI) clA [(h0, .inr (7, [.null, .null, .int 0, .int 0]))] U.heap ∧ va_K (dC, dI) clA [(cI, .int), (cL, .long), (cZ, .boolean)] U ∧ va_D (fun _ => True) [(h0, .inr (7, [.null, .null, .int 0, .int 0]))] ∧ NwA U)) (va_Qv (fun _ : Unit => True) (fun _ t => ∃ q1 q4 : Nat, va_P (dC, dI) clA [(h0, .inr (7, [.ref q1, .ref q4, .int 0, .int 0])), (q1, .inl (cL, 815, .inr (.inl (fun _ => 0)))), (q4, .inl (cL, 815, .inr (.inl (fun _ => 0))))] t.heap ∧ va_D (va_A [(h0, .inr (7, [.null, .null, .int 0, .int 0]))] sz) [(h0, .inr (7, [.ref q1, .ref q4, .int 0, .int 0])), (q1, .inl (cL, 815, .inr (.inl (fun _ => 0)))), (q4, .inl (cL, 815, .inr (.inl (fun _ => 0))))]) (va_A [(h0, .inr (7, [.null, .null, .int 0, .int 0]))] sz)) 2 1630 (va_A [(h0, .inr (7, [.null, .null, .int 0, .int 0]))] sz) := by
  refine Met.ofW (cc := prog_2_method_1_code) (maxL := 1) (ret := none) (by decide) rfl ?_
  intro p e s m args below meth c s₁ B hml hv
  obtain ⟨rfl, hsz, hP, hK, hD0, hN⟩ := hv
  have hx := B.exec
  have hb := B.bytes
  have hr := B.returns
  have ht : ∀ w ∈ wsA, w.before _ s = true := fun w h => atoms_spec (ws := (Cond.code y_Cs_init prog_2_method_1_code 1 none :: wsA)) B.pre w (List.mem_cons_of_mem _ h)
  have hown : s.vm.findClass "NetUnfolder$Clauses" = some m.cls := findClass_of_methodNamed B.named
  have hlocks := B.notSynchronized
  have hin : meth.name = "<init>" := (name_of_methodNamed B.named B.method).1
  subst hsz
  have hD := hD0.self (sz := s.heap.size)
  generalize hAe : va_A [(h0, .inr (7, [.null, .null, .int 0, .int 0]))] s.heap.size = A at hD ⊢
  have hA : ∀ q : Nat, s.heap.size ≤ q → A q := fun q h => by rw [← hAe]; exact Or.inr h
  have hS : va_S A s.heap s.heap [] := va_S.rf
  have hl := lv_entry ([.ref h0]) (n := 1) (Nat.le_of_ble_eq_true rfl)
  rw [lg_entry_eq]
  generalize (lg_sl ([.ref h0]) ++ List.replicate (1 - (lg_sl ([.ref h0])).length) Slot.unset).toArray = ls at hl ⊢
  replace hl : lv_has ls 1 [(0, .ref h0)] := hl
  refine lv_aload_n hx hb d_Cs_init_0 rfl (lv_at hl 0 rfl) ?_
  refine W.objInit hx hb hown (ht (.methodLink "NetUnfolder$Clauses" 3 Lib.objectInit) wd_1_208) (ht (.instanceMethod Lib.objectInit) wd_1_25) (ht (.code Lib.objectInit ⟨#[0xb1]⟩ 1 none) wd_1_26) rfl (by rw [hml]; exact hl.1) rfl d_Cs_init_1 (Nat.le_of_ble_eq_true rfl) (Nat.le_of_ble_eq_true rfl) ?_
  refine W.eq (g2 := F0 m 4 ls []) rfl ?_
  refine lv_aload_n hx hb d_Cs_init_4 rfl (lv_at hl 0 rfl) ?_
  refine lv_sipush (v := 815) hx hb d_Cs_init_5 (by decide) ?_
  refine nx_newaJ hx hb (ht _ wd_1_136) hK hP hD hS hA 1 rfl (N' := 815) (by decide) (by decide) (Nat.le_of_ble_eq_true rfl) (Nat.le_of_ble_eq_true rfl) (Nat.le_of_ble_eq_true rfl) d_Cs_init_8 (fun q1 H2 hPn hDn hSn => ?_)
  replace hP : va_P (dC, dI) clA [(h0, .inr (7, [.null, .null, .int 0, .int 0])), (q1, .inl (cL, 815, .inr (.inl (fun _ => 0))))] H2 := hPn
  replace hD : va_D A [(h0, .inr (7, [.null, .null, .int 0, .int 0])), (q1, .inl (cL, 815, .inr (.inl (fun _ => 0))))] := hDn
  replace hS := hSn
  clear hPn hDn hSn
  refine W.cs (cells' := 1) (slots' := 815) rfl rfl ?_
  refine va_putF (D := (dC, dI)) (ci := 7) (v := .ref q1) (ty := .array .long) (C := "NetUnfolder$Clauses") (T := T_Cs) (N := 4) hx hb ht in_Cs ty_Cs ok_Cs nm_Cs hown hK hP hD hS 0 rfl rfl 0 (by decide) (ht _ wd_1_209) (fun _ h9 => h9) rfl hin rfl (by decide +kernel) rfl rfl (Nat.le_of_ble_eq_true rfl) d_Cs_init_10 (fun H3 locs hPn hDn hSn => ?_)
  replace hP : va_P (dC, dI) clA [(h0, .inr (7, [.ref q1, .null, .int 0, .int 0])), (q1, .inl (cL, 815, .inr (.inl (fun _ => 0))))] H3 := hPn
  replace hD : va_D A [(h0, .inr (7, [.ref q1, .null, .int 0, .int 0])), (q1, .inl (cL, 815, .inr (.inl (fun _ => 0))))] := hDn
  replace hS := hSn
  clear hPn hDn hSn
  refine lv_aload_n hx hb d_Cs_init_13 rfl (lv_at hl 0 rfl) ?_
  refine lv_sipush (v := 815) hx hb d_Cs_init_14 (by decide) ?_
  refine nx_newaJ hx hb (ht _ wd_1_136) hK hP hD hS hA 1 rfl (N' := 815) (by decide) (by decide) (Nat.le_of_ble_eq_true rfl) (Nat.le_of_ble_eq_true rfl) (Nat.le_of_ble_eq_true rfl) d_Cs_init_17 (fun q4 H5 hPn hDn hSn => ?_)
  replace hP : va_P (dC, dI) clA [(h0, .inr (7, [.ref q1, .null, .int 0, .int 0])), (q1, .inl (cL, 815, .inr (.inl (fun _ => 0)))), (q4, .inl (cL, 815, .inr (.inl (fun _ => 0))))] H5 := hPn
  replace hD : va_D A [(h0, .inr (7, [.ref q1, .null, .int 0, .int 0])), (q1, .inl (cL, 815, .inr (.inl (fun _ => 0)))), (q4, .inl (cL, 815, .inr (.inl (fun _ => 0))))] := hDn
  replace hS := hSn
  clear hPn hDn hSn
  refine W.cs (cells' := 2) (slots' := 1630) rfl rfl ?_
  refine va_putF (D := (dC, dI)) (ci := 7) (v := .ref q4) (ty := .array .long) (C := "NetUnfolder$Clauses") (T := T_Cs) (N := 4) hx hb ht in_Cs ty_Cs ok_Cs nm_Cs hown hK hP hD hS 0 rfl rfl 1 (by decide) (ht _ wd_1_211) (fun _ h9 => h9) rfl hin rfl (by decide +kernel) rfl rfl (Nat.le_of_ble_eq_true rfl) d_Cs_init_19 (fun H6 locs hPn hDn hSn => ?_)
  replace hP : va_P (dC, dI) clA [(h0, .inr (7, [.ref q1, .ref q4, .int 0, .int 0])), (q1, .inl (cL, 815, .inr (.inl (fun _ => 0)))), (q4, .inl (cL, 815, .inr (.inl (fun _ => 0))))] H6 := hPn
  replace hD : va_D A [(h0, .inr (7, [.ref q1, .ref q4, .int 0, .int 0])), (q1, .inl (cL, 815, .inr (.inl (fun _ => 0)))), (q4, .inl (cL, 815, .inr (.inl (fun _ => 0))))] := hDn
  replace hS := hSn
  clear hPn hDn hSn
  have hP9 := hP.sub (ws' := [(h0, .inr (7, [.ref q1, .ref q4, .int 0, .int 0])), (q1, .inl (cL, 815, .inr (.inl (fun _ => 0)))), (q4, .inl (cL, 815, .inr (.inl (fun _ => 0))))]) [0, 1, 2] rfl
  have hD9 := hD.sub (ws' := [(h0, .inr (7, [.ref q1, .ref q4, .int 0, .int 0])), (q1, .inl (cL, 815, .inr (.inl (fun _ => 0)))), (q4, .inl (cL, 815, .inr (.inl (fun _ => 0))))]) [0, 1, 2] (by decide) rfl
  exact W.vret hx hb hr (fun t ht9 hW => ⟨⟨(), rfl, trivial, q1, q4, by rw [ht9]; exact hP9, hD9⟩, hS.F ht9⟩) hS.2.2 d_Cs_init_22

set_option maxHeartbeats 4000000 in
set_option maxRecDepth 100000 in
theorem c_Se_init (l : Launch) (dC : Nat → ClassId) (dI : Nat → Nat → Nat) (cI cL cZ : ClassId) (sz : Nat) (h0 : Nat) (h1 : Nat) : Met l y_Se_init (Cond.code y_Se_init prog_7_method_1_code 2 none :: wsA) { frames := 1, cells := 3, slots := 115, locals := 12 } (va_Pc [.ref h0, .ref h1] (fun U => U.heap.size = sz ∧ va_P (dC, dI) clA [(h0, .inr (8, [.null, .long 0, .long 0, .int 0, .null, .null, .int 0, .null]))] U.heap ∧ va_K (dC, dI) clA [(cI, .int), (cL, .long), (cZ, .boolean)] U ∧ va_D (fun _ => True) [(h0, .inr (8, [.null, .long 0, .long 0, .int 0, .null, .null, .int 0, .null]))] ∧ NwA U)) (va_Qv (fun _ : Unit => True) (fun _ t => ∃ q1 q4 q7 : Nat, va_P (dC, dI) clA [(h0, .inr (8, [.ref h1, .long 0, .long 0, .int 0, .ref q1, .ref q4, .int 0, .ref q7])), (q1, .inl (cL, 39, .inr (.inl (fun _ => 0)))), (q4, .inl (cI, 38, .inl (fun _ => 0))), (q7, .inl (cI, 38, .inl (fun _ => 0)))] t.heap ∧ va_D (va_A [(h0, .inr (8, [.null, .long 0, .long 0, .int 0, .null, .null, .int 0, .null]))] sz) [(h0, .inr (8, [.ref h1, .long 0, .long 0, .int 0, .ref q1, .ref q4, .int 0, .ref q7])), (q1, .inl (cL, 39, .inr (.inl (fun _ => 0)))), (q4, .inl (cI, 38, .inl (fun _ => 0))), (q7, .inl (cI, 38, .inl (fun _ => 0)))]) (va_A [(h0, .inr (8, [.null, .long 0, .long 0, .int 0, .null, .null, .int 0, .null]))] sz)) 3 115 (va_A [(h0, .inr (8, [.null, .long 0, .long 0, .int 0, .null, .null, .int 0, .null]))] sz) := by
  refine Met.ofW (cc := prog_7_method_1_code) (maxL := 2) (ret := none) (by decide) rfl ?_
  intro p e s m args below meth c s₁ B hml hv
  obtain ⟨rfl, hsz, hP, hK, hD0, hN⟩ := hv
  have hx := B.exec
  have hb := B.bytes
  have hr := B.returns
  have ht : ∀ w ∈ wsA, w.before _ s = true := fun w h => atoms_spec (ws := (Cond.code y_Se_init prog_7_method_1_code 2 none :: wsA)) B.pre w (List.mem_cons_of_mem _ h)
  have hown : s.vm.findClass "NetUnfolder$Search" = some m.cls := findClass_of_methodNamed B.named
  have hlocks := B.notSynchronized
  have hin : meth.name = "<init>" := (name_of_methodNamed B.named B.method).1
  subst hsz
  have hD := hD0.self (sz := s.heap.size)
  generalize hAe : va_A [(h0, .inr (8, [.null, .long 0, .long 0, .int 0, .null, .null, .int 0, .null]))] s.heap.size = A at hD ⊢
  have hA : ∀ q : Nat, s.heap.size ≤ q → A q := fun q h => by rw [← hAe]; exact Or.inr h
  have hS : va_S A s.heap s.heap [] := va_S.rf
  have hl := lv_entry ([.ref h0, .ref h1]) (n := 2) (Nat.le_of_ble_eq_true rfl)
  rw [lg_entry_eq]
  generalize (lg_sl ([.ref h0, .ref h1]) ++ List.replicate (2 - (lg_sl ([.ref h0, .ref h1])).length) Slot.unset).toArray = ls at hl ⊢
  replace hl : lv_has ls 2 [(0, .ref h0), (1, .ref h1)] := hl
  refine lv_aload_n hx hb d_Se_init_0 rfl (lv_at hl 0 rfl) ?_
  refine W.objInit hx hb hown (ht (.methodLink "NetUnfolder$Search" 3 Lib.objectInit) wd_1_231) (ht (.instanceMethod Lib.objectInit) wd_1_25) (ht (.code Lib.objectInit ⟨#[0xb1]⟩ 1 none) wd_1_26) rfl (by rw [hml]; exact hl.1) rfl d_Se_init_1 (Nat.le_of_ble_eq_true rfl) (Nat.le_of_ble_eq_true rfl) ?_
  refine W.eq (g2 := F0 m 4 ls []) rfl ?_
  refine lv_aload_n hx hb d_Se_init_4 rfl (lv_at hl 0 rfl) ?_
  refine lv_bipush (v := 39) hx hb d_Se_init_5 (by decide) ?_
  refine nx_newaJ hx hb (ht _ wd_1_136) hK hP hD hS hA 1 rfl (N' := 39) (by decide) (by decide) (Nat.le_of_ble_eq_true rfl) (Nat.le_of_ble_eq_true rfl) (Nat.le_of_ble_eq_true rfl) d_Se_init_7 (fun q1 H2 hPn hDn hSn => ?_)
  replace hP : va_P (dC, dI) clA [(h0, .inr (8, [.null, .long 0, .long 0, .int 0, .null, .null, .int 0, .null])), (q1, .inl (cL, 39, .inr (.inl (fun _ => 0))))] H2 := hPn
  replace hD : va_D A [(h0, .inr (8, [.null, .long 0, .long 0, .int 0, .null, .null, .int 0, .null])), (q1, .inl (cL, 39, .inr (.inl (fun _ => 0))))] := hDn
  replace hS := hSn
  clear hPn hDn hSn
  refine W.cs (cells' := 1) (slots' := 39) rfl rfl ?_
  refine va_putF (D := (dC, dI)) (ci := 8) (v := .ref q1) (ty := .array .long) (C := "NetUnfolder$Search") (T := T_Se) (N := 8) hx hb ht in_Se ty_Se ok_Se nm_Se hown hK hP hD hS 0 rfl rfl 4 (by decide) (ht _ wd_1_236) (fun _ h9 => h9) rfl hin rfl (by decide +kernel) rfl rfl (Nat.le_of_ble_eq_true rfl) d_Se_init_9 (fun H3 locs hPn hDn hSn => ?_)
  replace hP : va_P (dC, dI) clA [(h0, .inr (8, [.null, .long 0, .long 0, .int 0, .ref q1, .null, .int 0, .null])), (q1, .inl (cL, 39, .inr (.inl (fun _ => 0))))] H3 := hPn
  replace hD : va_D A [(h0, .inr (8, [.null, .long 0, .long 0, .int 0, .ref q1, .null, .int 0, .null])), (q1, .inl (cL, 39, .inr (.inl (fun _ => 0))))] := hDn
  replace hS := hSn
  clear hPn hDn hSn
  refine lv_aload_n hx hb d_Se_init_12 rfl (lv_at hl 0 rfl) ?_
  refine lv_bipush (v := 38) hx hb d_Se_init_13 (by decide) ?_
  refine nx_newaI hx hb (ht _ wd_1_55) hK hP hD hS hA 0 rfl (N' := 38) (by decide) (by decide) (Nat.le_of_ble_eq_true rfl) (Nat.le_of_ble_eq_true rfl) (Nat.le_of_ble_eq_true rfl) d_Se_init_15 (fun q4 H5 hPn hDn hSn => ?_)
  replace hP : va_P (dC, dI) clA [(h0, .inr (8, [.null, .long 0, .long 0, .int 0, .ref q1, .null, .int 0, .null])), (q1, .inl (cL, 39, .inr (.inl (fun _ => 0)))), (q4, .inl (cI, 38, .inl (fun _ => 0)))] H5 := hPn
  replace hD : va_D A [(h0, .inr (8, [.null, .long 0, .long 0, .int 0, .ref q1, .null, .int 0, .null])), (q1, .inl (cL, 39, .inr (.inl (fun _ => 0)))), (q4, .inl (cI, 38, .inl (fun _ => 0)))] := hDn
  replace hS := hSn
  clear hPn hDn hSn
  refine W.cs (cells' := 2) (slots' := 77) rfl rfl ?_
  refine va_putF (D := (dC, dI)) (ci := 8) (v := .ref q4) (ty := .array .int) (C := "NetUnfolder$Search") (T := T_Se) (N := 8) hx hb ht in_Se ty_Se ok_Se nm_Se hown hK hP hD hS 0 rfl rfl 5 (by decide) (ht _ wd_1_237) (fun _ h9 => h9) rfl hin rfl (by decide +kernel) rfl rfl (Nat.le_of_ble_eq_true rfl) d_Se_init_17 (fun H6 locs hPn hDn hSn => ?_)
  replace hP : va_P (dC, dI) clA [(h0, .inr (8, [.null, .long 0, .long 0, .int 0, .ref q1, .ref q4, .int 0, .null])), (q1, .inl (cL, 39, .inr (.inl (fun _ => 0)))), (q4, .inl (cI, 38, .inl (fun _ => 0)))] H6 := hPn
  replace hD : va_D A [(h0, .inr (8, [.null, .long 0, .long 0, .int 0, .ref q1, .ref q4, .int 0, .null])), (q1, .inl (cL, 39, .inr (.inl (fun _ => 0)))), (q4, .inl (cI, 38, .inl (fun _ => 0)))] := hDn
  replace hS := hSn
  clear hPn hDn hSn
  refine lv_aload_n hx hb d_Se_init_20 rfl (lv_at hl 0 rfl) ?_
  refine lv_bipush (v := 38) hx hb d_Se_init_21 (by decide) ?_
  refine nx_newaI hx hb (ht _ wd_1_55) hK hP hD hS hA 0 rfl (N' := 38) (by decide) (by decide) (Nat.le_of_ble_eq_true rfl) (Nat.le_of_ble_eq_true rfl) (Nat.le_of_ble_eq_true rfl) d_Se_init_23 (fun q7 H8 hPn hDn hSn => ?_)
  replace hP : va_P (dC, dI) clA [(h0, .inr (8, [.null, .long 0, .long 0, .int 0, .ref q1, .ref q4, .int 0, .null])), (q1, .inl (cL, 39, .inr (.inl (fun _ => 0)))), (q4, .inl (cI, 38, .inl (fun _ => 0))), (q7, .inl (cI, 38, .inl (fun _ => 0)))] H8 := hPn
  replace hD : va_D A [(h0, .inr (8, [.null, .long 0, .long 0, .int 0, .ref q1, .ref q4, .int 0, .null])), (q1, .inl (cL, 39, .inr (.inl (fun _ => 0)))), (q4, .inl (cI, 38, .inl (fun _ => 0))), (q7, .inl (cI, 38, .inl (fun _ => 0)))] := hDn
  replace hS := hSn
  clear hPn hDn hSn
  refine W.cs (cells' := 3) (slots' := 115) rfl rfl ?_
  refine va_putF (D := (dC, dI)) (ci := 8) (v := .ref q7) (ty := .array .int) (C := "NetUnfolder$Search") (T := T_Se) (N := 8) hx hb ht in_Se ty_Se ok_Se nm_Se hown hK hP hD hS 0 rfl rfl 7 (by decide) (ht _ wd_1_239) (fun _ h9 => h9) rfl hin rfl (by decide +kernel) rfl rfl (Nat.le_of_ble_eq_true rfl) d_Se_init_25 (fun H9 locs hPn hDn hSn => ?_)
  replace hP : va_P (dC, dI) clA [(h0, .inr (8, [.null, .long 0, .long 0, .int 0, .ref q1, .ref q4, .int 0, .ref q7])), (q1, .inl (cL, 39, .inr (.inl (fun _ => 0)))), (q4, .inl (cI, 38, .inl (fun _ => 0))), (q7, .inl (cI, 38, .inl (fun _ => 0)))] H9 := hPn
  replace hD : va_D A [(h0, .inr (8, [.null, .long 0, .long 0, .int 0, .ref q1, .ref q4, .int 0, .ref q7])), (q1, .inl (cL, 39, .inr (.inl (fun _ => 0)))), (q4, .inl (cI, 38, .inl (fun _ => 0))), (q7, .inl (cI, 38, .inl (fun _ => 0)))] := hDn
  replace hS := hSn
  clear hPn hDn hSn
  refine lv_aload_n hx hb d_Se_init_28 rfl (lv_at hl 0 rfl) ?_
  refine lv_aload_n hx hb d_Se_init_29 rfl (lv_at hl 1 rfl) ?_
  refine va_putF (D := (dC, dI)) (ci := 8) (v := .ref h1) (ty := .object "NetUnfolder$Clauses") (C := "NetUnfolder$Search") (T := T_Se) (N := 8) hx hb ht in_Se ty_Se ok_Se nm_Se hown hK hP hD hS 0 rfl rfl 0 (by decide) (ht _ wd_1_232) (fun _ h9 => h9) rfl hin rfl (by decide +kernel) rfl rfl (Nat.le_of_ble_eq_true rfl) d_Se_init_30 (fun H10 locs hPn hDn hSn => ?_)
  replace hP : va_P (dC, dI) clA [(h0, .inr (8, [.ref h1, .long 0, .long 0, .int 0, .ref q1, .ref q4, .int 0, .ref q7])), (q1, .inl (cL, 39, .inr (.inl (fun _ => 0)))), (q4, .inl (cI, 38, .inl (fun _ => 0))), (q7, .inl (cI, 38, .inl (fun _ => 0)))] H10 := hPn
  replace hD : va_D A [(h0, .inr (8, [.ref h1, .long 0, .long 0, .int 0, .ref q1, .ref q4, .int 0, .ref q7])), (q1, .inl (cL, 39, .inr (.inl (fun _ => 0)))), (q4, .inl (cI, 38, .inl (fun _ => 0))), (q7, .inl (cI, 38, .inl (fun _ => 0)))] := hDn
  replace hS := hSn
  clear hPn hDn hSn
  have hP9 := hP.sub (ws' := [(h0, .inr (8, [.ref h1, .long 0, .long 0, .int 0, .ref q1, .ref q4, .int 0, .ref q7])), (q1, .inl (cL, 39, .inr (.inl (fun _ => 0)))), (q4, .inl (cI, 38, .inl (fun _ => 0))), (q7, .inl (cI, 38, .inl (fun _ => 0)))]) [0, 1, 2, 3] rfl
  have hD9 := hD.sub (ws' := [(h0, .inr (8, [.ref h1, .long 0, .long 0, .int 0, .ref q1, .ref q4, .int 0, .ref q7])), (q1, .inl (cL, 39, .inr (.inl (fun _ => 0)))), (q4, .inl (cI, 38, .inl (fun _ => 0))), (q7, .inl (cI, 38, .inl (fun _ => 0)))]) [0, 1, 2, 3] (by decide) rfl
  exact W.vret hx hb hr (fun t ht9 hW => ⟨⟨(), rfl, trivial, q1, q4, q7, by rw [ht9]; exact hP9, hD9⟩, hS.F ht9⟩) hS.2.2 d_Se_init_33

set_option maxHeartbeats 4000000 in
set_option maxRecDepth 100000 in
theorem c_Qu_init (l : Launch) (dC : Nat → ClassId) (dI : Nat → Nat → Nat) (cI cL cZ : ClassId) (sz : Nat) (h0 : Nat) (h1 : Nat) (h2 : Nat) (h3 : Nat) : Met l y_Qu_init (Cond.code y_Qu_init prog_6_method_1_code 4 none :: wsA) { frames := 2, cells := 7, slots := 1757, locals := 33 } (va_Pc [.ref h0, .ref h1, .ref h2, .ref h3] (fun U => U.heap.size = sz ∧ va_P (dC, dI) clA [(h0, .inr (6, [.null, .null, .null, .null, .null, .int 0]))] U.heap ∧ va_K (dC, dI) clA [(cI, .int), (cL, .long), (cZ, .boolean)] U ∧ va_D (fun _ => True) [(h0, .inr (6, [.null, .null, .null, .null, .null, .int 0]))] ∧ NwA U)) (va_Qv (fun _ : Unit => True) (fun _ t => ∃ q1 q5 q6 q8 q12 q13 q14 : Nat, va_P (dC, dI) clA [(h0, .inr (6, [.ref h1, .ref h2, .ref h3, .ref q1, .ref q8, .int 0])), (q1, .inr (7, [.ref q5, .ref q6, .int 0, .int 0])), (q5, .inl (cL, 815, .inr (.inl (fun _ => 0)))), (q6, .inl (cL, 815, .inr (.inl (fun _ => 0)))), (q8, .inr (8, [.ref q1, .long 0, .long 0, .int 0, .ref q12, .ref q13, .int 0, .ref q14])), (q12, .inl (cL, 39, .inr (.inl (fun _ => 0)))), (q13, .inl (cI, 38, .inl (fun _ => 0))), (q14, .inl (cI, 38, .inl (fun _ => 0)))] t.heap ∧ va_D (va_A [(h0, .inr (6, [.null, .null, .null, .null, .null, .int 0]))] sz) [(h0, .inr (6, [.ref h1, .ref h2, .ref h3, .ref q1, .ref q8, .int 0])), (q1, .inr (7, [.ref q5, .ref q6, .int 0, .int 0])), (q5, .inl (cL, 815, .inr (.inl (fun _ => 0)))), (q6, .inl (cL, 815, .inr (.inl (fun _ => 0)))), (q8, .inr (8, [.ref q1, .long 0, .long 0, .int 0, .ref q12, .ref q13, .int 0, .ref q14])), (q12, .inl (cL, 39, .inr (.inl (fun _ => 0)))), (q13, .inl (cI, 38, .inl (fun _ => 0))), (q14, .inl (cI, 38, .inl (fun _ => 0)))]) (va_A [(h0, .inr (6, [.null, .null, .null, .null, .null, .int 0]))] sz)) 7 1757 (va_A [(h0, .inr (6, [.null, .null, .null, .null, .null, .int 0]))] sz) := by
  refine Met.ofW (cc := prog_6_method_1_code) (maxL := 4) (ret := none) (by decide) rfl ?_
  intro p e s m args below meth c s₁ B hml hv
  obtain ⟨rfl, hsz, hP, hK, hD0, hN⟩ := hv
  have hx := B.exec
  have hb := B.bytes
  have hr := B.returns
  have ht : ∀ w ∈ wsA, w.before _ s = true := fun w h => atoms_spec (ws := (Cond.code y_Qu_init prog_6_method_1_code 4 none :: wsA)) B.pre w (List.mem_cons_of_mem _ h)
  have hown : s.vm.findClass "NetUnfolder$Question" = some m.cls := findClass_of_methodNamed B.named
  have hlocks := B.notSynchronized
  have hin : meth.name = "<init>" := (name_of_methodNamed B.named B.method).1
  subst hsz
  have hD := hD0.self (sz := s.heap.size)
  generalize hAe : va_A [(h0, .inr (6, [.null, .null, .null, .null, .null, .int 0]))] s.heap.size = A at hD ⊢
  have hA : ∀ q : Nat, s.heap.size ≤ q → A q := fun q h => by rw [← hAe]; exact Or.inr h
  have hS : va_S A s.heap s.heap [] := va_S.rf
  have hl := lv_entry ([.ref h0, .ref h1, .ref h2, .ref h3]) (n := 4) (Nat.le_of_ble_eq_true rfl)
  rw [lg_entry_eq]
  generalize (lg_sl ([.ref h0, .ref h1, .ref h2, .ref h3]) ++ List.replicate (4 - (lg_sl ([.ref h0, .ref h1, .ref h2, .ref h3])).length) Slot.unset).toArray = ls at hl ⊢
  replace hl : lv_has ls 4 [(0, .ref h0), (1, .ref h1), (2, .ref h2), (3, .ref h3)] := hl
  refine lv_aload_n hx hb d_Qu_init_0 rfl (lv_at hl 0 rfl) ?_
  refine W.objInit hx hb hown (ht (.methodLink "NetUnfolder$Question" 3 Lib.objectInit) wd_1_202) (ht (.instanceMethod Lib.objectInit) wd_1_25) (ht (.code Lib.objectInit ⟨#[0xb1]⟩ 1 none) wd_1_26) rfl (by rw [hml]; exact hl.1) rfl d_Qu_init_1 (Nat.le_of_ble_eq_true rfl) (Nat.le_of_ble_eq_true rfl) ?_
  refine W.eq (g2 := F0 m 4 ls []) rfl ?_
  refine lv_aload_n hx hb d_Qu_init_4 rfl (lv_at hl 0 rfl) ?_
  refine va_new (ci := 7) (fs := [.null, .null, .int 0, .int 0]) (C := "NetUnfolder$Clauses") (T := T_Cs) (N := 4) hx hb ht in_Cs ty_Cs ok_Cs hown (ht _ wd_1_203) (ht _ wd_1_204) (ht _ wd_1_8) hK hP hD hS hA rfl (by decide +kernel) (Nat.le_of_ble_eq_true rfl) (Nat.le_of_ble_eq_true rfl) d_Qu_init_5 (fun q1 H2 hPn hDn hSn => ?_)
  replace hP : va_P (dC, dI) clA [(h0, .inr (6, [.null, .null, .null, .null, .null, .int 0])), (q1, .inr (7, [.null, .null, .int 0, .int 0]))] H2 := hPn
  replace hD : va_D A [(h0, .inr (6, [.null, .null, .null, .null, .null, .int 0])), (q1, .inr (7, [.null, .null, .int 0, .int 0]))] := hDn
  replace hS := hSn
  clear hPn hDn hSn
  refine W.cs (cells' := 1) (slots' := 4) rfl rfl ?_
  refine lv_dup hx hb d_Qu_init_8 rfl ?_
  have hPc := hP.sub (ws' := [(q1, .inr (7, [.null, .null, .int 0, .int 0]))]) [1] rfl
  have hDc := hD.sub (ws' := [(q1, .inr (7, [.null, .null, .int 0, .int 0]))]) [1] (by decide) rfl
  have hFc := va_free (wc := [(q1, .inr (7, [.null, .null, .int 0, .int 0]))]) hD hS hA [1] rfl
  refine va_callv (va_runIN (As := []) (rest := [.ref q1, .ref h0]) ⟨hx, hb, hml, hown, ht⟩ (c_Cs_init l dC dI cI cL cZ _ q1 ) ⟨va_cnB 0 ht (goodA wd_1_207) rfl rfl rfl hN.2.2.2.1 (ht _ wd_1_8) (by decide +kernel) ⟨Nat.le_of_ble_eq_true rfl, Nat.le_of_ble_eq_true rfl⟩, rfl, ht _ wd_1_206⟩ ⟨fun a U g mk q => by obtain ⟨q0, q1, qP, qK, qD, qN⟩ := q; exact ⟨q0, q1, qP, va_K.moved (u := U) (U := U.calling g mk a) (Vm.Alike.refl U.vm) qK, qD, NwA.same (u := U) rfl qN⟩, fun U hU hW => ⟨rfl, by rw [hU], by rw [hU]; exact hPc, va_K.moved hW.alike hK, hDc.weaken (fun _ _ _ _ => trivial), NwA.warm hW hN⟩⟩ rfl rfl hl.1 rfl (lv_room (Nat.le_of_ble_eq_true rfl)) d_Qu_init_9 ⟨Nat.le_of_ble_eq_true rfl, Nat.le_of_ble_eq_true rfl⟩) hS (fun q _ h => hFc q h) hFc (fun u t H3 locs ht9 hvm hw4 hB hz1 hk1 hSn => ?_)
  obtain ⟨q5, q6, hP1, hD1⟩ := hB
  rw [ht9] at hP1
  obtain ⟨hPn, hDn⟩ := va_join (wr := [(h0, .inr (6, [.null, .null, .null, .null, .null, .int 0]))]) (w1 := [(q1, .inr (7, [.ref q5, .ref q6, .int 0, .int 0])), (q5, .inl (cL, 815, .inr (.inl (fun _ => 0)))), (q6, .inl (cL, 815, .inr (.inl (fun _ => 0))))]) hP hD [1] [0] rfl rfl (by decide) (by decide) hk1 hFc hP1 hD1
  replace hP : va_P (dC, dI) clA [(h0, .inr (6, [.null, .null, .null, .null, .null, .int 0])), (q1, .inr (7, [.ref q5, .ref q6, .int 0, .int 0])), (q5, .inl (cL, 815, .inr (.inl (fun _ => 0)))), (q6, .inl (cL, 815, .inr (.inl (fun _ => 0))))] H3 := hPn
  replace hD : va_D A [(h0, .inr (6, [.null, .null, .null, .null, .null, .int 0])), (q1, .inr (7, [.ref q5, .ref q6, .int 0, .int 0])), (q5, .inl (cL, 815, .inr (.inl (fun _ => 0)))), (q6, .inl (cL, 815, .inr (.inl (fun _ => 0))))] := hDn
  replace hS := hSn
  clear hPn hDn hSn
  clear hPc hDc hFc hP1 hD1 hk1 hz1 ht9 hvm
  refine W.cs (cells' := 3) (slots' := 1634) rfl rfl ?_
  refine va_putF (D := (dC, dI)) (ci := 6) (v := .ref q1) (ty := .object "NetUnfolder$Clauses") (C := "NetUnfolder$Question") (T := T_Qu) (N := 6) hx hb ht in_Qu ty_Qu ok_Qu nm_Qu hown hK hP hD hS 0 rfl rfl 3 (by decide) (ht _ wd_2_20) (fun _ h9 => h9) rfl hin rfl (by decide +kernel) rfl rfl (Nat.le_of_ble_eq_true rfl) d_Qu_init_12 (fun H7 locs hPn hDn hSn => ?_)
  replace hP : va_P (dC, dI) clA [(h0, .inr (6, [.null, .null, .null, .ref q1, .null, .int 0])), (q1, .inr (7, [.ref q5, .ref q6, .int 0, .int 0])), (q5, .inl (cL, 815, .inr (.inl (fun _ => 0)))), (q6, .inl (cL, 815, .inr (.inl (fun _ => 0))))] H7 := hPn
  replace hD : va_D A [(h0, .inr (6, [.null, .null, .null, .ref q1, .null, .int 0])), (q1, .inr (7, [.ref q5, .ref q6, .int 0, .int 0])), (q5, .inl (cL, 815, .inr (.inl (fun _ => 0)))), (q6, .inl (cL, 815, .inr (.inl (fun _ => 0))))] := hDn
  replace hS := hSn
  clear hPn hDn hSn
  refine lv_aload_n hx hb d_Qu_init_15 rfl (lv_at hl 0 rfl) ?_
  refine va_new (ci := 8) (fs := [.null, .long 0, .long 0, .int 0, .null, .null, .int 0, .null]) (C := "NetUnfolder$Search") (T := T_Se) (N := 8) hx hb ht in_Se ty_Se ok_Se hown (ht _ wd_1_226) (ht _ wd_1_227) (ht _ wd_1_9) hK hP hD hS hA rfl (by decide +kernel) (Nat.le_of_ble_eq_true rfl) (Nat.le_of_ble_eq_true rfl) d_Qu_init_16 (fun q8 H9 hPn hDn hSn => ?_)
  replace hP : va_P (dC, dI) clA [(h0, .inr (6, [.null, .null, .null, .ref q1, .null, .int 0])), (q1, .inr (7, [.ref q5, .ref q6, .int 0, .int 0])), (q5, .inl (cL, 815, .inr (.inl (fun _ => 0)))), (q6, .inl (cL, 815, .inr (.inl (fun _ => 0)))), (q8, .inr (8, [.null, .long 0, .long 0, .int 0, .null, .null, .int 0, .null]))] H9 := hPn
  replace hD : va_D A [(h0, .inr (6, [.null, .null, .null, .ref q1, .null, .int 0])), (q1, .inr (7, [.ref q5, .ref q6, .int 0, .int 0])), (q5, .inl (cL, 815, .inr (.inl (fun _ => 0)))), (q6, .inl (cL, 815, .inr (.inl (fun _ => 0)))), (q8, .inr (8, [.null, .long 0, .long 0, .int 0, .null, .null, .int 0, .null]))] := hDn
  replace hS := hSn
  clear hPn hDn hSn
  refine W.cs (cells' := 4) (slots' := 1642) rfl rfl ?_
  refine lv_dup hx hb d_Qu_init_19 rfl ?_
  refine lv_aload_n hx hb d_Qu_init_20 rfl (lv_at hl 0 rfl) ?_
  refine va_get (D := (dC, dI)) (ci := 6) (v := .ref q1) (C := "NetUnfolder$Question") (T := T_Qu) (N := 6) hx hb ht in_Qu hown hK hP 0 rfl rfl 3 (by decide) (ht _ wd_2_20) (fun _ h9 => h9) rfl d_Qu_init_21 ?_
  have hPc := hP.sub (ws' := [(q8, .inr (8, [.null, .long 0, .long 0, .int 0, .null, .null, .int 0, .null]))]) [4] rfl
  have hDc := hD.sub (ws' := [(q8, .inr (8, [.null, .long 0, .long 0, .int 0, .null, .null, .int 0, .null]))]) [4] (by decide) rfl
  have hFc := va_free (wc := [(q8, .inr (8, [.null, .long 0, .long 0, .int 0, .null, .null, .int 0, .null]))]) hD hS hA [4] rfl
  refine va_callv (va_runI (As := [.ref q1]) (rest := [.ref q8, .ref h0]) ⟨hx, hb, hml, hown, ht⟩ (c_Se_init l dC dI cI cL cZ _ q8 q1 ) (cwI 1 ht (goodA wd_1_230) rfl rfl rfl (ht _ wd_1_9) (ht _ wd_1_228) (ht _ wd_1_229) rfl (by decide +kernel) ⟨Nat.le_of_ble_eq_true rfl, Nat.le_of_ble_eq_true rfl⟩) ⟨fun a U g mk q => by obtain ⟨q0, q1, qP, qK, qD, qN⟩ := q; exact ⟨q0, q1, qP, va_K.moved (u := U) (U := U.calling g mk a) (Vm.Alike.refl U.vm) qK, qD, NwA.same (u := U) rfl qN⟩, fun U hU hW => ⟨rfl, by rw [hU], by rw [hU]; exact hPc, va_K.moved hW.alike hK, hDc.weaken (fun _ _ _ _ => trivial), NwA.warm hW hN⟩⟩ rfl rfl hl.1 rfl (lv_room (Nat.le_of_ble_eq_true rfl)) d_Qu_init_24 ⟨Nat.le_of_ble_eq_true rfl, Nat.le_of_ble_eq_true rfl⟩) hS (fun q _ h => hFc q h) hFc (fun u t H10 locs ht9 hvm hw11 hB hz1 hk1 hSn => ?_)
  obtain ⟨q12, q13, q14, hP1, hD1⟩ := hB
  rw [ht9] at hP1
  obtain ⟨hPn, hDn⟩ := va_join (wr := [(h0, .inr (6, [.null, .null, .null, .ref q1, .null, .int 0])), (q1, .inr (7, [.ref q5, .ref q6, .int 0, .int 0])), (q5, .inl (cL, 815, .inr (.inl (fun _ => 0)))), (q6, .inl (cL, 815, .inr (.inl (fun _ => 0))))]) (w1 := [(q8, .inr (8, [.ref q1, .long 0, .long 0, .int 0, .ref q12, .ref q13, .int 0, .ref q14])), (q12, .inl (cL, 39, .inr (.inl (fun _ => 0)))), (q13, .inl (cI, 38, .inl (fun _ => 0))), (q14, .inl (cI, 38, .inl (fun _ => 0)))]) hP hD [4] [0, 1, 2, 3] rfl rfl (by decide) (by decide) hk1 hFc hP1 hD1
  replace hP : va_P (dC, dI) clA [(h0, .inr (6, [.null, .null, .null, .ref q1, .null, .int 0])), (q1, .inr (7, [.ref q5, .ref q6, .int 0, .int 0])), (q5, .inl (cL, 815, .inr (.inl (fun _ => 0)))), (q6, .inl (cL, 815, .inr (.inl (fun _ => 0)))), (q8, .inr (8, [.ref q1, .long 0, .long 0, .int 0, .ref q12, .ref q13, .int 0, .ref q14])), (q12, .inl (cL, 39, .inr (.inl (fun _ => 0)))), (q13, .inl (cI, 38, .inl (fun _ => 0))), (q14, .inl (cI, 38, .inl (fun _ => 0)))] H10 := hPn
  replace hD : va_D A [(h0, .inr (6, [.null, .null, .null, .ref q1, .null, .int 0])), (q1, .inr (7, [.ref q5, .ref q6, .int 0, .int 0])), (q5, .inl (cL, 815, .inr (.inl (fun _ => 0)))), (q6, .inl (cL, 815, .inr (.inl (fun _ => 0)))), (q8, .inr (8, [.ref q1, .long 0, .long 0, .int 0, .ref q12, .ref q13, .int 0, .ref q14])), (q12, .inl (cL, 39, .inr (.inl (fun _ => 0)))), (q13, .inl (cI, 38, .inl (fun _ => 0))), (q14, .inl (cI, 38, .inl (fun _ => 0)))] := hDn
  replace hS := hSn
  clear hPn hDn hSn
  clear hPc hDc hFc hP1 hD1 hk1 hz1 ht9 hvm
  refine W.cs (cells' := 7) (slots' := 1757) rfl rfl ?_
  refine va_putF (D := (dC, dI)) (ci := 6) (v := .ref q8) (ty := .object "NetUnfolder$Search") (C := "NetUnfolder$Question") (T := T_Qu) (N := 6) hx hb ht in_Qu ty_Qu ok_Qu nm_Qu hown hK hP hD hS 0 rfl rfl 4 (by decide) (ht _ wd_2_21) (fun _ h9 => h9) rfl hin rfl (by decide +kernel) rfl rfl (Nat.le_of_ble_eq_true rfl) d_Qu_init_27 (fun H15 locs hPn hDn hSn => ?_)
  replace hP : va_P (dC, dI) clA [(h0, .inr (6, [.null, .null, .null, .ref q1, .ref q8, .int 0])), (q1, .inr (7, [.ref q5, .ref q6, .int 0, .int 0])), (q5, .inl (cL, 815, .inr (.inl (fun _ => 0)))), (q6, .inl (cL, 815, .inr (.inl (fun _ => 0)))), (q8, .inr (8, [.ref q1, .long 0, .long 0, .int 0, .ref q12, .ref q13, .int 0, .ref q14])), (q12, .inl (cL, 39, .inr (.inl (fun _ => 0)))), (q13, .inl (cI, 38, .inl (fun _ => 0))), (q14, .inl (cI, 38, .inl (fun _ => 0)))] H15 := hPn
  replace hD : va_D A [(h0, .inr (6, [.null, .null, .null, .ref q1, .ref q8, .int 0])), (q1, .inr (7, [.ref q5, .ref q6, .int 0, .int 0])), (q5, .inl (cL, 815, .inr (.inl (fun _ => 0)))), (q6, .inl (cL, 815, .inr (.inl (fun _ => 0)))), (q8, .inr (8, [.ref q1, .long 0, .long 0, .int 0, .ref q12, .ref q13, .int 0, .ref q14])), (q12, .inl (cL, 39, .inr (.inl (fun _ => 0)))), (q13, .inl (cI, 38, .inl (fun _ => 0))), (q14, .inl (cI, 38, .inl (fun _ => 0)))] := hDn
  replace hS := hSn
  clear hPn hDn hSn
  refine lv_aload_n hx hb d_Qu_init_30 rfl (lv_at hl 0 rfl) ?_
  refine lv_aload_n hx hb d_Qu_init_31 rfl (lv_at hl 1 rfl) ?_
  refine va_putF (D := (dC, dI)) (ci := 6) (v := .ref h1) (ty := .object "NetUnfolder$Net") (C := "NetUnfolder$Question") (T := T_Qu) (N := 6) hx hb ht in_Qu ty_Qu ok_Qu nm_Qu hown hK hP hD hS 0 rfl rfl 0 (by decide) (ht _ wd_2_17) (fun _ h9 => h9) rfl hin rfl (by decide +kernel) rfl rfl (Nat.le_of_ble_eq_true rfl) d_Qu_init_32 (fun H16 locs hPn hDn hSn => ?_)
  replace hP : va_P (dC, dI) clA [(h0, .inr (6, [.ref h1, .null, .null, .ref q1, .ref q8, .int 0])), (q1, .inr (7, [.ref q5, .ref q6, .int 0, .int 0])), (q5, .inl (cL, 815, .inr (.inl (fun _ => 0)))), (q6, .inl (cL, 815, .inr (.inl (fun _ => 0)))), (q8, .inr (8, [.ref q1, .long 0, .long 0, .int 0, .ref q12, .ref q13, .int 0, .ref q14])), (q12, .inl (cL, 39, .inr (.inl (fun _ => 0)))), (q13, .inl (cI, 38, .inl (fun _ => 0))), (q14, .inl (cI, 38, .inl (fun _ => 0)))] H16 := hPn
  replace hD : va_D A [(h0, .inr (6, [.ref h1, .null, .null, .ref q1, .ref q8, .int 0])), (q1, .inr (7, [.ref q5, .ref q6, .int 0, .int 0])), (q5, .inl (cL, 815, .inr (.inl (fun _ => 0)))), (q6, .inl (cL, 815, .inr (.inl (fun _ => 0)))), (q8, .inr (8, [.ref q1, .long 0, .long 0, .int 0, .ref q12, .ref q13, .int 0, .ref q14])), (q12, .inl (cL, 39, .inr (.inl (fun _ => 0)))), (q13, .inl (cI, 38, .inl (fun _ => 0))), (q14, .inl (cI, 38, .inl (fun _ => 0)))] := hDn
  replace hS := hSn
  clear hPn hDn hSn
  refine lv_aload_n hx hb d_Qu_init_35 rfl (lv_at hl 0 rfl) ?_
  refine lv_aload_n hx hb d_Qu_init_36 rfl (lv_at hl 2 rfl) ?_
  refine va_putF (D := (dC, dI)) (ci := 6) (v := .ref h2) (ty := .object "NetUnfolder$Prefix") (C := "NetUnfolder$Question") (T := T_Qu) (N := 6) hx hb ht in_Qu ty_Qu ok_Qu nm_Qu hown hK hP hD hS 0 rfl rfl 1 (by decide) (ht _ wd_2_18) (fun _ h9 => h9) rfl hin rfl (by decide +kernel) rfl rfl (Nat.le_of_ble_eq_true rfl) d_Qu_init_37 (fun H17 locs hPn hDn hSn => ?_)
  replace hP : va_P (dC, dI) clA [(h0, .inr (6, [.ref h1, .ref h2, .null, .ref q1, .ref q8, .int 0])), (q1, .inr (7, [.ref q5, .ref q6, .int 0, .int 0])), (q5, .inl (cL, 815, .inr (.inl (fun _ => 0)))), (q6, .inl (cL, 815, .inr (.inl (fun _ => 0)))), (q8, .inr (8, [.ref q1, .long 0, .long 0, .int 0, .ref q12, .ref q13, .int 0, .ref q14])), (q12, .inl (cL, 39, .inr (.inl (fun _ => 0)))), (q13, .inl (cI, 38, .inl (fun _ => 0))), (q14, .inl (cI, 38, .inl (fun _ => 0)))] H17 := hPn
  replace hD : va_D A [(h0, .inr (6, [.ref h1, .ref h2, .null, .ref q1, .ref q8, .int 0])), (q1, .inr (7, [.ref q5, .ref q6, .int 0, .int 0])), (q5, .inl (cL, 815, .inr (.inl (fun _ => 0)))), (q6, .inl (cL, 815, .inr (.inl (fun _ => 0)))), (q8, .inr (8, [.ref q1, .long 0, .long 0, .int 0, .ref q12, .ref q13, .int 0, .ref q14])), (q12, .inl (cL, 39, .inr (.inl (fun _ => 0)))), (q13, .inl (cI, 38, .inl (fun _ => 0))), (q14, .inl (cI, 38, .inl (fun _ => 0)))] := hDn
  replace hS := hSn
  clear hPn hDn hSn
  refine lv_aload_n hx hb d_Qu_init_40 rfl (lv_at hl 0 rfl) ?_
  refine lv_aload_n hx hb d_Qu_init_41 rfl (lv_at hl 3 rfl) ?_
  refine va_putF (D := (dC, dI)) (ci := 6) (v := .ref h3) (ty := .object "NetUnfolder$Way") (C := "NetUnfolder$Question") (T := T_Qu) (N := 6) hx hb ht in_Qu ty_Qu ok_Qu nm_Qu hown hK hP hD hS 0 rfl rfl 2 (by decide) (ht _ wd_2_19) (fun _ h9 => h9) rfl hin rfl (by decide +kernel) rfl rfl (Nat.le_of_ble_eq_true rfl) d_Qu_init_42 (fun H18 locs hPn hDn hSn => ?_)
  replace hP : va_P (dC, dI) clA [(h0, .inr (6, [.ref h1, .ref h2, .ref h3, .ref q1, .ref q8, .int 0])), (q1, .inr (7, [.ref q5, .ref q6, .int 0, .int 0])), (q5, .inl (cL, 815, .inr (.inl (fun _ => 0)))), (q6, .inl (cL, 815, .inr (.inl (fun _ => 0)))), (q8, .inr (8, [.ref q1, .long 0, .long 0, .int 0, .ref q12, .ref q13, .int 0, .ref q14])), (q12, .inl (cL, 39, .inr (.inl (fun _ => 0)))), (q13, .inl (cI, 38, .inl (fun _ => 0))), (q14, .inl (cI, 38, .inl (fun _ => 0)))] H18 := hPn
  replace hD : va_D A [(h0, .inr (6, [.ref h1, .ref h2, .ref h3, .ref q1, .ref q8, .int 0])), (q1, .inr (7, [.ref q5, .ref q6, .int 0, .int 0])), (q5, .inl (cL, 815, .inr (.inl (fun _ => 0)))), (q6, .inl (cL, 815, .inr (.inl (fun _ => 0)))), (q8, .inr (8, [.ref q1, .long 0, .long 0, .int 0, .ref q12, .ref q13, .int 0, .ref q14])), (q12, .inl (cL, 39, .inr (.inl (fun _ => 0)))), (q13, .inl (cI, 38, .inl (fun _ => 0))), (q14, .inl (cI, 38, .inl (fun _ => 0)))] := hDn
  replace hS := hSn
  clear hPn hDn hSn
  have hP9 := hP.sub (ws' := [(h0, .inr (6, [.ref h1, .ref h2, .ref h3, .ref q1, .ref q8, .int 0])), (q1, .inr (7, [.ref q5, .ref q6, .int 0, .int 0])), (q5, .inl (cL, 815, .inr (.inl (fun _ => 0)))), (q6, .inl (cL, 815, .inr (.inl (fun _ => 0)))), (q8, .inr (8, [.ref q1, .long 0, .long 0, .int 0, .ref q12, .ref q13, .int 0, .ref q14])), (q12, .inl (cL, 39, .inr (.inl (fun _ => 0)))), (q13, .inl (cI, 38, .inl (fun _ => 0))), (q14, .inl (cI, 38, .inl (fun _ => 0)))]) [0, 1, 2, 3, 4, 5, 6, 7] rfl
  have hD9 := hD.sub (ws' := [(h0, .inr (6, [.ref h1, .ref h2, .ref h3, .ref q1, .ref q8, .int 0])), (q1, .inr (7, [.ref q5, .ref q6, .int 0, .int 0])), (q5, .inl (cL, 815, .inr (.inl (fun _ => 0)))), (q6, .inl (cL, 815, .inr (.inl (fun _ => 0)))), (q8, .inr (8, [.ref q1, .long 0, .long 0, .int 0, .ref q12, .ref q13, .int 0, .ref q14])), (q12, .inl (cL, 39, .inr (.inl (fun _ => 0)))), (q13, .inl (cI, 38, .inl (fun _ => 0))), (q14, .inl (cI, 38, .inl (fun _ => 0)))]) [0, 1, 2, 3, 4, 5, 6, 7] (by decide) rfl
  exact W.vret hx hb hr (fun t ht9 hW => ⟨⟨(), rfl, trivial, q1, q5, q6, q8, q12, q13, q14, by rw [ht9]; exact hP9, hD9⟩, hS.F ht9⟩) hS.2.2 d_Qu_init_45

set_option maxHeartbeats 4000000 in
set_option maxRecDepth 100000 in
theorem c_NU_init (l : Launch) (dC : Nat → ClassId) (dI : Nat → Nat → Nat) (cI cL cZ : ClassId) (sz : Nat) (h0 : Nat) : Met l y_NU_init (Cond.code y_NU_init prog_1_method_1_code 1 none :: wsA) { frames := 3, cells := 29, slots := 2840, locals := 56 } (va_Pc [.ref h0] (fun U => U.heap.size = sz ∧ va_P (dC, dI) clA [(h0, .inr (0, [.null, .null, .null, .null, .null]))] U.heap ∧ va_K (dC, dI) clA [(cI, .int), (cL, .long), (cZ, .boolean)] U ∧ va_D (fun _ => True) [(h0, .inr (0, [.null, .null, .null, .null, .null]))] ∧ NwA U)) (va_Qv (fun _ : Unit => True) (fun _ t => ∃ q1 q5 q6 q8 q12 q13 q14 q15 q16 q17 q18 q19 q20 q21 q23 q27 q29 q33 q34 q35 q36 q38 q42 q43 q44 q45 q46 q47 q48 : Nat, va_P (dC, dI) clA [(h0, .inr (0, [.ref q1, .ref q8, .ref q23, .ref q29, .ref q38])), (q1, .inr (1, [.ref q5, .ref q6, .int 0, .int 0])), (q5, .inl (cI, 8, .inl (fun _ => 0))), (q6, .inl (cI, 8, .inl (fun _ => 0))), (q8, .inr (2, [.int 0, .ref q12, .ref q13, .ref q14, .ref q15, .ref q16, .int 0, .ref q17, .ref q18, .ref q19, .ref q20, .ref q21, .int 0, .int 0])), (q12, .inl (cI, 60, .inl (fun _ => 0))), (q13, .inl (cI, 60, .inl (fun _ => 0))), (q14, .inl (cI, 60, .inl (fun _ => 0))), (q15, .inl (cL, 60, .inr (.inl (fun _ => 0)))), (q16, .inl (cL, 8, .inr (.inl (fun _ => 0)))), (q17, .inl (cI, 30, .inl (fun _ => 0))), (q18, .inl (cL, 30, .inr (.inl (fun _ => 0)))), (q19, .inl (cI, 30, .inl (fun _ => 0))), (q20, .inl (cI, 30, .inl (fun _ => 0))), (q21, .inl (cL, 30, .inr (.inl (fun _ => 0)))), (q23, .inr (3, [.ref q27, .int (-1)])), (q27, .inl (cI, 31, .inl (fun _ => 0))), (q29, .inr (4, [.ref q1, .ref q8, .ref q23, .ref q33])), (q33, .inr (5, [.ref q8, .int 0, .ref q34, .ref q35, .ref q36])), (q34, .inl (cI, 201, .inl (fun _ => 0))), (q35, .inl (cL, 201, .inr (.inl (fun _ => 0)))), (q36, .inl (cL, 201, .inr (.inl (fun _ => 0)))), (q38, .inr (6, [.ref q1, .ref q8, .ref q23, .ref q42, .ref q45, .int 0])), (q42, .inr (7, [.ref q43, .ref q44, .int 0, .int 0])), (q43, .inl (cL, 815, .inr (.inl (fun _ => 0)))), (q44, .inl (cL, 815, .inr (.inl (fun _ => 0)))), (q45, .inr (8, [.ref q42, .long 0, .long 0, .int 0, .ref q46, .ref q47, .int 0, .ref q48])), (q46, .inl (cL, 39, .inr (.inl (fun _ => 0)))), (q47, .inl (cI, 38, .inl (fun _ => 0))), (q48, .inl (cI, 38, .inl (fun _ => 0)))] t.heap ∧ va_D (va_A [(h0, .inr (0, [.null, .null, .null, .null, .null]))] sz) [(h0, .inr (0, [.ref q1, .ref q8, .ref q23, .ref q29, .ref q38])), (q1, .inr (1, [.ref q5, .ref q6, .int 0, .int 0])), (q5, .inl (cI, 8, .inl (fun _ => 0))), (q6, .inl (cI, 8, .inl (fun _ => 0))), (q8, .inr (2, [.int 0, .ref q12, .ref q13, .ref q14, .ref q15, .ref q16, .int 0, .ref q17, .ref q18, .ref q19, .ref q20, .ref q21, .int 0, .int 0])), (q12, .inl (cI, 60, .inl (fun _ => 0))), (q13, .inl (cI, 60, .inl (fun _ => 0))), (q14, .inl (cI, 60, .inl (fun _ => 0))), (q15, .inl (cL, 60, .inr (.inl (fun _ => 0)))), (q16, .inl (cL, 8, .inr (.inl (fun _ => 0)))), (q17, .inl (cI, 30, .inl (fun _ => 0))), (q18, .inl (cL, 30, .inr (.inl (fun _ => 0)))), (q19, .inl (cI, 30, .inl (fun _ => 0))), (q20, .inl (cI, 30, .inl (fun _ => 0))), (q21, .inl (cL, 30, .inr (.inl (fun _ => 0)))), (q23, .inr (3, [.ref q27, .int (-1)])), (q27, .inl (cI, 31, .inl (fun _ => 0))), (q29, .inr (4, [.ref q1, .ref q8, .ref q23, .ref q33])), (q33, .inr (5, [.ref q8, .int 0, .ref q34, .ref q35, .ref q36])), (q34, .inl (cI, 201, .inl (fun _ => 0))), (q35, .inl (cL, 201, .inr (.inl (fun _ => 0)))), (q36, .inl (cL, 201, .inr (.inl (fun _ => 0)))), (q38, .inr (6, [.ref q1, .ref q8, .ref q23, .ref q42, .ref q45, .int 0])), (q42, .inr (7, [.ref q43, .ref q44, .int 0, .int 0])), (q43, .inl (cL, 815, .inr (.inl (fun _ => 0)))), (q44, .inl (cL, 815, .inr (.inl (fun _ => 0)))), (q45, .inr (8, [.ref q42, .long 0, .long 0, .int 0, .ref q46, .ref q47, .int 0, .ref q48])), (q46, .inl (cL, 39, .inr (.inl (fun _ => 0)))), (q47, .inl (cI, 38, .inl (fun _ => 0))), (q48, .inl (cI, 38, .inl (fun _ => 0)))]) (va_A [(h0, .inr (0, [.null, .null, .null, .null, .null]))] sz)) 29 2840 (va_A [(h0, .inr (0, [.null, .null, .null, .null, .null]))] sz) := by
  refine Met.ofW (cc := prog_1_method_1_code) (maxL := 1) (ret := none) (by decide) rfl ?_
  intro p e s m args below meth c s₁ B hml hv
  obtain ⟨rfl, hsz, hP, hK, hD0, hN⟩ := hv
  have hx := B.exec
  have hb := B.bytes
  have hr := B.returns
  have ht : ∀ w ∈ wsA, w.before _ s = true := fun w h => atoms_spec (ws := (Cond.code y_NU_init prog_1_method_1_code 1 none :: wsA)) B.pre w (List.mem_cons_of_mem _ h)
  have hown : s.vm.findClass "NetUnfolder" = some m.cls := findClass_of_methodNamed B.named
  have hlocks := B.notSynchronized
  have hin : meth.name = "<init>" := (name_of_methodNamed B.named B.method).1
  subst hsz
  have hD := hD0.self (sz := s.heap.size)
  generalize hAe : va_A [(h0, .inr (0, [.null, .null, .null, .null, .null]))] s.heap.size = A at hD ⊢
  have hA : ∀ q : Nat, s.heap.size ≤ q → A q := fun q h => by rw [← hAe]; exact Or.inr h
  have hS : va_S A s.heap s.heap [] := va_S.rf
  have hl := lv_entry ([.ref h0]) (n := 1) (Nat.le_of_ble_eq_true rfl)
  rw [lg_entry_eq]
  generalize (lg_sl ([.ref h0]) ++ List.replicate (1 - (lg_sl ([.ref h0])).length) Slot.unset).toArray = ls at hl ⊢
  replace hl : lv_has ls 1 [(0, .ref h0)] := hl
  refine lv_aload_n hx hb d_NU_init_0 rfl (lv_at hl 0 rfl) ?_
  refine W.objInit hx hb hown (ht (.methodLink "NetUnfolder" 1 Lib.objectInit) wd_1_24) (ht (.instanceMethod Lib.objectInit) wd_1_25) (ht (.code Lib.objectInit ⟨#[0xb1]⟩ 1 none) wd_1_26) rfl (by rw [hml]; exact hl.1) rfl d_NU_init_1 (Nat.le_of_ble_eq_true rfl) (Nat.le_of_ble_eq_true rfl) ?_
  refine W.eq (g2 := F0 m 4 ls []) rfl ?_
  refine lv_aload_n hx hb d_NU_init_4 rfl (lv_at hl 0 rfl) ?_
  refine va_new (ci := 1) (fs := [.null, .null, .int 0, .int 0]) (C := "NetUnfolder$Net") (T := T_Ne) (N := 4) hx hb ht in_Ne ty_Ne ok_Ne hown (ht _ wd_1_27) (ht _ wd_1_28) (ht _ wd_1_2) hK hP hD hS hA rfl (by decide +kernel) (Nat.le_of_ble_eq_true rfl) (Nat.le_of_ble_eq_true rfl) d_NU_init_5 (fun q1 H2 hPn hDn hSn => ?_)
  replace hP : va_P (dC, dI) clA [(h0, .inr (0, [.null, .null, .null, .null, .null])), (q1, .inr (1, [.null, .null, .int 0, .int 0]))] H2 := hPn
  replace hD : va_D A [(h0, .inr (0, [.null, .null, .null, .null, .null])), (q1, .inr (1, [.null, .null, .int 0, .int 0]))] := hDn
  replace hS := hSn
  clear hPn hDn hSn
  refine W.cs (cells' := 1) (slots' := 4) rfl rfl ?_
  refine lv_dup hx hb d_NU_init_8 rfl ?_
  have hPc := hP.sub (ws' := [(q1, .inr (1, [.null, .null, .int 0, .int 0]))]) [1] rfl
  have hDc := hD.sub (ws' := [(q1, .inr (1, [.null, .null, .int 0, .int 0]))]) [1] (by decide) rfl
  have hFc := va_free (wc := [(q1, .inr (1, [.null, .null, .int 0, .int 0]))]) hD hS hA [1] rfl
  refine va_callv (va_runIN (As := []) (rest := [.ref q1, .ref h0]) ⟨hx, hb, hml, hown, ht⟩ (c_Ne_init l dC dI cI cL cZ _ q1 ) ⟨va_cnB 0 ht (goodA wd_1_31) rfl rfl rfl hN.1 (ht _ wd_1_2) (by decide +kernel) ⟨Nat.le_of_ble_eq_true rfl, Nat.le_of_ble_eq_true rfl⟩, rfl, ht _ wd_1_30⟩ ⟨fun a U g mk q => by obtain ⟨q0, q1, qP, qK, qD, qN⟩ := q; exact ⟨q0, q1, qP, va_K.moved (u := U) (U := U.calling g mk a) (Vm.Alike.refl U.vm) qK, qD, NwA.same (u := U) rfl qN⟩, fun U hU hW => ⟨rfl, by rw [hU], by rw [hU]; exact hPc, va_K.moved hW.alike hK, hDc.weaken (fun _ _ _ _ => trivial), NwA.warm hW hN⟩⟩ rfl rfl hl.1 rfl (lv_room (Nat.le_of_ble_eq_true rfl)) d_NU_init_9 ⟨Nat.le_of_ble_eq_true rfl, Nat.le_of_ble_eq_true rfl⟩) hS (fun q _ h => hFc q h) hFc (fun u t H3 locs ht9 hvm hw4 hB hz1 hk1 hSn => ?_)
  obtain ⟨q5, q6, hP1, hD1⟩ := hB
  rw [ht9] at hP1
  obtain ⟨hPn, hDn⟩ := va_join (wr := [(h0, .inr (0, [.null, .null, .null, .null, .null]))]) (w1 := [(q1, .inr (1, [.ref q5, .ref q6, .int 0, .int 0])), (q5, .inl (cI, 8, .inl (fun _ => 0))), (q6, .inl (cI, 8, .inl (fun _ => 0)))]) hP hD [1] [0] rfl rfl (by decide) (by decide) hk1 hFc hP1 hD1
  replace hP : va_P (dC, dI) clA [(h0, .inr (0, [.null, .null, .null, .null, .null])), (q1, .inr (1, [.ref q5, .ref q6, .int 0, .int 0])), (q5, .inl (cI, 8, .inl (fun _ => 0))), (q6, .inl (cI, 8, .inl (fun _ => 0)))] H3 := hPn
  replace hD : va_D A [(h0, .inr (0, [.null, .null, .null, .null, .null])), (q1, .inr (1, [.ref q5, .ref q6, .int 0, .int 0])), (q5, .inl (cI, 8, .inl (fun _ => 0))), (q6, .inl (cI, 8, .inl (fun _ => 0)))] := hDn
  replace hS := hSn
  clear hPn hDn hSn
  clear hPc hDc hFc hP1 hD1 hk1 hz1 ht9 hvm
  refine W.cs (cells' := 3) (slots' := 20) rfl rfl ?_
  refine va_putF (D := (dC, dI)) (ci := 0) (v := .ref q1) (ty := .object "NetUnfolder$Net") (C := "NetUnfolder") (T := T_NU) (N := 5) hx hb ht in_NU ty_NU ok_NU nm_NU hown hK hP hD hS 0 rfl rfl 0 (by decide) (ht _ wd_2_36) (fun _ h9 => h9) rfl hin rfl (by decide +kernel) rfl rfl (Nat.le_of_ble_eq_true rfl) d_NU_init_12 (fun H7 locs hPn hDn hSn => ?_)
  replace hP : va_P (dC, dI) clA [(h0, .inr (0, [.ref q1, .null, .null, .null, .null])), (q1, .inr (1, [.ref q5, .ref q6, .int 0, .int 0])), (q5, .inl (cI, 8, .inl (fun _ => 0))), (q6, .inl (cI, 8, .inl (fun _ => 0)))] H7 := hPn
  replace hD : va_D A [(h0, .inr (0, [.ref q1, .null, .null, .null, .null])), (q1, .inr (1, [.ref q5, .ref q6, .int 0, .int 0])), (q5, .inl (cI, 8, .inl (fun _ => 0))), (q6, .inl (cI, 8, .inl (fun _ => 0)))] := hDn
  replace hS := hSn
  clear hPn hDn hSn
  refine lv_aload_n hx hb d_NU_init_15 rfl (lv_at hl 0 rfl) ?_
  refine va_new (ci := 2) (fs := [.int 0, .null, .null, .null, .null, .null, .int 0, .null, .null, .null, .null, .null, .int 0, .int 0]) (C := "NetUnfolder$Prefix") (T := T_Pf) (N := 14) hx hb ht in_Pf ty_Pf ok_Pf hown (ht _ wd_1_56) (ht _ wd_1_57) (ht _ wd_1_3) hK hP hD hS hA rfl (by decide +kernel) (Nat.le_of_ble_eq_true rfl) (Nat.le_of_ble_eq_true rfl) d_NU_init_16 (fun q8 H9 hPn hDn hSn => ?_)
  replace hP : va_P (dC, dI) clA [(h0, .inr (0, [.ref q1, .null, .null, .null, .null])), (q1, .inr (1, [.ref q5, .ref q6, .int 0, .int 0])), (q5, .inl (cI, 8, .inl (fun _ => 0))), (q6, .inl (cI, 8, .inl (fun _ => 0))), (q8, .inr (2, [.int 0, .null, .null, .null, .null, .null, .int 0, .null, .null, .null, .null, .null, .int 0, .int 0]))] H9 := hPn
  replace hD : va_D A [(h0, .inr (0, [.ref q1, .null, .null, .null, .null])), (q1, .inr (1, [.ref q5, .ref q6, .int 0, .int 0])), (q5, .inl (cI, 8, .inl (fun _ => 0))), (q6, .inl (cI, 8, .inl (fun _ => 0))), (q8, .inr (2, [.int 0, .null, .null, .null, .null, .null, .int 0, .null, .null, .null, .null, .null, .int 0, .int 0]))] := hDn
  replace hS := hSn
  clear hPn hDn hSn
  refine W.cs (cells' := 4) (slots' := 34) rfl rfl ?_
  refine lv_dup hx hb d_NU_init_19 rfl ?_
  have hPc := hP.sub (ws' := [(q8, .inr (2, [.int 0, .null, .null, .null, .null, .null, .int 0, .null, .null, .null, .null, .null, .int 0, .int 0]))]) [4] rfl
  have hDc := hD.sub (ws' := [(q8, .inr (2, [.int 0, .null, .null, .null, .null, .null, .int 0, .null, .null, .null, .null, .null, .int 0, .int 0]))]) [4] (by decide) rfl
  have hFc := va_free (wc := [(q8, .inr (2, [.int 0, .null, .null, .null, .null, .null, .int 0, .null, .null, .null, .null, .null, .int 0, .int 0]))]) hD hS hA [4] rfl
  refine va_callv (va_runIN (As := []) (rest := [.ref q8, .ref h0]) ⟨hx, hb, hml, hown, ht⟩ (c_Pf_init l dC dI cI cL cZ _ q8 ) ⟨va_cnB 0 ht (goodA wd_1_60) rfl rfl rfl hN.2.1 (ht _ wd_1_3) (by decide +kernel) ⟨Nat.le_of_ble_eq_true rfl, Nat.le_of_ble_eq_true rfl⟩, rfl, ht _ wd_1_59⟩ ⟨fun a U g mk q => by obtain ⟨q0, q1, qP, qK, qD, qN⟩ := q; exact ⟨q0, q1, qP, va_K.moved (u := U) (U := U.calling g mk a) (Vm.Alike.refl U.vm) qK, qD, NwA.same (u := U) rfl qN⟩, fun U hU hW => ⟨rfl, by rw [hU], by rw [hU]; exact hPc, va_K.moved hW.alike hK, hDc.weaken (fun _ _ _ _ => trivial), NwA.warm hW hN⟩⟩ rfl rfl hl.1 rfl (lv_room (Nat.le_of_ble_eq_true rfl)) d_NU_init_20 ⟨Nat.le_of_ble_eq_true rfl, Nat.le_of_ble_eq_true rfl⟩) hS (fun q _ h => hFc q h) hFc (fun u t H10 locs ht9 hvm hw11 hB hz1 hk1 hSn => ?_)
  obtain ⟨q12, q13, q14, q15, q16, q17, q18, q19, q20, q21, hP1, hD1⟩ := hB
  rw [ht9] at hP1
  obtain ⟨hPn, hDn⟩ := va_join (wr := [(h0, .inr (0, [.ref q1, .null, .null, .null, .null])), (q1, .inr (1, [.ref q5, .ref q6, .int 0, .int 0])), (q5, .inl (cI, 8, .inl (fun _ => 0))), (q6, .inl (cI, 8, .inl (fun _ => 0)))]) (w1 := [(q8, .inr (2, [.int 0, .ref q12, .ref q13, .ref q14, .ref q15, .ref q16, .int 0, .ref q17, .ref q18, .ref q19, .ref q20, .ref q21, .int 0, .int 0])), (q12, .inl (cI, 60, .inl (fun _ => 0))), (q13, .inl (cI, 60, .inl (fun _ => 0))), (q14, .inl (cI, 60, .inl (fun _ => 0))), (q15, .inl (cL, 60, .inr (.inl (fun _ => 0)))), (q16, .inl (cL, 8, .inr (.inl (fun _ => 0)))), (q17, .inl (cI, 30, .inl (fun _ => 0))), (q18, .inl (cL, 30, .inr (.inl (fun _ => 0)))), (q19, .inl (cI, 30, .inl (fun _ => 0))), (q20, .inl (cI, 30, .inl (fun _ => 0))), (q21, .inl (cL, 30, .inr (.inl (fun _ => 0))))]) hP hD [4] [0, 1, 2, 3] rfl rfl (by decide) (by decide) hk1 hFc hP1 hD1
  replace hP : va_P (dC, dI) clA [(h0, .inr (0, [.ref q1, .null, .null, .null, .null])), (q1, .inr (1, [.ref q5, .ref q6, .int 0, .int 0])), (q5, .inl (cI, 8, .inl (fun _ => 0))), (q6, .inl (cI, 8, .inl (fun _ => 0))), (q8, .inr (2, [.int 0, .ref q12, .ref q13, .ref q14, .ref q15, .ref q16, .int 0, .ref q17, .ref q18, .ref q19, .ref q20, .ref q21, .int 0, .int 0])), (q12, .inl (cI, 60, .inl (fun _ => 0))), (q13, .inl (cI, 60, .inl (fun _ => 0))), (q14, .inl (cI, 60, .inl (fun _ => 0))), (q15, .inl (cL, 60, .inr (.inl (fun _ => 0)))), (q16, .inl (cL, 8, .inr (.inl (fun _ => 0)))), (q17, .inl (cI, 30, .inl (fun _ => 0))), (q18, .inl (cL, 30, .inr (.inl (fun _ => 0)))), (q19, .inl (cI, 30, .inl (fun _ => 0))), (q20, .inl (cI, 30, .inl (fun _ => 0))), (q21, .inl (cL, 30, .inr (.inl (fun _ => 0))))] H10 := hPn
  replace hD : va_D A [(h0, .inr (0, [.ref q1, .null, .null, .null, .null])), (q1, .inr (1, [.ref q5, .ref q6, .int 0, .int 0])), (q5, .inl (cI, 8, .inl (fun _ => 0))), (q6, .inl (cI, 8, .inl (fun _ => 0))), (q8, .inr (2, [.int 0, .ref q12, .ref q13, .ref q14, .ref q15, .ref q16, .int 0, .ref q17, .ref q18, .ref q19, .ref q20, .ref q21, .int 0, .int 0])), (q12, .inl (cI, 60, .inl (fun _ => 0))), (q13, .inl (cI, 60, .inl (fun _ => 0))), (q14, .inl (cI, 60, .inl (fun _ => 0))), (q15, .inl (cL, 60, .inr (.inl (fun _ => 0)))), (q16, .inl (cL, 8, .inr (.inl (fun _ => 0)))), (q17, .inl (cI, 30, .inl (fun _ => 0))), (q18, .inl (cL, 30, .inr (.inl (fun _ => 0)))), (q19, .inl (cI, 30, .inl (fun _ => 0))), (q20, .inl (cI, 30, .inl (fun _ => 0))), (q21, .inl (cL, 30, .inr (.inl (fun _ => 0))))] := hDn
  replace hS := hSn
  clear hPn hDn hSn
  clear hPc hDc hFc hP1 hD1 hk1 hz1 ht9 hvm
  refine W.cs (cells' := 14) (slots' := 432) rfl rfl ?_
  refine va_putF (D := (dC, dI)) (ci := 0) (v := .ref q8) (ty := .object "NetUnfolder$Prefix") (C := "NetUnfolder") (T := T_NU) (N := 5) hx hb ht in_NU ty_NU ok_NU nm_NU hown hK hP hD hS 0 rfl rfl 1 (by decide) (ht _ wd_2_37) (fun _ h9 => h9) rfl hin rfl (by decide +kernel) rfl rfl (Nat.le_of_ble_eq_true rfl) d_NU_init_23 (fun H22 locs hPn hDn hSn => ?_)
  replace hP : va_P (dC, dI) clA [(h0, .inr (0, [.ref q1, .ref q8, .null, .null, .null])), (q1, .inr (1, [.ref q5, .ref q6, .int 0, .int 0])), (q5, .inl (cI, 8, .inl (fun _ => 0))), (q6, .inl (cI, 8, .inl (fun _ => 0))), (q8, .inr (2, [.int 0, .ref q12, .ref q13, .ref q14, .ref q15, .ref q16, .int 0, .ref q17, .ref q18, .ref q19, .ref q20, .ref q21, .int 0, .int 0])), (q12, .inl (cI, 60, .inl (fun _ => 0))), (q13, .inl (cI, 60, .inl (fun _ => 0))), (q14, .inl (cI, 60, .inl (fun _ => 0))), (q15, .inl (cL, 60, .inr (.inl (fun _ => 0)))), (q16, .inl (cL, 8, .inr (.inl (fun _ => 0)))), (q17, .inl (cI, 30, .inl (fun _ => 0))), (q18, .inl (cL, 30, .inr (.inl (fun _ => 0)))), (q19, .inl (cI, 30, .inl (fun _ => 0))), (q20, .inl (cI, 30, .inl (fun _ => 0))), (q21, .inl (cL, 30, .inr (.inl (fun _ => 0))))] H22 := hPn
  replace hD : va_D A [(h0, .inr (0, [.ref q1, .ref q8, .null, .null, .null])), (q1, .inr (1, [.ref q5, .ref q6, .int 0, .int 0])), (q5, .inl (cI, 8, .inl (fun _ => 0))), (q6, .inl (cI, 8, .inl (fun _ => 0))), (q8, .inr (2, [.int 0, .ref q12, .ref q13, .ref q14, .ref q15, .ref q16, .int 0, .ref q17, .ref q18, .ref q19, .ref q20, .ref q21, .int 0, .int 0])), (q12, .inl (cI, 60, .inl (fun _ => 0))), (q13, .inl (cI, 60, .inl (fun _ => 0))), (q14, .inl (cI, 60, .inl (fun _ => 0))), (q15, .inl (cL, 60, .inr (.inl (fun _ => 0)))), (q16, .inl (cL, 8, .inr (.inl (fun _ => 0)))), (q17, .inl (cI, 30, .inl (fun _ => 0))), (q18, .inl (cL, 30, .inr (.inl (fun _ => 0)))), (q19, .inl (cI, 30, .inl (fun _ => 0))), (q20, .inl (cI, 30, .inl (fun _ => 0))), (q21, .inl (cL, 30, .inr (.inl (fun _ => 0))))] := hDn
  replace hS := hSn
  clear hPn hDn hSn
  refine lv_aload_n hx hb d_NU_init_26 rfl (lv_at hl 0 rfl) ?_
  refine va_new (ci := 3) (fs := [.null, .int 0]) (C := "NetUnfolder$Way") (T := T_Wa) (N := 2) hx hb ht in_Wa ty_Wa ok_Wa hown (ht _ wd_1_137) (ht _ wd_1_138) (ht _ wd_1_4) hK hP hD hS hA rfl (by decide +kernel) (Nat.le_of_ble_eq_true rfl) (Nat.le_of_ble_eq_true rfl) d_NU_init_27 (fun q23 H24 hPn hDn hSn => ?_)
  replace hP : va_P (dC, dI) clA [(h0, .inr (0, [.ref q1, .ref q8, .null, .null, .null])), (q1, .inr (1, [.ref q5, .ref q6, .int 0, .int 0])), (q5, .inl (cI, 8, .inl (fun _ => 0))), (q6, .inl (cI, 8, .inl (fun _ => 0))), (q8, .inr (2, [.int 0, .ref q12, .ref q13, .ref q14, .ref q15, .ref q16, .int 0, .ref q17, .ref q18, .ref q19, .ref q20, .ref q21, .int 0, .int 0])), (q12, .inl (cI, 60, .inl (fun _ => 0))), (q13, .inl (cI, 60, .inl (fun _ => 0))), (q14, .inl (cI, 60, .inl (fun _ => 0))), (q15, .inl (cL, 60, .inr (.inl (fun _ => 0)))), (q16, .inl (cL, 8, .inr (.inl (fun _ => 0)))), (q17, .inl (cI, 30, .inl (fun _ => 0))), (q18, .inl (cL, 30, .inr (.inl (fun _ => 0)))), (q19, .inl (cI, 30, .inl (fun _ => 0))), (q20, .inl (cI, 30, .inl (fun _ => 0))), (q21, .inl (cL, 30, .inr (.inl (fun _ => 0)))), (q23, .inr (3, [.null, .int 0]))] H24 := hPn
  replace hD : va_D A [(h0, .inr (0, [.ref q1, .ref q8, .null, .null, .null])), (q1, .inr (1, [.ref q5, .ref q6, .int 0, .int 0])), (q5, .inl (cI, 8, .inl (fun _ => 0))), (q6, .inl (cI, 8, .inl (fun _ => 0))), (q8, .inr (2, [.int 0, .ref q12, .ref q13, .ref q14, .ref q15, .ref q16, .int 0, .ref q17, .ref q18, .ref q19, .ref q20, .ref q21, .int 0, .int 0])), (q12, .inl (cI, 60, .inl (fun _ => 0))), (q13, .inl (cI, 60, .inl (fun _ => 0))), (q14, .inl (cI, 60, .inl (fun _ => 0))), (q15, .inl (cL, 60, .inr (.inl (fun _ => 0)))), (q16, .inl (cL, 8, .inr (.inl (fun _ => 0)))), (q17, .inl (cI, 30, .inl (fun _ => 0))), (q18, .inl (cL, 30, .inr (.inl (fun _ => 0)))), (q19, .inl (cI, 30, .inl (fun _ => 0))), (q20, .inl (cI, 30, .inl (fun _ => 0))), (q21, .inl (cL, 30, .inr (.inl (fun _ => 0)))), (q23, .inr (3, [.null, .int 0]))] := hDn
  replace hS := hSn
  clear hPn hDn hSn
  refine W.cs (cells' := 15) (slots' := 434) rfl rfl ?_
  refine lv_dup hx hb d_NU_init_30 rfl ?_
  have hPc := hP.sub (ws' := [(q23, .inr (3, [.null, .int 0]))]) [15] rfl
  have hDc := hD.sub (ws' := [(q23, .inr (3, [.null, .int 0]))]) [15] (by decide) rfl
  have hFc := va_free (wc := [(q23, .inr (3, [.null, .int 0]))]) hD hS hA [15] rfl
  refine va_callv (va_runIN (As := []) (rest := [.ref q23, .ref h0]) ⟨hx, hb, hml, hown, ht⟩ (c_Wa_init l dC dI cI cL cZ _ q23 ) ⟨va_cnB 0 ht (goodA wd_1_141) rfl rfl rfl hN.2.2.1 (ht _ wd_1_4) (by decide +kernel) ⟨Nat.le_of_ble_eq_true rfl, Nat.le_of_ble_eq_true rfl⟩, rfl, ht _ wd_1_140⟩ ⟨fun a U g mk q => by obtain ⟨q0, q1, qP, qK, qD, qN⟩ := q; exact ⟨q0, q1, qP, va_K.moved (u := U) (U := U.calling g mk a) (Vm.Alike.refl U.vm) qK, qD, NwA.same (u := U) rfl qN⟩, fun U hU hW => ⟨rfl, by rw [hU], by rw [hU]; exact hPc, va_K.moved hW.alike hK, hDc.weaken (fun _ _ _ _ => trivial), NwA.warm hW hN⟩⟩ rfl rfl hl.1 rfl (lv_room (Nat.le_of_ble_eq_true rfl)) d_NU_init_31 ⟨Nat.le_of_ble_eq_true rfl, Nat.le_of_ble_eq_true rfl⟩) hS (fun q _ h => hFc q h) hFc (fun u t H25 locs ht9 hvm hw26 hB hz1 hk1 hSn => ?_)
  obtain ⟨q27, hP1, hD1⟩ := hB
  rw [ht9] at hP1
  obtain ⟨hPn, hDn⟩ := va_join (wr := [(h0, .inr (0, [.ref q1, .ref q8, .null, .null, .null])), (q1, .inr (1, [.ref q5, .ref q6, .int 0, .int 0])), (q5, .inl (cI, 8, .inl (fun _ => 0))), (q6, .inl (cI, 8, .inl (fun _ => 0))), (q8, .inr (2, [.int 0, .ref q12, .ref q13, .ref q14, .ref q15, .ref q16, .int 0, .ref q17, .ref q18, .ref q19, .ref q20, .ref q21, .int 0, .int 0])), (q12, .inl (cI, 60, .inl (fun _ => 0))), (q13, .inl (cI, 60, .inl (fun _ => 0))), (q14, .inl (cI, 60, .inl (fun _ => 0))), (q15, .inl (cL, 60, .inr (.inl (fun _ => 0)))), (q16, .inl (cL, 8, .inr (.inl (fun _ => 0)))), (q17, .inl (cI, 30, .inl (fun _ => 0))), (q18, .inl (cL, 30, .inr (.inl (fun _ => 0)))), (q19, .inl (cI, 30, .inl (fun _ => 0))), (q20, .inl (cI, 30, .inl (fun _ => 0))), (q21, .inl (cL, 30, .inr (.inl (fun _ => 0))))]) (w1 := [(q23, .inr (3, [.ref q27, .int (-1)])), (q27, .inl (cI, 31, .inl (fun _ => 0)))]) hP hD [15] [0, 1, 2, 3, 4, 5, 6, 7, 8, 9, 10, 11, 12, 13, 14] rfl rfl (by decide) (by decide) hk1 hFc hP1 hD1
  replace hP : va_P (dC, dI) clA [(h0, .inr (0, [.ref q1, .ref q8, .null, .null, .null])), (q1, .inr (1, [.ref q5, .ref q6, .int 0, .int 0])), (q5, .inl (cI, 8, .inl (fun _ => 0))), (q6, .inl (cI, 8, .inl (fun _ => 0))), (q8, .inr (2, [.int 0, .ref q12, .ref q13, .ref q14, .ref q15, .ref q16, .int 0, .ref q17, .ref q18, .ref q19, .ref q20, .ref q21, .int 0, .int 0])), (q12, .inl (cI, 60, .inl (fun _ => 0))), (q13, .inl (cI, 60, .inl (fun _ => 0))), (q14, .inl (cI, 60, .inl (fun _ => 0))), (q15, .inl (cL, 60, .inr (.inl (fun _ => 0)))), (q16, .inl (cL, 8, .inr (.inl (fun _ => 0)))), (q17, .inl (cI, 30, .inl (fun _ => 0))), (q18, .inl (cL, 30, .inr (.inl (fun _ => 0)))), (q19, .inl (cI, 30, .inl (fun _ => 0))), (q20, .inl (cI, 30, .inl (fun _ => 0))), (q21, .inl (cL, 30, .inr (.inl (fun _ => 0)))), (q23, .inr (3, [.ref q27, .int (-1)])), (q27, .inl (cI, 31, .inl (fun _ => 0)))] H25 := hPn
  replace hD : va_D A [(h0, .inr (0, [.ref q1, .ref q8, .null, .null, .null])), (q1, .inr (1, [.ref q5, .ref q6, .int 0, .int 0])), (q5, .inl (cI, 8, .inl (fun _ => 0))), (q6, .inl (cI, 8, .inl (fun _ => 0))), (q8, .inr (2, [.int 0, .ref q12, .ref q13, .ref q14, .ref q15, .ref q16, .int 0, .ref q17, .ref q18, .ref q19, .ref q20, .ref q21, .int 0, .int 0])), (q12, .inl (cI, 60, .inl (fun _ => 0))), (q13, .inl (cI, 60, .inl (fun _ => 0))), (q14, .inl (cI, 60, .inl (fun _ => 0))), (q15, .inl (cL, 60, .inr (.inl (fun _ => 0)))), (q16, .inl (cL, 8, .inr (.inl (fun _ => 0)))), (q17, .inl (cI, 30, .inl (fun _ => 0))), (q18, .inl (cL, 30, .inr (.inl (fun _ => 0)))), (q19, .inl (cI, 30, .inl (fun _ => 0))), (q20, .inl (cI, 30, .inl (fun _ => 0))), (q21, .inl (cL, 30, .inr (.inl (fun _ => 0)))), (q23, .inr (3, [.ref q27, .int (-1)])), (q27, .inl (cI, 31, .inl (fun _ => 0)))] := hDn
  replace hS := hSn
  clear hPn hDn hSn
  clear hPc hDc hFc hP1 hD1 hk1 hz1 ht9 hvm
  refine W.cs (cells' := 16) (slots' := 465) rfl rfl ?_
  refine va_putF (D := (dC, dI)) (ci := 0) (v := .ref q23) (ty := .object "NetUnfolder$Way") (C := "NetUnfolder") (T := T_NU) (N := 5) hx hb ht in_NU ty_NU ok_NU nm_NU hown hK hP hD hS 0 rfl rfl 2 (by decide) (ht _ wd_2_38) (fun _ h9 => h9) rfl hin rfl (by decide +kernel) rfl rfl (Nat.le_of_ble_eq_true rfl) d_NU_init_34 (fun H28 locs hPn hDn hSn => ?_)
  replace hP : va_P (dC, dI) clA [(h0, .inr (0, [.ref q1, .ref q8, .ref q23, .null, .null])), (q1, .inr (1, [.ref q5, .ref q6, .int 0, .int 0])), (q5, .inl (cI, 8, .inl (fun _ => 0))), (q6, .inl (cI, 8, .inl (fun _ => 0))), (q8, .inr (2, [.int 0, .ref q12, .ref q13, .ref q14, .ref q15, .ref q16, .int 0, .ref q17, .ref q18, .ref q19, .ref q20, .ref q21, .int 0, .int 0])), (q12, .inl (cI, 60, .inl (fun _ => 0))), (q13, .inl (cI, 60, .inl (fun _ => 0))), (q14, .inl (cI, 60, .inl (fun _ => 0))), (q15, .inl (cL, 60, .inr (.inl (fun _ => 0)))), (q16, .inl (cL, 8, .inr (.inl (fun _ => 0)))), (q17, .inl (cI, 30, .inl (fun _ => 0))), (q18, .inl (cL, 30, .inr (.inl (fun _ => 0)))), (q19, .inl (cI, 30, .inl (fun _ => 0))), (q20, .inl (cI, 30, .inl (fun _ => 0))), (q21, .inl (cL, 30, .inr (.inl (fun _ => 0)))), (q23, .inr (3, [.ref q27, .int (-1)])), (q27, .inl (cI, 31, .inl (fun _ => 0)))] H28 := hPn
  replace hD : va_D A [(h0, .inr (0, [.ref q1, .ref q8, .ref q23, .null, .null])), (q1, .inr (1, [.ref q5, .ref q6, .int 0, .int 0])), (q5, .inl (cI, 8, .inl (fun _ => 0))), (q6, .inl (cI, 8, .inl (fun _ => 0))), (q8, .inr (2, [.int 0, .ref q12, .ref q13, .ref q14, .ref q15, .ref q16, .int 0, .ref q17, .ref q18, .ref q19, .ref q20, .ref q21, .int 0, .int 0])), (q12, .inl (cI, 60, .inl (fun _ => 0))), (q13, .inl (cI, 60, .inl (fun _ => 0))), (q14, .inl (cI, 60, .inl (fun _ => 0))), (q15, .inl (cL, 60, .inr (.inl (fun _ => 0)))), (q16, .inl (cL, 8, .inr (.inl (fun _ => 0)))), (q17, .inl (cI, 30, .inl (fun _ => 0))), (q18, .inl (cL, 30, .inr (.inl (fun _ => 0)))), (q19, .inl (cI, 30, .inl (fun _ => 0))), (q20, .inl (cI, 30, .inl (fun _ => 0))), (q21, .inl (cL, 30, .inr (.inl (fun _ => 0)))), (q23, .inr (3, [.ref q27, .int (-1)])), (q27, .inl (cI, 31, .inl (fun _ => 0)))] := hDn
  replace hS := hSn
  clear hPn hDn hSn
  refine lv_aload_n hx hb d_NU_init_37 rfl (lv_at hl 0 rfl) ?_
  refine va_new (ci := 4) (fs := [.null, .null, .null, .null]) (C := "NetUnfolder$Unfolding") (T := T_Un) (N := 4) hx hb ht in_Un ty_Un ok_Un hown (ht _ wd_1_152) (ht _ wd_1_153) (ht _ wd_1_5) hK hP hD hS hA rfl (by decide +kernel) (Nat.le_of_ble_eq_true rfl) (Nat.le_of_ble_eq_true rfl) d_NU_init_38 (fun q29 H30 hPn hDn hSn => ?_)
  replace hP : va_P (dC, dI) clA [(h0, .inr (0, [.ref q1, .ref q8, .ref q23, .null, .null])), (q1, .inr (1, [.ref q5, .ref q6, .int 0, .int 0])), (q5, .inl (cI, 8, .inl (fun _ => 0))), (q6, .inl (cI, 8, .inl (fun _ => 0))), (q8, .inr (2, [.int 0, .ref q12, .ref q13, .ref q14, .ref q15, .ref q16, .int 0, .ref q17, .ref q18, .ref q19, .ref q20, .ref q21, .int 0, .int 0])), (q12, .inl (cI, 60, .inl (fun _ => 0))), (q13, .inl (cI, 60, .inl (fun _ => 0))), (q14, .inl (cI, 60, .inl (fun _ => 0))), (q15, .inl (cL, 60, .inr (.inl (fun _ => 0)))), (q16, .inl (cL, 8, .inr (.inl (fun _ => 0)))), (q17, .inl (cI, 30, .inl (fun _ => 0))), (q18, .inl (cL, 30, .inr (.inl (fun _ => 0)))), (q19, .inl (cI, 30, .inl (fun _ => 0))), (q20, .inl (cI, 30, .inl (fun _ => 0))), (q21, .inl (cL, 30, .inr (.inl (fun _ => 0)))), (q23, .inr (3, [.ref q27, .int (-1)])), (q27, .inl (cI, 31, .inl (fun _ => 0))), (q29, .inr (4, [.null, .null, .null, .null]))] H30 := hPn
  replace hD : va_D A [(h0, .inr (0, [.ref q1, .ref q8, .ref q23, .null, .null])), (q1, .inr (1, [.ref q5, .ref q6, .int 0, .int 0])), (q5, .inl (cI, 8, .inl (fun _ => 0))), (q6, .inl (cI, 8, .inl (fun _ => 0))), (q8, .inr (2, [.int 0, .ref q12, .ref q13, .ref q14, .ref q15, .ref q16, .int 0, .ref q17, .ref q18, .ref q19, .ref q20, .ref q21, .int 0, .int 0])), (q12, .inl (cI, 60, .inl (fun _ => 0))), (q13, .inl (cI, 60, .inl (fun _ => 0))), (q14, .inl (cI, 60, .inl (fun _ => 0))), (q15, .inl (cL, 60, .inr (.inl (fun _ => 0)))), (q16, .inl (cL, 8, .inr (.inl (fun _ => 0)))), (q17, .inl (cI, 30, .inl (fun _ => 0))), (q18, .inl (cL, 30, .inr (.inl (fun _ => 0)))), (q19, .inl (cI, 30, .inl (fun _ => 0))), (q20, .inl (cI, 30, .inl (fun _ => 0))), (q21, .inl (cL, 30, .inr (.inl (fun _ => 0)))), (q23, .inr (3, [.ref q27, .int (-1)])), (q27, .inl (cI, 31, .inl (fun _ => 0))), (q29, .inr (4, [.null, .null, .null, .null]))] := hDn
  replace hS := hSn
  clear hPn hDn hSn
  refine W.cs (cells' := 17) (slots' := 469) rfl rfl ?_
  refine lv_dup hx hb d_NU_init_41 rfl ?_
  refine lv_aload_n hx hb d_NU_init_42 rfl (lv_at hl 0 rfl) ?_
  refine va_get (D := (dC, dI)) (ci := 0) (v := .ref q1) (C := "NetUnfolder") (T := T_NU) (N := 5) hx hb ht in_NU hown hK hP 0 rfl rfl 0 (by decide) (ht _ wd_2_36) (fun _ h9 => h9) rfl d_NU_init_43 ?_
  refine lv_aload_n hx hb d_NU_init_46 rfl (lv_at hl 0 rfl) ?_
  refine va_get (D := (dC, dI)) (ci := 0) (v := .ref q8) (C := "NetUnfolder") (T := T_NU) (N := 5) hx hb ht in_NU hown hK hP 0 rfl rfl 1 (by decide) (ht _ wd_2_37) (fun _ h9 => h9) rfl d_NU_init_47 ?_
  refine lv_aload_n hx hb d_NU_init_50 rfl (lv_at hl 0 rfl) ?_
  refine va_get (D := (dC, dI)) (ci := 0) (v := .ref q23) (C := "NetUnfolder") (T := T_NU) (N := 5) hx hb ht in_NU hown hK hP 0 rfl rfl 2 (by decide) (ht _ wd_2_38) (fun _ h9 => h9) rfl d_NU_init_51 ?_
  have hPc := hP.sub (ws' := [(q29, .inr (4, [.null, .null, .null, .null]))]) [17] rfl
  have hDc := hD.sub (ws' := [(q29, .inr (4, [.null, .null, .null, .null]))]) [17] (by decide) rfl
  have hFc := va_free (wc := [(q29, .inr (4, [.null, .null, .null, .null]))]) hD hS hA [17] rfl
  refine va_callv (va_runI (As := [.ref q1, .ref q8, .ref q23]) (rest := [.ref q29, .ref h0]) ⟨hx, hb, hml, hown, ht⟩ (c_Un_init l dC dI cI cL cZ _ q29 q1 q8 q23 ) (cwI 3 ht (goodA wd_1_156) rfl rfl rfl (ht _ wd_1_5) (ht _ wd_1_154) (ht _ wd_1_155) rfl (by decide +kernel) ⟨Nat.le_of_ble_eq_true rfl, Nat.le_of_ble_eq_true rfl⟩) ⟨fun a U g mk q => by obtain ⟨q0, q1, qP, qK, qD, qN⟩ := q; exact ⟨q0, q1, qP, va_K.moved (u := U) (U := U.calling g mk a) (Vm.Alike.refl U.vm) qK, qD, NwA.same (u := U) rfl qN⟩, fun U hU hW => ⟨rfl, by rw [hU], by rw [hU]; exact hPc, va_K.moved hW.alike hK, hDc.weaken (fun _ _ _ _ => trivial), NwA.warm hW hN⟩⟩ rfl rfl hl.1 rfl (lv_room (Nat.le_of_ble_eq_true rfl)) d_NU_init_54 ⟨Nat.le_of_ble_eq_true rfl, Nat.le_of_ble_eq_true rfl⟩) hS (fun q _ h => hFc q h) hFc (fun u t H31 locs ht9 hvm hw32 hB hz1 hk1 hSn => ?_)
  obtain ⟨q33, q34, q35, q36, hP1, hD1⟩ := hB
  rw [ht9] at hP1
  obtain ⟨hPn, hDn⟩ := va_join (wr := [(h0, .inr (0, [.ref q1, .ref q8, .ref q23, .null, .null])), (q1, .inr (1, [.ref q5, .ref q6, .int 0, .int 0])), (q5, .inl (cI, 8, .inl (fun _ => 0))), (q6, .inl (cI, 8, .inl (fun _ => 0))), (q8, .inr (2, [.int 0, .ref q12, .ref q13, .ref q14, .ref q15, .ref q16, .int 0, .ref q17, .ref q18, .ref q19, .ref q20, .ref q21, .int 0, .int 0])), (q12, .inl (cI, 60, .inl (fun _ => 0))), (q13, .inl (cI, 60, .inl (fun _ => 0))), (q14, .inl (cI, 60, .inl (fun _ => 0))), (q15, .inl (cL, 60, .inr (.inl (fun _ => 0)))), (q16, .inl (cL, 8, .inr (.inl (fun _ => 0)))), (q17, .inl (cI, 30, .inl (fun _ => 0))), (q18, .inl (cL, 30, .inr (.inl (fun _ => 0)))), (q19, .inl (cI, 30, .inl (fun _ => 0))), (q20, .inl (cI, 30, .inl (fun _ => 0))), (q21, .inl (cL, 30, .inr (.inl (fun _ => 0)))), (q23, .inr (3, [.ref q27, .int (-1)])), (q27, .inl (cI, 31, .inl (fun _ => 0)))]) (w1 := [(q29, .inr (4, [.ref q1, .ref q8, .ref q23, .ref q33])), (q33, .inr (5, [.ref q8, .int 0, .ref q34, .ref q35, .ref q36])), (q34, .inl (cI, 201, .inl (fun _ => 0))), (q35, .inl (cL, 201, .inr (.inl (fun _ => 0)))), (q36, .inl (cL, 201, .inr (.inl (fun _ => 0))))]) hP hD [17] [0, 1, 2, 3, 4, 5, 6, 7, 8, 9, 10, 11, 12, 13, 14, 15, 16] rfl rfl (by decide) (by decide) hk1 hFc hP1 hD1
  replace hP : va_P (dC, dI) clA [(h0, .inr (0, [.ref q1, .ref q8, .ref q23, .null, .null])), (q1, .inr (1, [.ref q5, .ref q6, .int 0, .int 0])), (q5, .inl (cI, 8, .inl (fun _ => 0))), (q6, .inl (cI, 8, .inl (fun _ => 0))), (q8, .inr (2, [.int 0, .ref q12, .ref q13, .ref q14, .ref q15, .ref q16, .int 0, .ref q17, .ref q18, .ref q19, .ref q20, .ref q21, .int 0, .int 0])), (q12, .inl (cI, 60, .inl (fun _ => 0))), (q13, .inl (cI, 60, .inl (fun _ => 0))), (q14, .inl (cI, 60, .inl (fun _ => 0))), (q15, .inl (cL, 60, .inr (.inl (fun _ => 0)))), (q16, .inl (cL, 8, .inr (.inl (fun _ => 0)))), (q17, .inl (cI, 30, .inl (fun _ => 0))), (q18, .inl (cL, 30, .inr (.inl (fun _ => 0)))), (q19, .inl (cI, 30, .inl (fun _ => 0))), (q20, .inl (cI, 30, .inl (fun _ => 0))), (q21, .inl (cL, 30, .inr (.inl (fun _ => 0)))), (q23, .inr (3, [.ref q27, .int (-1)])), (q27, .inl (cI, 31, .inl (fun _ => 0))), (q29, .inr (4, [.ref q1, .ref q8, .ref q23, .ref q33])), (q33, .inr (5, [.ref q8, .int 0, .ref q34, .ref q35, .ref q36])), (q34, .inl (cI, 201, .inl (fun _ => 0))), (q35, .inl (cL, 201, .inr (.inl (fun _ => 0)))), (q36, .inl (cL, 201, .inr (.inl (fun _ => 0))))] H31 := hPn
  replace hD : va_D A [(h0, .inr (0, [.ref q1, .ref q8, .ref q23, .null, .null])), (q1, .inr (1, [.ref q5, .ref q6, .int 0, .int 0])), (q5, .inl (cI, 8, .inl (fun _ => 0))), (q6, .inl (cI, 8, .inl (fun _ => 0))), (q8, .inr (2, [.int 0, .ref q12, .ref q13, .ref q14, .ref q15, .ref q16, .int 0, .ref q17, .ref q18, .ref q19, .ref q20, .ref q21, .int 0, .int 0])), (q12, .inl (cI, 60, .inl (fun _ => 0))), (q13, .inl (cI, 60, .inl (fun _ => 0))), (q14, .inl (cI, 60, .inl (fun _ => 0))), (q15, .inl (cL, 60, .inr (.inl (fun _ => 0)))), (q16, .inl (cL, 8, .inr (.inl (fun _ => 0)))), (q17, .inl (cI, 30, .inl (fun _ => 0))), (q18, .inl (cL, 30, .inr (.inl (fun _ => 0)))), (q19, .inl (cI, 30, .inl (fun _ => 0))), (q20, .inl (cI, 30, .inl (fun _ => 0))), (q21, .inl (cL, 30, .inr (.inl (fun _ => 0)))), (q23, .inr (3, [.ref q27, .int (-1)])), (q27, .inl (cI, 31, .inl (fun _ => 0))), (q29, .inr (4, [.ref q1, .ref q8, .ref q23, .ref q33])), (q33, .inr (5, [.ref q8, .int 0, .ref q34, .ref q35, .ref q36])), (q34, .inl (cI, 201, .inl (fun _ => 0))), (q35, .inl (cL, 201, .inr (.inl (fun _ => 0)))), (q36, .inl (cL, 201, .inr (.inl (fun _ => 0))))] := hDn
  replace hS := hSn
  clear hPn hDn hSn
  clear hPc hDc hFc hP1 hD1 hk1 hz1 ht9 hvm
  refine W.cs (cells' := 21) (slots' := 1077) rfl rfl ?_
  refine va_putF (D := (dC, dI)) (ci := 0) (v := .ref q29) (ty := .object "NetUnfolder$Unfolding") (C := "NetUnfolder") (T := T_NU) (N := 5) hx hb ht in_NU ty_NU ok_NU nm_NU hown hK hP hD hS 0 rfl rfl 3 (by decide) (ht _ wd_2_39) (fun _ h9 => h9) rfl hin rfl (by decide +kernel) rfl rfl (Nat.le_of_ble_eq_true rfl) d_NU_init_57 (fun H37 locs hPn hDn hSn => ?_)
  replace hP : va_P (dC, dI) clA [(h0, .inr (0, [.ref q1, .ref q8, .ref q23, .ref q29, .null])), (q1, .inr (1, [.ref q5, .ref q6, .int 0, .int 0])), (q5, .inl (cI, 8, .inl (fun _ => 0))), (q6, .inl (cI, 8, .inl (fun _ => 0))), (q8, .inr (2, [.int 0, .ref q12, .ref q13, .ref q14, .ref q15, .ref q16, .int 0, .ref q17, .ref q18, .ref q19, .ref q20, .ref q21, .int 0, .int 0])), (q12, .inl (cI, 60, .inl (fun _ => 0))), (q13, .inl (cI, 60, .inl (fun _ => 0))), (q14, .inl (cI, 60, .inl (fun _ => 0))), (q15, .inl (cL, 60, .inr (.inl (fun _ => 0)))), (q16, .inl (cL, 8, .inr (.inl (fun _ => 0)))), (q17, .inl (cI, 30, .inl (fun _ => 0))), (q18, .inl (cL, 30, .inr (.inl (fun _ => 0)))), (q19, .inl (cI, 30, .inl (fun _ => 0))), (q20, .inl (cI, 30, .inl (fun _ => 0))), (q21, .inl (cL, 30, .inr (.inl (fun _ => 0)))), (q23, .inr (3, [.ref q27, .int (-1)])), (q27, .inl (cI, 31, .inl (fun _ => 0))), (q29, .inr (4, [.ref q1, .ref q8, .ref q23, .ref q33])), (q33, .inr (5, [.ref q8, .int 0, .ref q34, .ref q35, .ref q36])), (q34, .inl (cI, 201, .inl (fun _ => 0))), (q35, .inl (cL, 201, .inr (.inl (fun _ => 0)))), (q36, .inl (cL, 201, .inr (.inl (fun _ => 0))))] H37 := hPn
  replace hD : va_D A [(h0, .inr (0, [.ref q1, .ref q8, .ref q23, .ref q29, .null])), (q1, .inr (1, [.ref q5, .ref q6, .int 0, .int 0])), (q5, .inl (cI, 8, .inl (fun _ => 0))), (q6, .inl (cI, 8, .inl (fun _ => 0))), (q8, .inr (2, [.int 0, .ref q12, .ref q13, .ref q14, .ref q15, .ref q16, .int 0, .ref q17, .ref q18, .ref q19, .ref q20, .ref q21, .int 0, .int 0])), (q12, .inl (cI, 60, .inl (fun _ => 0))), (q13, .inl (cI, 60, .inl (fun _ => 0))), (q14, .inl (cI, 60, .inl (fun _ => 0))), (q15, .inl (cL, 60, .inr (.inl (fun _ => 0)))), (q16, .inl (cL, 8, .inr (.inl (fun _ => 0)))), (q17, .inl (cI, 30, .inl (fun _ => 0))), (q18, .inl (cL, 30, .inr (.inl (fun _ => 0)))), (q19, .inl (cI, 30, .inl (fun _ => 0))), (q20, .inl (cI, 30, .inl (fun _ => 0))), (q21, .inl (cL, 30, .inr (.inl (fun _ => 0)))), (q23, .inr (3, [.ref q27, .int (-1)])), (q27, .inl (cI, 31, .inl (fun _ => 0))), (q29, .inr (4, [.ref q1, .ref q8, .ref q23, .ref q33])), (q33, .inr (5, [.ref q8, .int 0, .ref q34, .ref q35, .ref q36])), (q34, .inl (cI, 201, .inl (fun _ => 0))), (q35, .inl (cL, 201, .inr (.inl (fun _ => 0)))), (q36, .inl (cL, 201, .inr (.inl (fun _ => 0))))] := hDn
  replace hS := hSn
  clear hPn hDn hSn
  refine lv_aload_n hx hb d_NU_init_60 rfl (lv_at hl 0 rfl) ?_
  refine va_new (ci := 6) (fs := [.null, .null, .null, .null, .null, .int 0]) (C := "NetUnfolder$Question") (T := T_Qu) (N := 6) hx hb ht in_Qu ty_Qu ok_Qu hown (ht _ wd_1_197) (ht _ wd_1_198) (ht _ wd_1_7) hK hP hD hS hA rfl (by decide +kernel) (Nat.le_of_ble_eq_true rfl) (Nat.le_of_ble_eq_true rfl) d_NU_init_61 (fun q38 H39 hPn hDn hSn => ?_)
  replace hP : va_P (dC, dI) clA [(h0, .inr (0, [.ref q1, .ref q8, .ref q23, .ref q29, .null])), (q1, .inr (1, [.ref q5, .ref q6, .int 0, .int 0])), (q5, .inl (cI, 8, .inl (fun _ => 0))), (q6, .inl (cI, 8, .inl (fun _ => 0))), (q8, .inr (2, [.int 0, .ref q12, .ref q13, .ref q14, .ref q15, .ref q16, .int 0, .ref q17, .ref q18, .ref q19, .ref q20, .ref q21, .int 0, .int 0])), (q12, .inl (cI, 60, .inl (fun _ => 0))), (q13, .inl (cI, 60, .inl (fun _ => 0))), (q14, .inl (cI, 60, .inl (fun _ => 0))), (q15, .inl (cL, 60, .inr (.inl (fun _ => 0)))), (q16, .inl (cL, 8, .inr (.inl (fun _ => 0)))), (q17, .inl (cI, 30, .inl (fun _ => 0))), (q18, .inl (cL, 30, .inr (.inl (fun _ => 0)))), (q19, .inl (cI, 30, .inl (fun _ => 0))), (q20, .inl (cI, 30, .inl (fun _ => 0))), (q21, .inl (cL, 30, .inr (.inl (fun _ => 0)))), (q23, .inr (3, [.ref q27, .int (-1)])), (q27, .inl (cI, 31, .inl (fun _ => 0))), (q29, .inr (4, [.ref q1, .ref q8, .ref q23, .ref q33])), (q33, .inr (5, [.ref q8, .int 0, .ref q34, .ref q35, .ref q36])), (q34, .inl (cI, 201, .inl (fun _ => 0))), (q35, .inl (cL, 201, .inr (.inl (fun _ => 0)))), (q36, .inl (cL, 201, .inr (.inl (fun _ => 0)))), (q38, .inr (6, [.null, .null, .null, .null, .null, .int 0]))] H39 := hPn
  replace hD : va_D A [(h0, .inr (0, [.ref q1, .ref q8, .ref q23, .ref q29, .null])), (q1, .inr (1, [.ref q5, .ref q6, .int 0, .int 0])), (q5, .inl (cI, 8, .inl (fun _ => 0))), (q6, .inl (cI, 8, .inl (fun _ => 0))), (q8, .inr (2, [.int 0, .ref q12, .ref q13, .ref q14, .ref q15, .ref q16, .int 0, .ref q17, .ref q18, .ref q19, .ref q20, .ref q21, .int 0, .int 0])), (q12, .inl (cI, 60, .inl (fun _ => 0))), (q13, .inl (cI, 60, .inl (fun _ => 0))), (q14, .inl (cI, 60, .inl (fun _ => 0))), (q15, .inl (cL, 60, .inr (.inl (fun _ => 0)))), (q16, .inl (cL, 8, .inr (.inl (fun _ => 0)))), (q17, .inl (cI, 30, .inl (fun _ => 0))), (q18, .inl (cL, 30, .inr (.inl (fun _ => 0)))), (q19, .inl (cI, 30, .inl (fun _ => 0))), (q20, .inl (cI, 30, .inl (fun _ => 0))), (q21, .inl (cL, 30, .inr (.inl (fun _ => 0)))), (q23, .inr (3, [.ref q27, .int (-1)])), (q27, .inl (cI, 31, .inl (fun _ => 0))), (q29, .inr (4, [.ref q1, .ref q8, .ref q23, .ref q33])), (q33, .inr (5, [.ref q8, .int 0, .ref q34, .ref q35, .ref q36])), (q34, .inl (cI, 201, .inl (fun _ => 0))), (q35, .inl (cL, 201, .inr (.inl (fun _ => 0)))), (q36, .inl (cL, 201, .inr (.inl (fun _ => 0)))), (q38, .inr (6, [.null, .null, .null, .null, .null, .int 0]))] := hDn
  replace hS := hSn
  clear hPn hDn hSn
  refine W.cs (cells' := 22) (slots' := 1083) rfl rfl ?_
  refine lv_dup hx hb d_NU_init_64 rfl ?_
  refine lv_aload_n hx hb d_NU_init_65 rfl (lv_at hl 0 rfl) ?_
  refine va_get (D := (dC, dI)) (ci := 0) (v := .ref q1) (C := "NetUnfolder") (T := T_NU) (N := 5) hx hb ht in_NU hown hK hP 0 rfl rfl 0 (by decide) (ht _ wd_2_36) (fun _ h9 => h9) rfl d_NU_init_66 ?_
  refine lv_aload_n hx hb d_NU_init_69 rfl (lv_at hl 0 rfl) ?_
  refine va_get (D := (dC, dI)) (ci := 0) (v := .ref q8) (C := "NetUnfolder") (T := T_NU) (N := 5) hx hb ht in_NU hown hK hP 0 rfl rfl 1 (by decide) (ht _ wd_2_37) (fun _ h9 => h9) rfl d_NU_init_70 ?_
  refine lv_aload_n hx hb d_NU_init_73 rfl (lv_at hl 0 rfl) ?_
  refine va_get (D := (dC, dI)) (ci := 0) (v := .ref q23) (C := "NetUnfolder") (T := T_NU) (N := 5) hx hb ht in_NU hown hK hP 0 rfl rfl 2 (by decide) (ht _ wd_2_38) (fun _ h9 => h9) rfl d_NU_init_74 ?_
  have hPc := hP.sub (ws' := [(q38, .inr (6, [.null, .null, .null, .null, .null, .int 0]))]) [22] rfl
  have hDc := hD.sub (ws' := [(q38, .inr (6, [.null, .null, .null, .null, .null, .int 0]))]) [22] (by decide) rfl
  have hFc := va_free (wc := [(q38, .inr (6, [.null, .null, .null, .null, .null, .int 0]))]) hD hS hA [22] rfl
  refine va_callv (va_runI (As := [.ref q1, .ref q8, .ref q23]) (rest := [.ref q38, .ref h0]) ⟨hx, hb, hml, hown, ht⟩ (c_Qu_init l dC dI cI cL cZ _ q38 q1 q8 q23 ) (cwI 3 ht (goodA wd_1_201) rfl rfl rfl (ht _ wd_1_7) (ht _ wd_1_199) (ht _ wd_1_200) rfl (by decide +kernel) ⟨Nat.le_of_ble_eq_true rfl, Nat.le_of_ble_eq_true rfl⟩) ⟨fun a U g mk q => by obtain ⟨q0, q1, qP, qK, qD, qN⟩ := q; exact ⟨q0, q1, qP, va_K.moved (u := U) (U := U.calling g mk a) (Vm.Alike.refl U.vm) qK, qD, NwA.same (u := U) rfl qN⟩, fun U hU hW => ⟨rfl, by rw [hU], by rw [hU]; exact hPc, va_K.moved hW.alike hK, hDc.weaken (fun _ _ _ _ => trivial), NwA.warm hW hN⟩⟩ rfl rfl hl.1 rfl (lv_room (Nat.le_of_ble_eq_true rfl)) d_NU_init_77 ⟨Nat.le_of_ble_eq_true rfl, Nat.le_of_ble_eq_true rfl⟩) hS (fun q _ h => hFc q h) hFc (fun u t H40 locs ht9 hvm hw41 hB hz1 hk1 hSn => ?_)
  obtain ⟨q42, q43, q44, q45, q46, q47, q48, hP1, hD1⟩ := hB
  rw [ht9] at hP1
  obtain ⟨hPn, hDn⟩ := va_join (wr := [(h0, .inr (0, [.ref q1, .ref q8, .ref q23, .ref q29, .null])), (q1, .inr (1, [.ref q5, .ref q6, .int 0, .int 0])), (q5, .inl (cI, 8, .inl (fun _ => 0))), (q6, .inl (cI, 8, .inl (fun _ => 0))), (q8, .inr (2, [.int 0, .ref q12, .ref q13, .ref q14, .ref q15, .ref q16, .int 0, .ref q17, .ref q18, .ref q19, .ref q20, .ref q21, .int 0, .int 0])), (q12, .inl (cI, 60, .inl (fun _ => 0))), (q13, .inl (cI, 60, .inl (fun _ => 0))), (q14, .inl (cI, 60, .inl (fun _ => 0))), (q15, .inl (cL, 60, .inr (.inl (fun _ => 0)))), (q16, .inl (cL, 8, .inr (.inl (fun _ => 0)))), (q17, .inl (cI, 30, .inl (fun _ => 0))), (q18, .inl (cL, 30, .inr (.inl (fun _ => 0)))), (q19, .inl (cI, 30, .inl (fun _ => 0))), (q20, .inl (cI, 30, .inl (fun _ => 0))), (q21, .inl (cL, 30, .inr (.inl (fun _ => 0)))), (q23, .inr (3, [.ref q27, .int (-1)])), (q27, .inl (cI, 31, .inl (fun _ => 0))), (q29, .inr (4, [.ref q1, .ref q8, .ref q23, .ref q33])), (q33, .inr (5, [.ref q8, .int 0, .ref q34, .ref q35, .ref q36])), (q34, .inl (cI, 201, .inl (fun _ => 0))), (q35, .inl (cL, 201, .inr (.inl (fun _ => 0)))), (q36, .inl (cL, 201, .inr (.inl (fun _ => 0))))]) (w1 := [(q38, .inr (6, [.ref q1, .ref q8, .ref q23, .ref q42, .ref q45, .int 0])), (q42, .inr (7, [.ref q43, .ref q44, .int 0, .int 0])), (q43, .inl (cL, 815, .inr (.inl (fun _ => 0)))), (q44, .inl (cL, 815, .inr (.inl (fun _ => 0)))), (q45, .inr (8, [.ref q42, .long 0, .long 0, .int 0, .ref q46, .ref q47, .int 0, .ref q48])), (q46, .inl (cL, 39, .inr (.inl (fun _ => 0)))), (q47, .inl (cI, 38, .inl (fun _ => 0))), (q48, .inl (cI, 38, .inl (fun _ => 0)))]) hP hD [22] [0, 1, 2, 3, 4, 5, 6, 7, 8, 9, 10, 11, 12, 13, 14, 15, 16, 17, 18, 19, 20, 21] rfl rfl (by decide) (by decide) hk1 hFc hP1 hD1
  replace hP : va_P (dC, dI) clA [(h0, .inr (0, [.ref q1, .ref q8, .ref q23, .ref q29, .null])), (q1, .inr (1, [.ref q5, .ref q6, .int 0, .int 0])), (q5, .inl (cI, 8, .inl (fun _ => 0))), (q6, .inl (cI, 8, .inl (fun _ => 0))), (q8, .inr (2, [.int 0, .ref q12, .ref q13, .ref q14, .ref q15, .ref q16, .int 0, .ref q17, .ref q18, .ref q19, .ref q20, .ref q21, .int 0, .int 0])), (q12, .inl (cI, 60, .inl (fun _ => 0))), (q13, .inl (cI, 60, .inl (fun _ => 0))), (q14, .inl (cI, 60, .inl (fun _ => 0))), (q15, .inl (cL, 60, .inr (.inl (fun _ => 0)))), (q16, .inl (cL, 8, .inr (.inl (fun _ => 0)))), (q17, .inl (cI, 30, .inl (fun _ => 0))), (q18, .inl (cL, 30, .inr (.inl (fun _ => 0)))), (q19, .inl (cI, 30, .inl (fun _ => 0))), (q20, .inl (cI, 30, .inl (fun _ => 0))), (q21, .inl (cL, 30, .inr (.inl (fun _ => 0)))), (q23, .inr (3, [.ref q27, .int (-1)])), (q27, .inl (cI, 31, .inl (fun _ => 0))), (q29, .inr (4, [.ref q1, .ref q8, .ref q23, .ref q33])), (q33, .inr (5, [.ref q8, .int 0, .ref q34, .ref q35, .ref q36])), (q34, .inl (cI, 201, .inl (fun _ => 0))), (q35, .inl (cL, 201, .inr (.inl (fun _ => 0)))), (q36, .inl (cL, 201, .inr (.inl (fun _ => 0)))), (q38, .inr (6, [.ref q1, .ref q8, .ref q23, .ref q42, .ref q45, .int 0])), (q42, .inr (7, [.ref q43, .ref q44, .int 0, .int 0])), (q43, .inl (cL, 815, .inr (.inl (fun _ => 0)))), (q44, .inl (cL, 815, .inr (.inl (fun _ => 0)))), (q45, .inr (8, [.ref q42, .long 0, .long 0, .int 0, .ref q46, .ref q47, .int 0, .ref q48])), (q46, .inl (cL, 39, .inr (.inl (fun _ => 0)))), (q47, .inl (cI, 38, .inl (fun _ => 0))), (q48, .inl (cI, 38, .inl (fun _ => 0)))] H40 := hPn
  replace hD : va_D A [(h0, .inr (0, [.ref q1, .ref q8, .ref q23, .ref q29, .null])), (q1, .inr (1, [.ref q5, .ref q6, .int 0, .int 0])), (q5, .inl (cI, 8, .inl (fun _ => 0))), (q6, .inl (cI, 8, .inl (fun _ => 0))), (q8, .inr (2, [.int 0, .ref q12, .ref q13, .ref q14, .ref q15, .ref q16, .int 0, .ref q17, .ref q18, .ref q19, .ref q20, .ref q21, .int 0, .int 0])), (q12, .inl (cI, 60, .inl (fun _ => 0))), (q13, .inl (cI, 60, .inl (fun _ => 0))), (q14, .inl (cI, 60, .inl (fun _ => 0))), (q15, .inl (cL, 60, .inr (.inl (fun _ => 0)))), (q16, .inl (cL, 8, .inr (.inl (fun _ => 0)))), (q17, .inl (cI, 30, .inl (fun _ => 0))), (q18, .inl (cL, 30, .inr (.inl (fun _ => 0)))), (q19, .inl (cI, 30, .inl (fun _ => 0))), (q20, .inl (cI, 30, .inl (fun _ => 0))), (q21, .inl (cL, 30, .inr (.inl (fun _ => 0)))), (q23, .inr (3, [.ref q27, .int (-1)])), (q27, .inl (cI, 31, .inl (fun _ => 0))), (q29, .inr (4, [.ref q1, .ref q8, .ref q23, .ref q33])), (q33, .inr (5, [.ref q8, .int 0, .ref q34, .ref q35, .ref q36])), (q34, .inl (cI, 201, .inl (fun _ => 0))), (q35, .inl (cL, 201, .inr (.inl (fun _ => 0)))), (q36, .inl (cL, 201, .inr (.inl (fun _ => 0)))), (q38, .inr (6, [.ref q1, .ref q8, .ref q23, .ref q42, .ref q45, .int 0])), (q42, .inr (7, [.ref q43, .ref q44, .int 0, .int 0])), (q43, .inl (cL, 815, .inr (.inl (fun _ => 0)))), (q44, .inl (cL, 815, .inr (.inl (fun _ => 0)))), (q45, .inr (8, [.ref q42, .long 0, .long 0, .int 0, .ref q46, .ref q47, .int 0, .ref q48])), (q46, .inl (cL, 39, .inr (.inl (fun _ => 0)))), (q47, .inl (cI, 38, .inl (fun _ => 0))), (q48, .inl (cI, 38, .inl (fun _ => 0)))] := hDn
  replace hS := hSn
  clear hPn hDn hSn
  clear hPc hDc hFc hP1 hD1 hk1 hz1 ht9 hvm
  refine W.cs (cells' := 29) (slots' := 2840) rfl rfl ?_
  refine va_putF (D := (dC, dI)) (ci := 0) (v := .ref q38) (ty := .object "NetUnfolder$Question") (C := "NetUnfolder") (T := T_NU) (N := 5) hx hb ht in_NU ty_NU ok_NU nm_NU hown hK hP hD hS 0 rfl rfl 4 (by decide) (ht _ wd_2_40) (fun _ h9 => h9) rfl hin rfl (by decide +kernel) rfl rfl (Nat.le_of_ble_eq_true rfl) d_NU_init_80 (fun H49 locs hPn hDn hSn => ?_)
  replace hP : va_P (dC, dI) clA [(h0, .inr (0, [.ref q1, .ref q8, .ref q23, .ref q29, .ref q38])), (q1, .inr (1, [.ref q5, .ref q6, .int 0, .int 0])), (q5, .inl (cI, 8, .inl (fun _ => 0))), (q6, .inl (cI, 8, .inl (fun _ => 0))), (q8, .inr (2, [.int 0, .ref q12, .ref q13, .ref q14, .ref q15, .ref q16, .int 0, .ref q17, .ref q18, .ref q19, .ref q20, .ref q21, .int 0, .int 0])), (q12, .inl (cI, 60, .inl (fun _ => 0))), (q13, .inl (cI, 60, .inl (fun _ => 0))), (q14, .inl (cI, 60, .inl (fun _ => 0))), (q15, .inl (cL, 60, .inr (.inl (fun _ => 0)))), (q16, .inl (cL, 8, .inr (.inl (fun _ => 0)))), (q17, .inl (cI, 30, .inl (fun _ => 0))), (q18, .inl (cL, 30, .inr (.inl (fun _ => 0)))), (q19, .inl (cI, 30, .inl (fun _ => 0))), (q20, .inl (cI, 30, .inl (fun _ => 0))), (q21, .inl (cL, 30, .inr (.inl (fun _ => 0)))), (q23, .inr (3, [.ref q27, .int (-1)])), (q27, .inl (cI, 31, .inl (fun _ => 0))), (q29, .inr (4, [.ref q1, .ref q8, .ref q23, .ref q33])), (q33, .inr (5, [.ref q8, .int 0, .ref q34, .ref q35, .ref q36])), (q34, .inl (cI, 201, .inl (fun _ => 0))), (q35, .inl (cL, 201, .inr (.inl (fun _ => 0)))), (q36, .inl (cL, 201, .inr (.inl (fun _ => 0)))), (q38, .inr (6, [.ref q1, .ref q8, .ref q23, .ref q42, .ref q45, .int 0])), (q42, .inr (7, [.ref q43, .ref q44, .int 0, .int 0])), (q43, .inl (cL, 815, .inr (.inl (fun _ => 0)))), (q44, .inl (cL, 815, .inr (.inl (fun _ => 0)))), (q45, .inr (8, [.ref q42, .long 0, .long 0, .int 0, .ref q46, .ref q47, .int 0, .ref q48])), (q46, .inl (cL, 39, .inr (.inl (fun _ => 0)))), (q47, .inl (cI, 38, .inl (fun _ => 0))), (q48, .inl (cI, 38, .inl (fun _ => 0)))] H49 := hPn
  replace hD : va_D A [(h0, .inr (0, [.ref q1, .ref q8, .ref q23, .ref q29, .ref q38])), (q1, .inr (1, [.ref q5, .ref q6, .int 0, .int 0])), (q5, .inl (cI, 8, .inl (fun _ => 0))), (q6, .inl (cI, 8, .inl (fun _ => 0))), (q8, .inr (2, [.int 0, .ref q12, .ref q13, .ref q14, .ref q15, .ref q16, .int 0, .ref q17, .ref q18, .ref q19, .ref q20, .ref q21, .int 0, .int 0])), (q12, .inl (cI, 60, .inl (fun _ => 0))), (q13, .inl (cI, 60, .inl (fun _ => 0))), (q14, .inl (cI, 60, .inl (fun _ => 0))), (q15, .inl (cL, 60, .inr (.inl (fun _ => 0)))), (q16, .inl (cL, 8, .inr (.inl (fun _ => 0)))), (q17, .inl (cI, 30, .inl (fun _ => 0))), (q18, .inl (cL, 30, .inr (.inl (fun _ => 0)))), (q19, .inl (cI, 30, .inl (fun _ => 0))), (q20, .inl (cI, 30, .inl (fun _ => 0))), (q21, .inl (cL, 30, .inr (.inl (fun _ => 0)))), (q23, .inr (3, [.ref q27, .int (-1)])), (q27, .inl (cI, 31, .inl (fun _ => 0))), (q29, .inr (4, [.ref q1, .ref q8, .ref q23, .ref q33])), (q33, .inr (5, [.ref q8, .int 0, .ref q34, .ref q35, .ref q36])), (q34, .inl (cI, 201, .inl (fun _ => 0))), (q35, .inl (cL, 201, .inr (.inl (fun _ => 0)))), (q36, .inl (cL, 201, .inr (.inl (fun _ => 0)))), (q38, .inr (6, [.ref q1, .ref q8, .ref q23, .ref q42, .ref q45, .int 0])), (q42, .inr (7, [.ref q43, .ref q44, .int 0, .int 0])), (q43, .inl (cL, 815, .inr (.inl (fun _ => 0)))), (q44, .inl (cL, 815, .inr (.inl (fun _ => 0)))), (q45, .inr (8, [.ref q42, .long 0, .long 0, .int 0, .ref q46, .ref q47, .int 0, .ref q48])), (q46, .inl (cL, 39, .inr (.inl (fun _ => 0)))), (q47, .inl (cI, 38, .inl (fun _ => 0))), (q48, .inl (cI, 38, .inl (fun _ => 0)))] := hDn
  replace hS := hSn
  clear hPn hDn hSn
  have hP9 := hP.sub (ws' := [(h0, .inr (0, [.ref q1, .ref q8, .ref q23, .ref q29, .ref q38])), (q1, .inr (1, [.ref q5, .ref q6, .int 0, .int 0])), (q5, .inl (cI, 8, .inl (fun _ => 0))), (q6, .inl (cI, 8, .inl (fun _ => 0))), (q8, .inr (2, [.int 0, .ref q12, .ref q13, .ref q14, .ref q15, .ref q16, .int 0, .ref q17, .ref q18, .ref q19, .ref q20, .ref q21, .int 0, .int 0])), (q12, .inl (cI, 60, .inl (fun _ => 0))), (q13, .inl (cI, 60, .inl (fun _ => 0))), (q14, .inl (cI, 60, .inl (fun _ => 0))), (q15, .inl (cL, 60, .inr (.inl (fun _ => 0)))), (q16, .inl (cL, 8, .inr (.inl (fun _ => 0)))), (q17, .inl (cI, 30, .inl (fun _ => 0))), (q18, .inl (cL, 30, .inr (.inl (fun _ => 0)))), (q19, .inl (cI, 30, .inl (fun _ => 0))), (q20, .inl (cI, 30, .inl (fun _ => 0))), (q21, .inl (cL, 30, .inr (.inl (fun _ => 0)))), (q23, .inr (3, [.ref q27, .int (-1)])), (q27, .inl (cI, 31, .inl (fun _ => 0))), (q29, .inr (4, [.ref q1, .ref q8, .ref q23, .ref q33])), (q33, .inr (5, [.ref q8, .int 0, .ref q34, .ref q35, .ref q36])), (q34, .inl (cI, 201, .inl (fun _ => 0))), (q35, .inl (cL, 201, .inr (.inl (fun _ => 0)))), (q36, .inl (cL, 201, .inr (.inl (fun _ => 0)))), (q38, .inr (6, [.ref q1, .ref q8, .ref q23, .ref q42, .ref q45, .int 0])), (q42, .inr (7, [.ref q43, .ref q44, .int 0, .int 0])), (q43, .inl (cL, 815, .inr (.inl (fun _ => 0)))), (q44, .inl (cL, 815, .inr (.inl (fun _ => 0)))), (q45, .inr (8, [.ref q42, .long 0, .long 0, .int 0, .ref q46, .ref q47, .int 0, .ref q48])), (q46, .inl (cL, 39, .inr (.inl (fun _ => 0)))), (q47, .inl (cI, 38, .inl (fun _ => 0))), (q48, .inl (cI, 38, .inl (fun _ => 0)))]) [0, 1, 2, 3, 4, 5, 6, 7, 8, 9, 10, 11, 12, 13, 14, 15, 16, 17, 18, 19, 20, 21, 22, 23, 24, 25, 26, 27, 28, 29] rfl
  have hD9 := hD.sub (ws' := [(h0, .inr (0, [.ref q1, .ref q8, .ref q23, .ref q29, .ref q38])), (q1, .inr (1, [.ref q5, .ref q6, .int 0, .int 0])), (q5, .inl (cI, 8, .inl (fun _ => 0))), (q6, .inl (cI, 8, .inl (fun _ => 0))), (q8, .inr (2, [.int 0, .ref q12, .ref q13, .ref q14, .ref q15, .ref q16, .int 0, .ref q17, .ref q18, .ref q19, .ref q20, .ref q21, .int 0, .int 0])), (q12, .inl (cI, 60, .inl (fun _ => 0))), (q13, .inl (cI, 60, .inl (fun _ => 0))), (q14, .inl (cI, 60, .inl (fun _ => 0))), (q15, .inl (cL, 60, .inr (.inl (fun _ => 0)))), (q16, .inl (cL, 8, .inr (.inl (fun _ => 0)))), (q17, .inl (cI, 30, .inl (fun _ => 0))), (q18, .inl (cL, 30, .inr (.inl (fun _ => 0)))), (q19, .inl (cI, 30, .inl (fun _ => 0))), (q20, .inl (cI, 30, .inl (fun _ => 0))), (q21, .inl (cL, 30, .inr (.inl (fun _ => 0)))), (q23, .inr (3, [.ref q27, .int (-1)])), (q27, .inl (cI, 31, .inl (fun _ => 0))), (q29, .inr (4, [.ref q1, .ref q8, .ref q23, .ref q33])), (q33, .inr (5, [.ref q8, .int 0, .ref q34, .ref q35, .ref q36])), (q34, .inl (cI, 201, .inl (fun _ => 0))), (q35, .inl (cL, 201, .inr (.inl (fun _ => 0)))), (q36, .inl (cL, 201, .inr (.inl (fun _ => 0)))), (q38, .inr (6, [.ref q1, .ref q8, .ref q23, .ref q42, .ref q45, .int 0])), (q42, .inr (7, [.ref q43, .ref q44, .int 0, .int 0])), (q43, .inl (cL, 815, .inr (.inl (fun _ => 0)))), (q44, .inl (cL, 815, .inr (.inl (fun _ => 0)))), (q45, .inr (8, [.ref q42, .long 0, .long 0, .int 0, .ref q46, .ref q47, .int 0, .ref q48])), (q46, .inl (cL, 39, .inr (.inl (fun _ => 0)))), (q47, .inl (cI, 38, .inl (fun _ => 0))), (q48, .inl (cI, 38, .inl (fun _ => 0)))]) [0, 1, 2, 3, 4, 5, 6, 7, 8, 9, 10, 11, 12, 13, 14, 15, 16, 17, 18, 19, 20, 21, 22, 23, 24, 25, 26, 27, 28, 29] (by decide) rfl
  exact W.vret hx hb hr (fun t ht9 hW => ⟨⟨(), rfl, trivial, q1, q5, q6, q8, q12, q13, q14, q15, q16, q17, q18, q19, q20, q21, q23, q27, q29, q33, q34, q35, q36, q38, q42, q43, q44, q45, q46, q47, q48, by rw [ht9]; exact hP9, hD9⟩, hS.F ht9⟩) hS.2.2 d_NU_init_83
end
section
set_option maxHeartbeats 4000000 in
set_option maxRecDepth 100000 in
theorem c_Mo_init (l : Launch) (dC : Nat → ClassId) (dI : Nat → Nat → Nat) (cI cL cZ : ClassId) (sz : Nat) (h0 : Nat) : Met l y_Mo_init (Cond.code y_Mo_init prog_11_method_1_code 1 none :: wsA) { frames := 1, cells := 17, slots := 763, locals := 12 } (va_Pc [.ref h0] (fun U => U.heap.size = sz ∧ va_P (dC, dI) clA [(h0, .inr (9, [.int 0, .int 0, .null, .null, .int 0, .int 0, .null, .null, .null, .null, .int 0, .null, .null, .null, .null, .null, .null, .null, .int 0, .int 0, .null, .null, .long 0, .int 0, .int 0, .null, .int 0, .null]))] U.heap ∧ va_K (dC, dI) clA [(cI, .int), (cL, .long), (cZ, .boolean)] U ∧ va_D (fun _ => True) [(h0, .inr (9, [.int 0, .int 0, .null, .null, .int 0, .int 0, .null, .null, .null, .null, .int 0, .null, .null, .null, .null, .null, .null, .null, .int 0, .int 0, .null, .null, .long 0, .int 0, .int 0, .null, .int 0, .null]))] ∧ NwA U)) (va_Qv (fun _ : Unit => True) (fun _ t => ∃ q1 q4 q7 q10 q13 q16 q19 q22 q25 q28 q31 q34 q37 q40 q43 q46 q49 : Nat, va_P (dC, dI) clA [(h0, .inr (9, [.int 0, .int 0, .ref q1, .ref q4, .int 0, .int 0, .ref q7, .ref q10, .ref q13, .ref q16, .int 0, .ref q19, .ref q22, .ref q25, .ref q28, .ref q31, .ref q34, .ref q37, .int 0, .int 0, .ref q40, .ref q43, .long 0, .int 0, .int 0, .ref q46, .int (-1), .ref q49])), (q1, .inl (cI, 8, .inl (fun _ => 0))), (q4, .inl (cI, 8, .inl (fun _ => 0))), (q7, .inl (cI, 60, .inl (fun _ => 0))), (q10, .inl (cI, 60, .inl (fun _ => 0))), (q13, .inl (cI, 60, .inl (fun _ => 0))), (q16, .inl (cL, 60, .inr (.inl (fun _ => 0)))), (q19, .inl (cI, 30, .inl (fun _ => 0))), (q22, .inl (cI, 30, .inl (fun _ => 0))), (q25, .inl (cL, 30, .inr (.inl (fun _ => 0)))), (q28, .inl (cI, 240, .inl (fun _ => 0))), (q31, .inl (cL, 30, .inr (.inl (fun _ => 0)))), (q34, .inl (cI, 30, .inl (fun _ => 0))), (q37, .inl (cZ, 30, .inl (fun _ => 0))), (q40, .inl (cI, 8, .inl (fun _ => 0))), (q43, .inl (cL, 9, .inr (.inl (fun _ => 0)))), (q46, .inl (cI, 8, .inl (fun _ => 0))), (q49, .inl (cI, 62, .inl (fun _ => 0)))] t.heap ∧ va_D (va_A [(h0, .inr (9, [.int 0, .int 0, .null, .null, .int 0, .int 0, .null, .null, .null, .null, .int 0, .null, .null, .null, .null, .null, .null, .null, .int 0, .int 0, .null, .null, .long 0, .int 0, .int 0, .null, .int 0, .null]))] sz) [(h0, .inr (9, [.int 0, .int 0, .ref q1, .ref q4, .int 0, .int 0, .ref q7, .ref q10, .ref q13, .ref q16, .int 0, .ref q19, .ref q22, .ref q25, .ref q28, .ref q31, .ref q34, .ref q37, .int 0, .int 0, .ref q40, .ref q43, .long 0, .int 0, .int 0, .ref q46, .int (-1), .ref q49])), (q1, .inl (cI, 8, .inl (fun _ => 0))), (q4, .inl (cI, 8, .inl (fun _ => 0))), (q7, .inl (cI, 60, .inl (fun _ => 0))), (q10, .inl (cI, 60, .inl (fun _ => 0))), (q13, .inl (cI, 60, .inl (fun _ => 0))), (q16, .inl (cL, 60, .inr (.inl (fun _ => 0)))), (q19, .inl (cI, 30, .inl (fun _ => 0))), (q22, .inl (cI, 30, .inl (fun _ => 0))), (q25, .inl (cL, 30, .inr (.inl (fun _ => 0)))), (q28, .inl (cI, 240, .inl (fun _ => 0))), (q31, .inl (cL, 30, .inr (.inl (fun _ => 0)))), (q34, .inl (cI, 30, .inl (fun _ => 0))), (q37, .inl (cZ, 30, .inl (fun _ => 0))), (q40, .inl (cI, 8, .inl (fun _ => 0))), (q43, .inl (cL, 9, .inr (.inl (fun _ => 0)))), (q46, .inl (cI, 8, .inl (fun _ => 0))), (q49, .inl (cI, 62, .inl (fun _ => 0)))]) (va_A [(h0, .inr (9, [.int 0, .int 0, .null, .null, .int 0, .int 0, .null, .null, .null, .null, .int 0, .null, .null, .null, .null, .null, .null, .null, .int 0, .int 0, .null, .null, .long 0, .int 0, .int 0, .null, .int 0, .null]))] sz)) 17 763 (va_A [(h0, .inr (9, [.int 0, .int 0, .null, .null, .int 0, .int 0, .null, .null, .null, .null, .int 0, .null, .null, .null, .null, .null, .null, .null, .int 0, .int 0, .null, .null, .long 0, .int 0, .int 0, .null, .int 0, .null]))] sz) := by
  refine Met.ofW (cc := prog_11_method_1_code) (maxL := 1) (ret := none) (by decide) rfl ?_
  intro p e s m args below meth c s₁ B hml hv
  obtain ⟨rfl, hsz, hP, hK, hD0, hN⟩ := hv
  have hx := B.exec
  have hb := B.bytes
  have hr := B.returns
  have ht : ∀ w ∈ wsA, w.before _ s = true := fun w h => atoms_spec (ws := (Cond.code y_Mo_init prog_11_method_1_code 1 none :: wsA)) B.pre w (List.mem_cons_of_mem _ h)
  have hown : s.vm.findClass "NetUnfolderModel" = some m.cls := findClass_of_methodNamed B.named
  have hlocks := B.notSynchronized
  have hin : meth.name = "<init>" := (name_of_methodNamed B.named B.method).1
  subst hsz
  have hD := hD0.self (sz := s.heap.size)
  generalize hAe : va_A [(h0, .inr (9, [.int 0, .int 0, .null, .null, .int 0, .int 0, .null, .null, .null, .null, .int 0, .null, .null, .null, .null, .null, .null, .null, .int 0, .int 0, .null, .null, .long 0, .int 0, .int 0, .null, .int 0, .null]))] s.heap.size = A at hD ⊢
  have hA : ∀ q : Nat, s.heap.size ≤ q → A q := fun q h => by rw [← hAe]; exact Or.inr h
  have hS : va_S A s.heap s.heap [] := va_S.rf
  have hl := lv_entry ([.ref h0]) (n := 1) (Nat.le_of_ble_eq_true rfl)
  rw [lg_entry_eq]
  generalize (lg_sl ([.ref h0]) ++ List.replicate (1 - (lg_sl ([.ref h0])).length) Slot.unset).toArray = ls at hl ⊢
  replace hl : lv_has ls 1 [(0, .ref h0)] := hl
  refine lv_aload_n hx hb d_Mo_init_0 rfl (lv_at hl 0 rfl) ?_
  refine W.objInit hx hb hown (ht (.methodLink "NetUnfolderModel" 1 Lib.objectInit) wd_3_239) (ht (.instanceMethod Lib.objectInit) wd_1_25) (ht (.code Lib.objectInit ⟨#[0xb1]⟩ 1 none) wd_1_26) rfl (by rw [hml]; exact hl.1) rfl d_Mo_init_1 (Nat.le_of_ble_eq_true rfl) (Nat.le_of_ble_eq_true rfl) ?_
  refine W.eq (g2 := F0 m 4 ls []) rfl ?_
  refine lv_aload_n hx hb d_Mo_init_4 rfl (lv_at hl 0 rfl) ?_
  refine lv_bipush (v := 8) hx hb d_Mo_init_5 (by decide) ?_
  refine nx_newaI hx hb (ht _ wd_1_55) hK hP hD hS hA 0 rfl (N' := 8) (by decide) (by decide) (Nat.le_of_ble_eq_true rfl) (Nat.le_of_ble_eq_true rfl) (Nat.le_of_ble_eq_true rfl) d_Mo_init_7 (fun q1 H2 hPn hDn hSn => ?_)
  replace hP : va_P (dC, dI) clA [(h0, .inr (9, [.int 0, .int 0, .null, .null, .int 0, .int 0, .null, .null, .null, .null, .int 0, .null, .null, .null, .null, .null, .null, .null, .int 0, .int 0, .null, .null, .long 0, .int 0, .int 0, .null, .int 0, .null])), (q1, .inl (cI, 8, .inl (fun _ => 0)))] H2 := hPn
  replace hD : va_D A [(h0, .inr (9, [.int 0, .int 0, .null, .null, .int 0, .int 0, .null, .null, .null, .null, .int 0, .null, .null, .null, .null, .null, .null, .null, .int 0, .int 0, .null, .null, .long 0, .int 0, .int 0, .null, .int 0, .null])), (q1, .inl (cI, 8, .inl (fun _ => 0)))] := hDn
  replace hS := hSn
  clear hPn hDn hSn
  refine W.cs (cells' := 1) (slots' := 8) rfl rfl ?_
  refine va_putF (D := (dC, dI)) (ci := 9) (v := .ref q1) (ty := .array .int) (C := "NetUnfolderModel") (T := T_Mo) (N := 28) hx hb ht in_Mo ty_Mo ok_Mo nm_Mo hown hK hP hD hS 0 rfl rfl 2 (by decide) (ht _ wd_4_2) (fun _ h9 => h9) rfl hin rfl (by decide +kernel) rfl rfl (Nat.le_of_ble_eq_true rfl) d_Mo_init_9 (fun H3 locs hPn hDn hSn => ?_)
  replace hP : va_P (dC, dI) clA [(h0, .inr (9, [.int 0, .int 0, .ref q1, .null, .int 0, .int 0, .null, .null, .null, .null, .int 0, .null, .null, .null, .null, .null, .null, .null, .int 0, .int 0, .null, .null, .long 0, .int 0, .int 0, .null, .int 0, .null])), (q1, .inl (cI, 8, .inl (fun _ => 0)))] H3 := hPn
  replace hD : va_D A [(h0, .inr (9, [.int 0, .int 0, .ref q1, .null, .int 0, .int 0, .null, .null, .null, .null, .int 0, .null, .null, .null, .null, .null, .null, .null, .int 0, .int 0, .null, .null, .long 0, .int 0, .int 0, .null, .int 0, .null])), (q1, .inl (cI, 8, .inl (fun _ => 0)))] := hDn
  replace hS := hSn
  clear hPn hDn hSn
  refine lv_aload_n hx hb d_Mo_init_12 rfl (lv_at hl 0 rfl) ?_
  refine lv_bipush (v := 8) hx hb d_Mo_init_13 (by decide) ?_
  refine nx_newaI hx hb (ht _ wd_1_55) hK hP hD hS hA 0 rfl (N' := 8) (by decide) (by decide) (Nat.le_of_ble_eq_true rfl) (Nat.le_of_ble_eq_true rfl) (Nat.le_of_ble_eq_true rfl) d_Mo_init_15 (fun q4 H5 hPn hDn hSn => ?_)
  replace hP : va_P (dC, dI) clA [(h0, .inr (9, [.int 0, .int 0, .ref q1, .null, .int 0, .int 0, .null, .null, .null, .null, .int 0, .null, .null, .null, .null, .null, .null, .null, .int 0, .int 0, .null, .null, .long 0, .int 0, .int 0, .null, .int 0, .null])), (q1, .inl (cI, 8, .inl (fun _ => 0))), (q4, .inl (cI, 8, .inl (fun _ => 0)))] H5 := hPn
  replace hD : va_D A [(h0, .inr (9, [.int 0, .int 0, .ref q1, .null, .int 0, .int 0, .null, .null, .null, .null, .int 0, .null, .null, .null, .null, .null, .null, .null, .int 0, .int 0, .null, .null, .long 0, .int 0, .int 0, .null, .int 0, .null])), (q1, .inl (cI, 8, .inl (fun _ => 0))), (q4, .inl (cI, 8, .inl (fun _ => 0)))] := hDn
  replace hS := hSn
  clear hPn hDn hSn
  refine W.cs (cells' := 2) (slots' := 16) rfl rfl ?_
  refine va_putF (D := (dC, dI)) (ci := 9) (v := .ref q4) (ty := .array .int) (C := "NetUnfolderModel") (T := T_Mo) (N := 28) hx hb ht in_Mo ty_Mo ok_Mo nm_Mo hown hK hP hD hS 0 rfl rfl 3 (by decide) (ht _ wd_4_3) (fun _ h9 => h9) rfl hin rfl (by decide +kernel) rfl rfl (Nat.le_of_ble_eq_true rfl) d_Mo_init_17 (fun H6 locs hPn hDn hSn => ?_)
  replace hP : va_P (dC, dI) clA [(h0, .inr (9, [.int 0, .int 0, .ref q1, .ref q4, .int 0, .int 0, .null, .null, .null, .null, .int 0, .null, .null, .null, .null, .null, .null, .null, .int 0, .int 0, .null, .null, .long 0, .int 0, .int 0, .null, .int 0, .null])), (q1, .inl (cI, 8, .inl (fun _ => 0))), (q4, .inl (cI, 8, .inl (fun _ => 0)))] H6 := hPn
  replace hD : va_D A [(h0, .inr (9, [.int 0, .int 0, .ref q1, .ref q4, .int 0, .int 0, .null, .null, .null, .null, .int 0, .null, .null, .null, .null, .null, .null, .null, .int 0, .int 0, .null, .null, .long 0, .int 0, .int 0, .null, .int 0, .null])), (q1, .inl (cI, 8, .inl (fun _ => 0))), (q4, .inl (cI, 8, .inl (fun _ => 0)))] := hDn
  replace hS := hSn
  clear hPn hDn hSn
  refine lv_aload_n hx hb d_Mo_init_20 rfl (lv_at hl 0 rfl) ?_
  refine lv_bipush (v := 60) hx hb d_Mo_init_21 (by decide) ?_
  refine nx_newaI hx hb (ht _ wd_1_55) hK hP hD hS hA 0 rfl (N' := 60) (by decide) (by decide) (Nat.le_of_ble_eq_true rfl) (Nat.le_of_ble_eq_true rfl) (Nat.le_of_ble_eq_true rfl) d_Mo_init_23 (fun q7 H8 hPn hDn hSn => ?_)
  replace hP : va_P (dC, dI) clA [(h0, .inr (9, [.int 0, .int 0, .ref q1, .ref q4, .int 0, .int 0, .null, .null, .null, .null, .int 0, .null, .null, .null, .null, .null, .null, .null, .int 0, .int 0, .null, .null, .long 0, .int 0, .int 0, .null, .int 0, .null])), (q1, .inl (cI, 8, .inl (fun _ => 0))), (q4, .inl (cI, 8, .inl (fun _ => 0))), (q7, .inl (cI, 60, .inl (fun _ => 0)))] H8 := hPn
  replace hD : va_D A [(h0, .inr (9, [.int 0, .int 0, .ref q1, .ref q4, .int 0, .int 0, .null, .null, .null, .null, .int 0, .null, .null, .null, .null, .null, .null, .null, .int 0, .int 0, .null, .null, .long 0, .int 0, .int 0, .null, .int 0, .null])), (q1, .inl (cI, 8, .inl (fun _ => 0))), (q4, .inl (cI, 8, .inl (fun _ => 0))), (q7, .inl (cI, 60, .inl (fun _ => 0)))] := hDn
  replace hS := hSn
  clear hPn hDn hSn
  refine W.cs (cells' := 3) (slots' := 76) rfl rfl ?_
  refine va_putF (D := (dC, dI)) (ci := 9) (v := .ref q7) (ty := .array .int) (C := "NetUnfolderModel") (T := T_Mo) (N := 28) hx hb ht in_Mo ty_Mo ok_Mo nm_Mo hown hK hP hD hS 0 rfl rfl 6 (by decide) (ht _ wd_4_6) (fun _ h9 => h9) rfl hin rfl (by decide +kernel) rfl rfl (Nat.le_of_ble_eq_true rfl) d_Mo_init_25 (fun H9 locs hPn hDn hSn => ?_)
  replace hP : va_P (dC, dI) clA [(h0, .inr (9, [.int 0, .int 0, .ref q1, .ref q4, .int 0, .int 0, .ref q7, .null, .null, .null, .int 0, .null, .null, .null, .null, .null, .null, .null, .int 0, .int 0, .null, .null, .long 0, .int 0, .int 0, .null, .int 0, .null])), (q1, .inl (cI, 8, .inl (fun _ => 0))), (q4, .inl (cI, 8, .inl (fun _ => 0))), (q7, .inl (cI, 60, .inl (fun _ => 0)))] H9 := hPn
  replace hD : va_D A [(h0, .inr (9, [.int 0, .int 0, .ref q1, .ref q4, .int 0, .int 0, .ref q7, .null, .null, .null, .int 0, .null, .null, .null, .null, .null, .null, .null, .int 0, .int 0, .null, .null, .long 0, .int 0, .int 0, .null, .int 0, .null])), (q1, .inl (cI, 8, .inl (fun _ => 0))), (q4, .inl (cI, 8, .inl (fun _ => 0))), (q7, .inl (cI, 60, .inl (fun _ => 0)))] := hDn
  replace hS := hSn
  clear hPn hDn hSn
  refine lv_aload_n hx hb d_Mo_init_28 rfl (lv_at hl 0 rfl) ?_
  refine lv_bipush (v := 60) hx hb d_Mo_init_29 (by decide) ?_
  refine nx_newaI hx hb (ht _ wd_1_55) hK hP hD hS hA 0 rfl (N' := 60) (by decide) (by decide) (Nat.le_of_ble_eq_true rfl) (Nat.le_of_ble_eq_true rfl) (Nat.le_of_ble_eq_true rfl) d_Mo_init_31 (fun q10 H11 hPn hDn hSn => ?_)
  replace hP : va_P (dC, dI) clA [(h0, .inr (9, [.int 0, .int 0, .ref q1, .ref q4, .int 0, .int 0, .ref q7, .null, .null, .null, .int 0, .null, .null, .null, .null, .null, .null, .null, .int 0, .int 0, .null, .null, .long 0, .int 0, .int 0, .null, .int 0, .null])), (q1, .inl (cI, 8, .inl (fun _ => 0))), (q4, .inl (cI, 8, .inl (fun _ => 0))), (q7, .inl (cI, 60, .inl (fun _ => 0))), (q10, .inl (cI, 60, .inl (fun _ => 0)))] H11 := hPn
  replace hD : va_D A [(h0, .inr (9, [.int 0, .int 0, .ref q1, .ref q4, .int 0, .int 0, .ref q7, .null, .null, .null, .int 0, .null, .null, .null, .null, .null, .null, .null, .int 0, .int 0, .null, .null, .long 0, .int 0, .int 0, .null, .int 0, .null])), (q1, .inl (cI, 8, .inl (fun _ => 0))), (q4, .inl (cI, 8, .inl (fun _ => 0))), (q7, .inl (cI, 60, .inl (fun _ => 0))), (q10, .inl (cI, 60, .inl (fun _ => 0)))] := hDn
  replace hS := hSn
  clear hPn hDn hSn
  refine W.cs (cells' := 4) (slots' := 136) rfl rfl ?_
  refine va_putF (D := (dC, dI)) (ci := 9) (v := .ref q10) (ty := .array .int) (C := "NetUnfolderModel") (T := T_Mo) (N := 28) hx hb ht in_Mo ty_Mo ok_Mo nm_Mo hown hK hP hD hS 0 rfl rfl 7 (by decide) (ht _ wd_4_7) (fun _ h9 => h9) rfl hin rfl (by decide +kernel) rfl rfl (Nat.le_of_ble_eq_true rfl) d_Mo_init_33 (fun H12 locs hPn hDn hSn => ?_)
  replace hP : va_P (dC, dI) clA [(h0, .inr (9, [.int 0, .int 0, .ref q1, .ref q4, .int 0, .int 0, .ref q7, .ref q10, .null, .null, .int 0, .null, .null, .null, .null, .null, .null, .null, .int 0, .int 0, .null, .null, .long 0, .int 0, .int 0, .null, .int 0, .null])), (q1, .inl (cI, 8, .inl (fun _ => 0))), (q4, .inl (cI, 8, .inl (fun _ => 0))), (q7, .inl (cI, 60, .inl (fun _ => 0))), (q10, .inl (cI, 60, .inl (fun _ => 0)))] H12 := hPn
  replace hD : va_D A [(h0, .inr (9, [.int 0, .int 0, .ref q1, .ref q4, .int 0, .int 0, .ref q7, .ref q10, .null, .null, .int 0, .null, .null, .null, .null, .null, .null, .null, .int 0, .int 0, .null, .null, .long 0, .int 0, .int 0, .null, .int 0, .null])), (q1, .inl (cI, 8, .inl (fun _ => 0))), (q4, .inl (cI, 8, .inl (fun _ => 0))), (q7, .inl (cI, 60, .inl (fun _ => 0))), (q10, .inl (cI, 60, .inl (fun _ => 0)))] := hDn
  replace hS := hSn
  clear hPn hDn hSn
  refine lv_aload_n hx hb d_Mo_init_36 rfl (lv_at hl 0 rfl) ?_
  refine lv_bipush (v := 60) hx hb d_Mo_init_37 (by decide) ?_
  refine nx_newaI hx hb (ht _ wd_1_55) hK hP hD hS hA 0 rfl (N' := 60) (by decide) (by decide) (Nat.le_of_ble_eq_true rfl) (Nat.le_of_ble_eq_true rfl) (Nat.le_of_ble_eq_true rfl) d_Mo_init_39 (fun q13 H14 hPn hDn hSn => ?_)
  replace hP : va_P (dC, dI) clA [(h0, .inr (9, [.int 0, .int 0, .ref q1, .ref q4, .int 0, .int 0, .ref q7, .ref q10, .null, .null, .int 0, .null, .null, .null, .null, .null, .null, .null, .int 0, .int 0, .null, .null, .long 0, .int 0, .int 0, .null, .int 0, .null])), (q1, .inl (cI, 8, .inl (fun _ => 0))), (q4, .inl (cI, 8, .inl (fun _ => 0))), (q7, .inl (cI, 60, .inl (fun _ => 0))), (q10, .inl (cI, 60, .inl (fun _ => 0))), (q13, .inl (cI, 60, .inl (fun _ => 0)))] H14 := hPn
  replace hD : va_D A [(h0, .inr (9, [.int 0, .int 0, .ref q1, .ref q4, .int 0, .int 0, .ref q7, .ref q10, .null, .null, .int 0, .null, .null, .null, .null, .null, .null, .null, .int 0, .int 0, .null, .null, .long 0, .int 0, .int 0, .null, .int 0, .null])), (q1, .inl (cI, 8, .inl (fun _ => 0))), (q4, .inl (cI, 8, .inl (fun _ => 0))), (q7, .inl (cI, 60, .inl (fun _ => 0))), (q10, .inl (cI, 60, .inl (fun _ => 0))), (q13, .inl (cI, 60, .inl (fun _ => 0)))] := hDn
  replace hS := hSn
  clear hPn hDn hSn
  refine W.cs (cells' := 5) (slots' := 196) rfl rfl ?_
  refine va_putF (D := (dC, dI)) (ci := 9) (v := .ref q13) (ty := .array .int) (C := "NetUnfolderModel") (T := T_Mo) (N := 28) hx hb ht in_Mo ty_Mo ok_Mo nm_Mo hown hK hP hD hS 0 rfl rfl 8 (by decide) (ht _ wd_4_8) (fun _ h9 => h9) rfl hin rfl (by decide +kernel) rfl rfl (Nat.le_of_ble_eq_true rfl) d_Mo_init_41 (fun H15 locs hPn hDn hSn => ?_)
  replace hP : va_P (dC, dI) clA [(h0, .inr (9, [.int 0, .int 0, .ref q1, .ref q4, .int 0, .int 0, .ref q7, .ref q10, .ref q13, .null, .int 0, .null, .null, .null, .null, .null, .null, .null, .int 0, .int 0, .null, .null, .long 0, .int 0, .int 0, .null, .int 0, .null])), (q1, .inl (cI, 8, .inl (fun _ => 0))), (q4, .inl (cI, 8, .inl (fun _ => 0))), (q7, .inl (cI, 60, .inl (fun _ => 0))), (q10, .inl (cI, 60, .inl (fun _ => 0))), (q13, .inl (cI, 60, .inl (fun _ => 0)))] H15 := hPn
  replace hD : va_D A [(h0, .inr (9, [.int 0, .int 0, .ref q1, .ref q4, .int 0, .int 0, .ref q7, .ref q10, .ref q13, .null, .int 0, .null, .null, .null, .null, .null, .null, .null, .int 0, .int 0, .null, .null, .long 0, .int 0, .int 0, .null, .int 0, .null])), (q1, .inl (cI, 8, .inl (fun _ => 0))), (q4, .inl (cI, 8, .inl (fun _ => 0))), (q7, .inl (cI, 60, .inl (fun _ => 0))), (q10, .inl (cI, 60, .inl (fun _ => 0))), (q13, .inl (cI, 60, .inl (fun _ => 0)))] := hDn
  replace hS := hSn
  clear hPn hDn hSn
  refine lv_aload_n hx hb d_Mo_init_44 rfl (lv_at hl 0 rfl) ?_
  refine lv_bipush (v := 60) hx hb d_Mo_init_45 (by decide) ?_
  refine nx_newaJ hx hb (ht _ wd_1_136) hK hP hD hS hA 1 rfl (N' := 60) (by decide) (by decide) (Nat.le_of_ble_eq_true rfl) (Nat.le_of_ble_eq_true rfl) (Nat.le_of_ble_eq_true rfl) d_Mo_init_47 (fun q16 H17 hPn hDn hSn => ?_)
  replace hP : va_P (dC, dI) clA [(h0, .inr (9, [.int 0, .int 0, .ref q1, .ref q4, .int 0, .int 0, .ref q7, .ref q10, .ref q13, .null, .int 0, .null, .null, .null, .null, .null, .null, .null, .int 0, .int 0, .null, .null, .long 0, .int 0, .int 0, .null, .int 0, .null])), (q1, .inl (cI, 8, .inl (fun _ => 0))), (q4, .inl (cI, 8, .inl (fun _ => 0))), (q7, .inl (cI, 60, .inl (fun _ => 0))), (q10, .inl (cI, 60, .inl (fun _ => 0))), (q13, .inl (cI, 60, .inl (fun _ => 0))), (q16, .inl (cL, 60, .inr (.inl (fun _ => 0))))] H17 := hPn
  replace hD : va_D A [(h0, .inr (9, [.int 0, .int 0, .ref q1, .ref q4, .int 0, .int 0, .ref q7, .ref q10, .ref q13, .null, .int 0, .null, .null, .null, .null, .null, .null, .null, .int 0, .int 0, .null, .null, .long 0, .int 0, .int 0, .null, .int 0, .null])), (q1, .inl (cI, 8, .inl (fun _ => 0))), (q4, .inl (cI, 8, .inl (fun _ => 0))), (q7, .inl (cI, 60, .inl (fun _ => 0))), (q10, .inl (cI, 60, .inl (fun _ => 0))), (q13, .inl (cI, 60, .inl (fun _ => 0))), (q16, .inl (cL, 60, .inr (.inl (fun _ => 0))))] := hDn
  replace hS := hSn
  clear hPn hDn hSn
  refine W.cs (cells' := 6) (slots' := 256) rfl rfl ?_
  refine va_putF (D := (dC, dI)) (ci := 9) (v := .ref q16) (ty := .array .long) (C := "NetUnfolderModel") (T := T_Mo) (N := 28) hx hb ht in_Mo ty_Mo ok_Mo nm_Mo hown hK hP hD hS 0 rfl rfl 9 (by decide) (ht _ wd_4_9) (fun _ h9 => h9) rfl hin rfl (by decide +kernel) rfl rfl (Nat.le_of_ble_eq_true rfl) d_Mo_init_49 (fun H18 locs hPn hDn hSn => ?_)
  replace hP : va_P (dC, dI) clA [(h0, .inr (9, [.int 0, .int 0, .ref q1, .ref q4, .int 0, .int 0, .ref q7, .ref q10, .ref q13, .ref q16, .int 0, .null, .null, .null, .null, .null, .null, .null, .int 0, .int 0, .null, .null, .long 0, .int 0, .int 0, .null, .int 0, .null])), (q1, .inl (cI, 8, .inl (fun _ => 0))), (q4, .inl (cI, 8, .inl (fun _ => 0))), (q7, .inl (cI, 60, .inl (fun _ => 0))), (q10, .inl (cI, 60, .inl (fun _ => 0))), (q13, .inl (cI, 60, .inl (fun _ => 0))), (q16, .inl (cL, 60, .inr (.inl (fun _ => 0))))] H18 := hPn
  replace hD : va_D A [(h0, .inr (9, [.int 0, .int 0, .ref q1, .ref q4, .int 0, .int 0, .ref q7, .ref q10, .ref q13, .ref q16, .int 0, .null, .null, .null, .null, .null, .null, .null, .int 0, .int 0, .null, .null, .long 0, .int 0, .int 0, .null, .int 0, .null])), (q1, .inl (cI, 8, .inl (fun _ => 0))), (q4, .inl (cI, 8, .inl (fun _ => 0))), (q7, .inl (cI, 60, .inl (fun _ => 0))), (q10, .inl (cI, 60, .inl (fun _ => 0))), (q13, .inl (cI, 60, .inl (fun _ => 0))), (q16, .inl (cL, 60, .inr (.inl (fun _ => 0))))] := hDn
  replace hS := hSn
  clear hPn hDn hSn
  refine lv_aload_n hx hb d_Mo_init_52 rfl (lv_at hl 0 rfl) ?_
  refine lv_bipush (v := 30) hx hb d_Mo_init_53 (by decide) ?_
  refine nx_newaI hx hb (ht _ wd_1_55) hK hP hD hS hA 0 rfl (N' := 30) (by decide) (by decide) (Nat.le_of_ble_eq_true rfl) (Nat.le_of_ble_eq_true rfl) (Nat.le_of_ble_eq_true rfl) d_Mo_init_55 (fun q19 H20 hPn hDn hSn => ?_)
  replace hP : va_P (dC, dI) clA [(h0, .inr (9, [.int 0, .int 0, .ref q1, .ref q4, .int 0, .int 0, .ref q7, .ref q10, .ref q13, .ref q16, .int 0, .null, .null, .null, .null, .null, .null, .null, .int 0, .int 0, .null, .null, .long 0, .int 0, .int 0, .null, .int 0, .null])), (q1, .inl (cI, 8, .inl (fun _ => 0))), (q4, .inl (cI, 8, .inl (fun _ => 0))), (q7, .inl (cI, 60, .inl (fun _ => 0))), (q10, .inl (cI, 60, .inl (fun _ => 0))), (q13, .inl (cI, 60, .inl (fun _ => 0))), (q16, .inl (cL, 60, .inr (.inl (fun _ => 0)))), (q19, .inl (cI, 30, .inl (fun _ => 0)))] H20 := hPn
  replace hD : va_D A [(h0, .inr (9, [.int 0, .int 0, .ref q1, .ref q4, .int 0, .int 0, .ref q7, .ref q10, .ref q13, .ref q16, .int 0, .null, .null, .null, .null, .null, .null, .null, .int 0, .int 0, .null, .null, .long 0, .int 0, .int 0, .null, .int 0, .null])), (q1, .inl (cI, 8, .inl (fun _ => 0))), (q4, .inl (cI, 8, .inl (fun _ => 0))), (q7, .inl (cI, 60, .inl (fun _ => 0))), (q10, .inl (cI, 60, .inl (fun _ => 0))), (q13, .inl (cI, 60, .inl (fun _ => 0))), (q16, .inl (cL, 60, .inr (.inl (fun _ => 0)))), (q19, .inl (cI, 30, .inl (fun _ => 0)))] := hDn
  replace hS := hSn
  clear hPn hDn hSn
  refine W.cs (cells' := 7) (slots' := 286) rfl rfl ?_
  refine va_putF (D := (dC, dI)) (ci := 9) (v := .ref q19) (ty := .array .int) (C := "NetUnfolderModel") (T := T_Mo) (N := 28) hx hb ht in_Mo ty_Mo ok_Mo nm_Mo hown hK hP hD hS 0 rfl rfl 11 (by decide) (ht _ wd_4_11) (fun _ h9 => h9) rfl hin rfl (by decide +kernel) rfl rfl (Nat.le_of_ble_eq_true rfl) d_Mo_init_57 (fun H21 locs hPn hDn hSn => ?_)
  replace hP : va_P (dC, dI) clA [(h0, .inr (9, [.int 0, .int 0, .ref q1, .ref q4, .int 0, .int 0, .ref q7, .ref q10, .ref q13, .ref q16, .int 0, .ref q19, .null, .null, .null, .null, .null, .null, .int 0, .int 0, .null, .null, .long 0, .int 0, .int 0, .null, .int 0, .null])), (q1, .inl (cI, 8, .inl (fun _ => 0))), (q4, .inl (cI, 8, .inl (fun _ => 0))), (q7, .inl (cI, 60, .inl (fun _ => 0))), (q10, .inl (cI, 60, .inl (fun _ => 0))), (q13, .inl (cI, 60, .inl (fun _ => 0))), (q16, .inl (cL, 60, .inr (.inl (fun _ => 0)))), (q19, .inl (cI, 30, .inl (fun _ => 0)))] H21 := hPn
  replace hD : va_D A [(h0, .inr (9, [.int 0, .int 0, .ref q1, .ref q4, .int 0, .int 0, .ref q7, .ref q10, .ref q13, .ref q16, .int 0, .ref q19, .null, .null, .null, .null, .null, .null, .int 0, .int 0, .null, .null, .long 0, .int 0, .int 0, .null, .int 0, .null])), (q1, .inl (cI, 8, .inl (fun _ => 0))), (q4, .inl (cI, 8, .inl (fun _ => 0))), (q7, .inl (cI, 60, .inl (fun _ => 0))), (q10, .inl (cI, 60, .inl (fun _ => 0))), (q13, .inl (cI, 60, .inl (fun _ => 0))), (q16, .inl (cL, 60, .inr (.inl (fun _ => 0)))), (q19, .inl (cI, 30, .inl (fun _ => 0)))] := hDn
  replace hS := hSn
  clear hPn hDn hSn
  refine lv_aload_n hx hb d_Mo_init_60 rfl (lv_at hl 0 rfl) ?_
  refine lv_bipush (v := 30) hx hb d_Mo_init_61 (by decide) ?_
  refine nx_newaI hx hb (ht _ wd_1_55) hK hP hD hS hA 0 rfl (N' := 30) (by decide) (by decide) (Nat.le_of_ble_eq_true rfl) (Nat.le_of_ble_eq_true rfl) (Nat.le_of_ble_eq_true rfl) d_Mo_init_63 (fun q22 H23 hPn hDn hSn => ?_)
  replace hP : va_P (dC, dI) clA [(h0, .inr (9, [.int 0, .int 0, .ref q1, .ref q4, .int 0, .int 0, .ref q7, .ref q10, .ref q13, .ref q16, .int 0, .ref q19, .null, .null, .null, .null, .null, .null, .int 0, .int 0, .null, .null, .long 0, .int 0, .int 0, .null, .int 0, .null])), (q1, .inl (cI, 8, .inl (fun _ => 0))), (q4, .inl (cI, 8, .inl (fun _ => 0))), (q7, .inl (cI, 60, .inl (fun _ => 0))), (q10, .inl (cI, 60, .inl (fun _ => 0))), (q13, .inl (cI, 60, .inl (fun _ => 0))), (q16, .inl (cL, 60, .inr (.inl (fun _ => 0)))), (q19, .inl (cI, 30, .inl (fun _ => 0))), (q22, .inl (cI, 30, .inl (fun _ => 0)))] H23 := hPn
  replace hD : va_D A [(h0, .inr (9, [.int 0, .int 0, .ref q1, .ref q4, .int 0, .int 0, .ref q7, .ref q10, .ref q13, .ref q16, .int 0, .ref q19, .null, .null, .null, .null, .null, .null, .int 0, .int 0, .null, .null, .long 0, .int 0, .int 0, .null, .int 0, .null])), (q1, .inl (cI, 8, .inl (fun _ => 0))), (q4, .inl (cI, 8, .inl (fun _ => 0))), (q7, .inl (cI, 60, .inl (fun _ => 0))), (q10, .inl (cI, 60, .inl (fun _ => 0))), (q13, .inl (cI, 60, .inl (fun _ => 0))), (q16, .inl (cL, 60, .inr (.inl (fun _ => 0)))), (q19, .inl (cI, 30, .inl (fun _ => 0))), (q22, .inl (cI, 30, .inl (fun _ => 0)))] := hDn
  replace hS := hSn
  clear hPn hDn hSn
  refine W.cs (cells' := 8) (slots' := 316) rfl rfl ?_
  refine va_putF (D := (dC, dI)) (ci := 9) (v := .ref q22) (ty := .array .int) (C := "NetUnfolderModel") (T := T_Mo) (N := 28) hx hb ht in_Mo ty_Mo ok_Mo nm_Mo hown hK hP hD hS 0 rfl rfl 12 (by decide) (ht _ wd_4_12) (fun _ h9 => h9) rfl hin rfl (by decide +kernel) rfl rfl (Nat.le_of_ble_eq_true rfl) d_Mo_init_65 (fun H24 locs hPn hDn hSn => ?_)
  replace hP : va_P (dC, dI) clA [(h0, .inr (9, [.int 0, .int 0, .ref q1, .ref q4, .int 0, .int 0, .ref q7, .ref q10, .ref q13, .ref q16, .int 0, .ref q19, .ref q22, .null, .null, .null, .null, .null, .int 0, .int 0, .null, .null, .long 0, .int 0, .int 0, .null, .int 0, .null])), (q1, .inl (cI, 8, .inl (fun _ => 0))), (q4, .inl (cI, 8, .inl (fun _ => 0))), (q7, .inl (cI, 60, .inl (fun _ => 0))), (q10, .inl (cI, 60, .inl (fun _ => 0))), (q13, .inl (cI, 60, .inl (fun _ => 0))), (q16, .inl (cL, 60, .inr (.inl (fun _ => 0)))), (q19, .inl (cI, 30, .inl (fun _ => 0))), (q22, .inl (cI, 30, .inl (fun _ => 0)))] H24 := hPn
  replace hD : va_D A [(h0, .inr (9, [.int 0, .int 0, .ref q1, .ref q4, .int 0, .int 0, .ref q7, .ref q10, .ref q13, .ref q16, .int 0, .ref q19, .ref q22, .null, .null, .null, .null, .null, .int 0, .int 0, .null, .null, .long 0, .int 0, .int 0, .null, .int 0, .null])), (q1, .inl (cI, 8, .inl (fun _ => 0))), (q4, .inl (cI, 8, .inl (fun _ => 0))), (q7, .inl (cI, 60, .inl (fun _ => 0))), (q10, .inl (cI, 60, .inl (fun _ => 0))), (q13, .inl (cI, 60, .inl (fun _ => 0))), (q16, .inl (cL, 60, .inr (.inl (fun _ => 0)))), (q19, .inl (cI, 30, .inl (fun _ => 0))), (q22, .inl (cI, 30, .inl (fun _ => 0)))] := hDn
  replace hS := hSn
  clear hPn hDn hSn
  refine lv_aload_n hx hb d_Mo_init_68 rfl (lv_at hl 0 rfl) ?_
  refine lv_bipush (v := 30) hx hb d_Mo_init_69 (by decide) ?_
  refine nx_newaJ hx hb (ht _ wd_1_136) hK hP hD hS hA 1 rfl (N' := 30) (by decide) (by decide) (Nat.le_of_ble_eq_true rfl) (Nat.le_of_ble_eq_true rfl) (Nat.le_of_ble_eq_true rfl) d_Mo_init_71 (fun q25 H26 hPn hDn hSn => ?_)
  replace hP : va_P (dC, dI) clA [(h0, .inr (9, [.int 0, .int 0, .ref q1, .ref q4, .int 0, .int 0, .ref q7, .ref q10, .ref q13, .ref q16, .int 0, .ref q19, .ref q22, .null, .null, .null, .null, .null, .int 0, .int 0, .null, .null, .long 0, .int 0, .int 0, .null, .int 0, .null])), (q1, .inl (cI, 8, .inl (fun _ => 0))), (q4, .inl (cI, 8, .inl (fun _ => 0))), (q7, .inl (cI, 60, .inl (fun _ => 0))), (q10, .inl (cI, 60, .inl (fun _ => 0))), (q13, .inl (cI, 60, .inl (fun _ => 0))), (q16, .inl (cL, 60, .inr (.inl (fun _ => 0)))), (q19, .inl (cI, 30, .inl (fun _ => 0))), (q22, .inl (cI, 30, .inl (fun _ => 0))), (q25, .inl (cL, 30, .inr (.inl (fun _ => 0))))] H26 := hPn
  replace hD : va_D A [(h0, .inr (9, [.int 0, .int 0, .ref q1, .ref q4, .int 0, .int 0, .ref q7, .ref q10, .ref q13, .ref q16, .int 0, .ref q19, .ref q22, .null, .null, .null, .null, .null, .int 0, .int 0, .null, .null, .long 0, .int 0, .int 0, .null, .int 0, .null])), (q1, .inl (cI, 8, .inl (fun _ => 0))), (q4, .inl (cI, 8, .inl (fun _ => 0))), (q7, .inl (cI, 60, .inl (fun _ => 0))), (q10, .inl (cI, 60, .inl (fun _ => 0))), (q13, .inl (cI, 60, .inl (fun _ => 0))), (q16, .inl (cL, 60, .inr (.inl (fun _ => 0)))), (q19, .inl (cI, 30, .inl (fun _ => 0))), (q22, .inl (cI, 30, .inl (fun _ => 0))), (q25, .inl (cL, 30, .inr (.inl (fun _ => 0))))] := hDn
  replace hS := hSn
  clear hPn hDn hSn
  refine W.cs (cells' := 9) (slots' := 346) rfl rfl ?_
  refine va_putF (D := (dC, dI)) (ci := 9) (v := .ref q25) (ty := .array .long) (C := "NetUnfolderModel") (T := T_Mo) (N := 28) hx hb ht in_Mo ty_Mo ok_Mo nm_Mo hown hK hP hD hS 0 rfl rfl 13 (by decide) (ht _ wd_4_13) (fun _ h9 => h9) rfl hin rfl (by decide +kernel) rfl rfl (Nat.le_of_ble_eq_true rfl) d_Mo_init_73 (fun H27 locs hPn hDn hSn => ?_)
  replace hP : va_P (dC, dI) clA [(h0, .inr (9, [.int 0, .int 0, .ref q1, .ref q4, .int 0, .int 0, .ref q7, .ref q10, .ref q13, .ref q16, .int 0, .ref q19, .ref q22, .ref q25, .null, .null, .null, .null, .int 0, .int 0, .null, .null, .long 0, .int 0, .int 0, .null, .int 0, .null])), (q1, .inl (cI, 8, .inl (fun _ => 0))), (q4, .inl (cI, 8, .inl (fun _ => 0))), (q7, .inl (cI, 60, .inl (fun _ => 0))), (q10, .inl (cI, 60, .inl (fun _ => 0))), (q13, .inl (cI, 60, .inl (fun _ => 0))), (q16, .inl (cL, 60, .inr (.inl (fun _ => 0)))), (q19, .inl (cI, 30, .inl (fun _ => 0))), (q22, .inl (cI, 30, .inl (fun _ => 0))), (q25, .inl (cL, 30, .inr (.inl (fun _ => 0))))] H27 := hPn
  replace hD : va_D A [(h0, .inr (9, [.int 0, .int 0, .ref q1, .ref q4, .int 0, .int 0, .ref q7, .ref q10, .ref q13, .ref q16, .int 0, .ref q19, .ref q22, .ref q25, .null, .null, .null, .null, .int 0, .int 0, .null, .null, .long 0, .int 0, .int 0, .null, .int 0, .null])), (q1, .inl (cI, 8, .inl (fun _ => 0))), (q4, .inl (cI, 8, .inl (fun _ => 0))), (q7, .inl (cI, 60, .inl (fun _ => 0))), (q10, .inl (cI, 60, .inl (fun _ => 0))), (q13, .inl (cI, 60, .inl (fun _ => 0))), (q16, .inl (cL, 60, .inr (.inl (fun _ => 0)))), (q19, .inl (cI, 30, .inl (fun _ => 0))), (q22, .inl (cI, 30, .inl (fun _ => 0))), (q25, .inl (cL, 30, .inr (.inl (fun _ => 0))))] := hDn
  replace hS := hSn
  clear hPn hDn hSn
  refine lv_aload_n hx hb d_Mo_init_76 rfl (lv_at hl 0 rfl) ?_
  refine lv_sipush (v := 240) hx hb d_Mo_init_77 (by decide) ?_
  refine nx_newaI hx hb (ht _ wd_1_55) hK hP hD hS hA 0 rfl (N' := 240) (by decide) (by decide) (Nat.le_of_ble_eq_true rfl) (Nat.le_of_ble_eq_true rfl) (Nat.le_of_ble_eq_true rfl) d_Mo_init_80 (fun q28 H29 hPn hDn hSn => ?_)
  replace hP : va_P (dC, dI) clA [(h0, .inr (9, [.int 0, .int 0, .ref q1, .ref q4, .int 0, .int 0, .ref q7, .ref q10, .ref q13, .ref q16, .int 0, .ref q19, .ref q22, .ref q25, .null, .null, .null, .null, .int 0, .int 0, .null, .null, .long 0, .int 0, .int 0, .null, .int 0, .null])), (q1, .inl (cI, 8, .inl (fun _ => 0))), (q4, .inl (cI, 8, .inl (fun _ => 0))), (q7, .inl (cI, 60, .inl (fun _ => 0))), (q10, .inl (cI, 60, .inl (fun _ => 0))), (q13, .inl (cI, 60, .inl (fun _ => 0))), (q16, .inl (cL, 60, .inr (.inl (fun _ => 0)))), (q19, .inl (cI, 30, .inl (fun _ => 0))), (q22, .inl (cI, 30, .inl (fun _ => 0))), (q25, .inl (cL, 30, .inr (.inl (fun _ => 0)))), (q28, .inl (cI, 240, .inl (fun _ => 0)))] H29 := hPn
  replace hD : va_D A [(h0, .inr (9, [.int 0, .int 0, .ref q1, .ref q4, .int 0, .int 0, .ref q7, .ref q10, .ref q13, .ref q16, .int 0, .ref q19, .ref q22, .ref q25, .null, .null, .null, .null, .int 0, .int 0, .null, .null, .long 0, .int 0, .int 0, .null, .int 0, .null])), (q1, .inl (cI, 8, .inl (fun _ => 0))), (q4, .inl (cI, 8, .inl (fun _ => 0))), (q7, .inl (cI, 60, .inl (fun _ => 0))), (q10, .inl (cI, 60, .inl (fun _ => 0))), (q13, .inl (cI, 60, .inl (fun _ => 0))), (q16, .inl (cL, 60, .inr (.inl (fun _ => 0)))), (q19, .inl (cI, 30, .inl (fun _ => 0))), (q22, .inl (cI, 30, .inl (fun _ => 0))), (q25, .inl (cL, 30, .inr (.inl (fun _ => 0)))), (q28, .inl (cI, 240, .inl (fun _ => 0)))] := hDn
  replace hS := hSn
  clear hPn hDn hSn
  refine W.cs (cells' := 10) (slots' := 586) rfl rfl ?_
  refine va_putF (D := (dC, dI)) (ci := 9) (v := .ref q28) (ty := .array .int) (C := "NetUnfolderModel") (T := T_Mo) (N := 28) hx hb ht in_Mo ty_Mo ok_Mo nm_Mo hown hK hP hD hS 0 rfl rfl 14 (by decide) (ht _ wd_4_14) (fun _ h9 => h9) rfl hin rfl (by decide +kernel) rfl rfl (Nat.le_of_ble_eq_true rfl) d_Mo_init_82 (fun H30 locs hPn hDn hSn => ?_)
  replace hP : va_P (dC, dI) clA [(h0, .inr (9, [.int 0, .int 0, .ref q1, .ref q4, .int 0, .int 0, .ref q7, .ref q10, .ref q13, .ref q16, .int 0, .ref q19, .ref q22, .ref q25, .ref q28, .null, .null, .null, .int 0, .int 0, .null, .null, .long 0, .int 0, .int 0, .null, .int 0, .null])), (q1, .inl (cI, 8, .inl (fun _ => 0))), (q4, .inl (cI, 8, .inl (fun _ => 0))), (q7, .inl (cI, 60, .inl (fun _ => 0))), (q10, .inl (cI, 60, .inl (fun _ => 0))), (q13, .inl (cI, 60, .inl (fun _ => 0))), (q16, .inl (cL, 60, .inr (.inl (fun _ => 0)))), (q19, .inl (cI, 30, .inl (fun _ => 0))), (q22, .inl (cI, 30, .inl (fun _ => 0))), (q25, .inl (cL, 30, .inr (.inl (fun _ => 0)))), (q28, .inl (cI, 240, .inl (fun _ => 0)))] H30 := hPn
  replace hD : va_D A [(h0, .inr (9, [.int 0, .int 0, .ref q1, .ref q4, .int 0, .int 0, .ref q7, .ref q10, .ref q13, .ref q16, .int 0, .ref q19, .ref q22, .ref q25, .ref q28, .null, .null, .null, .int 0, .int 0, .null, .null, .long 0, .int 0, .int 0, .null, .int 0, .null])), (q1, .inl (cI, 8, .inl (fun _ => 0))), (q4, .inl (cI, 8, .inl (fun _ => 0))), (q7, .inl (cI, 60, .inl (fun _ => 0))), (q10, .inl (cI, 60, .inl (fun _ => 0))), (q13, .inl (cI, 60, .inl (fun _ => 0))), (q16, .inl (cL, 60, .inr (.inl (fun _ => 0)))), (q19, .inl (cI, 30, .inl (fun _ => 0))), (q22, .inl (cI, 30, .inl (fun _ => 0))), (q25, .inl (cL, 30, .inr (.inl (fun _ => 0)))), (q28, .inl (cI, 240, .inl (fun _ => 0)))] := hDn
  replace hS := hSn
  clear hPn hDn hSn
  refine lv_aload_n hx hb d_Mo_init_85 rfl (lv_at hl 0 rfl) ?_
  refine lv_bipush (v := 30) hx hb d_Mo_init_86 (by decide) ?_
  refine nx_newaJ hx hb (ht _ wd_1_136) hK hP hD hS hA 1 rfl (N' := 30) (by decide) (by decide) (Nat.le_of_ble_eq_true rfl) (Nat.le_of_ble_eq_true rfl) (Nat.le_of_ble_eq_true rfl) d_Mo_init_88 (fun q31 H32 hPn hDn hSn => ?_)
  replace hP : va_P (dC, dI) clA [(h0, .inr (9, [.int 0, .int 0, .ref q1, .ref q4, .int 0, .int 0, .ref q7, .ref q10, .ref q13, .ref q16, .int 0, .ref q19, .ref q22, .ref q25, .ref q28, .null, .null, .null, .int 0, .int 0, .null, .null, .long 0, .int 0, .int 0, .null, .int 0, .null])), (q1, .inl (cI, 8, .inl (fun _ => 0))), (q4, .inl (cI, 8, .inl (fun _ => 0))), (q7, .inl (cI, 60, .inl (fun _ => 0))), (q10, .inl (cI, 60, .inl (fun _ => 0))), (q13, .inl (cI, 60, .inl (fun _ => 0))), (q16, .inl (cL, 60, .inr (.inl (fun _ => 0)))), (q19, .inl (cI, 30, .inl (fun _ => 0))), (q22, .inl (cI, 30, .inl (fun _ => 0))), (q25, .inl (cL, 30, .inr (.inl (fun _ => 0)))), (q28, .inl (cI, 240, .inl (fun _ => 0))), (q31, .inl (cL, 30, .inr (.inl (fun _ => 0))))] H32 := hPn
  replace hD : va_D A [(h0, .inr (9, [.int 0, .int 0, .ref q1, .ref q4, .int 0, .int 0, .ref q7, .ref q10, .ref q13, .ref q16, .int 0, .ref q19, .ref q22, .ref q25, .ref q28, .null, .null, .null, .int 0, .int 0, .null, .null, .long 0, .int 0, .int 0, .null, .int 0, .null])), (q1, .inl (cI, 8, .inl (fun _ => 0))), (q4, .inl (cI, 8, .inl (fun _ => 0))), (q7, .inl (cI, 60, .inl (fun _ => 0))), (q10, .inl (cI, 60, .inl (fun _ => 0))), (q13, .inl (cI, 60, .inl (fun _ => 0))), (q16, .inl (cL, 60, .inr (.inl (fun _ => 0)))), (q19, .inl (cI, 30, .inl (fun _ => 0))), (q22, .inl (cI, 30, .inl (fun _ => 0))), (q25, .inl (cL, 30, .inr (.inl (fun _ => 0)))), (q28, .inl (cI, 240, .inl (fun _ => 0))), (q31, .inl (cL, 30, .inr (.inl (fun _ => 0))))] := hDn
  replace hS := hSn
  clear hPn hDn hSn
  refine W.cs (cells' := 11) (slots' := 616) rfl rfl ?_
  refine va_putF (D := (dC, dI)) (ci := 9) (v := .ref q31) (ty := .array .long) (C := "NetUnfolderModel") (T := T_Mo) (N := 28) hx hb ht in_Mo ty_Mo ok_Mo nm_Mo hown hK hP hD hS 0 rfl rfl 15 (by decide) (ht _ wd_4_15) (fun _ h9 => h9) rfl hin rfl (by decide +kernel) rfl rfl (Nat.le_of_ble_eq_true rfl) d_Mo_init_90 (fun H33 locs hPn hDn hSn => ?_)
  replace hP : va_P (dC, dI) clA [(h0, .inr (9, [.int 0, .int 0, .ref q1, .ref q4, .int 0, .int 0, .ref q7, .ref q10, .ref q13, .ref q16, .int 0, .ref q19, .ref q22, .ref q25, .ref q28, .ref q31, .null, .null, .int 0, .int 0, .null, .null, .long 0, .int 0, .int 0, .null, .int 0, .null])), (q1, .inl (cI, 8, .inl (fun _ => 0))), (q4, .inl (cI, 8, .inl (fun _ => 0))), (q7, .inl (cI, 60, .inl (fun _ => 0))), (q10, .inl (cI, 60, .inl (fun _ => 0))), (q13, .inl (cI, 60, .inl (fun _ => 0))), (q16, .inl (cL, 60, .inr (.inl (fun _ => 0)))), (q19, .inl (cI, 30, .inl (fun _ => 0))), (q22, .inl (cI, 30, .inl (fun _ => 0))), (q25, .inl (cL, 30, .inr (.inl (fun _ => 0)))), (q28, .inl (cI, 240, .inl (fun _ => 0))), (q31, .inl (cL, 30, .inr (.inl (fun _ => 0))))] H33 := hPn
  replace hD : va_D A [(h0, .inr (9, [.int 0, .int 0, .ref q1, .ref q4, .int 0, .int 0, .ref q7, .ref q10, .ref q13, .ref q16, .int 0, .ref q19, .ref q22, .ref q25, .ref q28, .ref q31, .null, .null, .int 0, .int 0, .null, .null, .long 0, .int 0, .int 0, .null, .int 0, .null])), (q1, .inl (cI, 8, .inl (fun _ => 0))), (q4, .inl (cI, 8, .inl (fun _ => 0))), (q7, .inl (cI, 60, .inl (fun _ => 0))), (q10, .inl (cI, 60, .inl (fun _ => 0))), (q13, .inl (cI, 60, .inl (fun _ => 0))), (q16, .inl (cL, 60, .inr (.inl (fun _ => 0)))), (q19, .inl (cI, 30, .inl (fun _ => 0))), (q22, .inl (cI, 30, .inl (fun _ => 0))), (q25, .inl (cL, 30, .inr (.inl (fun _ => 0)))), (q28, .inl (cI, 240, .inl (fun _ => 0))), (q31, .inl (cL, 30, .inr (.inl (fun _ => 0))))] := hDn
  replace hS := hSn
  clear hPn hDn hSn
  refine lv_aload_n hx hb d_Mo_init_93 rfl (lv_at hl 0 rfl) ?_
  refine lv_bipush (v := 30) hx hb d_Mo_init_94 (by decide) ?_
  refine nx_newaI hx hb (ht _ wd_1_55) hK hP hD hS hA 0 rfl (N' := 30) (by decide) (by decide) (Nat.le_of_ble_eq_true rfl) (Nat.le_of_ble_eq_true rfl) (Nat.le_of_ble_eq_true rfl) d_Mo_init_96 (fun q34 H35 hPn hDn hSn => ?_)
  replace hP : va_P (dC, dI) clA [(h0, .inr (9, [.int 0, .int 0, .ref q1, .ref q4, .int 0, .int 0, .ref q7, .ref q10, .ref q13, .ref q16, .int 0, .ref q19, .ref q22, .ref q25, .ref q28, .ref q31, .null, .null, .int 0, .int 0, .null, .null, .long 0, .int 0, .int 0, .null, .int 0, .null])), (q1, .inl (cI, 8, .inl (fun _ => 0))), (q4, .inl (cI, 8, .inl (fun _ => 0))), (q7, .inl (cI, 60, .inl (fun _ => 0))), (q10, .inl (cI, 60, .inl (fun _ => 0))), (q13, .inl (cI, 60, .inl (fun _ => 0))), (q16, .inl (cL, 60, .inr (.inl (fun _ => 0)))), (q19, .inl (cI, 30, .inl (fun _ => 0))), (q22, .inl (cI, 30, .inl (fun _ => 0))), (q25, .inl (cL, 30, .inr (.inl (fun _ => 0)))), (q28, .inl (cI, 240, .inl (fun _ => 0))), (q31, .inl (cL, 30, .inr (.inl (fun _ => 0)))), (q34, .inl (cI, 30, .inl (fun _ => 0)))] H35 := hPn
  replace hD : va_D A [(h0, .inr (9, [.int 0, .int 0, .ref q1, .ref q4, .int 0, .int 0, .ref q7, .ref q10, .ref q13, .ref q16, .int 0, .ref q19, .ref q22, .ref q25, .ref q28, .ref q31, .null, .null, .int 0, .int 0, .null, .null, .long 0, .int 0, .int 0, .null, .int 0, .null])), (q1, .inl (cI, 8, .inl (fun _ => 0))), (q4, .inl (cI, 8, .inl (fun _ => 0))), (q7, .inl (cI, 60, .inl (fun _ => 0))), (q10, .inl (cI, 60, .inl (fun _ => 0))), (q13, .inl (cI, 60, .inl (fun _ => 0))), (q16, .inl (cL, 60, .inr (.inl (fun _ => 0)))), (q19, .inl (cI, 30, .inl (fun _ => 0))), (q22, .inl (cI, 30, .inl (fun _ => 0))), (q25, .inl (cL, 30, .inr (.inl (fun _ => 0)))), (q28, .inl (cI, 240, .inl (fun _ => 0))), (q31, .inl (cL, 30, .inr (.inl (fun _ => 0)))), (q34, .inl (cI, 30, .inl (fun _ => 0)))] := hDn
  replace hS := hSn
  clear hPn hDn hSn
  refine W.cs (cells' := 12) (slots' := 646) rfl rfl ?_
  refine va_putF (D := (dC, dI)) (ci := 9) (v := .ref q34) (ty := .array .int) (C := "NetUnfolderModel") (T := T_Mo) (N := 28) hx hb ht in_Mo ty_Mo ok_Mo nm_Mo hown hK hP hD hS 0 rfl rfl 16 (by decide) (ht _ wd_4_16) (fun _ h9 => h9) rfl hin rfl (by decide +kernel) rfl rfl (Nat.le_of_ble_eq_true rfl) d_Mo_init_98 (fun H36 locs hPn hDn hSn => ?_)
  replace hP : va_P (dC, dI) clA [(h0, .inr (9, [.int 0, .int 0, .ref q1, .ref q4, .int 0, .int 0, .ref q7, .ref q10, .ref q13, .ref q16, .int 0, .ref q19, .ref q22, .ref q25, .ref q28, .ref q31, .ref q34, .null, .int 0, .int 0, .null, .null, .long 0, .int 0, .int 0, .null, .int 0, .null])), (q1, .inl (cI, 8, .inl (fun _ => 0))), (q4, .inl (cI, 8, .inl (fun _ => 0))), (q7, .inl (cI, 60, .inl (fun _ => 0))), (q10, .inl (cI, 60, .inl (fun _ => 0))), (q13, .inl (cI, 60, .inl (fun _ => 0))), (q16, .inl (cL, 60, .inr (.inl (fun _ => 0)))), (q19, .inl (cI, 30, .inl (fun _ => 0))), (q22, .inl (cI, 30, .inl (fun _ => 0))), (q25, .inl (cL, 30, .inr (.inl (fun _ => 0)))), (q28, .inl (cI, 240, .inl (fun _ => 0))), (q31, .inl (cL, 30, .inr (.inl (fun _ => 0)))), (q34, .inl (cI, 30, .inl (fun _ => 0)))] H36 := hPn
  replace hD : va_D A [(h0, .inr (9, [.int 0, .int 0, .ref q1, .ref q4, .int 0, .int 0, .ref q7, .ref q10, .ref q13, .ref q16, .int 0, .ref q19, .ref q22, .ref q25, .ref q28, .ref q31, .ref q34, .null, .int 0, .int 0, .null, .null, .long 0, .int 0, .int 0, .null, .int 0, .null])), (q1, .inl (cI, 8, .inl (fun _ => 0))), (q4, .inl (cI, 8, .inl (fun _ => 0))), (q7, .inl (cI, 60, .inl (fun _ => 0))), (q10, .inl (cI, 60, .inl (fun _ => 0))), (q13, .inl (cI, 60, .inl (fun _ => 0))), (q16, .inl (cL, 60, .inr (.inl (fun _ => 0)))), (q19, .inl (cI, 30, .inl (fun _ => 0))), (q22, .inl (cI, 30, .inl (fun _ => 0))), (q25, .inl (cL, 30, .inr (.inl (fun _ => 0)))), (q28, .inl (cI, 240, .inl (fun _ => 0))), (q31, .inl (cL, 30, .inr (.inl (fun _ => 0)))), (q34, .inl (cI, 30, .inl (fun _ => 0)))] := hDn
  replace hS := hSn
  clear hPn hDn hSn
  refine lv_aload_n hx hb d_Mo_init_101 rfl (lv_at hl 0 rfl) ?_
  refine lv_bipush (v := 30) hx hb d_Mo_init_102 (by decide) ?_
  refine nx_newaZ hx hb (ht _ wd_4_85) hK hP hD hS hA 2 rfl (N' := 30) (by decide) (by decide) (Nat.le_of_ble_eq_true rfl) (Nat.le_of_ble_eq_true rfl) (Nat.le_of_ble_eq_true rfl) d_Mo_init_104 (fun q37 H38 hPn hDn hSn => ?_)
  replace hP : va_P (dC, dI) clA [(h0, .inr (9, [.int 0, .int 0, .ref q1, .ref q4, .int 0, .int 0, .ref q7, .ref q10, .ref q13, .ref q16, .int 0, .ref q19, .ref q22, .ref q25, .ref q28, .ref q31, .ref q34, .null, .int 0, .int 0, .null, .null, .long 0, .int 0, .int 0, .null, .int 0, .null])), (q1, .inl (cI, 8, .inl (fun _ => 0))), (q4, .inl (cI, 8, .inl (fun _ => 0))), (q7, .inl (cI, 60, .inl (fun _ => 0))), (q10, .inl (cI, 60, .inl (fun _ => 0))), (q13, .inl (cI, 60, .inl (fun _ => 0))), (q16, .inl (cL, 60, .inr (.inl (fun _ => 0)))), (q19, .inl (cI, 30, .inl (fun _ => 0))), (q22, .inl (cI, 30, .inl (fun _ => 0))), (q25, .inl (cL, 30, .inr (.inl (fun _ => 0)))), (q28, .inl (cI, 240, .inl (fun _ => 0))), (q31, .inl (cL, 30, .inr (.inl (fun _ => 0)))), (q34, .inl (cI, 30, .inl (fun _ => 0))), (q37, .inl (cZ, 30, .inl (fun _ => 0)))] H38 := hPn
  replace hD : va_D A [(h0, .inr (9, [.int 0, .int 0, .ref q1, .ref q4, .int 0, .int 0, .ref q7, .ref q10, .ref q13, .ref q16, .int 0, .ref q19, .ref q22, .ref q25, .ref q28, .ref q31, .ref q34, .null, .int 0, .int 0, .null, .null, .long 0, .int 0, .int 0, .null, .int 0, .null])), (q1, .inl (cI, 8, .inl (fun _ => 0))), (q4, .inl (cI, 8, .inl (fun _ => 0))), (q7, .inl (cI, 60, .inl (fun _ => 0))), (q10, .inl (cI, 60, .inl (fun _ => 0))), (q13, .inl (cI, 60, .inl (fun _ => 0))), (q16, .inl (cL, 60, .inr (.inl (fun _ => 0)))), (q19, .inl (cI, 30, .inl (fun _ => 0))), (q22, .inl (cI, 30, .inl (fun _ => 0))), (q25, .inl (cL, 30, .inr (.inl (fun _ => 0)))), (q28, .inl (cI, 240, .inl (fun _ => 0))), (q31, .inl (cL, 30, .inr (.inl (fun _ => 0)))), (q34, .inl (cI, 30, .inl (fun _ => 0))), (q37, .inl (cZ, 30, .inl (fun _ => 0)))] := hDn
  replace hS := hSn
  clear hPn hDn hSn
  refine W.cs (cells' := 13) (slots' := 676) rfl rfl ?_
  refine va_putF (D := (dC, dI)) (ci := 9) (v := .ref q37) (ty := .array .boolean) (C := "NetUnfolderModel") (T := T_Mo) (N := 28) hx hb ht in_Mo ty_Mo ok_Mo nm_Mo hown hK hP hD hS 0 rfl rfl 17 (by decide) (ht _ wd_4_17) (fun _ h9 => h9) rfl hin rfl (by decide +kernel) rfl rfl (Nat.le_of_ble_eq_true rfl) d_Mo_init_106 (fun H39 locs hPn hDn hSn => ?_)
  replace hP : va_P (dC, dI) clA [(h0, .inr (9, [.int 0, .int 0, .ref q1, .ref q4, .int 0, .int 0, .ref q7, .ref q10, .ref q13, .ref q16, .int 0, .ref q19, .ref q22, .ref q25, .ref q28, .ref q31, .ref q34, .ref q37, .int 0, .int 0, .null, .null, .long 0, .int 0, .int 0, .null, .int 0, .null])), (q1, .inl (cI, 8, .inl (fun _ => 0))), (q4, .inl (cI, 8, .inl (fun _ => 0))), (q7, .inl (cI, 60, .inl (fun _ => 0))), (q10, .inl (cI, 60, .inl (fun _ => 0))), (q13, .inl (cI, 60, .inl (fun _ => 0))), (q16, .inl (cL, 60, .inr (.inl (fun _ => 0)))), (q19, .inl (cI, 30, .inl (fun _ => 0))), (q22, .inl (cI, 30, .inl (fun _ => 0))), (q25, .inl (cL, 30, .inr (.inl (fun _ => 0)))), (q28, .inl (cI, 240, .inl (fun _ => 0))), (q31, .inl (cL, 30, .inr (.inl (fun _ => 0)))), (q34, .inl (cI, 30, .inl (fun _ => 0))), (q37, .inl (cZ, 30, .inl (fun _ => 0)))] H39 := hPn
  replace hD : va_D A [(h0, .inr (9, [.int 0, .int 0, .ref q1, .ref q4, .int 0, .int 0, .ref q7, .ref q10, .ref q13, .ref q16, .int 0, .ref q19, .ref q22, .ref q25, .ref q28, .ref q31, .ref q34, .ref q37, .int 0, .int 0, .null, .null, .long 0, .int 0, .int 0, .null, .int 0, .null])), (q1, .inl (cI, 8, .inl (fun _ => 0))), (q4, .inl (cI, 8, .inl (fun _ => 0))), (q7, .inl (cI, 60, .inl (fun _ => 0))), (q10, .inl (cI, 60, .inl (fun _ => 0))), (q13, .inl (cI, 60, .inl (fun _ => 0))), (q16, .inl (cL, 60, .inr (.inl (fun _ => 0)))), (q19, .inl (cI, 30, .inl (fun _ => 0))), (q22, .inl (cI, 30, .inl (fun _ => 0))), (q25, .inl (cL, 30, .inr (.inl (fun _ => 0)))), (q28, .inl (cI, 240, .inl (fun _ => 0))), (q31, .inl (cL, 30, .inr (.inl (fun _ => 0)))), (q34, .inl (cI, 30, .inl (fun _ => 0))), (q37, .inl (cZ, 30, .inl (fun _ => 0)))] := hDn
  replace hS := hSn
  clear hPn hDn hSn
  refine lv_aload_n hx hb d_Mo_init_109 rfl (lv_at hl 0 rfl) ?_
  refine lv_bipush (v := 8) hx hb d_Mo_init_110 (by decide) ?_
  refine nx_newaI hx hb (ht _ wd_1_55) hK hP hD hS hA 0 rfl (N' := 8) (by decide) (by decide) (Nat.le_of_ble_eq_true rfl) (Nat.le_of_ble_eq_true rfl) (Nat.le_of_ble_eq_true rfl) d_Mo_init_112 (fun q40 H41 hPn hDn hSn => ?_)
  replace hP : va_P (dC, dI) clA [(h0, .inr (9, [.int 0, .int 0, .ref q1, .ref q4, .int 0, .int 0, .ref q7, .ref q10, .ref q13, .ref q16, .int 0, .ref q19, .ref q22, .ref q25, .ref q28, .ref q31, .ref q34, .ref q37, .int 0, .int 0, .null, .null, .long 0, .int 0, .int 0, .null, .int 0, .null])), (q1, .inl (cI, 8, .inl (fun _ => 0))), (q4, .inl (cI, 8, .inl (fun _ => 0))), (q7, .inl (cI, 60, .inl (fun _ => 0))), (q10, .inl (cI, 60, .inl (fun _ => 0))), (q13, .inl (cI, 60, .inl (fun _ => 0))), (q16, .inl (cL, 60, .inr (.inl (fun _ => 0)))), (q19, .inl (cI, 30, .inl (fun _ => 0))), (q22, .inl (cI, 30, .inl (fun _ => 0))), (q25, .inl (cL, 30, .inr (.inl (fun _ => 0)))), (q28, .inl (cI, 240, .inl (fun _ => 0))), (q31, .inl (cL, 30, .inr (.inl (fun _ => 0)))), (q34, .inl (cI, 30, .inl (fun _ => 0))), (q37, .inl (cZ, 30, .inl (fun _ => 0))), (q40, .inl (cI, 8, .inl (fun _ => 0)))] H41 := hPn
  replace hD : va_D A [(h0, .inr (9, [.int 0, .int 0, .ref q1, .ref q4, .int 0, .int 0, .ref q7, .ref q10, .ref q13, .ref q16, .int 0, .ref q19, .ref q22, .ref q25, .ref q28, .ref q31, .ref q34, .ref q37, .int 0, .int 0, .null, .null, .long 0, .int 0, .int 0, .null, .int 0, .null])), (q1, .inl (cI, 8, .inl (fun _ => 0))), (q4, .inl (cI, 8, .inl (fun _ => 0))), (q7, .inl (cI, 60, .inl (fun _ => 0))), (q10, .inl (cI, 60, .inl (fun _ => 0))), (q13, .inl (cI, 60, .inl (fun _ => 0))), (q16, .inl (cL, 60, .inr (.inl (fun _ => 0)))), (q19, .inl (cI, 30, .inl (fun _ => 0))), (q22, .inl (cI, 30, .inl (fun _ => 0))), (q25, .inl (cL, 30, .inr (.inl (fun _ => 0)))), (q28, .inl (cI, 240, .inl (fun _ => 0))), (q31, .inl (cL, 30, .inr (.inl (fun _ => 0)))), (q34, .inl (cI, 30, .inl (fun _ => 0))), (q37, .inl (cZ, 30, .inl (fun _ => 0))), (q40, .inl (cI, 8, .inl (fun _ => 0)))] := hDn
  replace hS := hSn
  clear hPn hDn hSn
  refine W.cs (cells' := 14) (slots' := 684) rfl rfl ?_
  refine va_putF (D := (dC, dI)) (ci := 9) (v := .ref q40) (ty := .array .int) (C := "NetUnfolderModel") (T := T_Mo) (N := 28) hx hb ht in_Mo ty_Mo ok_Mo nm_Mo hown hK hP hD hS 0 rfl rfl 20 (by decide) (ht _ wd_4_20) (fun _ h9 => h9) rfl hin rfl (by decide +kernel) rfl rfl (Nat.le_of_ble_eq_true rfl) d_Mo_init_114 (fun H42 locs hPn hDn hSn => ?_)
  replace hP : va_P (dC, dI) clA [(h0, .inr (9, [.int 0, .int 0, .ref q1, .ref q4, .int 0, .int 0, .ref q7, .ref q10, .ref q13, .ref q16, .int 0, .ref q19, .ref q22, .ref q25, .ref q28, .ref q31, .ref q34, .ref q37, .int 0, .int 0, .ref q40, .null, .long 0, .int 0, .int 0, .null, .int 0, .null])), (q1, .inl (cI, 8, .inl (fun _ => 0))), (q4, .inl (cI, 8, .inl (fun _ => 0))), (q7, .inl (cI, 60, .inl (fun _ => 0))), (q10, .inl (cI, 60, .inl (fun _ => 0))), (q13, .inl (cI, 60, .inl (fun _ => 0))), (q16, .inl (cL, 60, .inr (.inl (fun _ => 0)))), (q19, .inl (cI, 30, .inl (fun _ => 0))), (q22, .inl (cI, 30, .inl (fun _ => 0))), (q25, .inl (cL, 30, .inr (.inl (fun _ => 0)))), (q28, .inl (cI, 240, .inl (fun _ => 0))), (q31, .inl (cL, 30, .inr (.inl (fun _ => 0)))), (q34, .inl (cI, 30, .inl (fun _ => 0))), (q37, .inl (cZ, 30, .inl (fun _ => 0))), (q40, .inl (cI, 8, .inl (fun _ => 0)))] H42 := hPn
  replace hD : va_D A [(h0, .inr (9, [.int 0, .int 0, .ref q1, .ref q4, .int 0, .int 0, .ref q7, .ref q10, .ref q13, .ref q16, .int 0, .ref q19, .ref q22, .ref q25, .ref q28, .ref q31, .ref q34, .ref q37, .int 0, .int 0, .ref q40, .null, .long 0, .int 0, .int 0, .null, .int 0, .null])), (q1, .inl (cI, 8, .inl (fun _ => 0))), (q4, .inl (cI, 8, .inl (fun _ => 0))), (q7, .inl (cI, 60, .inl (fun _ => 0))), (q10, .inl (cI, 60, .inl (fun _ => 0))), (q13, .inl (cI, 60, .inl (fun _ => 0))), (q16, .inl (cL, 60, .inr (.inl (fun _ => 0)))), (q19, .inl (cI, 30, .inl (fun _ => 0))), (q22, .inl (cI, 30, .inl (fun _ => 0))), (q25, .inl (cL, 30, .inr (.inl (fun _ => 0)))), (q28, .inl (cI, 240, .inl (fun _ => 0))), (q31, .inl (cL, 30, .inr (.inl (fun _ => 0)))), (q34, .inl (cI, 30, .inl (fun _ => 0))), (q37, .inl (cZ, 30, .inl (fun _ => 0))), (q40, .inl (cI, 8, .inl (fun _ => 0)))] := hDn
  replace hS := hSn
  clear hPn hDn hSn
  refine lv_aload_n hx hb d_Mo_init_117 rfl (lv_at hl 0 rfl) ?_
  refine lv_bipush (v := 9) hx hb d_Mo_init_118 (by decide) ?_
  refine nx_newaJ hx hb (ht _ wd_1_136) hK hP hD hS hA 1 rfl (N' := 9) (by decide) (by decide) (Nat.le_of_ble_eq_true rfl) (Nat.le_of_ble_eq_true rfl) (Nat.le_of_ble_eq_true rfl) d_Mo_init_120 (fun q43 H44 hPn hDn hSn => ?_)
  replace hP : va_P (dC, dI) clA [(h0, .inr (9, [.int 0, .int 0, .ref q1, .ref q4, .int 0, .int 0, .ref q7, .ref q10, .ref q13, .ref q16, .int 0, .ref q19, .ref q22, .ref q25, .ref q28, .ref q31, .ref q34, .ref q37, .int 0, .int 0, .ref q40, .null, .long 0, .int 0, .int 0, .null, .int 0, .null])), (q1, .inl (cI, 8, .inl (fun _ => 0))), (q4, .inl (cI, 8, .inl (fun _ => 0))), (q7, .inl (cI, 60, .inl (fun _ => 0))), (q10, .inl (cI, 60, .inl (fun _ => 0))), (q13, .inl (cI, 60, .inl (fun _ => 0))), (q16, .inl (cL, 60, .inr (.inl (fun _ => 0)))), (q19, .inl (cI, 30, .inl (fun _ => 0))), (q22, .inl (cI, 30, .inl (fun _ => 0))), (q25, .inl (cL, 30, .inr (.inl (fun _ => 0)))), (q28, .inl (cI, 240, .inl (fun _ => 0))), (q31, .inl (cL, 30, .inr (.inl (fun _ => 0)))), (q34, .inl (cI, 30, .inl (fun _ => 0))), (q37, .inl (cZ, 30, .inl (fun _ => 0))), (q40, .inl (cI, 8, .inl (fun _ => 0))), (q43, .inl (cL, 9, .inr (.inl (fun _ => 0))))] H44 := hPn
  replace hD : va_D A [(h0, .inr (9, [.int 0, .int 0, .ref q1, .ref q4, .int 0, .int 0, .ref q7, .ref q10, .ref q13, .ref q16, .int 0, .ref q19, .ref q22, .ref q25, .ref q28, .ref q31, .ref q34, .ref q37, .int 0, .int 0, .ref q40, .null, .long 0, .int 0, .int 0, .null, .int 0, .null])), (q1, .inl (cI, 8, .inl (fun _ => 0))), (q4, .inl (cI, 8, .inl (fun _ => 0))), (q7, .inl (cI, 60, .inl (fun _ => 0))), (q10, .inl (cI, 60, .inl (fun _ => 0))), (q13, .inl (cI, 60, .inl (fun _ => 0))), (q16, .inl (cL, 60, .inr (.inl (fun _ => 0)))), (q19, .inl (cI, 30, .inl (fun _ => 0))), (q22, .inl (cI, 30, .inl (fun _ => 0))), (q25, .inl (cL, 30, .inr (.inl (fun _ => 0)))), (q28, .inl (cI, 240, .inl (fun _ => 0))), (q31, .inl (cL, 30, .inr (.inl (fun _ => 0)))), (q34, .inl (cI, 30, .inl (fun _ => 0))), (q37, .inl (cZ, 30, .inl (fun _ => 0))), (q40, .inl (cI, 8, .inl (fun _ => 0))), (q43, .inl (cL, 9, .inr (.inl (fun _ => 0))))] := hDn
  replace hS := hSn
  clear hPn hDn hSn
  refine W.cs (cells' := 15) (slots' := 693) rfl rfl ?_
  refine va_putF (D := (dC, dI)) (ci := 9) (v := .ref q43) (ty := .array .long) (C := "NetUnfolderModel") (T := T_Mo) (N := 28) hx hb ht in_Mo ty_Mo ok_Mo nm_Mo hown hK hP hD hS 0 rfl rfl 21 (by decide) (ht _ wd_4_21) (fun _ h9 => h9) rfl hin rfl (by decide +kernel) rfl rfl (Nat.le_of_ble_eq_true rfl) d_Mo_init_122 (fun H45 locs hPn hDn hSn => ?_)
  replace hP : va_P (dC, dI) clA [(h0, .inr (9, [.int 0, .int 0, .ref q1, .ref q4, .int 0, .int 0, .ref q7, .ref q10, .ref q13, .ref q16, .int 0, .ref q19, .ref q22, .ref q25, .ref q28, .ref q31, .ref q34, .ref q37, .int 0, .int 0, .ref q40, .ref q43, .long 0, .int 0, .int 0, .null, .int 0, .null])), (q1, .inl (cI, 8, .inl (fun _ => 0))), (q4, .inl (cI, 8, .inl (fun _ => 0))), (q7, .inl (cI, 60, .inl (fun _ => 0))), (q10, .inl (cI, 60, .inl (fun _ => 0))), (q13, .inl (cI, 60, .inl (fun _ => 0))), (q16, .inl (cL, 60, .inr (.inl (fun _ => 0)))), (q19, .inl (cI, 30, .inl (fun _ => 0))), (q22, .inl (cI, 30, .inl (fun _ => 0))), (q25, .inl (cL, 30, .inr (.inl (fun _ => 0)))), (q28, .inl (cI, 240, .inl (fun _ => 0))), (q31, .inl (cL, 30, .inr (.inl (fun _ => 0)))), (q34, .inl (cI, 30, .inl (fun _ => 0))), (q37, .inl (cZ, 30, .inl (fun _ => 0))), (q40, .inl (cI, 8, .inl (fun _ => 0))), (q43, .inl (cL, 9, .inr (.inl (fun _ => 0))))] H45 := hPn
  replace hD : va_D A [(h0, .inr (9, [.int 0, .int 0, .ref q1, .ref q4, .int 0, .int 0, .ref q7, .ref q10, .ref q13, .ref q16, .int 0, .ref q19, .ref q22, .ref q25, .ref q28, .ref q31, .ref q34, .ref q37, .int 0, .int 0, .ref q40, .ref q43, .long 0, .int 0, .int 0, .null, .int 0, .null])), (q1, .inl (cI, 8, .inl (fun _ => 0))), (q4, .inl (cI, 8, .inl (fun _ => 0))), (q7, .inl (cI, 60, .inl (fun _ => 0))), (q10, .inl (cI, 60, .inl (fun _ => 0))), (q13, .inl (cI, 60, .inl (fun _ => 0))), (q16, .inl (cL, 60, .inr (.inl (fun _ => 0)))), (q19, .inl (cI, 30, .inl (fun _ => 0))), (q22, .inl (cI, 30, .inl (fun _ => 0))), (q25, .inl (cL, 30, .inr (.inl (fun _ => 0)))), (q28, .inl (cI, 240, .inl (fun _ => 0))), (q31, .inl (cL, 30, .inr (.inl (fun _ => 0)))), (q34, .inl (cI, 30, .inl (fun _ => 0))), (q37, .inl (cZ, 30, .inl (fun _ => 0))), (q40, .inl (cI, 8, .inl (fun _ => 0))), (q43, .inl (cL, 9, .inr (.inl (fun _ => 0))))] := hDn
  replace hS := hSn
  clear hPn hDn hSn
  refine lv_aload_n hx hb d_Mo_init_125 rfl (lv_at hl 0 rfl) ?_
  refine lv_bipush (v := 8) hx hb d_Mo_init_126 (by decide) ?_
  refine nx_newaI hx hb (ht _ wd_1_55) hK hP hD hS hA 0 rfl (N' := 8) (by decide) (by decide) (Nat.le_of_ble_eq_true rfl) (Nat.le_of_ble_eq_true rfl) (Nat.le_of_ble_eq_true rfl) d_Mo_init_128 (fun q46 H47 hPn hDn hSn => ?_)
  replace hP : va_P (dC, dI) clA [(h0, .inr (9, [.int 0, .int 0, .ref q1, .ref q4, .int 0, .int 0, .ref q7, .ref q10, .ref q13, .ref q16, .int 0, .ref q19, .ref q22, .ref q25, .ref q28, .ref q31, .ref q34, .ref q37, .int 0, .int 0, .ref q40, .ref q43, .long 0, .int 0, .int 0, .null, .int 0, .null])), (q1, .inl (cI, 8, .inl (fun _ => 0))), (q4, .inl (cI, 8, .inl (fun _ => 0))), (q7, .inl (cI, 60, .inl (fun _ => 0))), (q10, .inl (cI, 60, .inl (fun _ => 0))), (q13, .inl (cI, 60, .inl (fun _ => 0))), (q16, .inl (cL, 60, .inr (.inl (fun _ => 0)))), (q19, .inl (cI, 30, .inl (fun _ => 0))), (q22, .inl (cI, 30, .inl (fun _ => 0))), (q25, .inl (cL, 30, .inr (.inl (fun _ => 0)))), (q28, .inl (cI, 240, .inl (fun _ => 0))), (q31, .inl (cL, 30, .inr (.inl (fun _ => 0)))), (q34, .inl (cI, 30, .inl (fun _ => 0))), (q37, .inl (cZ, 30, .inl (fun _ => 0))), (q40, .inl (cI, 8, .inl (fun _ => 0))), (q43, .inl (cL, 9, .inr (.inl (fun _ => 0)))), (q46, .inl (cI, 8, .inl (fun _ => 0)))] H47 := hPn
  replace hD : va_D A [(h0, .inr (9, [.int 0, .int 0, .ref q1, .ref q4, .int 0, .int 0, .ref q7, .ref q10, .ref q13, .ref q16, .int 0, .ref q19, .ref q22, .ref q25, .ref q28, .ref q31, .ref q34, .ref q37, .int 0, .int 0, .ref q40, .ref q43, .long 0, .int 0, .int 0, .null, .int 0, .null])), (q1, .inl (cI, 8, .inl (fun _ => 0))), (q4, .inl (cI, 8, .inl (fun _ => 0))), (q7, .inl (cI, 60, .inl (fun _ => 0))), (q10, .inl (cI, 60, .inl (fun _ => 0))), (q13, .inl (cI, 60, .inl (fun _ => 0))), (q16, .inl (cL, 60, .inr (.inl (fun _ => 0)))), (q19, .inl (cI, 30, .inl (fun _ => 0))), (q22, .inl (cI, 30, .inl (fun _ => 0))), (q25, .inl (cL, 30, .inr (.inl (fun _ => 0)))), (q28, .inl (cI, 240, .inl (fun _ => 0))), (q31, .inl (cL, 30, .inr (.inl (fun _ => 0)))), (q34, .inl (cI, 30, .inl (fun _ => 0))), (q37, .inl (cZ, 30, .inl (fun _ => 0))), (q40, .inl (cI, 8, .inl (fun _ => 0))), (q43, .inl (cL, 9, .inr (.inl (fun _ => 0)))), (q46, .inl (cI, 8, .inl (fun _ => 0)))] := hDn
  replace hS := hSn
  clear hPn hDn hSn
  refine W.cs (cells' := 16) (slots' := 701) rfl rfl ?_
  refine va_putF (D := (dC, dI)) (ci := 9) (v := .ref q46) (ty := .array .int) (C := "NetUnfolderModel") (T := T_Mo) (N := 28) hx hb ht in_Mo ty_Mo ok_Mo nm_Mo hown hK hP hD hS 0 rfl rfl 25 (by decide) (ht _ wd_4_25) (fun _ h9 => h9) rfl hin rfl (by decide +kernel) rfl rfl (Nat.le_of_ble_eq_true rfl) d_Mo_init_130 (fun H48 locs hPn hDn hSn => ?_)
  replace hP : va_P (dC, dI) clA [(h0, .inr (9, [.int 0, .int 0, .ref q1, .ref q4, .int 0, .int 0, .ref q7, .ref q10, .ref q13, .ref q16, .int 0, .ref q19, .ref q22, .ref q25, .ref q28, .ref q31, .ref q34, .ref q37, .int 0, .int 0, .ref q40, .ref q43, .long 0, .int 0, .int 0, .ref q46, .int 0, .null])), (q1, .inl (cI, 8, .inl (fun _ => 0))), (q4, .inl (cI, 8, .inl (fun _ => 0))), (q7, .inl (cI, 60, .inl (fun _ => 0))), (q10, .inl (cI, 60, .inl (fun _ => 0))), (q13, .inl (cI, 60, .inl (fun _ => 0))), (q16, .inl (cL, 60, .inr (.inl (fun _ => 0)))), (q19, .inl (cI, 30, .inl (fun _ => 0))), (q22, .inl (cI, 30, .inl (fun _ => 0))), (q25, .inl (cL, 30, .inr (.inl (fun _ => 0)))), (q28, .inl (cI, 240, .inl (fun _ => 0))), (q31, .inl (cL, 30, .inr (.inl (fun _ => 0)))), (q34, .inl (cI, 30, .inl (fun _ => 0))), (q37, .inl (cZ, 30, .inl (fun _ => 0))), (q40, .inl (cI, 8, .inl (fun _ => 0))), (q43, .inl (cL, 9, .inr (.inl (fun _ => 0)))), (q46, .inl (cI, 8, .inl (fun _ => 0)))] H48 := hPn
  replace hD : va_D A [(h0, .inr (9, [.int 0, .int 0, .ref q1, .ref q4, .int 0, .int 0, .ref q7, .ref q10, .ref q13, .ref q16, .int 0, .ref q19, .ref q22, .ref q25, .ref q28, .ref q31, .ref q34, .ref q37, .int 0, .int 0, .ref q40, .ref q43, .long 0, .int 0, .int 0, .ref q46, .int 0, .null])), (q1, .inl (cI, 8, .inl (fun _ => 0))), (q4, .inl (cI, 8, .inl (fun _ => 0))), (q7, .inl (cI, 60, .inl (fun _ => 0))), (q10, .inl (cI, 60, .inl (fun _ => 0))), (q13, .inl (cI, 60, .inl (fun _ => 0))), (q16, .inl (cL, 60, .inr (.inl (fun _ => 0)))), (q19, .inl (cI, 30, .inl (fun _ => 0))), (q22, .inl (cI, 30, .inl (fun _ => 0))), (q25, .inl (cL, 30, .inr (.inl (fun _ => 0)))), (q28, .inl (cI, 240, .inl (fun _ => 0))), (q31, .inl (cL, 30, .inr (.inl (fun _ => 0)))), (q34, .inl (cI, 30, .inl (fun _ => 0))), (q37, .inl (cZ, 30, .inl (fun _ => 0))), (q40, .inl (cI, 8, .inl (fun _ => 0))), (q43, .inl (cL, 9, .inr (.inl (fun _ => 0)))), (q46, .inl (cI, 8, .inl (fun _ => 0)))] := hDn
  replace hS := hSn
  clear hPn hDn hSn
  refine lv_aload_n hx hb d_Mo_init_133 rfl (lv_at hl 0 rfl) ?_
  refine lv_bipush (v := 62) hx hb d_Mo_init_134 (by decide) ?_
  refine nx_newaI hx hb (ht _ wd_1_55) hK hP hD hS hA 0 rfl (N' := 62) (by decide) (by decide) (Nat.le_of_ble_eq_true rfl) (Nat.le_of_ble_eq_true rfl) (Nat.le_of_ble_eq_true rfl) d_Mo_init_136 (fun q49 H50 hPn hDn hSn => ?_)
  replace hP : va_P (dC, dI) clA [(h0, .inr (9, [.int 0, .int 0, .ref q1, .ref q4, .int 0, .int 0, .ref q7, .ref q10, .ref q13, .ref q16, .int 0, .ref q19, .ref q22, .ref q25, .ref q28, .ref q31, .ref q34, .ref q37, .int 0, .int 0, .ref q40, .ref q43, .long 0, .int 0, .int 0, .ref q46, .int 0, .null])), (q1, .inl (cI, 8, .inl (fun _ => 0))), (q4, .inl (cI, 8, .inl (fun _ => 0))), (q7, .inl (cI, 60, .inl (fun _ => 0))), (q10, .inl (cI, 60, .inl (fun _ => 0))), (q13, .inl (cI, 60, .inl (fun _ => 0))), (q16, .inl (cL, 60, .inr (.inl (fun _ => 0)))), (q19, .inl (cI, 30, .inl (fun _ => 0))), (q22, .inl (cI, 30, .inl (fun _ => 0))), (q25, .inl (cL, 30, .inr (.inl (fun _ => 0)))), (q28, .inl (cI, 240, .inl (fun _ => 0))), (q31, .inl (cL, 30, .inr (.inl (fun _ => 0)))), (q34, .inl (cI, 30, .inl (fun _ => 0))), (q37, .inl (cZ, 30, .inl (fun _ => 0))), (q40, .inl (cI, 8, .inl (fun _ => 0))), (q43, .inl (cL, 9, .inr (.inl (fun _ => 0)))), (q46, .inl (cI, 8, .inl (fun _ => 0))), (q49, .inl (cI, 62, .inl (fun _ => 0)))] H50 := hPn
  replace hD : va_D A [(h0, .inr (9, [.int 0, .int 0, .ref q1, .ref q4, .int 0, .int 0, .ref q7, .ref q10, .ref q13, .ref q16, .int 0, .ref q19, .ref q22, .ref q25, .ref q28, .ref q31, .ref q34, .ref q37, .int 0, .int 0, .ref q40, .ref q43, .long 0, .int 0, .int 0, .ref q46, .int 0, .null])), (q1, .inl (cI, 8, .inl (fun _ => 0))), (q4, .inl (cI, 8, .inl (fun _ => 0))), (q7, .inl (cI, 60, .inl (fun _ => 0))), (q10, .inl (cI, 60, .inl (fun _ => 0))), (q13, .inl (cI, 60, .inl (fun _ => 0))), (q16, .inl (cL, 60, .inr (.inl (fun _ => 0)))), (q19, .inl (cI, 30, .inl (fun _ => 0))), (q22, .inl (cI, 30, .inl (fun _ => 0))), (q25, .inl (cL, 30, .inr (.inl (fun _ => 0)))), (q28, .inl (cI, 240, .inl (fun _ => 0))), (q31, .inl (cL, 30, .inr (.inl (fun _ => 0)))), (q34, .inl (cI, 30, .inl (fun _ => 0))), (q37, .inl (cZ, 30, .inl (fun _ => 0))), (q40, .inl (cI, 8, .inl (fun _ => 0))), (q43, .inl (cL, 9, .inr (.inl (fun _ => 0)))), (q46, .inl (cI, 8, .inl (fun _ => 0))), (q49, .inl (cI, 62, .inl (fun _ => 0)))] := hDn
  replace hS := hSn
  clear hPn hDn hSn
  refine W.cs (cells' := 17) (slots' := 763) rfl rfl ?_
  refine va_putF (D := (dC, dI)) (ci := 9) (v := .ref q49) (ty := .array .int) (C := "NetUnfolderModel") (T := T_Mo) (N := 28) hx hb ht in_Mo ty_Mo ok_Mo nm_Mo hown hK hP hD hS 0 rfl rfl 27 (by decide) (ht _ wd_4_27) (fun _ h9 => h9) rfl hin rfl (by decide +kernel) rfl rfl (Nat.le_of_ble_eq_true rfl) d_Mo_init_138 (fun H51 locs hPn hDn hSn => ?_)
  replace hP : va_P (dC, dI) clA [(h0, .inr (9, [.int 0, .int 0, .ref q1, .ref q4, .int 0, .int 0, .ref q7, .ref q10, .ref q13, .ref q16, .int 0, .ref q19, .ref q22, .ref q25, .ref q28, .ref q31, .ref q34, .ref q37, .int 0, .int 0, .ref q40, .ref q43, .long 0, .int 0, .int 0, .ref q46, .int 0, .ref q49])), (q1, .inl (cI, 8, .inl (fun _ => 0))), (q4, .inl (cI, 8, .inl (fun _ => 0))), (q7, .inl (cI, 60, .inl (fun _ => 0))), (q10, .inl (cI, 60, .inl (fun _ => 0))), (q13, .inl (cI, 60, .inl (fun _ => 0))), (q16, .inl (cL, 60, .inr (.inl (fun _ => 0)))), (q19, .inl (cI, 30, .inl (fun _ => 0))), (q22, .inl (cI, 30, .inl (fun _ => 0))), (q25, .inl (cL, 30, .inr (.inl (fun _ => 0)))), (q28, .inl (cI, 240, .inl (fun _ => 0))), (q31, .inl (cL, 30, .inr (.inl (fun _ => 0)))), (q34, .inl (cI, 30, .inl (fun _ => 0))), (q37, .inl (cZ, 30, .inl (fun _ => 0))), (q40, .inl (cI, 8, .inl (fun _ => 0))), (q43, .inl (cL, 9, .inr (.inl (fun _ => 0)))), (q46, .inl (cI, 8, .inl (fun _ => 0))), (q49, .inl (cI, 62, .inl (fun _ => 0)))] H51 := hPn
  replace hD : va_D A [(h0, .inr (9, [.int 0, .int 0, .ref q1, .ref q4, .int 0, .int 0, .ref q7, .ref q10, .ref q13, .ref q16, .int 0, .ref q19, .ref q22, .ref q25, .ref q28, .ref q31, .ref q34, .ref q37, .int 0, .int 0, .ref q40, .ref q43, .long 0, .int 0, .int 0, .ref q46, .int 0, .ref q49])), (q1, .inl (cI, 8, .inl (fun _ => 0))), (q4, .inl (cI, 8, .inl (fun _ => 0))), (q7, .inl (cI, 60, .inl (fun _ => 0))), (q10, .inl (cI, 60, .inl (fun _ => 0))), (q13, .inl (cI, 60, .inl (fun _ => 0))), (q16, .inl (cL, 60, .inr (.inl (fun _ => 0)))), (q19, .inl (cI, 30, .inl (fun _ => 0))), (q22, .inl (cI, 30, .inl (fun _ => 0))), (q25, .inl (cL, 30, .inr (.inl (fun _ => 0)))), (q28, .inl (cI, 240, .inl (fun _ => 0))), (q31, .inl (cL, 30, .inr (.inl (fun _ => 0)))), (q34, .inl (cI, 30, .inl (fun _ => 0))), (q37, .inl (cZ, 30, .inl (fun _ => 0))), (q40, .inl (cI, 8, .inl (fun _ => 0))), (q43, .inl (cL, 9, .inr (.inl (fun _ => 0)))), (q46, .inl (cI, 8, .inl (fun _ => 0))), (q49, .inl (cI, 62, .inl (fun _ => 0)))] := hDn
  replace hS := hSn
  clear hPn hDn hSn
  refine lv_aload_n hx hb d_Mo_init_141 rfl (lv_at hl 0 rfl) ?_
  refine lv_iconst (v := (-1)) hx hb d_Mo_init_142 (by decide) ?_
  refine va_put (D := (dC, dI)) (ci := 9) (v := .int (-1)) (ty := .int) (C := "NetUnfolderModel") (T := T_Mo) (N := 28) hx hb ht in_Mo ty_Mo ok_Mo nm_Mo hown hK hP hD hS 0 rfl rfl 26 (by decide) (ht _ wd_4_26) (fun _ h9 => h9) rfl (by decide +kernel) rfl rfl (Nat.le_of_ble_eq_true rfl) d_Mo_init_143 (fun H52 locs hPn hDn hSn => ?_)
  replace hP : va_P (dC, dI) clA [(h0, .inr (9, [.int 0, .int 0, .ref q1, .ref q4, .int 0, .int 0, .ref q7, .ref q10, .ref q13, .ref q16, .int 0, .ref q19, .ref q22, .ref q25, .ref q28, .ref q31, .ref q34, .ref q37, .int 0, .int 0, .ref q40, .ref q43, .long 0, .int 0, .int 0, .ref q46, .int (-1), .ref q49])), (q1, .inl (cI, 8, .inl (fun _ => 0))), (q4, .inl (cI, 8, .inl (fun _ => 0))), (q7, .inl (cI, 60, .inl (fun _ => 0))), (q10, .inl (cI, 60, .inl (fun _ => 0))), (q13, .inl (cI, 60, .inl (fun _ => 0))), (q16, .inl (cL, 60, .inr (.inl (fun _ => 0)))), (q19, .inl (cI, 30, .inl (fun _ => 0))), (q22, .inl (cI, 30, .inl (fun _ => 0))), (q25, .inl (cL, 30, .inr (.inl (fun _ => 0)))), (q28, .inl (cI, 240, .inl (fun _ => 0))), (q31, .inl (cL, 30, .inr (.inl (fun _ => 0)))), (q34, .inl (cI, 30, .inl (fun _ => 0))), (q37, .inl (cZ, 30, .inl (fun _ => 0))), (q40, .inl (cI, 8, .inl (fun _ => 0))), (q43, .inl (cL, 9, .inr (.inl (fun _ => 0)))), (q46, .inl (cI, 8, .inl (fun _ => 0))), (q49, .inl (cI, 62, .inl (fun _ => 0)))] H52 := hPn
  replace hD : va_D A [(h0, .inr (9, [.int 0, .int 0, .ref q1, .ref q4, .int 0, .int 0, .ref q7, .ref q10, .ref q13, .ref q16, .int 0, .ref q19, .ref q22, .ref q25, .ref q28, .ref q31, .ref q34, .ref q37, .int 0, .int 0, .ref q40, .ref q43, .long 0, .int 0, .int 0, .ref q46, .int (-1), .ref q49])), (q1, .inl (cI, 8, .inl (fun _ => 0))), (q4, .inl (cI, 8, .inl (fun _ => 0))), (q7, .inl (cI, 60, .inl (fun _ => 0))), (q10, .inl (cI, 60, .inl (fun _ => 0))), (q13, .inl (cI, 60, .inl (fun _ => 0))), (q16, .inl (cL, 60, .inr (.inl (fun _ => 0)))), (q19, .inl (cI, 30, .inl (fun _ => 0))), (q22, .inl (cI, 30, .inl (fun _ => 0))), (q25, .inl (cL, 30, .inr (.inl (fun _ => 0)))), (q28, .inl (cI, 240, .inl (fun _ => 0))), (q31, .inl (cL, 30, .inr (.inl (fun _ => 0)))), (q34, .inl (cI, 30, .inl (fun _ => 0))), (q37, .inl (cZ, 30, .inl (fun _ => 0))), (q40, .inl (cI, 8, .inl (fun _ => 0))), (q43, .inl (cL, 9, .inr (.inl (fun _ => 0)))), (q46, .inl (cI, 8, .inl (fun _ => 0))), (q49, .inl (cI, 62, .inl (fun _ => 0)))] := hDn
  replace hS := hSn
  clear hPn hDn hSn
  have hP9 := hP.sub (ws' := [(h0, .inr (9, [.int 0, .int 0, .ref q1, .ref q4, .int 0, .int 0, .ref q7, .ref q10, .ref q13, .ref q16, .int 0, .ref q19, .ref q22, .ref q25, .ref q28, .ref q31, .ref q34, .ref q37, .int 0, .int 0, .ref q40, .ref q43, .long 0, .int 0, .int 0, .ref q46, .int (-1), .ref q49])), (q1, .inl (cI, 8, .inl (fun _ => 0))), (q4, .inl (cI, 8, .inl (fun _ => 0))), (q7, .inl (cI, 60, .inl (fun _ => 0))), (q10, .inl (cI, 60, .inl (fun _ => 0))), (q13, .inl (cI, 60, .inl (fun _ => 0))), (q16, .inl (cL, 60, .inr (.inl (fun _ => 0)))), (q19, .inl (cI, 30, .inl (fun _ => 0))), (q22, .inl (cI, 30, .inl (fun _ => 0))), (q25, .inl (cL, 30, .inr (.inl (fun _ => 0)))), (q28, .inl (cI, 240, .inl (fun _ => 0))), (q31, .inl (cL, 30, .inr (.inl (fun _ => 0)))), (q34, .inl (cI, 30, .inl (fun _ => 0))), (q37, .inl (cZ, 30, .inl (fun _ => 0))), (q40, .inl (cI, 8, .inl (fun _ => 0))), (q43, .inl (cL, 9, .inr (.inl (fun _ => 0)))), (q46, .inl (cI, 8, .inl (fun _ => 0))), (q49, .inl (cI, 62, .inl (fun _ => 0)))]) [0, 1, 2, 3, 4, 5, 6, 7, 8, 9, 10, 11, 12, 13, 14, 15, 16, 17] rfl
  have hD9 := hD.sub (ws' := [(h0, .inr (9, [.int 0, .int 0, .ref q1, .ref q4, .int 0, .int 0, .ref q7, .ref q10, .ref q13, .ref q16, .int 0, .ref q19, .ref q22, .ref q25, .ref q28, .ref q31, .ref q34, .ref q37, .int 0, .int 0, .ref q40, .ref q43, .long 0, .int 0, .int 0, .ref q46, .int (-1), .ref q49])), (q1, .inl (cI, 8, .inl (fun _ => 0))), (q4, .inl (cI, 8, .inl (fun _ => 0))), (q7, .inl (cI, 60, .inl (fun _ => 0))), (q10, .inl (cI, 60, .inl (fun _ => 0))), (q13, .inl (cI, 60, .inl (fun _ => 0))), (q16, .inl (cL, 60, .inr (.inl (fun _ => 0)))), (q19, .inl (cI, 30, .inl (fun _ => 0))), (q22, .inl (cI, 30, .inl (fun _ => 0))), (q25, .inl (cL, 30, .inr (.inl (fun _ => 0)))), (q28, .inl (cI, 240, .inl (fun _ => 0))), (q31, .inl (cL, 30, .inr (.inl (fun _ => 0)))), (q34, .inl (cI, 30, .inl (fun _ => 0))), (q37, .inl (cZ, 30, .inl (fun _ => 0))), (q40, .inl (cI, 8, .inl (fun _ => 0))), (q43, .inl (cL, 9, .inr (.inl (fun _ => 0)))), (q46, .inl (cI, 8, .inl (fun _ => 0))), (q49, .inl (cI, 62, .inl (fun _ => 0)))]) [0, 1, 2, 3, 4, 5, 6, 7, 8, 9, 10, 11, 12, 13, 14, 15, 16, 17] (by decide) rfl
  exact W.vret hx hb hr (fun t ht9 hW => ⟨⟨(), rfl, trivial, q1, q4, q7, q10, q13, q16, q19, q22, q25, q28, q31, q34, q37, q40, q43, q46, q49, by rw [ht9]; exact hP9, hD9⟩, hS.F ht9⟩) hS.2.2 d_Mo_init_146
end
