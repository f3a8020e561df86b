section
-- ===== PART A: goes FIRST, ahead of the names: the tables' words, and 'selects' of the private methods out of them =====
/-- a private method of a class that the tables say can be made, by its rows of tables_1 -/
def lw_okq (q : MethodName × Nat) : Prop := (q.1.cls ≠ "java/lang/invoke/MethodHandle" ∧ q.1.cls ≠ "java/lang/invoke/VarHandle") ∧ Cond.instantiable q.1.cls q.2 ∈ tables_1 ∧ Cond.privateMethod q.1 ∈ tables_1 ∧ Cond.instanceMethod q.1 ∈ tables_1
theorem lw_p0 : lw_okq (⟨"NetUnfolder", "dropPrefixAndWay", "()V"⟩, 5) := ⟨⟨by decide +kernel, by decide +kernel⟩, List.mem_of_getElem? (i := 20) (by decide +kernel), List.mem_of_getElem? (i := 297) (by decide +kernel), List.mem_of_getElem? (i := 298) (by decide +kernel)⟩
theorem lw_p1 : lw_okq (⟨"NetUnfolder$Unfolding", "begin", "()V"⟩, 4) := ⟨⟨by decide +kernel, by decide +kernel⟩, List.mem_of_getElem? (i := 153) (by decide +kernel), List.mem_of_getElem? (i := 324) (by decide +kernel), List.mem_of_getElem? (i := 325) (by decide +kernel)⟩
theorem lw_p2 : lw_okq (⟨"NetUnfolder$Unfolding", "findPossible", "(JJ)V"⟩, 4) := ⟨⟨by decide +kernel, by decide +kernel⟩, List.mem_of_getElem? (i := 153) (by decide +kernel), List.mem_of_getElem? (i := 345) (by decide +kernel), List.mem_of_getElem? (i := 346) (by decide +kernel)⟩
theorem lw_p3 : lw_okq (⟨"NetUnfolder$Unfolding", "choose", "(IIJJJ)V"⟩, 4) := ⟨⟨by decide +kernel, by decide +kernel⟩, List.mem_of_getElem? (i := 153) (by decide +kernel), List.mem_of_getElem? (i := 349) (by decide +kernel), List.mem_of_getElem? (i := 350) (by decide +kernel)⟩
theorem lw_p4 : lw_okq (⟨"NetUnfolder$Possible", "comesBefore", "(II)Z"⟩, 5) := ⟨⟨by decide +kernel, by decide +kernel⟩, List.mem_of_getElem? (i := 159) (by decide +kernel), List.mem_of_getElem? (i := 381) (by decide +kernel), List.mem_of_getElem? (i := 382) (by decide +kernel)⟩
theorem lw_p5 : lw_okq (⟨"NetUnfolder$Unfolding", "rivalOf", "(I)I"⟩, 4) := ⟨⟨by decide +kernel, by decide +kernel⟩, List.mem_of_getElem? (i := 153) (by decide +kernel), List.mem_of_getElem? (i := 385) (by decide +kernel), List.mem_of_getElem? (i := 386) (by decide +kernel)⟩
theorem lw_p6 : lw_okq (⟨"NetUnfolder$Unfolding", "tellWay", "(II)V"⟩, 4) := ⟨⟨by decide +kernel, by decide +kernel⟩, List.mem_of_getElem? (i := 153) (by decide +kernel), List.mem_of_getElem? (i := 393) (by decide +kernel), List.mem_of_getElem? (i := 394) (by decide +kernel)⟩
theorem lw_p7 : lw_okq (⟨"NetUnfolder$Unfolding", "tellTransitions", "(I)V"⟩, 4) := ⟨⟨by decide +kernel, by decide +kernel⟩, List.mem_of_getElem? (i := 153) (by decide +kernel), List.mem_of_getElem? (i := 401) (by decide +kernel), List.mem_of_getElem? (i := 402) (by decide +kernel)⟩
theorem lw_p8 : lw_okq (⟨"NetUnfolder$Unfolding", "letCome", "(I)Z"⟩, 4) := ⟨⟨by decide +kernel, by decide +kernel⟩, List.mem_of_getElem? (i := 153) (by decide +kernel), List.mem_of_getElem? (i := 409) (by decide +kernel), List.mem_of_getElem? (i := 410) (by decide +kernel)⟩
theorem lw_p9 : lw_okq (⟨"NetUnfolder$Unfolding", "leadsToNothingNew", "(IJ)Z"⟩, 4) := ⟨⟨by decide +kernel, by decide +kernel⟩, List.mem_of_getElem? (i := 153) (by decide +kernel), List.mem_of_getElem? (i := 421) (by decide +kernel), List.mem_of_getElem? (i := 422) (by decide +kernel)⟩
theorem lw_p10 : lw_okq (⟨"java/lang/Throwable", "fillInStackTrace", "(I)Ljava/lang/Throwable;"⟩, 6) := ⟨⟨by decide +kernel, by decide +kernel⟩, List.mem_of_getElem? (i := 531) (by decide +kernel), List.mem_of_getElem? (i := 529) (by decide +kernel), List.mem_of_getElem? (i := 530) (by decide +kernel)⟩
theorem lw_p11 : lw_okq (⟨"NetUnfolder$Question", "describePrefix", "()V"⟩, 6) := ⟨⟨by decide +kernel, by decide +kernel⟩, List.mem_of_getElem? (i := 198) (by decide +kernel), List.mem_of_getElem? (i := 593) (by decide +kernel), List.mem_of_getElem? (i := 594) (by decide +kernel)⟩
theorem lw_p12 : lw_okq (⟨"NetUnfolder$Question", "describeEvent", "(I)V"⟩, 6) := ⟨⟨by decide +kernel, by decide +kernel⟩, List.mem_of_getElem? (i := 198) (by decide +kernel), List.mem_of_getElem? (i := 602) (by decide +kernel), List.mem_of_getElem? (i := 603) (by decide +kernel)⟩
theorem lw_p13 : lw_okq (⟨"NetUnfolder$Question", "describeCondition", "(I)V"⟩, 6) := ⟨⟨by decide +kernel, by decide +kernel⟩, List.mem_of_getElem? (i := 198) (by decide +kernel), List.mem_of_getElem? (i := 610) (by decide +kernel), List.mem_of_getElem? (i := 611) (by decide +kernel)⟩
theorem lw_p14 : lw_okq (⟨"NetUnfolder$Question", "makersOf", "(II)J"⟩, 6) := ⟨⟨by decide +kernel, by decide +kernel⟩, List.mem_of_getElem? (i := 198) (by decide +kernel), List.mem_of_getElem? (i := 617) (by decide +kernel), List.mem_of_getElem? (i := 618) (by decide +kernel)⟩
theorem lw_p15 : lw_okq (⟨"NetUnfolder$Question", "answer", "()I"⟩, 6) := ⟨⟨by decide +kernel, by decide +kernel⟩, List.mem_of_getElem? (i := 198) (by decide +kernel), List.mem_of_getElem? (i := 621) (by decide +kernel), List.mem_of_getElem? (i := 622) (by decide +kernel)⟩
def lw_privs_1 : List (MethodName × Nat) := [(⟨"NetUnfolder", "dropPrefixAndWay", "()V"⟩, 5), (⟨"NetUnfolder$Unfolding", "begin", "()V"⟩, 4), (⟨"NetUnfolder$Unfolding", "findPossible", "(JJ)V"⟩, 4), (⟨"NetUnfolder$Unfolding", "choose", "(IIJJJ)V"⟩, 4), (⟨"NetUnfolder$Possible", "comesBefore", "(II)Z"⟩, 5), (⟨"NetUnfolder$Unfolding", "rivalOf", "(I)I"⟩, 4), (⟨"NetUnfolder$Unfolding", "tellWay", "(II)V"⟩, 4), (⟨"NetUnfolder$Unfolding", "tellTransitions", "(I)V"⟩, 4), (⟨"NetUnfolder$Unfolding", "letCome", "(I)Z"⟩, 4), (⟨"NetUnfolder$Unfolding", "leadsToNothingNew", "(IJ)Z"⟩, 4), (⟨"java/lang/Throwable", "fillInStackTrace", "(I)Ljava/lang/Throwable;"⟩, 6), (⟨"NetUnfolder$Question", "describePrefix", "()V"⟩, 6), (⟨"NetUnfolder$Question", "describeEvent", "(I)V"⟩, 6), (⟨"NetUnfolder$Question", "describeCondition", "(I)V"⟩, 6), (⟨"NetUnfolder$Question", "makersOf", "(II)J"⟩, 6), (⟨"NetUnfolder$Question", "answer", "()I"⟩, 6)]
theorem lw_r1 : ∀ q ∈ lw_privs_1, lw_okq q := List.forall_mem_cons.mpr ⟨lw_p0, List.forall_mem_cons.mpr ⟨lw_p1, List.forall_mem_cons.mpr ⟨lw_p2, List.forall_mem_cons.mpr ⟨lw_p3, List.forall_mem_cons.mpr ⟨lw_p4, List.forall_mem_cons.mpr ⟨lw_p5, List.forall_mem_cons.mpr ⟨lw_p6, List.forall_mem_cons.mpr ⟨lw_p7, List.forall_mem_cons.mpr ⟨lw_p8, List.forall_mem_cons.mpr ⟨lw_p9, List.forall_mem_cons.mpr ⟨lw_p10, List.forall_mem_cons.mpr ⟨lw_p11, List.forall_mem_cons.mpr ⟨lw_p12, List.forall_mem_cons.mpr ⟨lw_p13, List.forall_mem_cons.mpr ⟨lw_p14, List.forall_mem_cons.mpr ⟨lw_p15, fun _ h => absurd h List.not_mem_nil⟩⟩⟩⟩⟩⟩⟩⟩⟩⟩⟩⟩⟩⟩⟩⟩
theorem lw_p16 : lw_okq (⟨"NetUnfolder$Search", "begin", "()V"⟩, 8) := ⟨⟨by decide +kernel, by decide +kernel⟩, List.mem_of_getElem? (i := 227) (by decide +kernel), List.mem_of_getElem? (i := 631) (by decide +kernel), List.mem_of_getElem? (i := 632) (by decide +kernel)⟩
theorem lw_p17 : lw_okq (⟨"NetUnfolder$Search", "propagate", "()I"⟩, 8) := ⟨⟨by decide +kernel, by decide +kernel⟩, List.mem_of_getElem? (i := 227) (by decide +kernel), List.mem_of_getElem? (i := 637) (by decide +kernel), List.mem_of_getElem? (i := 638) (by decide +kernel)⟩
theorem lw_p18 : lw_okq (⟨"NetUnfolder$Search", "assign", "(IZI)V"⟩, 8) := ⟨⟨by decide +kernel, by decide +kernel⟩, List.mem_of_getElem? (i := 227) (by decide +kernel), List.mem_of_getElem? (i := 643) (by decide +kernel), List.mem_of_getElem? (i := 644) (by decide +kernel)⟩
theorem lw_p19 : lw_okq (⟨"NetUnfolder$Search", "learnFrom", "(I)V"⟩, 8) := ⟨⟨by decide +kernel, by decide +kernel⟩, List.mem_of_getElem? (i := 227) (by decide +kernel), List.mem_of_getElem? (i := 647) (by decide +kernel), List.mem_of_getElem? (i := 648) (by decide +kernel)⟩
theorem lw_p20 : lw_okq (⟨"NetUnfolder$Search", "levelBelow", "(J)I"⟩, 8) := ⟨⟨by decide +kernel, by decide +kernel⟩, List.mem_of_getElem? (i := 227) (by decide +kernel), List.mem_of_getElem? (i := 652) (by decide +kernel), List.mem_of_getElem? (i := 653) (by decide +kernel)⟩
theorem lw_p21 : lw_okq (⟨"NetUnfolder$Search", "goBack", "(I)V"⟩, 8) := ⟨⟨by decide +kernel, by decide +kernel⟩, List.mem_of_getElem? (i := 227) (by decide +kernel), List.mem_of_getElem? (i := 656) (by decide +kernel), List.mem_of_getElem? (i := 657) (by decide +kernel)⟩
theorem lw_p22 : lw_okq (⟨"NetUnfolder$Search", "forgetIdle", "()V"⟩, 8) := ⟨⟨by decide +kernel, by decide +kernel⟩, List.mem_of_getElem? (i := 227) (by decide +kernel), List.mem_of_getElem? (i := 664) (by decide +kernel), List.mem_of_getElem? (i := 665) (by decide +kernel)⟩
theorem lw_p23 : lw_okq (⟨"NetUnfolder$Search", "forcedBy", "(I)I"⟩, 8) := ⟨⟨by decide +kernel, by decide +kernel⟩, List.mem_of_getElem? (i := 227) (by decide +kernel), List.mem_of_getElem? (i := 668) (by decide +kernel), List.mem_of_getElem? (i := 669) (by decide +kernel)⟩
theorem lw_p24 : lw_okq (⟨"NetUnfolder$Search", "decide", "(I)V"⟩, 8) := ⟨⟨by decide +kernel, by decide +kernel⟩, List.mem_of_getElem? (i := 227) (by decide +kernel), List.mem_of_getElem? (i := 681) (by decide +kernel), List.mem_of_getElem? (i := 682) (by decide +kernel)⟩
theorem lw_p25 : lw_okq (⟨"NetUnfolderModel", "forget", "()V"⟩, 28) := ⟨⟨by decide +kernel, by decide +kernel⟩, List.mem_of_getElem? (i := 715) (by decide +kernel), List.mem_of_getElem? (i := 818) (by decide +kernel), List.mem_of_getElem? (i := 819) (by decide +kernel)⟩
theorem lw_p26 : lw_okq (⟨"NetUnfolderModel", "condition", "(III)V"⟩, 28) := ⟨⟨by decide +kernel, by decide +kernel⟩, List.mem_of_getElem? (i := 715) (by decide +kernel), List.mem_of_getElem? (i := 834) (by decide +kernel), List.mem_of_getElem? (i := 835) (by decide +kernel)⟩
theorem lw_p27 : lw_okq (⟨"NetUnfolderModel", "together", "(II)Z"⟩, 28) := ⟨⟨by decide +kernel, by decide +kernel⟩, List.mem_of_getElem? (i := 715) (by decide +kernel), List.mem_of_getElem? (i := 838) (by decide +kernel), List.mem_of_getElem? (i := 839) (by decide +kernel)⟩
theorem lw_p28 : lw_okq (⟨"NetUnfolderModel", "takenBy", "(J)J"⟩, 28) := ⟨⟨by decide +kernel, by decide +kernel⟩, List.mem_of_getElem? (i := 715) (by decide +kernel), List.mem_of_getElem? (i := 842) (by decide +kernel), List.mem_of_getElem? (i := 843) (by decide +kernel)⟩
theorem lw_p29 : lw_okq (⟨"NetUnfolderModel", "search", "()V"⟩, 28) := ⟨⟨by decide +kernel, by decide +kernel⟩, List.mem_of_getElem? (i := 715) (by decide +kernel), List.mem_of_getElem? (i := 850) (by decide +kernel), List.mem_of_getElem? (i := 851) (by decide +kernel)⟩
theorem lw_p30 : lw_okq (⟨"NetUnfolderModel", "choices", "(I)V"⟩, 28) := ⟨⟨by decide +kernel, by decide +kernel⟩, List.mem_of_getElem? (i := 715) (by decide +kernel), List.mem_of_getElem? (i := 854) (by decide +kernel), List.mem_of_getElem? (i := 855) (by decide +kernel)⟩
theorem lw_p31 : lw_okq (⟨"NetUnfolderModel", "further", "(IIJ)I"⟩, 28) := ⟨⟨by decide +kernel, by decide +kernel⟩, List.mem_of_getElem? (i := 715) (by decide +kernel), List.mem_of_getElem? (i := 864) (by decide +kernel), List.mem_of_getElem? (i := 865) (by decide +kernel)⟩
def lw_privs_2 : List (MethodName × Nat) := [(⟨"NetUnfolder$Search", "begin", "()V"⟩, 8), (⟨"NetUnfolder$Search", "propagate", "()I"⟩, 8), (⟨"NetUnfolder$Search", "assign", "(IZI)V"⟩, 8), (⟨"NetUnfolder$Search", "learnFrom", "(I)V"⟩, 8), (⟨"NetUnfolder$Search", "levelBelow", "(J)I"⟩, 8), (⟨"NetUnfolder$Search", "goBack", "(I)V"⟩, 8), (⟨"NetUnfolder$Search", "forgetIdle", "()V"⟩, 8), (⟨"NetUnfolder$Search", "forcedBy", "(I)I"⟩, 8), (⟨"NetUnfolder$Search", "decide", "(I)V"⟩, 8), (⟨"NetUnfolderModel", "forget", "()V"⟩, 28), (⟨"NetUnfolderModel", "condition", "(III)V"⟩, 28), (⟨"NetUnfolderModel", "together", "(II)Z"⟩, 28), (⟨"NetUnfolderModel", "takenBy", "(J)J"⟩, 28), (⟨"NetUnfolderModel", "search", "()V"⟩, 28), (⟨"NetUnfolderModel", "choices", "(I)V"⟩, 28), (⟨"NetUnfolderModel", "further", "(IIJ)I"⟩, 28)]
theorem lw_r2 : ∀ q ∈ lw_privs_2, lw_okq q := List.forall_mem_cons.mpr ⟨lw_p16, List.forall_mem_cons.mpr ⟨lw_p17, List.forall_mem_cons.mpr ⟨lw_p18, List.forall_mem_cons.mpr ⟨lw_p19, List.forall_mem_cons.mpr ⟨lw_p20, List.forall_mem_cons.mpr ⟨lw_p21, List.forall_mem_cons.mpr ⟨lw_p22, List.forall_mem_cons.mpr ⟨lw_p23, List.forall_mem_cons.mpr ⟨lw_p24, List.forall_mem_cons.mpr ⟨lw_p25, List.forall_mem_cons.mpr ⟨lw_p26, List.forall_mem_cons.mpr ⟨lw_p27, List.forall_mem_cons.mpr ⟨lw_p28, List.forall_mem_cons.mpr ⟨lw_p29, List.forall_mem_cons.mpr ⟨lw_p30, List.forall_mem_cons.mpr ⟨lw_p31, fun _ h => absurd h List.not_mem_nil⟩⟩⟩⟩⟩⟩⟩⟩⟩⟩⟩⟩⟩⟩⟩⟩
theorem lw_p32 : lw_okq (⟨"NetUnfolderModel", "found", "(II)V"⟩, 28) := ⟨⟨by decide +kernel, by decide +kernel⟩, List.mem_of_getElem? (i := 715) (by decide +kernel), List.mem_of_getElem? (i := 868) (by decide +kernel), List.mem_of_getElem? (i := 869) (by decide +kernel)⟩
theorem lw_p33 : lw_okq (⟨"NetUnfolderModel", "isThere", "(II)Z"⟩, 28) := ⟨⟨by decide +kernel, by decide +kernel⟩, List.mem_of_getElem? (i := 715) (by decide +kernel), List.mem_of_getElem? (i := 872) (by decide +kernel), List.mem_of_getElem? (i := 873) (by decide +kernel)⟩
theorem lw_p34 : lw_okq (⟨"NetUnfolderModel", "setOf", "(I)J"⟩, 28) := ⟨⟨by decide +kernel, by decide +kernel⟩, List.mem_of_getElem? (i := 715) (by decide +kernel), List.mem_of_getElem? (i := 876) (by decide +kernel), List.mem_of_getElem? (i := 877) (by decide +kernel)⟩
theorem lw_p35 : lw_okq (⟨"NetUnfolderModel", "behindAll", "(I)I"⟩, 28) := ⟨⟨by decide +kernel, by decide +kernel⟩, List.mem_of_getElem? (i := 715) (by decide +kernel), List.mem_of_getElem? (i := 880) (by decide +kernel), List.mem_of_getElem? (i := 881) (by decide +kernel)⟩
theorem lw_p36 : lw_okq (⟨"NetUnfolderModel", "rankOf", "(II)J"⟩, 28) := ⟨⟨by decide +kernel, by decide +kernel⟩, List.mem_of_getElem? (i := 715) (by decide +kernel), List.mem_of_getElem? (i := 884) (by decide +kernel), List.mem_of_getElem? (i := 885) (by decide +kernel)⟩
theorem lw_p37 : lw_okq (⟨"NetUnfolderModel", "twice", "()I"⟩, 28) := ⟨⟨by decide +kernel, by decide +kernel⟩, List.mem_of_getElem? (i := 715) (by decide +kernel), List.mem_of_getElem? (i := 890) (by decide +kernel), List.mem_of_getElem? (i := 891) (by decide +kernel)⟩
theorem lw_p38 : lw_okq (⟨"NetUnfolderModel", "besideLeast", "()J"⟩, 28) := ⟨⟨by decide +kernel, by decide +kernel⟩, List.mem_of_getElem? (i := 715) (by decide +kernel), List.mem_of_getElem? (i := 894) (by decide +kernel), List.mem_of_getElem? (i := 895) (by decide +kernel)⟩
theorem lw_p39 : lw_okq (⟨"NetUnfolderModel", "addWay", "(J)V"⟩, 28) := ⟨⟨by decide +kernel, by decide +kernel⟩, List.mem_of_getElem? (i := 715) (by decide +kernel), List.mem_of_getElem? (i := 898) (by decide +kernel), List.mem_of_getElem? (i := 899) (by decide +kernel)⟩
theorem lw_p40 : lw_okq (⟨"NetUnfolderModel", "come", "()Z"⟩, 28) := ⟨⟨by decide +kernel, by decide +kernel⟩, List.mem_of_getElem? (i := 715) (by decide +kernel), List.mem_of_getElem? (i := 902) (by decide +kernel), List.mem_of_getElem? (i := 903) (by decide +kernel)⟩
theorem lw_p41 : lw_okq (⟨"NetUnfolderModel", "markingOf", "(J)I"⟩, 28) := ⟨⟨by decide +kernel, by decide +kernel⟩, List.mem_of_getElem? (i := 715) (by decide +kernel), List.mem_of_getElem? (i := 906) (by decide +kernel), List.mem_of_getElem? (i := 907) (by decide +kernel)⟩
theorem lw_p42 : lw_okq (⟨"NetUnfolderModel", "answer", "(I)I"⟩, 28) := ⟨⟨by decide +kernel, by decide +kernel⟩, List.mem_of_getElem? (i := 715) (by decide +kernel), List.mem_of_getElem? (i := 917) (by decide +kernel), List.mem_of_getElem? (i := 918) (by decide +kernel)⟩
theorem lw_p43 : lw_okq (⟨"NetUnfolderModel", "stuck", "(I)Z"⟩, 28) := ⟨⟨by decide +kernel, by decide +kernel⟩, List.mem_of_getElem? (i := 715) (by decide +kernel), List.mem_of_getElem? (i := 921) (by decide +kernel), List.mem_of_getElem? (i := 922) (by decide +kernel)⟩
theorem lw_p44 : lw_okq (⟨"NetUnfolderModel", "fits", "(JI)Z"⟩, 28) := ⟨⟨by decide +kernel, by decide +kernel⟩, List.mem_of_getElem? (i := 715) (by decide +kernel), List.mem_of_getElem? (i := 925) (by decide +kernel), List.mem_of_getElem? (i := 926) (by decide +kernel)⟩
theorem lw_p45 : lw_okq (⟨"NetUnfolderModel", "refuse", "(I)I"⟩, 28) := ⟨⟨by decide +kernel, by decide +kernel⟩, List.mem_of_getElem? (i := 715) (by decide +kernel), List.mem_of_getElem? (i := 941) (by decide +kernel), List.mem_of_getElem? (i := 942) (by decide +kernel)⟩
def lw_privs_3 : List (MethodName × Nat) := [(⟨"NetUnfolderModel", "found", "(II)V"⟩, 28), (⟨"NetUnfolderModel", "isThere", "(II)Z"⟩, 28), (⟨"NetUnfolderModel", "setOf", "(I)J"⟩, 28), (⟨"NetUnfolderModel", "behindAll", "(I)I"⟩, 28), (⟨"NetUnfolderModel", "rankOf", "(II)J"⟩, 28), (⟨"NetUnfolderModel", "twice", "()I"⟩, 28), (⟨"NetUnfolderModel", "besideLeast", "()J"⟩, 28), (⟨"NetUnfolderModel", "addWay", "(J)V"⟩, 28), (⟨"NetUnfolderModel", "come", "()Z"⟩, 28), (⟨"NetUnfolderModel", "markingOf", "(J)I"⟩, 28), (⟨"NetUnfolderModel", "answer", "(I)I"⟩, 28), (⟨"NetUnfolderModel", "stuck", "(I)Z"⟩, 28), (⟨"NetUnfolderModel", "fits", "(JI)Z"⟩, 28), (⟨"NetUnfolderModel", "refuse", "(I)I"⟩, 28)]
theorem lw_r3 : ∀ q ∈ lw_privs_3, lw_okq q := List.forall_mem_cons.mpr ⟨lw_p32, List.forall_mem_cons.mpr ⟨lw_p33, List.forall_mem_cons.mpr ⟨lw_p34, List.forall_mem_cons.mpr ⟨lw_p35, List.forall_mem_cons.mpr ⟨lw_p36, List.forall_mem_cons.mpr ⟨lw_p37, List.forall_mem_cons.mpr ⟨lw_p38, List.forall_mem_cons.mpr ⟨lw_p39, List.forall_mem_cons.mpr ⟨lw_p40, List.forall_mem_cons.mpr ⟨lw_p41, List.forall_mem_cons.mpr ⟨lw_p42, List.forall_mem_cons.mpr ⟨lw_p43, List.forall_mem_cons.mpr ⟨lw_p44, List.forall_mem_cons.mpr ⟨lw_p45, fun _ h => absurd h List.not_mem_nil⟩⟩⟩⟩⟩⟩⟩⟩⟩⟩⟩⟩⟩⟩
def lw_privs : List (MethodName × Nat) := lw_privs_1 ++ (lw_privs_2 ++ (lw_privs_3))
def lw_tbl : List Cond := k2_sels lw_privs ++ tables_1
theorem lw_privs_ok : ∀ q ∈ lw_privs, lw_okq q := by
  show ∀ q ∈ lw_privs_1 ++ (lw_privs_2 ++ (lw_privs_3)), lw_okq q
  exact List.forall_mem_append.mpr ⟨lw_r1, List.forall_mem_append.mpr ⟨lw_r2, lw_r3⟩⟩
-- ===== end of PART A; then your names; then what follows =====
/-! The words of the tables that a call keeps: one list for all methods. -/
def wsA : List Cond := lw_tbl.filter goodWord
theorem wA_t {w : Cond} (h : w ∈ tables_1) (g : goodWord w = true) : w ∈ wsA := List.mem_filter.mpr ⟨List.mem_append_right _ h, g⟩
theorem wA_1 {w : Cond} (h : w ∈ tables_1_1) (g : goodWord w = true) : w ∈ wsA := wA_t (List.mem_append_left _ h) g
theorem wA_2 {w : Cond} (h : w ∈ tables_1_2) (g : goodWord w = true) : w ∈ wsA := wA_t (List.mem_append_right _ (List.mem_append_left _ h)) g
theorem wA_3 {w : Cond} (h : w ∈ tables_1_3) (g : goodWord w = true) : w ∈ wsA := wA_t (List.mem_append_right _ (List.mem_append_right _ (List.mem_append_left _ h))) g
theorem wA_4 {w : Cond} (h : w ∈ tables_1_4) (g : goodWord w = true) : w ∈ wsA := wA_t (List.mem_append_right _ (List.mem_append_right _ (List.mem_append_right _ (List.mem_append_left _ h)))) g
theorem wA_5 {w : Cond} (h : w ∈ tables_1_5) (g : goodWord w = true) : w ∈ wsA := wA_t (List.mem_append_right _ (List.mem_append_right _ (List.mem_append_right _ (List.mem_append_right _ h)))) g
theorem wA_s {y : MethodName} {n : Nat} (h : (y, n) ∈ lw_privs) (g : goodWord (.selects y.cls y y) = true) : Cond.selects y.cls y y ∈ wsA := List.mem_filter.mpr ⟨List.mem_append_left _ (List.mem_map.mpr ⟨(y, n), h, rfl⟩), g⟩
theorem wA_tbl {w : Cond} (h : w ∈ wsA) : w ∈ lw_tbl := (List.mem_filter.mp h).1
theorem wA_good {w : Cond} (h : w ∈ wsA) : (w.onTables && w.keeps) = true ∨ ∃ ty, w = .arrayClass ty := good_of_word (List.mem_filter.mp h).2
theorem goodA {c : Cond} (h : c ∈ wsA) : GoodIn wsA (c :: wsA) := fun w hw => (List.mem_cons.mp hw).elim (fun e => e ▸ ⟨h, wA_good h⟩) (fun h2 => ⟨h2, wA_good h2⟩)
theorem goodA0 : GoodIn wsA wsA := fun w hw => ⟨hw, wA_good hw⟩
end
section
/-! Methods that throw, and methods with handlers: rows of my own over the library's (Stand.ctorThrow0, Stand.outOfThrown, Stand.catchAt). -/
/-- the contract of a method that throws: from Pc it throws x, 'Qc args s x t'; at most mc cells of ms slots are new; no old cell changes -/
def tx_Met (l : Launch) (y : MethodName) (ws : List Cond) (rm : Room) (Pc : Array Value → State → Prop) (Qc : Array Value → State → Addr → State → Prop) (mc ms : Nat) : Prop :=
  MetFree l y (headSpec ws rm) Pc (fun _ _ _ _ _ => True) (fun a st o t => ∃ x, o = .threw x ∧ Qc a st x t ∧ st.WarmedH t.vm ∧ st.sameButNew ({ t with vm := st.vm } : State) [] mc ms)
def tx_MQ (below : List Frame) (Qc : Array Value → State → Addr → State → Prop) (a : Array Value) (s : State) (mc ms : Nat) : State → Prop := fun t =>
  t.status = .running ∧ ∃ x, Ended t below (.threw x) ∧ Qc a s x t ∧ s.WarmedH t.vm ∧ s.sameButNew ({ t with vm := s.vm } : State) [] mc ms
theorem tx_old {s t : State} {k n : Nat} (h : s.sameButNew t [] k n) (q : Nat) (hq : q < s.heap.size) : t.heap[q]? = s.heap[q]? := by
  obtain ⟨-, -, -, -, -, h6⟩ := h
  obtain ⟨c', h1, h2, h3, h4⟩ := h6 q s.heap[q] (Array.getElem?_eq_getElem hq)
  rw [h1, Array.getElem?_eq_getElem hq]
  have e : c'.slots = s.heap[q].slots := Array.ext_getElem? fun i => h4 i (by simp)
  rw [h2, e]
section TX
variable {p : Program} {l : Launch} {e : Env} {R : Room} {s : State} {m : MethodId} {args : Array Value} {below : List Frame} {meth : Method} {c : Code} {H : Heap} {locs : List Loc} {cells slots : Nat} {Q : State → Prop}
theorem tx_Met.ofW {y : MethodName} {ws ws' : List Cond} {rm : Room} {Pc : Array Value → State → Prop} {Qc : Array Value → State → Addr → State → Prop} {mc ms : Nat} {cc : ByteArray} {maxL : Nat} {ret : Option FieldType}
    (hy : plainName y.cls = true) (hw : ws = Cond.code y cc maxL ret :: ws')
    (body : ∀ p e s m args below meth c s₁, BodyLoose p l y (headSpec ws rm) cc maxL ret e s m args below meth c s₁ → c.maxLocals = maxL → Pc args s →
      W p l e (headSpec ws rm).room s m args below meth c s.heap [] 0 0 (tx_MQ below Qc args s mc ms) (entryFrame m args maxL)) : tx_Met l y ws rm Pc Qc mc ms := by
  refine MetFree.of_bodyS (code := cc) (maxLocals := maxL) (ret := ret) hy ?_ ?_
  · intro args s m h hn
    obtain ⟨meth, c, h1, h2, h3, h4, h5, h6, -, -⟩ := Cond.code_spec hn (atoms_spec (ws := ws) h _ (by rw [hw]; exact List.mem_cons_self))
    exact ⟨meth, c, h1, h2, h3, h4, h5, h6⟩
  · intro p e s m args below meth c s₁ B hml hP _
    have hh0 : s₁.heap = s.heap := by rw [B.state]; rfl
    obtain ⟨t, a1, b1, x, b2, b3, b4, b5⟩ := body p e s m args below meth c s₁ B hml hP s₁ hh0 (Stand.of_body B)
    exact ⟨t, .threw x, a1, b1, b2, x, rfl, b3, b4, b5⟩
/-- 'new X(); athrow' from behind the 'new' and 'dup': it throws -/
theorem tx_throw0 {cc : ByteArray} {Qc : Array Value → State → Addr → State → Prop} (hexec : p.tables.exec = Jvm.exec) (hb : c.code = cc) (htr : e.platform.stackTraces = false) {own cls : String} {names : List String} {ic : Nat}
    (hown : s.vm.findClass own = some m.cls) (hcls : Bundle.fit cls = true) (hnames : ∀ n ∈ names, Bundle.fit n = true)
    (h : ∀ a ∈ Bundle.ownAtoms0 own ic cls names, a.before args s = true)
    {a : Addr} {cX : ClassId} {kX : Class} (hfoundX : s.vm.findClass cls = some cX) (hkX : s.vm.classes[cX]? = some kX) (hcell : H[a]? = some (freshCell cX kX)) (hnew : s.heap.size ≤ a)
    {pc : Nat} {ls : Array Slot} {rest : List Value} (hsize : ls.size = c.maxLocals)
    (hd6 : decode cc pc = .ok (.invokespecial ic, 3)) (hd9 : decode cc (pc + 3) = .ok (.athrow, 1)) (hout : c.exceptionTable.isEmpty = true)
    (hRframes : names.length + 3 < R.frames) (hRlocals : 2 * (F0 m pc ls (.ref a :: .ref a :: rest)).monitorRoom + ((Value.ref a :: rest).map fun v => v.category).sum + (13 * (names.length + 1) + 41) ≤ R.locals) (hlocks : meth.locks = false)
    (hq : ∀ U : State, s.WarmedH U.vm → (∃ ce, U.heap[a]? = some ce ∧ ce.vm = .none ∧ s.vm.findClass cls = some ce.cls) → Qc args s a U) :
    W p l e R s m args below meth c H [] cells slots (tx_MQ below Qc args s cells slots) (F0 m pc ls (.ref a :: .ref a :: rest)) := by
  intro T hT X
  subst hT; subst hb
  obtain ⟨U, st, hrun, hend, hW, hsame, ce, hce, K⟩ := X.ctorThrow0 hexec htr hown hcls hnames h (fun x hx => by cases hx) hfoundX hkX hcell hnew (g := F0 m pc ls (.ref a :: .ref a :: rest)) rfl hsize rfl rfl rfl hd6 hd9
    (fun x hx => by
      have : c.exceptionTable.toList = [] := by simpa using hout
      rw [this] at hx; cases hx) hRframes hRlocals hlocks
  exact ⟨U, st, hrun, a, hend, hq U hW ⟨ce, hce, K.vm, K.cls⟩, hW, hsame⟩
end TX
end
section
/-! A handler whose class may be unresolved yet: the search resolves it. -/
section TC
variable {e : Env} {s : State} {f : JFrame} {a : Addr} {Q : Handler → Pre} {E : CtlPost} {d : Bool} {acts : List Action}
theorem tx_goCold {x : ExceptionTableEntry} {t : List ExceptionTableEntry} {c : ClassId} {cell : Cell} (hx : covers x f.pc = true) (h0 : x.catchType ≠ 0)
    (hcl : s.vm.ClassLinks e.platform f.method.cls x.catchType c) (hcell : s.heap[a]? = some cell) (hobj : ∀ k, cell.vm ≠ .statics k)
    (hk : ∃ k, (s.vm.noted f.method.cls x.catchType (.cls c)).classes[cell.cls]? = some k) (hc : ∃ k, (s.vm.noted f.method.cls x.catchType (.cls c)).classes[c]? = some k) :
    Sem.wp (findHandler.go f a (x :: t)) Q E e d acts s ↔
      if (s.vm.noted f.method.cls x.catchType (.cls c)).assignable cell.cls c = true then Q (.found x.handlerPc) d acts (s.setVm (s.vm.noted f.method.cls x.catchType (.cls c))) else Sem.wp (findHandler.go f a t) Q E e d acts (s.setVm (s.vm.noted f.method.cls x.catchType (.cls c))) := by
  simp only [covers] at hx
  obtain ⟨ha, ht⟩ := (resolveClass_links e.toSetting hcl).op (op := VmOp.resolveClass f.method.cls x.catchType) rfl
  have hsz : (s.vm.noted f.method.cls x.catchType (.cls c)).classes.size ≤ s.vm.classes.size := by no_record
  have hcell' : (s.setVm (s.vm.noted f.method.cls x.catchType (.cls c))).heap[a]? = some cell := hcell
  cases hfit : (s.vm.noted f.method.cls x.catchType (.cls c)).assignable cell.cls c <;>
    simp [findHandler.go, hx, h0, ha, ht, hsz, hcell, hobj, hk, hc, hfit, VmOp.dirties, VmOp.acts]
end TC
end
section
/-! A call that throws, caught by a handler of the caller; a static method with handlers, called. -/
def tx_Finds (e : Env) (s : State) (f : JFrame) (a : Addr) (h : Handler) (s' : State) : Prop :=
  ∀ (Q : Handler → Pre) (E : CtlPost) (d : Bool) (acts : List Action), Sem.wp (findHandler f a) Q E e d acts s ↔ Q h d acts s'
theorem tx_stepCatch {e : Env} {s s' : State} {a : Addr} {f : JFrame} {r : List Frame} {pc : Nat} (hfind : tx_Finds e s f a (.found pc) s') :
    (stepThrowing e s a (.java f :: r)).Is (s'.setFrames (.java { f with pc := pc, stack := [.ref a] } :: r)) [] := by
  simp only [stepThrowing, searchFrame, vmDo]
  generalize hr : Sem.go _ e false [] s = res
  obtain ⟨as, rfl, ha⟩ := Sem.eq_ok_of hr (a := Handler.found pc) (s' := s') (acts' := []) (by simp [hfind _ _ _ _])
  exact ⟨rfl, ha⟩
theorem tx_caught {tb : Tables} {e : Env} {s target : State} {g : JFrame} {c : Code} {below : List Frame} {a : Addr} (h : At s g.method c below) {pc : Nat} {vm' : Vm}
    (hfind : tx_Finds e ((s.setTop g).pushFrame (.throwing a)) g a (.found pc) (((s.setVm vm').setTop g).pushFrame (.throwing a)))
    (hrest : Steps tb e below ((s.setVm vm').setTop { g with pc := pc, stack := [.ref a] }) target) :
    Steps tb e below ((s.setTop g).pushFrame (.throwing a)) target := by
  obtain ⟨hgo, hw⟩ := h.throwing a
  refine Steps.head hgo hw ?_
  rw [stepThread_throwing (frames_entered h.top _), (tx_stepCatch hfind).1]
  obtain ⟨g₀, hg⟩ := Option.isSome_iff_exists.mp h.top
  obtain ⟨r, hr⟩ := State.topJava?_eq_some.mp hg
  have hr' : (s.setVm vm').frames = .java g₀ :: r := hr
  rw [State.pushFrame, State.setFrames_setFrames, State.setTop_of_frames _ hr', State.setFrames_setFrames]
  rw [State.setTop_of_frames _ hr'] at hrest
  rw [hr]
  exact hrest
section TD
variable {p : Program} {l : Launch} {e : Env} {R : Room} {s : State} {m : MethodId} {args : Array Value} {below : List Frame} {meth : Method} {c : Code} {T : State} {locs : List Loc} {cells slots : Nat}
theorem tx_entry (X : Stand p l e R s m args below meth c T locs cells slots) {own name : String} (hown : s.vm.findClass own = some m.cls) {en : ExceptionTableEntry} (hlink : (Cond.classLink own en.catchType name).before args s = true) (h0 : en.catchType ≠ 0)
    {g : JFrame} (hg : g.method = m) (hcov : covers en g.pc = true) {x : Addr} {ce : Cell} (hcell : T.heap[x]? = some ce) (hvm : ce.vm = .none) {cls : String} (hcls : s.vm.findClass cls = some ce.cls) {cT : ClassId} (hcT : s.vm.findClass name = some cT) :
    ∃ vm', Stand p l e R s m args below meth c (T.setVm vm') locs cells slots ∧ ∀ (t : List ExceptionTableEntry) (Q : Handler → Pre) (E : CtlPost) (d : Bool) (acts : List Action), Sem.wp (findHandler.go g x (en :: t)) Q E e d acts ((T.setTop g).pushFrame (.throwing x)) ↔
      if s.vm.assignable ce.cls cT = true then Q (.found en.handlerPc) d acts (((T.setVm vm').setTop g).pushFrame (.throwing x)) else Sem.wp (findHandler.go g x t) Q E e d acts (((T.setVm vm').setTop g).pushFrame (.throwing x)) := by
  have hpl : e.platform.magicAccessors = ({} : Platform).magicAccessors := by rw [X.admits.platform]
  obtain ⟨c', hc', hcl⟩ := Cond.classLink_spec hown hlink e.platform hpl
  cases hcT.symm.trans hc'
  obtain ⟨dk, _, _, kt, hd, _, _, _, _, hkt, _, hopen⟩ := hcl.here
  have hcl₀ := X.warmed.classLinks hcl
  have hW' : s.WarmedH (T.vm.noted m.cls en.catchType (.cls cT)) := X.warmed.noted hd hopen (State.rightAt_cls hcl)
  obtain ⟨ks, hks⟩ := Vm.classAt_of_findClass hcls
  obtain ⟨ks', hks', -⟩ := hW'.alike.2.2 _ _ hks
  obtain ⟨kt', hkt', -⟩ := hW'.alike.2.2 _ _ hkt
  refine ⟨_, X.noted hW', fun t Q E d acts => ?_⟩
  subst hg
  have hv : ((T.setTop g).pushFrame (.throwing x)).vm = T.vm := Stand.throwing_vm T g x
  have hh : ((T.setTop g).pushFrame (.throwing x)).heap = T.heap := Stand.throwing_heap T g x
  have key := tx_goCold (e := e) (s := (T.setTop g).pushFrame (.throwing x)) (f := g) (a := x) (Q := Q) (E := E) (d := d) (acts := acts) (x := en) (t := t) (c := cT) (cell := ce) hcov h0 (by rw [hv]; exact hcl₀) (by rw [hh]; exact hcell) (fun k hk => by rw [hvm] at hk; cases hk) (by rw [hv]; exact ⟨ks', hks'⟩) (by rw [hv]; exact ⟨kt', hkt'⟩)
  rw [key, hv, hW'.alike.assignable]
  rfl
/-- the first entry catches -/
theorem tx_catch1 (X : Stand p l e R s m args below meth c T locs cells slots) {own name : String} (hown : s.vm.findClass own = some m.cls) {st en hd ct : Nat} {rest : List (Nat × Nat × Nat × Nat)} (htab : c.exceptionTable.toList.map (fun h => (h.startPc, h.endPc, h.handlerPc, h.catchType)) = (st, en, hd, ct) :: rest) (hlink : (Cond.classLink own ct name).before args s = true) (h0 : ct ≠ 0)
    {g : JFrame} (hg : g.method = m) (h1 : st ≤ g.pc) (h2 : g.pc < en) {x : Addr} {ce : Cell} (hcell : T.heap[x]? = some ce) (hvm : ce.vm = .none) {cls : String} (hcls : s.vm.findClass cls = some ce.cls) {cT : ClassId} (hcT : s.vm.findClass name = some cT) (hasg : s.vm.assignable ce.cls cT = true) :
    ∃ vm', Stand p l e R s m args below meth c (T.setVm vm') locs cells slots ∧ ∀ target, Steps p.tables e below ((T.setVm vm').setTop { g with pc := hd, stack := [.ref x] }) target → Steps p.tables e below ((T.setTop g).pushFrame (.throwing x)) target := by
  cases htl : c.exceptionTable.toList with
  | nil => rw [htl] at htab; cases htab
  | cons y ys =>
    rw [htl, List.map_cons] at htab
    injection htab with e1 e2
    simp only [Prod.mk.injEq] at e1
    obtain ⟨rfl, rfl, rfl, rfl⟩ := e1
    obtain ⟨vm', X', hgo⟩ := tx_entry X hown hlink h0 hg (by simp only [covers, Bool.and_eq_true, decide_eq_true_eq]; exact ⟨h1, h2⟩) hcell hvm hcls hcT
    refine ⟨vm', X', fun target hrest => ?_⟩
    subst hg
    refine tx_caught X.here (vm' := vm') (fun Q E d acts => ?_) hrest
    rw [W.findHandler_eq (meth := meth) (code := c) (by rw [Stand.throwing_vm]; exact X.method') X.code, htl, hgo, if_pos hasg]
/-- the first entry is passed, the second catches -/
theorem tx_catch2 (X : Stand p l e R s m args below meth c T locs cells slots) {own name name2 : String} (hown : s.vm.findClass own = some m.cls) {st en hd ct st2 en2 hd2 ct2 : Nat} {rest : List (Nat × Nat × Nat × Nat)} (htab : c.exceptionTable.toList.map (fun h => (h.startPc, h.endPc, h.handlerPc, h.catchType)) = (st, en, hd, ct) :: (st2, en2, hd2, ct2) :: rest) (hlink : (Cond.classLink own ct name).before args s = true) (h0 : ct ≠ 0) (hlink2 : (Cond.classLink own ct2 name2).before args s = true) (h02 : ct2 ≠ 0)
    {g : JFrame} (hg : g.method = m) (h1 : st ≤ g.pc) (h2 : g.pc < en) (h12 : st2 ≤ g.pc) (h22 : g.pc < en2) {x : Addr} {ce : Cell} (hcell : T.heap[x]? = some ce) (hvm : ce.vm = .none) {cls : String} (hcls : s.vm.findClass cls = some ce.cls) {cT cT2 : ClassId} (hcT : s.vm.findClass name = some cT) (hno : s.vm.assignable ce.cls cT = false) (hcT2 : s.vm.findClass name2 = some cT2) (hasg : s.vm.assignable ce.cls cT2 = true) :
    ∃ vm', Stand p l e R s m args below meth c (T.setVm vm') locs cells slots ∧ ∀ target, Steps p.tables e below ((T.setVm vm').setTop { g with pc := hd2, stack := [.ref x] }) target → Steps p.tables e below ((T.setTop g).pushFrame (.throwing x)) target := by
  cases htl : c.exceptionTable.toList with
  | nil => rw [htl] at htab; cases htab
  | cons y ys =>
    cases ys with
    | nil => rw [htl] at htab; simp at htab
    | cons z zs =>
      rw [htl, List.map_cons, List.map_cons] at htab
      injection htab with e1 e2
      injection e2 with e2 e3
      simp only [Prod.mk.injEq] at e1 e2
      obtain ⟨rfl, rfl, rfl, rfl⟩ := e1
      obtain ⟨rfl, rfl, rfl, rfl⟩ := e2
      obtain ⟨vm₁, X₁, hgo₁⟩ := tx_entry X hown hlink h0 hg (by simp only [covers, Bool.and_eq_true, decide_eq_true_eq]; exact ⟨h1, h2⟩) hcell hvm hcls hcT
      obtain ⟨vm₂, X₂, hgo₂⟩ := tx_entry X₁ hown hlink2 h02 hg (by simp only [covers, Bool.and_eq_true, decide_eq_true_eq]; exact ⟨h12, h22⟩) (show (T.setVm vm₁).heap[x]? = some ce from hcell) hvm hcls hcT2
      refine ⟨vm₂, X₂, fun target hrest => ?_⟩
      subst hg
      refine tx_caught X.here (vm' := vm₂) (fun Q E d acts => ?_) hrest
      rw [W.findHandler_eq (meth := meth) (code := c) (by rw [Stand.throwing_vm]; exact X.method') X.code, htl, hgo₁, if_neg (by rw [hno]; decide), hgo₂, if_pos hasg]
      rfl
/-- what an 'invokevirtual' of a method that throws comes to: the note over the caller's frame -/
theorem tx_callV (X : Stand p l e R s m args below meth c T locs cells slots) {cc bytes : ByteArray} {nL maxL n mc ms index : Nat} {ret : Option FieldType} {own C : String} {y : MethodName} {Ts ws : List Cond} {rm : Room} {Pc : Array Value → State → Prop} {Qc : Array Value → State → Addr → State → Prop} {b : Addr} {As rest : List Value} {H : Heap}
    (S : CallFix p m c cc nL s args Ts own) (hM : tx_Met l y ws rm Pc Qc mc ms) (cw : CallW R s args own C index y bytes maxL ret ws rm mc ms n) (hp : PreV s H C b Pc As) (hT : T.heap = H)
    {g : JFrame} (hg : g.method = m) (hn : As.length = n) (hsize : g.locals.size = nL) (hstack : g.stack = As.reverse ++ .ref b :: rest) (hW : 2 * g.monitorRoom + (rest.map fun v => v.category).sum ≤ 8) (hdg : decode cc g.pc = .ok (.invokevirtual index, 3)) (hf : cells + mc ≤ R.cells ∧ slots + ms ≤ R.slots) :
    ∃ (x : Addr) (st₀ t T' : State), st₀.heap = H ∧ Stand p l e R s m args below meth c T' (locs ++ []) (cells + mc) (slots + ms) ∧ T'.heap = t.heap ∧ Qc (Value.ref b :: As).toArray st₀ x t ∧ st₀.vm.Alike s.vm ∧ (∀ q : Nat, q < H.size → t.heap[q]? = H[q]?) ∧
      ∀ target, Steps p.tables e below ((T'.setTop { g with stack := rest }).pushFrame (.throwing x)) target → Steps p.tables e below (T.setTop g) target := by
  obtain ⟨⟨hrc, hrs, hfr, hlo, hws, hcw, hcode, hini, hy, hlen, hlink⟩, hinst, hsel⟩ := cw
  obtain ⟨hx, hb, hml, hown, -⟩ := S
  obtain ⟨hblind, ⟨cellB, hcB, hoB, hkB⟩, hPc⟩ := hp
  subst hb
  obtain ⟨mk, methM, hnamed, hmethM, hstM, habM⟩ := Cond.instanceMethod_spec hinst
  obtain ⟨methM', cM, hmethM', hcM, -, hlM, -, -, -, hsigM⟩ := Cond.code_spec hnamed hcode
  cases hmethM.symm.trans hmethM'
  obtain ⟨c2, r2, m2, q1, q2, q3, q4, kP, hkP, hkPi⟩ := Cond.selects_spec hsel
  cases hkB.symm.trans q1
  cases (State.methodFound?_of_named hnamed hy).symm.trans q2
  cases hnamed.symm.trans q3
  have hselP : selectMethod e.platform s.vm cellB.cls mk = .method mk := by rw [Launch.admits_selectMethod X.admits]; exact q4
  obtain ⟨vm₁, X₁, hstep₁⟩ := X.invokevirtual hx hown hlink hnamed hmethM hstM hkP hkPi hy (a := b) (cell := cellB) (by rw [hT]; exact hcB)
    (fun z h => by rw [h] at hoB; cases hoB) hselP hmethM habM hkP hkPi (g := g) hg (argsL := As) (rest := rest) (hn.trans (hlen _ hsigM)) hstack hdg
  subst hg
  have hnU : (T.setVm vm₁).methodNamed? y = some mk := X₁.named hnamed
  obtain ⟨methY, cY, hmY, hcY, -, hlY, -, -, -, -⟩ := Cond.code_spec hnU (hws _ hcw (Value.ref b :: As).toArray (T.setVm vm₁) X₁.warmed)
  obtain ⟨kY, hkY, -⟩ := className_of_methodNamed hnU
  have hinitY : kY.init = .initialized := Cond.initialized_spec (args := #[]) (findClass_of_methodNamed hnU) hkY (word_at X₁.warmed (Or.inl (by first | rfl | simp [Cond.onTables, Cond.keeps, Cond.steady])) hini)
  have h := X₁.here
  have happ : (headSpec ws rm).appliesLoose y e.platform ((T.setVm vm₁).calling { g with stack := rest } mk (Value.ref b :: As).toArray) = true :=
    Spec.appliesLoose_calling (g := { g with stack := rest }) h hdg hnU hkY hinitY
      (X₁.room_calling (g := { g with stack := rest }) (R' := (headSpec ws rm).room) (hsize.trans hml.symm) hmY hcY hfr (by rw [hlY]; show 2 * JFrame.monitorRoom { g with stack := rest } + (rest.map fun v => v.category).sum + (maxL + 11) + rm.locals ≤ R.locals; have : JFrame.monitorRoom { g with stack := rest } = g.monitorRoom := rfl; omega) (by show cells + rm.cells ≤ R.cells; rw [hrc]; exact hf.1) (by show slots + rm.slots ≤ R.slots; rw [hrs]; exact hf.2))
      (atoms_intro fun w hw => hws w hw _ _ X₁.warmed)
  obtain ⟨mid, hmid⟩ := h.above
  have hfr2 : ((T.setVm vm₁).setTop { g with stack := rest }).frames = (.java { g with stack := rest } :: mid) ++ below := by rw [State.frames_setTop' _ h.top, hmid]; rfl
  obtain ⟨o, t, hsteps, -, hend, x, rfl, hq, hWt, hsame⟩ := Steps.callFree hM p X₁.admits X₁.cas X₁.clock (acts := []) hfr2 happ (hblind _ _ _ _ (hPc (T.setVm vm₁) hT X₁.warmed)) trivial
  rw [State.frames_setTop' _ h.top, X₁.tail] at hend
  obtain ⟨T', X', hWT, hsT, htT⟩ := X₁.outOfThrown (g := { g with stack := rest }) rfl (mk := mk) (a := (Value.ref b :: As).toArray) (t := t) hend hWt hsame
  refine ⟨x, (T.setVm vm₁).calling { g with stack := rest } mk (Value.ref b :: As).toArray, t, T', hT, X', ?_, hq, ?_, ?_, fun target hrest => ?_⟩
  · rw [htT]; exact (Stand.throwing_heap T' _ x).symm
  · exact X₁.warmed.alike.symm
  · intro q hq'
    have := tx_old hsame q (by show q < T.heap.size; rw [hT]; exact hq')
    rw [show t.heap[q]? = _ from this, ← hT]; rfl
  · refine hstep₁ _ fun acts => ?_
    rw [doInvoke_state]
    exact hsteps.trans (by rw [htT]; exact hrest)
end TD
end
section
/-! The same in the walk's form. -/
theorem hm_tab {p : Program} {l : Launch} {x : MethodName} {S : Spec} {code : ByteArray} {maxLocals : Nat} {ret : Option FieldType} {e : Env} {s : State} {m : MethodId} {args : Array Value} {below : List Frame}
    {meth : Method} {c : Code} {s₁ : State} {hh : List (Nat × Nat × Nat × Nat)} (B : BodyLoose p l x S code maxLocals ret e s m args below meth c s₁) (h : (Cond.codeWith x code maxLocals ret hh).before args s = true) :
    c.exceptionTable.toList.map (fun h => (h.startPc, h.endPc, h.handlerPc, h.catchType)) = hh := by
  obtain ⟨m', meth', c', hn', hm', hc', -, -, ht', -⟩ := Cond.codeWith_spec h
  cases B.named.symm.trans hn'
  cases B.method.symm.trans hm'
  cases (Stand.of_body B).code.symm.trans hc'
  exact ht'
theorem hm_size {H H1 : Heap} (h : ∀ q : Nat, q < H.size → H1[q]? = H[q]?) : H.size ≤ H1.size := by
  apply Nat.le_of_not_lt
  intro hlt
  have := h H1.size hlt
  rw [Array.getElem?_eq_getElem hlt] at this
  simp at this
section TE
variable {p : Program} {l : Launch} {e : Env} {R : Room} {s : State} {m : MethodId} {args : Array Value} {below : List Frame} {meth : Method} {c : Code} {H : Heap} {locs : List Loc} {cells slots : Nat} {Q : State → Prop} {pc : Nat} {ls : Array Slot} {rest : List Value} {cc : ByteArray}
theorem tx_callCatch1 {bytes : ByteArray} {nL maxL n mc ms index : Nat} {ret : Option FieldType} {own C : String} {y : MethodName} {Ts ws : List Cond} {rm : Room} {Pc : Array Value → State → Prop} {Qc : Array Value → State → Addr → State → Prop} {b : Addr} {As : List Value}
    (S : CallFix p m c cc nL s args Ts own) (hM : tx_Met l y ws rm Pc Qc mc ms) (cw : CallW R s args own C index y bytes maxL ret ws rm mc ms n) (hp : PreV s H C b Pc As)
    (hn : As.length = n) (hsize : ls.size = nL) (hW : 2 * (F0 m pc ls (As.reverse ++ .ref b :: rest)).monitorRoom + (rest.map fun v => v.category).sum ≤ 8) (hdg : decode cc pc = .ok (.invokevirtual index, 3)) (hf : cells + mc ≤ R.cells ∧ slots + ms ≤ R.slots)
    {st en hd ct : Nat} {rs : List (Nat × Nat × Nat × Nat)} (htab : c.exceptionTable.toList.map (fun h => (h.startPc, h.endPc, h.handlerPc, h.catchType)) = (st, en, hd, ct) :: rs) {cls name : String} (hlink : (Cond.classLink own ct name).before args s = true) (h0 : ct ≠ 0) (h1 : st ≤ pc) (h2 : pc < en)
    (hQ : ∀ a u x t, Qc a u x t → ∃ ce : Cell, t.heap[x]? = some ce ∧ ce.vm = .none ∧ u.vm.findClass cls = some ce.cls) (hcast : (Cond.castable cls name).before args s = true)
    (kk : ∀ (x : Nat) (H1 : Heap), (∀ q : Nat, q < H.size → H1[q]? = H[q]?) → W p l e R s m args below meth c H1 locs (cells + mc) (slots + ms) Q (F0 m hd ls [.ref x])) :
    W p l e R s m args below meth c H locs cells slots Q (F0 m pc ls (As.reverse ++ .ref b :: rest)) := by
  intro T hT X
  obtain ⟨x, st₀, t, T', hs0, X', hh, hq, hal, hold, hst⟩ := tx_callV X S hM cw hp hT (g := F0 m pc ls (As.reverse ++ .ref b :: rest)) rfl hn hsize rfl hW hdg hf
  obtain ⟨ce, hce, hvm, hcl⟩ := hQ _ _ _ _ hq
  rw [List.append_nil] at X'
  obtain ⟨cA, cT, hcA, hcT, hasg⟩ := Cond.castable_spec hcast
  have hcls : s.vm.findClass cls = some ce.cls := by rw [hal.findClass]; exact hcl
  cases hcA.symm.trans hcls
  obtain ⟨vm', X'', st2⟩ := tx_catch1 X' S.2.2.2.1 htab hlink h0 (g := F0 m pc ls rest) rfl h1 h2 (by rw [hh]; exact hce) hvm hcls hcT hasg
  obtain ⟨t2, a1, b1⟩ := kk x t.heap hold (T'.setVm vm') hh X''
  exact ⟨t2, hst t2 (st2 t2 a1), b1⟩
theorem tx_callCatch2 {bytes : ByteArray} {nL maxL n mc ms index : Nat} {ret : Option FieldType} {own C : String} {y : MethodName} {Ts ws : List Cond} {rm : Room} {Pc : Array Value → State → Prop} {Qc : Array Value → State → Addr → State → Prop} {b : Addr} {As : List Value}
    (S : CallFix p m c cc nL s args Ts own) (hM : tx_Met l y ws rm Pc Qc mc ms) (cw : CallW R s args own C index y bytes maxL ret ws rm mc ms n) (hp : PreV s H C b Pc As)
    (hn : As.length = n) (hsize : ls.size = nL) (hW : 2 * (F0 m pc ls (As.reverse ++ .ref b :: rest)).monitorRoom + (rest.map fun v => v.category).sum ≤ 8) (hdg : decode cc pc = .ok (.invokevirtual index, 3)) (hf : cells + mc ≤ R.cells ∧ slots + ms ≤ R.slots)
    {st en hd ct st2 en2 hd2 ct2 : Nat} {rs : List (Nat × Nat × Nat × Nat)} (htab : c.exceptionTable.toList.map (fun h => (h.startPc, h.endPc, h.handlerPc, h.catchType)) = (st, en, hd, ct) :: (st2, en2, hd2, ct2) :: rs) {cls name name2 : String} (hlink : (Cond.classLink own ct name).before args s = true) (h0 : ct ≠ 0) (hlink2 : (Cond.classLink own ct2 name2).before args s = true) (h02 : ct2 ≠ 0) (h1 : st ≤ pc) (h2 : pc < en) (h12 : st2 ≤ pc) (h22 : pc < en2)
    (hQ : ∀ a u x t, Qc a u x t → ∃ ce : Cell, t.heap[x]? = some ce ∧ ce.vm = .none ∧ u.vm.findClass cls = some ce.cls) (hno : va_Nc cls name s) (hcast : (Cond.castable cls name2).before args s = true)
    (kk : ∀ (x : Nat) (H1 : Heap), (∀ q : Nat, q < H.size → H1[q]? = H[q]?) → W p l e R s m args below meth c H1 locs (cells + mc) (slots + ms) Q (F0 m hd2 ls [.ref x])) :
    W p l e R s m args below meth c H locs cells slots Q (F0 m pc ls (As.reverse ++ .ref b :: rest)) := by
  intro T hT X
  obtain ⟨x, st₀, t, T', hs0, X', hh, hq, hal, hold, hst⟩ := tx_callV X S hM cw hp hT (g := F0 m pc ls (As.reverse ++ .ref b :: rest)) rfl hn hsize rfl hW hdg hf
  obtain ⟨ce, hce, hvm, hcl⟩ := hQ _ _ _ _ hq
  rw [List.append_nil] at X'
  obtain ⟨cA, cT, hcA, hcT, hasg⟩ := Cond.castable_spec hcast
  have hcls : s.vm.findClass cls = some ce.cls := by rw [hal.findClass]; exact hcl
  cases hcA.symm.trans hcls
  obtain ⟨cB, cT1, hcB, hcT1, hna⟩ := hno
  cases hcB.symm.trans hcls
  obtain ⟨vm', X'', st3⟩ := tx_catch2 X' S.2.2.2.1 htab hlink h0 hlink2 h02 (g := F0 m pc ls rest) rfl h1 h2 h12 h22 (by rw [hh]; exact hce) hvm hcls hcT1 hna hcT hasg
  obtain ⟨t2, a1, b1⟩ := kk x t.heap hold (T'.setVm vm') hh X''
  exact ⟨t2, hst t2 (st3 t2 a1), b1⟩
/-- the call of a static method with handlers -/
theorem hm_runS {bytes : ByteArray} {nL maxL n mc ms index : Nat} {ret : Option FieldType} {own : String} {y : MethodName} {Ts ws : List Cond} {rm : Room} {Pc : Array Value → State → Prop} {Qc : Array Value → State → Outcome → State → Prop} {free : Addr → Prop} {As : List Value} {g : JFrame} {hh : List (Nat × Nat × Nat × Nat)}
    (S : CallFix p m c cc nL s args Ts own) (hM : Met l y ws rm Pc Qc mc ms free) (hrc : rm.cells = mc) (hrs : rm.slots = ms) (hRm : rm.frames + 1 ≤ R.frames ∧ 8 + (maxL + 11) + rm.locals ≤ R.locals) (hG : GoodIn Ts ws) (hcw : Cond.codeWith y bytes maxL ret hh ∈ ws)
    (hl : (Cond.methodLink own index y).before args s = true) (hstat : (Cond.static y).before args s = true) (hini : (Cond.initialized y.cls).before args s = true) (hy : y.cls ≠ "java/lang/invoke/MethodHandle" ∧ y.cls ≠ "java/lang/invoke/VarHandle") (hlen : (parseMethodDescriptor y.desc).map (fun d => d.parameters.length) = some n) (hp : PreS s H Pc As)
    (hg : g.method = m) (hn : As.length = n) (hsize : g.locals.size = nL) (hstack : g.stack = As.reverse ++ rest) (hW : 2 * g.monitorRoom + (rest.map fun v => v.category).sum ≤ 8) (hdg : decode cc g.pc = .ok (.invokestatic index, 3)) (hf : cells + mc ≤ R.cells ∧ slots + ms ≤ R.slots) :
    va_Run p l e R s m args below meth c H locs cells slots mc ms g rest (Qc As.toArray) (free) := by
  obtain ⟨hx, hb, hml, ho, ht⟩ := S
  have hws := pay_in ht hG
  have hK : Back l R p e below s args y 3 8 (PreOf R mc ms Pc) (PostOf Qc mc ms free) := va_backW (bytes := bytes) (maxL := maxL) (ret := ret) (hh := hh) hM hp.1 hrc hrs hRm.1 hRm.2 hws hcw (fun a' U hW => word_at hW (Or.inl (by first | rfl | simp [Cond.onTables, Cond.keeps, Cond.steady])) hini)
  intro T hT X
  obtain ⟨mk, methM, cM, hnamed, hmethM, -, -, -, -, -, -, hsigM⟩ := Cond.codeWith_spec (ht _ (hG _ hcw).1)
  have hstatic : methM.isStatic = true := Cond.static_spec hnamed hmethM hstat
  obtain ⟨kP, hkP, -⟩ := className_of_methodNamed hnamed
  have hinitP : kP.init = .initialized := Cond.initialized_spec (findClass_of_methodNamed hnamed) hkP hini
  have hlen' : As.length = methM.sig.parameters.length := by
    rw [hsigM] at hlen
    simpa [hn] using hlen.symm
  obtain ⟨vm₁, X₁, hstep₁⟩ := X.invokestatic hx ho hl hnamed hmethM hstatic hkP hinitP hy (g := g) hg (argsL := As) (rest := rest) hlen' hstack (by rw [hb]; exact hdg)
  obtain ⟨v, ⟨U', l2, c2, s2⟩, X', ⟨g', mk', t, L, e1, e2, hq, h1, hL, h2, h3⟩, hsteps⟩ := hK m meth c ⟨T.setVm vm₁, locs, cells, slots⟩ { g with stack := rest } (.invokestatic index) mk As.toArray X₁ hg (hsize.trans hml.symm) (by rw [hb]; exact hdg) hW (X₁.named hnamed) ⟨hf.1, hf.2, hp.2 (T.setVm vm₁) hT X₁.warmed⟩
  dsimp only [Pt.U, Pt.locs, Pt.cells, Pt.slots] at X' e1 e2 h1 h2 h3 hsteps
  subst h1; subst h2; subst h3
  exact ⟨v, (T.setVm vm₁).calling g' mk' As.toArray, t, U', L, hT, X', hL, e1, e2, hq, fun target h => hstep₁ _ fun acts => by rw [doInvoke_state]; exact hsteps.trans h⟩
end TE
/-- 'a reference or null' of a static, out of its world's word -/
theorem tx_isRef {C n d : String} {A : Nat → Prop} {s : State} {args : Array Value} (h : va_Zq C n d A s s.heap) : (Cond.isRef (.static C n d)).before args s = true := by
  rcases h with h | ⟨t, h⟩
  · obtain ⟨cf, kf, fi, f, a, cell, h1, h2, h3, h4, h5, h6, h7, -⟩ := h
    simp [Cond.before, Cond.holds, Cond.value, Term.eval, State.fieldNamed?, h1, h2, h4, h5, h6, h7]
  · obtain ⟨cf, kf, fi, f, a, cell, h1, h2, h3, h4, h5, h6, h7, -⟩ := h
    simp [Cond.before, Cond.holds, Cond.value, Term.eval, State.fieldNamed?, h1, h2, h4, h5, h6, h7]
end
section
/-! Small rows of my own: a computed number by its value; a new array of a known class; the words of a call. -/
section RX
variable {p : Program} {l : Launch} {e : Env} {R : Room} {s : State} {m : MethodId} {args : Array Value} {below : List Frame} {meth : Method} {c : Code} {H : Heap} {locs : List Loc} {cells slots : Nat} {Q : State → Prop} {pc : Nat} {ls : Array Slot} {rest : List Value} {cc : ByteArray}
theorem ci_i {x : Int32} (y : Int32) (h : x = y) (k : W p l e R s m args below meth c H locs cells slots Q (F0 m pc ls (.int y :: rest))) : W p l e R s m args below meth c H locs cells slots Q (F0 m pc ls (.int x :: rest)) := h ▸ k
theorem ci_l {x : Int64} (y : Int64) (h : x = y) (k : W p l e R s m args below meth c H locs cells slots Q (F0 m pc ls (.long y :: rest))) : W p l e R s m args below meth c H locs cells slots Q (F0 m pc ls (.long x :: rest)) := h ▸ k
variable {D : va_G} {cl : List vw_C} {tys : List (ClassId × FieldType)} {ws : va_W} {A : Nat → Prop} {H0 : Heap}
theorem nx_newaI (hexec : p.tables.exec = Jvm.exec) (hb : c.code = cc) (harr : (Cond.arrayClass .int).before args s = true) (hK : va_K D cl tys s) (hP : va_P D cl ws H) (hD : va_D A ws) (hS : va_S A H0 H locs) (hA : ∀ q, H0.size ≤ q → A q)
    (t0 : Nat) {cA : ClassId} (ht : tys[t0]? = some (cA, .int)) {n : Int32} {N' : Nat} (hn : ¬ n < 0) (hN : n.toNatClampNeg = N') (hbytes : N' * componentBytes .int ≤ 536870912) (hcells : cells + 1 ≤ R.cells) (hslots : slots + N' ≤ R.slots) (hdg : decode cc pc = .ok (.newarray .int, 2))
    (kk : ∀ (q : Nat) (H1 : Heap), va_P D cl (ws ++ [(q, .inl (cA, N', .inl (fun _ => 0)))]) H1 → va_D A (ws ++ [(q, .inl (cA, N', .inl (fun _ => 0)))]) → va_S A H0 H1 locs →
      W p l e R s m args below meth c H1 locs (cells + 1) (slots + N') Q (F0 m (pc + 2) ls (.ref q :: rest))) : W p l e R s m args below meth c H locs cells slots Q (F0 m pc ls (.int n :: rest)) := by
  refine va_newa (atype := .int) (ty := .int) hexec hb harr rfl hK hP hD hS hA (a0 := (N', .inl (fun _ => 0))) (fun cA => rfl) hn hN hbytes hcells hslots hdg (fun q cA' H1 hK' hP' hD' hS' => ?_)
  have e : cA' = cA := Option.some.inj (((hK'.2 tys.length (cA', .int) (by simp)).2).symm.trans (hK.2 t0 _ ht).2)
  subst e
  exact kk q H1 hP' hD' hS'
theorem nx_newaJ (hexec : p.tables.exec = Jvm.exec) (hb : c.code = cc) (harr : (Cond.arrayClass .long).before args s = true) (hK : va_K D cl tys s) (hP : va_P D cl ws H) (hD : va_D A ws) (hS : va_S A H0 H locs) (hA : ∀ q, H0.size ≤ q → A q)
    (t0 : Nat) {cA : ClassId} (ht : tys[t0]? = some (cA, .long)) {n : Int32} {N' : Nat} (hn : ¬ n < 0) (hN : n.toNatClampNeg = N') (hbytes : N' * componentBytes .long ≤ 536870912) (hcells : cells + 1 ≤ R.cells) (hslots : slots + N' ≤ R.slots) (hdg : decode cc pc = .ok (.newarray .long, 2))
    (kk : ∀ (q : Nat) (H1 : Heap), va_P D cl (ws ++ [(q, .inl (cA, N', .inr (.inl (fun _ => 0))))]) H1 → va_D A (ws ++ [(q, .inl (cA, N', .inr (.inl (fun _ => 0))))]) → va_S A H0 H1 locs →
      W p l e R s m args below meth c H1 locs (cells + 1) (slots + N') Q (F0 m (pc + 2) ls (.ref q :: rest))) : W p l e R s m args below meth c H locs cells slots Q (F0 m pc ls (.int n :: rest)) := by
  refine va_newa (atype := .long) (ty := .long) hexec hb harr rfl hK hP hD hS hA (a0 := (N', .inr (.inl (fun _ => 0)))) (fun cA => rfl) hn hN hbytes hcells hslots hdg (fun q cA' H1 hK' hP' hD' hS' => ?_)
  have e : cA' = cA := Option.some.inj (((hK'.2 tys.length (cA', .long) (by simp)).2).symm.trans (hK.2 t0 _ ht).2)
  subst e
  exact kk q H1 hP' hD' hS'
theorem nx_newaZ (hexec : p.tables.exec = Jvm.exec) (hb : c.code = cc) (harr : (Cond.arrayClass .boolean).before args s = true) (hK : va_K D cl tys s) (hP : va_P D cl ws H) (hD : va_D A ws) (hS : va_S A H0 H locs) (hA : ∀ q, H0.size ≤ q → A q)
    (t0 : Nat) {cA : ClassId} (ht : tys[t0]? = some (cA, .boolean)) {n : Int32} {N' : Nat} (hn : ¬ n < 0) (hN : n.toNatClampNeg = N') (hbytes : N' * componentBytes .boolean ≤ 536870912) (hcells : cells + 1 ≤ R.cells) (hslots : slots + N' ≤ R.slots) (hdg : decode cc pc = .ok (.newarray .boolean, 2))
    (kk : ∀ (q : Nat) (H1 : Heap), va_P D cl (ws ++ [(q, .inl (cA, N', .inl (fun _ => 0)))]) H1 → va_D A (ws ++ [(q, .inl (cA, N', .inl (fun _ => 0)))]) → va_S A H0 H1 locs →
      W p l e R s m args below meth c H1 locs (cells + 1) (slots + N') Q (F0 m (pc + 2) ls (.ref q :: rest))) : W p l e R s m args below meth c H locs cells slots Q (F0 m pc ls (.int n :: rest)) := by
  refine va_newa (atype := .boolean) (ty := .boolean) hexec hb harr rfl hK hP hD hS hA (a0 := (N', .inl (fun _ => 0))) (fun cA => rfl) hn hN hbytes hcells hslots hdg (fun q cA' H1 hK' hP' hD' hS' => ?_)
  have e : cA' = cA := Option.some.inj (((hK'.2 tys.length (cA', .boolean) (by simp)).2).symm.trans (hK.2 t0 _ ht).2)
  subst e
  exact kk q H1 hP' hD' hS'
end RX
theorem good_S {own : String} {idx : Nat} {y : MethodName} {c : Cond} (h1 : Cond.methodLink own idx y ∈ wsA) (h2 : Cond.static y ∈ wsA) (h3 : Cond.initialized y.cls ∈ wsA) (h4 : c ∈ wsA) : GoodIn wsA (va_wsS own idx y (c :: wsA)) := by
  intro w hw
  rcases List.mem_append.mp (show w ∈ [Cond.methodLink own idx y, .static y, .initialized y.cls] ++ (c :: wsA) from hw) with h | h
  · simp only [List.mem_cons, List.not_mem_nil, or_false] at h
    rcases h with rfl | rfl | rfl
    · exact ⟨h1, wA_good h1⟩
    · exact ⟨h2, wA_good h2⟩
    · exact ⟨h3, wA_good h3⟩
  · exact goodA h4 w h
theorem good_V {own C : String} {idx : Nat} {y : MethodName} {c : Cond} (h1 : Cond.methodLink own idx y ∈ wsA) (h2 : Cond.instanceMethod y ∈ wsA) (h3 : Cond.selects C y y ∈ wsA) (h5 : Cond.initialized C ∈ wsA) (h4 : c ∈ wsA) : GoodIn wsA (wsV own idx C y (c :: wsA)) := by
  intro w hw
  rcases List.mem_append.mp (show w ∈ [Cond.methodLink own idx y, .instanceMethod y, .selects C y y, .initialized C] ++ (c :: wsA) from hw) with h | h
  · simp only [List.mem_cons, List.not_mem_nil, or_false] at h
    rcases h with rfl | rfl | rfl | rfl
    · exact ⟨h1, wA_good h1⟩
    · exact ⟨h2, wA_good h2⟩
    · exact ⟨h3, wA_good h3⟩
    · exact ⟨h5, wA_good h5⟩
  · exact goodA h4 w h
end
section
/-! Int32 facts as Int facts, and back. -/
section IX
variable {x c : Int32} {k : Int}
theorem fa_lt (hk : c.toInt = k) (h : x < c) : x.toInt < k := hk ▸ Int32.lt_iff_toInt_lt.mp h
theorem fa_nlt (hk : c.toInt = k) (h : ¬ x < c) : k ≤ x.toInt := by rw [Int32.lt_iff_toInt_lt, hk] at h; omega
theorem fa_le (hk : c.toInt = k) (h : x ≤ c) : x.toInt ≤ k := hk ▸ Int32.le_iff_toInt_le.mp h
theorem fa_nle (hk : c.toInt = k) (h : ¬ x ≤ c) : k < x.toInt := by rw [Int32.le_iff_toInt_le, hk] at h; omega
theorem fa_eq (hk : c.toInt = k) (h : x = c) : x.toInt = k := by rw [h, hk]
theorem fa_ne (hk : c.toInt = k) (h : ¬ x = c) : ¬ x.toInt = k := fun e => h (Int32.toInt_inj.mp (by rw [e, hk]))
theorem fb_lt (hk : c.toInt = k) (h : c < x) : k < x.toInt := hk ▸ Int32.lt_iff_toInt_lt.mp h
theorem fb_nlt (hk : c.toInt = k) (h : ¬ c < x) : x.toInt ≤ k := by rw [Int32.lt_iff_toInt_lt, hk] at h; omega
theorem fb_le (hk : c.toInt = k) (h : c ≤ x) : k ≤ x.toInt := hk ▸ Int32.le_iff_toInt_le.mp h
theorem fb_nle (hk : c.toInt = k) (h : ¬ c ≤ x) : x.toInt < k := by rw [Int32.le_iff_toInt_le, hk] at h; omega
theorem ga_lt (hk : c.toInt = k) (h : x.toInt < k) : x < c := Int32.lt_iff_toInt_lt.mpr (by rw [hk]; exact h)
theorem ga_nlt (hk : c.toInt = k) (h : k ≤ x.toInt) : ¬ x < c := by rw [Int32.lt_iff_toInt_lt, hk]; omega
theorem ga_le (hk : c.toInt = k) (h : x.toInt ≤ k) : x ≤ c := Int32.le_iff_toInt_le.mpr (by rw [hk]; exact h)
theorem ga_nle (hk : c.toInt = k) (h : k < x.toInt) : ¬ x ≤ c := by rw [Int32.le_iff_toInt_le, hk]; omega
theorem ga_eq (hk : c.toInt = k) (h : x.toInt = k) : x = c := Int32.toInt_inj.mp (by rw [h, hk])
theorem ga_ne (hk : c.toInt = k) (h : ¬ x.toInt = k) : ¬ x = c := fun e => h (by rw [e, hk])
theorem gb_lt (hk : c.toInt = k) (h : k < x.toInt) : c < x := Int32.lt_iff_toInt_lt.mpr (by rw [hk]; exact h)
theorem gb_nlt (hk : c.toInt = k) (h : x.toInt ≤ k) : ¬ c < x := by rw [Int32.lt_iff_toInt_lt, hk]; omega
theorem gb_le (hk : c.toInt = k) (h : k ≤ x.toInt) : c ≤ x := Int32.le_iff_toInt_le.mpr (by rw [hk]; exact h)
theorem gb_nle (hk : c.toInt = k) (h : x.toInt < k) : ¬ c ≤ x := by rw [Int32.le_iff_toInt_le, hk]; omega
end IX
theorem pu_free {A : Nat → Prop} {H0 H : Heap} {locs : List Loc} (hS : va_S A H0 H locs) (hA : ∀ q, H0.size ≤ q → A q) : ∀ q, va_A [] H.size q → A q := by
  intro q h
  rcases h with ⟨k, e, h⟩ | h
  · simp at h
  · exact hA q (Nat.le_trans hS.1 h)
theorem pu_keep {D : va_G} {cl : List vw_C} {ws : va_W} {H H1 : Heap} (hP : va_P D cl ws H) (hk : ∀ q : Nat, q < H.size → ¬ va_A [] H.size q → H1[q]? = H[q]?) : va_P D cl ws H1 :=
  hP.kept fun k q hq => hk q.1 (hP k q hq).lt (by
    rintro (⟨k, e, h⟩ | h)
    · simp at h
    · exact absurd (hP _ q hq).lt (Nat.not_lt.mpr h))
theorem pu_keep2 {D : va_G} {cl : List vw_C} {ws : va_W} {H H1 : Heap} (hP : va_P D cl ws H) (hk : ∀ q : Nat, q < H.size → H1[q]? = H[q]?) : va_P D cl ws H1 :=
  hP.kept fun k q hq => hk q.1 (hP k q hq).lt
theorem pu_S {A : Nat → Prop} {H0 H H1 : Heap} {locs : List Loc} (hS : va_S A H0 H locs) (hk : ∀ q : Nat, q < H.size → H1[q]? = H[q]?) : va_S A H0 H1 locs :=
  ⟨Nat.le_trans hS.1 (hm_size hk), fun q h1 h2 => (hk q (Nat.lt_of_lt_of_le h1 hS.1)).trans (hS.2.1 q h1 h2), hS.2.2⟩
theorem pu_P {D : va_G} {cl : List vw_C} {H : Heap} : va_P D cl [] H := fun k q h => by simp at h
theorem pu_D {A : Nat → Prop} : va_D A [] := ⟨fun i j p q h => by simp at h, fun k q h => by simp at h⟩
/-- the two statics that Throwable's constructor reads -/
def ZqA (A : Nat → Prop) (U : State) (H : Heap) : Prop := va_Zq "java/lang/Throwable" "UNASSIGNED_STACK" "[Ljava/lang/StackTraceElement;" A U H ∧ va_Zq "java/lang/Throwable" "SUPPRESSED_SENTINEL" "Ljava/util/List;" A U H
theorem ZqA.moved {A : Nat → Prop} {u U : State} {H : Heap} (hvm : u.vm.Alike U.vm) (h : ZqA A u H) : ZqA A U H := ⟨va_Zq.moved hvm h.1, va_Zq.moved hvm h.2⟩
theorem ZqA.kept {A : Nat → Prop} {U : State} {H H1 : Heap} (h : ZqA A U H) (hq : ∀ a : Nat, a < H.size → ¬ A a → H1[a]? = H[a]?) : ZqA A U H1 := ⟨va_Zq.kept h.1 hq, va_Zq.kept h.2 hq⟩
theorem ZqA.narrow {A B : Nat → Prop} {U : State} {H : Heap} (h : ZqA A U H) (hAB : ∀ q, B q → A q) : ZqA B U H := ⟨va_Zq.narrow h.1 hAB, va_Zq.narrow h.2 hAB⟩
theorem nw_isM : True := trivial
end
section
/-! What 'throw new X()' asks of the state: words of the tables, two statics of Throwable. -/
def Stz (C n d : String) (A : Nat → Prop) (U : State) (H : Heap) : Prop := ∃ (c : ClassId) (k : Class) (i : Nat) (f : Field) (a : Nat) (cell : Cell) (v : Value), U.vm.findClass C = some c ∧ U.fieldFound? C n d = some (c, k, i, f) ∧ f.isStatic = true ∧ k.statics = some a ∧ H[a]? = some cell ∧ cell.vm.isStatics = true ∧ cell.cls = c ∧ f.slot < cell.slots.size ∧ k.staticTypes[f.slot]? = some f.type ∧ cell.slots[f.slot]? = some v ∧ v.isRef = true ∧ ¬ A a
theorem Stz.moved {C n d : String} {A : Nat → Prop} {u U : State} {H : Heap} (hvm : u.vm.Alike U.vm) (h : Stz C n d A u H) : Stz C n d A U H := by
  obtain ⟨c, k, i, f, a, cell, v, h1, h2, h3, h4, h5, h6, h7, h8, h9, h10⟩ := h
  obtain ⟨k', hi', he⟩ := State.fieldFound?_setVm hvm h2
  exact ⟨c, k', i, f, a, cell, v, by rw [hvm.findClass]; exact h1, hi', h3, by rw [he]; exact h4, h5, h6, h7, h8, by rw [he]; exact h9, h10⟩
theorem Stz.kept {C n d : String} {A : Nat → Prop} {U : State} {H H1 : Heap} (h : Stz C n d A U H) (hq : ∀ a : Nat, a < H.size → ¬ A a → H1[a]? = H[a]?) : Stz C n d A U H1 := by
  obtain ⟨c, k, i, f, a, cell, v, h1, h2, h3, h4, h5, h6, h7, h8, h9, h10, h11, h12⟩ := h
  exact ⟨c, k, i, f, a, cell, v, h1, h2, h3, h4, by rw [hq a (Array.getElem?_eq_some_iff.mp h5).1 h12]; exact h5, h6, h7, h8, h9, h10, h11, h12⟩
theorem Stz.narrow {C n d : String} {A B : Nat → Prop} {U : State} {H : Heap} (h : Stz C n d A U H) (hAB : ∀ q, B q → A q) : Stz C n d B U H := by
  obtain ⟨c, k, i, f, a, cell, v, h1, h2, h3, h4, h5, h6, h7, h8, h9, h10, h11, h12⟩ := h
  exact ⟨c, k, i, f, a, cell, v, h1, h2, h3, h4, h5, h6, h7, h8, h9, h10, h11, fun z => h12 (hAB a z)⟩
theorem Stz.lays {C n d : String} {A : Nat → Prop} {s : State} {args : Array Value} (h : Stz C n d A s s.heap) : (Cond.laysStatic C n d).before args s = true := by
  obtain ⟨c, k, i, f, a, cell, v, h1, h2, h3, h4, h5, h6, h7, h8, h9, -⟩ := h
  simp [Cond.before, Cond.holds, Cond.value, h1, h2, h3, h4, h5, h6, h7, h8, h9]
theorem Stz.isRef {C n d : String} {A : Nat → Prop} {s : State} {args : Array Value} (h : Stz C n d A s s.heap) : (Cond.isRef (.static C n d)).before args s = true := by
  obtain ⟨c, k, i, f, a, cell, v, h1, h2, h3, h4, h5, h6, h7, h8, h9, h10, h11, -⟩ := h
  cases v <;> simp [Value.isRef] at h11 <;> simp [Cond.before, Cond.holds, Cond.value, Term.eval, State.fieldNamed?, h2, h3, h4, h5, h6, h10]
theorem Stz.of {C n d : String} {A : Nat → Prop} {s : State} {args : Array Value} (hl : (Cond.laysStatic C n d).before args s = true) (hr : (Cond.isRef (.static C n d)).before args s = true) (hA : ∀ a : Nat, a < s.heap.size → ¬ A a) : Stz C n d A s s.heap := by
  obtain ⟨c, k, i, f, a, cell, hc, hi, hst, ha, hcell, hs, hcls, hlt, hty⟩ := Cond.laysStatic_spec hl
  obtain ⟨u, hu⟩ := Cond.staticRefV (args := args) (first := s) (o := none) (idx := []) hi hst ha hcell hs hr
  exact ⟨c, k, i, f, a, cell, u.v, hc, hi, hst, ha, hcell, hs, hcls, hlt, hty, hu, u.2, hA a (Array.getElem?_eq_some_iff.mp hcell).1⟩
def faceW (w : Cond) : Bool := w.faceAtom && w.onTables
def xsA : List Cond := lw_tbl.filter faceW
theorem xs_warm {w : Cond} (hw : w ∈ xsA) {s U : State} (hW : s.WarmedH U.vm) (h : va_Nw w s) : va_Nw w U := by
  have hf := (List.mem_filter.mp hw).2
  simp only [faceW, Bool.and_eq_true] at hf
  exact va_tabs hf.2 (rfl : (s.setVm U.vm).vm = U.vm) (Cond.faceAtom_setVm (args := #[]) hW.alike w hf.1 h)
/-- what a throw needs of the state -/
def ThA (A : Nat → Prop) (U : State) (H : Heap) : Prop := Stz "java/lang/Throwable" "UNASSIGNED_STACK" "[Ljava/lang/StackTraceElement;" A U H ∧ Stz "java/lang/Throwable" "SUPPRESSED_SENTINEL" "Ljava/util/List;" A U H ∧ (∀ w ∈ xsA, va_Nw w U) ∧ va_Nc "java/lang/IllegalStateException" "java/lang/IllegalArgumentException" U
theorem ThA.warm {A : Nat → Prop} {s U : State} {H : Heap} (hW : s.WarmedH U.vm) (h : ThA A s H) : ThA A U H := ⟨h.1.moved hW.alike, h.2.1.moved hW.alike, fun w hw => xs_warm hw hW (h.2.2.1 w hw), va_Nc.moved hW.alike h.2.2.2⟩
theorem ThA.kept {A : Nat → Prop} {U : State} {H H1 : Heap} (h : ThA A U H) (hq : ∀ a : Nat, a < H.size → ¬ A a → H1[a]? = H[a]?) : ThA A U H1 := ⟨h.1.kept hq, h.2.1.kept hq, h.2.2⟩
theorem ThA.narrow {A B : Nat → Prop} {U : State} {H : Heap} (h : ThA A U H) (hAB : ∀ q, B q → A q) : ThA B U H := ⟨h.1.narrow hAB, h.2.1.narrow hAB, h.2.2⟩
theorem ThA.same {A : Nat → Prop} {u U : State} {H : Heap} (hv : u.vm = U.vm) (h : ThA A u H) : ThA A U H := ⟨h.1.moved (by rw [hv]; exact Vm.Alike.refl _), h.2.1.moved (by rw [hv]; exact Vm.Alike.refl _), fun w hw => va_Nw.same (by have := (List.mem_filter.mp hw).2; simp only [faceW, Bool.and_eq_true] at this; exact this.2) hv (h.2.2.1 w hw), va_Nc.moved (by rw [hv]; exact Vm.Alike.refl _) h.2.2.2⟩
def own_ok (a : Cond) : Prop := a ∈ wsA ∨ a ∈ xsA ∨ a = Cond.laysStatic "java/lang/Throwable" "UNASSIGNED_STACK" "[Ljava/lang/StackTraceElement;" ∨ a = Cond.laysStatic "java/lang/Throwable" "SUPPRESSED_SENTINEL" "Ljava/util/List;" ∨ a = Cond.isRef (.static "java/lang/Throwable" "UNASSIGNED_STACK" "[Ljava/lang/StackTraceElement;") ∨ a = Cond.isRef (.static "java/lang/Throwable" "SUPPRESSED_SENTINEL" "Ljava/util/List;")
theorem own_before {a : Cond} {A : Nat → Prop} {s : State} {args : Array Value} (h : own_ok a) (ht : ∀ w ∈ wsA, w.before args s = true) (hT : ThA A s s.heap) : a.before args s = true := by
  rcases h with h | h | rfl | rfl | rfl | rfl
  · exact ht a h
  · exact va_Nw.use (by have := (List.mem_filter.mp h).2; simp only [faceW, Bool.and_eq_true] at this; exact this.2) (hT.2.2.1 a h)
  · exact hT.1.lays
  · exact hT.2.1.lays
  · exact hT.1.isRef
  · exact hT.2.1.isRef
set_option maxRecDepth 100000 in
set_option maxHeartbeats 4000000 in
theorem oa_IAE : ∀ a ∈ Bundle.ownAtoms0 "NetUnfolder" 52 "java/lang/IllegalArgumentException" ["java/lang/RuntimeException", "java/lang/Exception"], own_ok a := by unfold own_ok; decide +kernel
set_option maxRecDepth 100000 in
set_option maxHeartbeats 4000000 in
theorem oa_ISE : ∀ a ∈ Bundle.ownAtoms0 "NetUnfolder" 59 "java/lang/IllegalStateException" ["java/lang/RuntimeException", "java/lang/Exception"], own_ok a := by unfold own_ok; decide +kernel
end
