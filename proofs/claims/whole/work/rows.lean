section
-- ===== PART A: goes FIRST, ahead of the names: the tables' words, and 'selects' of the private methods out of them =====
/-- a private method of a class that the tables say can be made, by its rows of tables_1 -/
def lw_okq (q : MethodName × Nat) : Prop := (q.1.cls ≠ "java/lang/invoke/MethodHandle" ∧ q.1.cls ≠ "java/lang/invoke/VarHandle") ∧ Cond.instantiable q.1.cls q.2 ∈ tables_1 ∧ Cond.privateMethod q.1 ∈ tables_1 ∧ Cond.instanceMethod q.1 ∈ tables_1
theorem lw_p0 : lw_okq (⟨"WindowsLookedOut", "refuse", "(I)I"⟩, 11) := ⟨⟨by decide +kernel, by decide +kernel⟩, List.mem_of_getElem? (i := 20) (by decide +kernel), List.mem_of_getElem? (i := 255) (by decide +kernel), List.mem_of_getElem? (i := 256) (by decide +kernel)⟩
theorem lw_p1 : lw_okq (⟨"WindowsLookedOut", "rowTrouble", "(I)I"⟩, 11) := ⟨⟨by decide +kernel, by decide +kernel⟩, List.mem_of_getElem? (i := 20) (by decide +kernel), List.mem_of_getElem? (i := 270) (by decide +kernel), List.mem_of_getElem? (i := 271) (by decide +kernel)⟩
theorem lw_p2 : lw_okq (⟨"WindowsLookedOut$Shelf", "lowestBits", "(J)J"⟩, 3) := ⟨⟨by decide +kernel, by decide +kernel⟩, List.mem_of_getElem? (i := 194) (by decide +kernel), List.mem_of_getElem? (i := 291) (by decide +kernel), List.mem_of_getElem? (i := 292) (by decide +kernel)⟩
theorem lw_p3 : lw_okq (⟨"WindowsLookedOut", "copyTrouble", "(IIIII)I"⟩, 11) := ⟨⟨by decide +kernel, by decide +kernel⟩, List.mem_of_getElem? (i := 20) (by decide +kernel), List.mem_of_getElem? (i := 299) (by decide +kernel), List.mem_of_getElem? (i := 300) (by decide +kernel)⟩
theorem lw_p4 : lw_okq (⟨"WindowsLookedOut$Town", "openTo", "(III)I"⟩, 14) := ⟨⟨by decide +kernel, by decide +kernel⟩, List.mem_of_getElem? (i := 28) (by decide +kernel), List.mem_of_getElem? (i := 529) (by decide +kernel), List.mem_of_getElem? (i := 530) (by decide +kernel)⟩
theorem lw_p5 : lw_okq (⟨"WindowsLookedOut", "panesThatSee", "(I)I"⟩, 11) := ⟨⟨by decide +kernel, by decide +kernel⟩, List.mem_of_getElem? (i := 20) (by decide +kernel), List.mem_of_getElem? (i := 542) (by decide +kernel), List.mem_of_getElem? (i := 543) (by decide +kernel)⟩
theorem lw_p6 : lw_okq (⟨"WindowsLookedOut$Reader", "readItem", "()V"⟩, 6) := ⟨⟨by decide +kernel, by decide +kernel⟩, List.mem_of_getElem? (i := 89) (by decide +kernel), List.mem_of_getElem? (i := 577) (by decide +kernel), List.mem_of_getElem? (i := 578) (by decide +kernel)⟩
theorem lw_p7 : lw_okq (⟨"WindowsLookedOut$Reader", "letter", "()I"⟩, 6) := ⟨⟨by decide +kernel, by decide +kernel⟩, List.mem_of_getElem? (i := 89) (by decide +kernel), List.mem_of_getElem? (i := 581) (by decide +kernel), List.mem_of_getElem? (i := 582) (by decide +kernel)⟩
theorem lw_p8 : lw_okq (⟨"WindowsLookedOut$Reader", "readHouse", "()V"⟩, 6) := ⟨⟨by decide +kernel, by decide +kernel⟩, List.mem_of_getElem? (i := 89) (by decide +kernel), List.mem_of_getElem? (i := 585) (by decide +kernel), List.mem_of_getElem? (i := 586) (by decide +kernel)⟩
theorem lw_p9 : lw_okq (⟨"WindowsLookedOut$Reader", "expectWord", "(Ljava/lang/String;)V"⟩, 6) := ⟨⟨by decide +kernel, by decide +kernel⟩, List.mem_of_getElem? (i := 89) (by decide +kernel), List.mem_of_getElem? (i := 590) (by decide +kernel), List.mem_of_getElem? (i := 591) (by decide +kernel)⟩
theorem lw_p10 : lw_okq (⟨"WindowsLookedOut$Reader", "expect", "(I)V"⟩, 6) := ⟨⟨by decide +kernel, by decide +kernel⟩, List.mem_of_getElem? (i := 89) (by decide +kernel), List.mem_of_getElem? (i := 642) (by decide +kernel), List.mem_of_getElem? (i := 643) (by decide +kernel)⟩
theorem lw_p11 : lw_okq (⟨"WindowsLookedOut$Reader", "readNumber", "()I"⟩, 6) := ⟨⟨by decide +kernel, by decide +kernel⟩, List.mem_of_getElem? (i := 89) (by decide +kernel), List.mem_of_getElem? (i := 646) (by decide +kernel), List.mem_of_getElem? (i := 647) (by decide +kernel)⟩
theorem lw_p12 : lw_okq (⟨"WindowsLookedOut$Reader", "isDigit", "()Z"⟩, 6) := ⟨⟨by decide +kernel, by decide +kernel⟩, List.mem_of_getElem? (i := 89) (by decide +kernel), List.mem_of_getElem? (i := 650) (by decide +kernel), List.mem_of_getElem? (i := 651) (by decide +kernel)⟩
theorem lw_p13 : lw_okq (⟨"WindowsLookedOut$Reader", "takeDigit", "()I"⟩, 6) := ⟨⟨by decide +kernel, by decide +kernel⟩, List.mem_of_getElem? (i := 89) (by decide +kernel), List.mem_of_getElem? (i := 654) (by decide +kernel), List.mem_of_getElem? (i := 655) (by decide +kernel)⟩
theorem lw_p14 : lw_okq (⟨"WindowsLookedOut$Reader", "allow", "(Z)V"⟩, 6) := ⟨⟨by decide +kernel, by decide +kernel⟩, List.mem_of_getElem? (i := 89) (by decide +kernel), List.mem_of_getElem? (i := 660) (by decide +kernel), List.mem_of_getElem? (i := 661) (by decide +kernel)⟩
theorem lw_p15 : lw_okq (⟨"WindowsLookedOut$Reader", "readYard", "()V"⟩, 6) := ⟨⟨by decide +kernel, by decide +kernel⟩, List.mem_of_getElem? (i := 89) (by decide +kernel), List.mem_of_getElem? (i := 665) (by decide +kernel), List.mem_of_getElem? (i := 666) (by decide +kernel)⟩
def lw_privs_1 : List (MethodName × Nat) := [(⟨"WindowsLookedOut", "refuse", "(I)I"⟩, 11), (⟨"WindowsLookedOut", "rowTrouble", "(I)I"⟩, 11), (⟨"WindowsLookedOut$Shelf", "lowestBits", "(J)J"⟩, 3), (⟨"WindowsLookedOut", "copyTrouble", "(IIIII)I"⟩, 11), (⟨"WindowsLookedOut$Town", "openTo", "(III)I"⟩, 14), (⟨"WindowsLookedOut", "panesThatSee", "(I)I"⟩, 11), (⟨"WindowsLookedOut$Reader", "readItem", "()V"⟩, 6), (⟨"WindowsLookedOut$Reader", "letter", "()I"⟩, 6), (⟨"WindowsLookedOut$Reader", "readHouse", "()V"⟩, 6), (⟨"WindowsLookedOut$Reader", "expectWord", "(Ljava/lang/String;)V"⟩, 6), (⟨"WindowsLookedOut$Reader", "expect", "(I)V"⟩, 6), (⟨"WindowsLookedOut$Reader", "readNumber", "()I"⟩, 6), (⟨"WindowsLookedOut$Reader", "isDigit", "()Z"⟩, 6), (⟨"WindowsLookedOut$Reader", "takeDigit", "()I"⟩, 6), (⟨"WindowsLookedOut$Reader", "allow", "(Z)V"⟩, 6), (⟨"WindowsLookedOut$Reader", "readYard", "()V"⟩, 6)]
theorem lw_r1 : ∀ q ∈ lw_privs_1, lw_okq q := List.forall_mem_cons.mpr ⟨lw_p0, List.forall_mem_cons.mpr ⟨lw_p1, List.forall_mem_cons.mpr ⟨lw_p2, List.forall_mem_cons.mpr ⟨lw_p3, List.forall_mem_cons.mpr ⟨lw_p4, List.forall_mem_cons.mpr ⟨lw_p5, List.forall_mem_cons.mpr ⟨lw_p6, List.forall_mem_cons.mpr ⟨lw_p7, List.forall_mem_cons.mpr ⟨lw_p8, List.forall_mem_cons.mpr ⟨lw_p9, List.forall_mem_cons.mpr ⟨lw_p10, List.forall_mem_cons.mpr ⟨lw_p11, List.forall_mem_cons.mpr ⟨lw_p12, List.forall_mem_cons.mpr ⟨lw_p13, List.forall_mem_cons.mpr ⟨lw_p14, List.forall_mem_cons.mpr ⟨lw_p15, fun _ h => absurd h List.not_mem_nil⟩⟩⟩⟩⟩⟩⟩⟩⟩⟩⟩⟩⟩⟩⟩⟩
theorem lw_p16 : lw_okq (⟨"WindowsLookedOut$Reader", "readPane", "()V"⟩, 6) := ⟨⟨by decide +kernel, by decide +kernel⟩, List.mem_of_getElem? (i := 89) (by decide +kernel), List.mem_of_getElem? (i := 671) (by decide +kernel), List.mem_of_getElem? (i := 672) (by decide +kernel)⟩
theorem lw_p17 : lw_okq (⟨"WindowsLookedOut$Reader", "readWalker", "()V"⟩, 6) := ⟨⟨by decide +kernel, by decide +kernel⟩, List.mem_of_getElem? (i := 89) (by decide +kernel), List.mem_of_getElem? (i := 681) (by decide +kernel), List.mem_of_getElem? (i := 682) (by decide +kernel)⟩
theorem lw_p18 : lw_okq (⟨"WindowsLookedOut$Reader", "readReach", "()V"⟩, 6) := ⟨⟨by decide +kernel, by decide +kernel⟩, List.mem_of_getElem? (i := 89) (by decide +kernel), List.mem_of_getElem? (i := 689) (by decide +kernel), List.mem_of_getElem? (i := 690) (by decide +kernel)⟩
theorem lw_p19 : lw_okq (⟨"WindowsLookedOut", "refuseApart", "(I)I"⟩, 11) := ⟨⟨by decide +kernel, by decide +kernel⟩, List.mem_of_getElem? (i := 20) (by decide +kernel), List.mem_of_getElem? (i := 705) (by decide +kernel), List.mem_of_getElem? (i := 706) (by decide +kernel)⟩
theorem lw_p20 : lw_okq (⟨"WindowsLookedOut$Sight", "unionOf", "(I)J"⟩, 2) := ⟨⟨by decide +kernel, by decide +kernel⟩, List.mem_of_getElem? (i := 118) (by decide +kernel), List.mem_of_getElem? (i := 722) (by decide +kernel), List.mem_of_getElem? (i := 723) (by decide +kernel)⟩
theorem lw_p21 : lw_okq (⟨"WindowsLookedOut$Ways", "cheapestOpen", "()I"⟩, 2) := ⟨⟨by decide +kernel, by decide +kernel⟩, List.mem_of_getElem? (i := 159) (by decide +kernel), List.mem_of_getElem? (i := 744) (by decide +kernel), List.mem_of_getElem? (i := 745) (by decide +kernel)⟩
theorem lw_p22 : lw_okq (⟨"WindowsLookedOut$Ways", "lower", "(II)V"⟩, 2) := ⟨⟨by decide +kernel, by decide +kernel⟩, List.mem_of_getElem? (i := 159) (by decide +kernel), List.mem_of_getElem? (i := 766) (by decide +kernel), List.mem_of_getElem? (i := 767) (by decide +kernel)⟩
theorem lw_p23 : lw_okq (⟨"WindowsLookedOut", "squaresTrouble", "(I)I"⟩, 11) := ⟨⟨by decide +kernel, by decide +kernel⟩, List.mem_of_getElem? (i := 20) (by decide +kernel), List.mem_of_getElem? (i := 781) (by decide +kernel), List.mem_of_getElem? (i := 782) (by decide +kernel)⟩
theorem lw_p24 : lw_okq (⟨"WindowsLookedOut", "walkTrouble", "(IIIZ)I"⟩, 11) := ⟨⟨by decide +kernel, by decide +kernel⟩, List.mem_of_getElem? (i := 20) (by decide +kernel), List.mem_of_getElem? (i := 846) (by decide +kernel), List.mem_of_getElem? (i := 847) (by decide +kernel)⟩
theorem lw_p25 : lw_okq (⟨"WindowsLookedOut$Town", "draw", "(I)I"⟩, 14) := ⟨⟨by decide +kernel, by decide +kernel⟩, List.mem_of_getElem? (i := 28) (by decide +kernel), List.mem_of_getElem? (i := 881) (by decide +kernel), List.mem_of_getElem? (i := 882) (by decide +kernel)⟩
theorem lw_p26 : lw_okq (⟨"WindowsLookedOut$Moves", "note", "(I)V"⟩, 5) := ⟨⟨by decide +kernel, by decide +kernel⟩, List.mem_of_getElem? (i := 172) (by decide +kernel), List.mem_of_getElem? (i := 920) (by decide +kernel), List.mem_of_getElem? (i := 921) (by decide +kernel)⟩
theorem lw_p27 : lw_okq (⟨"WindowsLookedOut", "refusalsOf", "(I)I"⟩, 11) := ⟨⟨by decide +kernel, by decide +kernel⟩, List.mem_of_getElem? (i := 20) (by decide +kernel), List.mem_of_getElem? (i := 948) (by decide +kernel), List.mem_of_getElem? (i := 949) (by decide +kernel)⟩
theorem lw_p28 : lw_okq (⟨"WindowsLookedOutModel", "no", "(I)I"⟩, 33) := ⟨⟨by decide +kernel, by decide +kernel⟩, List.mem_of_getElem? (i := 952) (by decide +kernel), List.mem_of_getElem? (i := 1066) (by decide +kernel), List.mem_of_getElem? (i := 1067) (by decide +kernel)⟩
theorem lw_p29 : lw_okq (⟨"WindowsLookedOutModel", "noRow", "(I)I"⟩, 33) := ⟨⟨by decide +kernel, by decide +kernel⟩, List.mem_of_getElem? (i := 952) (by decide +kernel), List.mem_of_getElem? (i := 1074) (by decide +kernel), List.mem_of_getElem? (i := 1075) (by decide +kernel)⟩
theorem lw_p30 : lw_okq (⟨"WindowsLookedOutModel", "isRow", "(I)Z"⟩, 33) := ⟨⟨by decide +kernel, by decide +kernel⟩, List.mem_of_getElem? (i := 952) (by decide +kernel), List.mem_of_getElem? (i := 1078) (by decide +kernel), List.mem_of_getElem? (i := 1079) (by decide +kernel)⟩
theorem lw_p31 : lw_okq (⟨"WindowsLookedOutModel", "isPane", "(I)Z"⟩, 33) := ⟨⟨by decide +kernel, by decide +kernel⟩, List.mem_of_getElem? (i := 952) (by decide +kernel), List.mem_of_getElem? (i := 1094) (by decide +kernel), List.mem_of_getElem? (i := 1095) (by decide +kernel)⟩
def lw_privs_2 : List (MethodName × Nat) := [(⟨"WindowsLookedOut$Reader", "readPane", "()V"⟩, 6), (⟨"WindowsLookedOut$Reader", "readWalker", "()V"⟩, 6), (⟨"WindowsLookedOut$Reader", "readReach", "()V"⟩, 6), (⟨"WindowsLookedOut", "refuseApart", "(I)I"⟩, 11), (⟨"WindowsLookedOut$Sight", "unionOf", "(I)J"⟩, 2), (⟨"WindowsLookedOut$Ways", "cheapestOpen", "()I"⟩, 2), (⟨"WindowsLookedOut$Ways", "lower", "(II)V"⟩, 2), (⟨"WindowsLookedOut", "squaresTrouble", "(I)I"⟩, 11), (⟨"WindowsLookedOut", "walkTrouble", "(IIIZ)I"⟩, 11), (⟨"WindowsLookedOut$Town", "draw", "(I)I"⟩, 14), (⟨"WindowsLookedOut$Moves", "note", "(I)V"⟩, 5), (⟨"WindowsLookedOut", "refusalsOf", "(I)I"⟩, 11), (⟨"WindowsLookedOutModel", "no", "(I)I"⟩, 33), (⟨"WindowsLookedOutModel", "noRow", "(I)I"⟩, 33), (⟨"WindowsLookedOutModel", "isRow", "(I)Z"⟩, 33), (⟨"WindowsLookedOutModel", "isPane", "(I)Z"⟩, 33)]
theorem lw_r2 : ∀ q ∈ lw_privs_2, lw_okq q := List.forall_mem_cons.mpr ⟨lw_p16, List.forall_mem_cons.mpr ⟨lw_p17, List.forall_mem_cons.mpr ⟨lw_p18, List.forall_mem_cons.mpr ⟨lw_p19, List.forall_mem_cons.mpr ⟨lw_p20, List.forall_mem_cons.mpr ⟨lw_p21, List.forall_mem_cons.mpr ⟨lw_p22, List.forall_mem_cons.mpr ⟨lw_p23, List.forall_mem_cons.mpr ⟨lw_p24, List.forall_mem_cons.mpr ⟨lw_p25, List.forall_mem_cons.mpr ⟨lw_p26, List.forall_mem_cons.mpr ⟨lw_p27, List.forall_mem_cons.mpr ⟨lw_p28, List.forall_mem_cons.mpr ⟨lw_p29, List.forall_mem_cons.mpr ⟨lw_p30, List.forall_mem_cons.mpr ⟨lw_p31, fun _ h => absurd h List.not_mem_nil⟩⟩⟩⟩⟩⟩⟩⟩⟩⟩⟩⟩⟩⟩⟩⟩
theorem lw_p32 : lw_okq (⟨"WindowsLookedOutModel", "sees", "(I)J"⟩, 33) := ⟨⟨by decide +kernel, by decide +kernel⟩, List.mem_of_getElem? (i := 952) (by decide +kernel), List.mem_of_getElem? (i := 1112) (by decide +kernel), List.mem_of_getElem? (i := 1113) (by decide +kernel)⟩
theorem lw_p33 : lw_okq (⟨"WindowsLookedOutModel", "line", "(IIIZ)J"⟩, 33) := ⟨⟨by decide +kernel, by decide +kernel⟩, List.mem_of_getElem? (i := 952) (by decide +kernel), List.mem_of_getElem? (i := 1116) (by decide +kernel), List.mem_of_getElem? (i := 1117) (by decide +kernel)⟩
theorem lw_p34 : lw_okq (⟨"WindowsLookedOutModel", "bit", "(I)J"⟩, 33) := ⟨⟨by decide +kernel, by decide +kernel⟩, List.mem_of_getElem? (i := 952) (by decide +kernel), List.mem_of_getElem? (i := 1123) (by decide +kernel), List.mem_of_getElem? (i := 1124) (by decide +kernel)⟩
theorem lw_p35 : lw_okq (⟨"WindowsLookedOutModel", "isOpen", "(I)Z"⟩, 33) := ⟨⟨by decide +kernel, by decide +kernel⟩, List.mem_of_getElem? (i := 952) (by decide +kernel), List.mem_of_getElem? (i := 1127) (by decide +kernel), List.mem_of_getElem? (i := 1128) (by decide +kernel)⟩
theorem lw_p36 : lw_okq (⟨"WindowsLookedOutModel", "mayBecome", "(IZ)Z"⟩, 33) := ⟨⟨by decide +kernel, by decide +kernel⟩, List.mem_of_getElem? (i := 952) (by decide +kernel), List.mem_of_getElem? (i := 1139) (by decide +kernel), List.mem_of_getElem? (i := 1140) (by decide +kernel)⟩
theorem lw_p37 : lw_okq (⟨"WindowsLookedOutModel", "isStood", "(I)Z"⟩, 33) := ⟨⟨by decide +kernel, by decide +kernel⟩, List.mem_of_getElem? (i := 952) (by decide +kernel), List.mem_of_getElem? (i := 1143) (by decide +kernel), List.mem_of_getElem? (i := 1144) (by decide +kernel)⟩
theorem lw_p38 : lw_okq (⟨"WindowsLookedOutModel", "isPaned", "(I)Z"⟩, 33) := ⟨⟨by decide +kernel, by decide +kernel⟩, List.mem_of_getElem? (i := 952) (by decide +kernel), List.mem_of_getElem? (i := 1147) (by decide +kernel), List.mem_of_getElem? (i := 1148) (by decide +kernel)⟩
theorem lw_p39 : lw_okq (⟨"WindowsLookedOutModel", "isHouse", "(I)Z"⟩, 33) := ⟨⟨by decide +kernel, by decide +kernel⟩, List.mem_of_getElem? (i := 952) (by decide +kernel), List.mem_of_getElem? (i := 1155) (by decide +kernel), List.mem_of_getElem? (i := 1156) (by decide +kernel)⟩
theorem lw_p40 : lw_okq (⟨"WindowsLookedOutModel", "newPane", "(IIII)I"⟩, 33) := ⟨⟨by decide +kernel, by decide +kernel⟩, List.mem_of_getElem? (i := 952) (by decide +kernel), List.mem_of_getElem? (i := 1162) (by decide +kernel), List.mem_of_getElem? (i := 1163) (by decide +kernel)⟩
theorem lw_p41 : lw_okq (⟨"WindowsLookedOutModel", "newWalker", "(II)I"⟩, 33) := ⟨⟨by decide +kernel, by decide +kernel⟩, List.mem_of_getElem? (i := 952) (by decide +kernel), List.mem_of_getElem? (i := 1170) (by decide +kernel), List.mem_of_getElem? (i := 1171) (by decide +kernel)⟩
theorem lw_p42 : lw_okq (⟨"WindowsLookedOutModel", "isWalker", "(I)Z"⟩, 33) := ⟨⟨by decide +kernel, by decide +kernel⟩, List.mem_of_getElem? (i := 952) (by decide +kernel), List.mem_of_getElem? (i := 1178) (by decide +kernel), List.mem_of_getElem? (i := 1179) (by decide +kernel)⟩
theorem lw_p43 : lw_okq (⟨"WindowsLookedOutModel", "inSight", "(J)I"⟩, 33) := ⟨⟨by decide +kernel, by decide +kernel⟩, List.mem_of_getElem? (i := 952) (by decide +kernel), List.mem_of_getElem? (i := 1190) (by decide +kernel), List.mem_of_getElem? (i := 1191) (by decide +kernel)⟩
theorem lw_p44 : lw_okq (⟨"WindowsLookedOutModel", "shame", "(II)I"⟩, 33) := ⟨⟨by decide +kernel, by decide +kernel⟩, List.mem_of_getElem? (i := 952) (by decide +kernel), List.mem_of_getElem? (i := 1198) (by decide +kernel), List.mem_of_getElem? (i := 1199) (by decide +kernel)⟩
theorem lw_p45 : lw_okq (⟨"WindowsLookedOutModel", "looksIn", "(II)I"⟩, 33) := ⟨⟨by decide +kernel, by decide +kernel⟩, List.mem_of_getElem? (i := 952) (by decide +kernel), List.mem_of_getElem? (i := 1202) (by decide +kernel), List.mem_of_getElem? (i := 1203) (by decide +kernel)⟩
theorem lw_p46 : lw_okq (⟨"WindowsLookedOutModel", "seenBy", "(I)I"⟩, 33) := ⟨⟨by decide +kernel, by decide +kernel⟩, List.mem_of_getElem? (i := 952) (by decide +kernel), List.mem_of_getElem? (i := 1207) (by decide +kernel), List.mem_of_getElem? (i := 1208) (by decide +kernel)⟩
theorem lw_p47 : lw_okq (⟨"WindowsLookedOutModel", "keep", "([I)V"⟩, 33) := ⟨⟨by decide +kernel, by decide +kernel⟩, List.mem_of_getElem? (i := 952) (by decide +kernel), List.mem_of_getElem? (i := 1215) (by decide +kernel), List.mem_of_getElem? (i := 1216) (by decide +kernel)⟩
def lw_privs_3 : List (MethodName × Nat) := [(⟨"WindowsLookedOutModel", "sees", "(I)J"⟩, 33), (⟨"WindowsLookedOutModel", "line", "(IIIZ)J"⟩, 33), (⟨"WindowsLookedOutModel", "bit", "(I)J"⟩, 33), (⟨"WindowsLookedOutModel", "isOpen", "(I)Z"⟩, 33), (⟨"WindowsLookedOutModel", "mayBecome", "(IZ)Z"⟩, 33), (⟨"WindowsLookedOutModel", "isStood", "(I)Z"⟩, 33), (⟨"WindowsLookedOutModel", "isPaned", "(I)Z"⟩, 33), (⟨"WindowsLookedOutModel", "isHouse", "(I)Z"⟩, 33), (⟨"WindowsLookedOutModel", "newPane", "(IIII)I"⟩, 33), (⟨"WindowsLookedOutModel", "newWalker", "(II)I"⟩, 33), (⟨"WindowsLookedOutModel", "isWalker", "(I)Z"⟩, 33), (⟨"WindowsLookedOutModel", "inSight", "(J)I"⟩, 33), (⟨"WindowsLookedOutModel", "shame", "(II)I"⟩, 33), (⟨"WindowsLookedOutModel", "looksIn", "(II)I"⟩, 33), (⟨"WindowsLookedOutModel", "seenBy", "(I)I"⟩, 33), (⟨"WindowsLookedOutModel", "keep", "([I)V"⟩, 33)]
theorem lw_r3 : ∀ q ∈ lw_privs_3, lw_okq q := List.forall_mem_cons.mpr ⟨lw_p32, List.forall_mem_cons.mpr ⟨lw_p33, List.forall_mem_cons.mpr ⟨lw_p34, List.forall_mem_cons.mpr ⟨lw_p35, List.forall_mem_cons.mpr ⟨lw_p36, List.forall_mem_cons.mpr ⟨lw_p37, List.forall_mem_cons.mpr ⟨lw_p38, List.forall_mem_cons.mpr ⟨lw_p39, List.forall_mem_cons.mpr ⟨lw_p40, List.forall_mem_cons.mpr ⟨lw_p41, List.forall_mem_cons.mpr ⟨lw_p42, List.forall_mem_cons.mpr ⟨lw_p43, List.forall_mem_cons.mpr ⟨lw_p44, List.forall_mem_cons.mpr ⟨lw_p45, List.forall_mem_cons.mpr ⟨lw_p46, List.forall_mem_cons.mpr ⟨lw_p47, fun _ h => absurd h List.not_mem_nil⟩⟩⟩⟩⟩⟩⟩⟩⟩⟩⟩⟩⟩⟩⟩⟩
theorem lw_p48 : lw_okq (⟨"WindowsLookedOutModel", "item", "()Z"⟩, 33) := ⟨⟨by decide +kernel, by decide +kernel⟩, List.mem_of_getElem? (i := 952) (by decide +kernel), List.mem_of_getElem? (i := 1219) (by decide +kernel), List.mem_of_getElem? (i := 1220) (by decide +kernel)⟩
theorem lw_p49 : lw_okq (⟨"WindowsLookedOutModel", "sign", "()I"⟩, 33) := ⟨⟨by decide +kernel, by decide +kernel⟩, List.mem_of_getElem? (i := 952) (by decide +kernel), List.mem_of_getElem? (i := 1223) (by decide +kernel), List.mem_of_getElem? (i := 1224) (by decide +kernel)⟩
theorem lw_p50 : lw_okq (⟨"WindowsLookedOutModel", "word", "(Ljava/lang/String;)Z"⟩, 33) := ⟨⟨by decide +kernel, by decide +kernel⟩, List.mem_of_getElem? (i := 952) (by decide +kernel), List.mem_of_getElem? (i := 1228) (by decide +kernel), List.mem_of_getElem? (i := 1229) (by decide +kernel)⟩
theorem lw_p51 : lw_okq (⟨"WindowsLookedOutModel", "is", "(C)Z"⟩, 33) := ⟨⟨by decide +kernel, by decide +kernel⟩, List.mem_of_getElem? (i := 952) (by decide +kernel), List.mem_of_getElem? (i := 1234) (by decide +kernel), List.mem_of_getElem? (i := 1235) (by decide +kernel)⟩
theorem lw_p52 : lw_okq (⟨"WindowsLookedOutModel", "number", "(III)Z"⟩, 33) := ⟨⟨by decide +kernel, by decide +kernel⟩, List.mem_of_getElem? (i := 952) (by decide +kernel), List.mem_of_getElem? (i := 1238) (by decide +kernel), List.mem_of_getElem? (i := 1239) (by decide +kernel)⟩
theorem lw_p53 : lw_okq (⟨"WindowsLookedOutModel", "may", "(ZI)Z"⟩, 33) := ⟨⟨by decide +kernel, by decide +kernel⟩, List.mem_of_getElem? (i := 952) (by decide +kernel), List.mem_of_getElem? (i := 1242) (by decide +kernel), List.mem_of_getElem? (i := 1243) (by decide +kernel)⟩
theorem lw_p54 : lw_okq (⟨"WindowsLookedOutModel", "word", "(Ljava/lang/String;Z)Z"⟩, 33) := ⟨⟨by decide +kernel, by decide +kernel⟩, List.mem_of_getElem? (i := 952) (by decide +kernel), List.mem_of_getElem? (i := 1248) (by decide +kernel), List.mem_of_getElem? (i := 1249) (by decide +kernel)⟩
theorem lw_p55 : lw_okq (⟨"WindowsLookedOutModel", "again", "([I)V"⟩, 33) := ⟨⟨by decide +kernel, by decide +kernel⟩, List.mem_of_getElem? (i := 952) (by decide +kernel), List.mem_of_getElem? (i := 1254) (by decide +kernel), List.mem_of_getElem? (i := 1255) (by decide +kernel)⟩
theorem lw_p56 : lw_okq (⟨"WindowsLookedOutModel", "no10", "(I)I"⟩, 33) := ⟨⟨by decide +kernel, by decide +kernel⟩, List.mem_of_getElem? (i := 952) (by decide +kernel), List.mem_of_getElem? (i := 1266) (by decide +kernel), List.mem_of_getElem? (i := 1267) (by decide +kernel)⟩
theorem lw_p57 : lw_okq (⟨"WindowsLookedOutModel", "allSeen", "()J"⟩, 33) := ⟨⟨by decide +kernel, by decide +kernel⟩, List.mem_of_getElem? (i := 952) (by decide +kernel), List.mem_of_getElem? (i := 1278) (by decide +kernel), List.mem_of_getElem? (i := 1279) (by decide +kernel)⟩
theorem lw_p58 : lw_okq (⟨"WindowsLookedOutModel", "leads", "(I)V"⟩, 33) := ⟨⟨by decide +kernel, by decide +kernel⟩, List.mem_of_getElem? (i := 952) (by decide +kernel), List.mem_of_getElem? (i := 1290) (by decide +kernel), List.mem_of_getElem? (i := 1291) (by decide +kernel)⟩
theorem lw_p59 : lw_okq (⟨"WindowsLookedOutModel", "spreads", "(I[I)V"⟩, 33) := ⟨⟨by decide +kernel, by decide +kernel⟩, List.mem_of_getElem? (i := 952) (by decide +kernel), List.mem_of_getElem? (i := 1299) (by decide +kernel), List.mem_of_getElem? (i := 1300) (by decide +kernel)⟩
theorem lw_p60 : lw_okq (⟨"WindowsLookedOutModel", "noSquares", "(I)I"⟩, 33) := ⟨⟨by decide +kernel, by decide +kernel⟩, List.mem_of_getElem? (i := 952) (by decide +kernel), List.mem_of_getElem? (i := 1307) (by decide +kernel), List.mem_of_getElem? (i := 1308) (by decide +kernel)⟩
theorem lw_p61 : lw_okq (⟨"WindowsLookedOutModel", "toldAt", "(II)I"⟩, 33) := ⟨⟨by decide +kernel, by decide +kernel⟩, List.mem_of_getElem? (i := 952) (by decide +kernel), List.mem_of_getElem? (i := 1311) (by decide +kernel), List.mem_of_getElem? (i := 1312) (by decide +kernel)⟩
theorem lw_p62 : lw_okq (⟨"WindowsLookedOutModel", "noWalk", "(III)I"⟩, 33) := ⟨⟨by decide +kernel, by decide +kernel⟩, List.mem_of_getElem? (i := 952) (by decide +kernel), List.mem_of_getElem? (i := 1341) (by decide +kernel), List.mem_of_getElem? (i := 1342) (by decide +kernel)⟩
theorem lw_p63 : lw_okq (⟨"WindowsLookedOutModel", "walks", "(III)I"⟩, 33) := ⟨⟨by decide +kernel, by decide +kernel⟩, List.mem_of_getElem? (i := 952) (by decide +kernel), List.mem_of_getElem? (i := 1345) (by decide +kernel), List.mem_of_getElem? (i := 1346) (by decide +kernel)⟩
def lw_privs_4 : List (MethodName × Nat) := [(⟨"WindowsLookedOutModel", "item", "()Z"⟩, 33), (⟨"WindowsLookedOutModel", "sign", "()I"⟩, 33), (⟨"WindowsLookedOutModel", "word", "(Ljava/lang/String;)Z"⟩, 33), (⟨"WindowsLookedOutModel", "is", "(C)Z"⟩, 33), (⟨"WindowsLookedOutModel", "number", "(III)Z"⟩, 33), (⟨"WindowsLookedOutModel", "may", "(ZI)Z"⟩, 33), (⟨"WindowsLookedOutModel", "word", "(Ljava/lang/String;Z)Z"⟩, 33), (⟨"WindowsLookedOutModel", "again", "([I)V"⟩, 33), (⟨"WindowsLookedOutModel", "no10", "(I)I"⟩, 33), (⟨"WindowsLookedOutModel", "allSeen", "()J"⟩, 33), (⟨"WindowsLookedOutModel", "leads", "(I)V"⟩, 33), (⟨"WindowsLookedOutModel", "spreads", "(I[I)V"⟩, 33), (⟨"WindowsLookedOutModel", "noSquares", "(I)I"⟩, 33), (⟨"WindowsLookedOutModel", "toldAt", "(II)I"⟩, 33), (⟨"WindowsLookedOutModel", "noWalk", "(III)I"⟩, 33), (⟨"WindowsLookedOutModel", "walks", "(III)I"⟩, 33)]
theorem lw_r4 : ∀ q ∈ lw_privs_4, lw_okq q := List.forall_mem_cons.mpr ⟨lw_p48, List.forall_mem_cons.mpr ⟨lw_p49, List.forall_mem_cons.mpr ⟨lw_p50, List.forall_mem_cons.mpr ⟨lw_p51, List.forall_mem_cons.mpr ⟨lw_p52, List.forall_mem_cons.mpr ⟨lw_p53, List.forall_mem_cons.mpr ⟨lw_p54, List.forall_mem_cons.mpr ⟨lw_p55, List.forall_mem_cons.mpr ⟨lw_p56, List.forall_mem_cons.mpr ⟨lw_p57, List.forall_mem_cons.mpr ⟨lw_p58, List.forall_mem_cons.mpr ⟨lw_p59, List.forall_mem_cons.mpr ⟨lw_p60, List.forall_mem_cons.mpr ⟨lw_p61, List.forall_mem_cons.mpr ⟨lw_p62, List.forall_mem_cons.mpr ⟨lw_p63, fun _ h => absurd h List.not_mem_nil⟩⟩⟩⟩⟩⟩⟩⟩⟩⟩⟩⟩⟩⟩⟩⟩
theorem lw_p64 : lw_okq (⟨"WindowsLookedOutModel", "goesDay", "()V"⟩, 33) := ⟨⟨by decide +kernel, by decide +kernel⟩, List.mem_of_getElem? (i := 952) (by decide +kernel), List.mem_of_getElem? (i := 1361) (by decide +kernel), List.mem_of_getElem? (i := 1362) (by decide +kernel)⟩
theorem lw_p65 : lw_okq (⟨"WindowsLookedOutModel", "draw", "(I)I"⟩, 33) := ⟨⟨by decide +kernel, by decide +kernel⟩, List.mem_of_getElem? (i := 952) (by decide +kernel), List.mem_of_getElem? (i := 1365) (by decide +kernel), List.mem_of_getElem? (i := 1366) (by decide +kernel)⟩
theorem lw_p66 : lw_okq (⟨"WindowsLookedOutModel", "opensBy", "(III)I"⟩, 33) := ⟨⟨by decide +kernel, by decide +kernel⟩, List.mem_of_getElem? (i := 952) (by decide +kernel), List.mem_of_getElem? (i := 1378) (by decide +kernel), List.mem_of_getElem? (i := 1379) (by decide +kernel)⟩
theorem lw_p67 : lw_okq (⟨"WindowsLookedOutModel", "ran", "(I)V"⟩, 33) := ⟨⟨by decide +kernel, by decide +kernel⟩, List.mem_of_getElem? (i := 952) (by decide +kernel), List.mem_of_getElem? (i := 1382) (by decide +kernel), List.mem_of_getElem? (i := 1383) (by decide +kernel)⟩
theorem lw_p68 : lw_okq (⟨"WindowsLookedOutModel", "shutsBy", "(III)I"⟩, 33) := ⟨⟨by decide +kernel, by decide +kernel⟩, List.mem_of_getElem? (i := 952) (by decide +kernel), List.mem_of_getElem? (i := 1386) (by decide +kernel), List.mem_of_getElem? (i := 1387) (by decide +kernel)⟩
theorem lw_p69 : lw_okq (⟨"WindowsLookedOutModel", "shinesBy", "(III)I"⟩, 33) := ⟨⟨by decide +kernel, by decide +kernel⟩, List.mem_of_getElem? (i := 952) (by decide +kernel), List.mem_of_getElem? (i := 1390) (by decide +kernel), List.mem_of_getElem? (i := 1391) (by decide +kernel)⟩
def lw_privs_5 : List (MethodName × Nat) := [(⟨"WindowsLookedOutModel", "goesDay", "()V"⟩, 33), (⟨"WindowsLookedOutModel", "draw", "(I)I"⟩, 33), (⟨"WindowsLookedOutModel", "opensBy", "(III)I"⟩, 33), (⟨"WindowsLookedOutModel", "ran", "(I)V"⟩, 33), (⟨"WindowsLookedOutModel", "shutsBy", "(III)I"⟩, 33), (⟨"WindowsLookedOutModel", "shinesBy", "(III)I"⟩, 33)]
theorem lw_r5 : ∀ q ∈ lw_privs_5, lw_okq q := List.forall_mem_cons.mpr ⟨lw_p64, List.forall_mem_cons.mpr ⟨lw_p65, List.forall_mem_cons.mpr ⟨lw_p66, List.forall_mem_cons.mpr ⟨lw_p67, List.forall_mem_cons.mpr ⟨lw_p68, List.forall_mem_cons.mpr ⟨lw_p69, fun _ h => absurd h List.not_mem_nil⟩⟩⟩⟩⟩⟩
def lw_privs : List (MethodName × Nat) := lw_privs_1 ++ (lw_privs_2 ++ (lw_privs_3 ++ (lw_privs_4 ++ (lw_privs_5))))
def lw_tbl : List Cond := k2_sels lw_privs ++ tables_1
theorem lw_privs_ok : ∀ q ∈ lw_privs, lw_okq q := by
  show ∀ q ∈ lw_privs_1 ++ (lw_privs_2 ++ (lw_privs_3 ++ (lw_privs_4 ++ (lw_privs_5)))), lw_okq q
  exact List.forall_mem_append.mpr ⟨lw_r1, List.forall_mem_append.mpr ⟨lw_r2, List.forall_mem_append.mpr ⟨lw_r3, List.forall_mem_append.mpr ⟨lw_r4, lw_r5⟩⟩⟩⟩

def RX0 : String := "WindowsLookedOut$Grid"
def TX0 : u_T := fun k => match k with
  | _ => ("", "", "", false)
def tyX0 : Nat → FieldType := fun k => match k with
  | _ => .int
abbrev wsX00 : List Cond := u_ws RX0 TX0 0
theorem nmX0 : ∀ a, a < 0 → ∀ b, b < 0 → a ≠ b → (TX0 a).2.1 ≠ (TX0 b).2.1 := by decide +kernel
theorem tyX0_ok : ∀ k, k < 0 → parseFieldDescriptor (TX0 k).2.2.1 = some (tyX0 k) := by decide +kernel
abbrev cX0_isSquare : ByteArray := prog_2_method_2_code
def yX0_isSquare : MethodName := ⟨RX0, "isSquare", "(I)Z"⟩
abbrev cX0_isWay : ByteArray := prog_2_method_3_code
def yX0_isWay : MethodName := ⟨RX0, "isWay", "(I)Z"⟩
abbrev cX0_opposite : ByteArray := prog_2_method_4_code
def yX0_opposite : MethodName := ⟨RX0, "opposite", "(I)I"⟩
abbrev cX0_has : ByteArray := prog_2_method_5_code
def yX0_has : MethodName := ⟨RX0, "has", "(JI)Z"⟩
abbrev cX0_with : ByteArray := prog_2_method_6_code
def yX0_with : MethodName := ⟨RX0, "with", "(JI)J"⟩
abbrev cX0_without : ByteArray := prog_2_method_7_code
def yX0_without : MethodName := ⟨RX0, "without", "(JI)J"⟩
abbrev cX0_beside : ByteArray := prog_2_method_8_code
def yX0_beside : MethodName := ⟨RX0, "beside", "(II)I"⟩
abbrev cX0_line : ByteArray := prog_2_method_9_code
def yX0_line : MethodName := ⟨RX0, "line", "(JIII)J"⟩
abbrev cX0_wideLine : ByteArray := prog_2_method_10_code
def yX0_wideLine : MethodName := ⟨RX0, "wideLine", "(JIII)J"⟩
abbrev cX0_across : ByteArray := prog_2_method_11_code
def yX0_across : MethodName := ⟨RX0, "across", "(JII)J"⟩
def RX1 : String := "WindowsLookedOut$Moves"
def TX1 : u_T := fun k => match k with
  | 0 => ("WindowsLookedOut$Moves", "ran", "I", false)
  | 1 => ("WindowsLookedOut$Moves", "bodies", "[I", true)
  | 2 => ("WindowsLookedOut$Moves", "number", "I", false)
  | 3 => ("WindowsLookedOut$Moves", "kind", "I", false)
  | _ => ("WindowsLookedOut$Moves", "a", "I", false)
def tyX1 : Nat → FieldType := fun k => match k with
  | 0 => .int
  | 1 => .array .int
  | 2 => .int
  | 3 => .int
  | _ => .int
abbrev wsX10 : List Cond := u_ws RX1 TX1 5
theorem nmX1 : ∀ a, a < 5 → ∀ b, b < 5 → a ≠ b → (TX1 a).2.1 ≠ (TX1 b).2.1 := by decide +kernel
theorem tyX1_ok : ∀ k, k < 5 → parseFieldDescriptor (TX1 k).2.2.1 = some (tyX1 k) := by decide +kernel
abbrev cX1_init : ByteArray := prog_3_method_1_code
def yX1_init : MethodName := ⟨RX1, "<init>", "()V"⟩
abbrev cX1_isMove : ByteArray := prog_3_method_2_code
def yX1_isMove : MethodName := ⟨RX1, "isMove", "(I)Z"⟩
abbrev cX1_forget : ByteArray := prog_3_method_3_code
def yX1_forget : MethodName := ⟨RX1, "forget", "()V"⟩
abbrev cX1_bodyAt : ByteArray := prog_3_method_4_code
def yX1_bodyAt : MethodName := ⟨RX1, "bodyAt", "(I)I"⟩
abbrev cX1_make : ByteArray := prog_3_method_5_code
def yX1_make : MethodName := ⟨RX1, "make", "(IIIII)I"⟩
abbrev cX1_run : ByteArray := prog_3_method_6_code
def yX1_run : MethodName := ⟨RX1, "run", "(LWindowsLookedOut$Moves;IIII)I"⟩
abbrev cX1_bodyOf : ByteArray := prog_3_method_7_code
def yX1_bodyOf : MethodName := ⟨RX1, "bodyOf", "(II)I"⟩
abbrev cX1_note : ByteArray := prog_3_method_8_code
def yX1_note : MethodName := ⟨RX1, "note", "(I)V"⟩
def RX2 : String := "WindowsLookedOut$Reader"
def TX2 : u_T := fun k => match k with
  | 0 => ("WindowsLookedOut$Reader", "draft", "LWindowsLookedOut$Town;", true)
  | 1 => ("WindowsLookedOut$Reader", "fault", "I", false)
  | 2 => ("WindowsLookedOut$Reader", "letters", "[I", true)
  | 3 => ("WindowsLookedOut$Reader", "size", "I", false)
  | 4 => ("WindowsLookedOut$Reader", "place", "I", false)
  | _ => ("WindowsLookedOut$Reader", "numberPlace", "I", false)
def tyX2 : Nat → FieldType := fun k => match k with
  | 0 => .object "WindowsLookedOut$Town"
  | 1 => .int
  | 2 => .array .int
  | 3 => .int
  | 4 => .int
  | _ => .int
abbrev wsX20 : List Cond := u_ws RX2 TX2 6
theorem nmX2 : ∀ a, a < 6 → ∀ b, b < 6 → a ≠ b → (TX2 a).2.1 ≠ (TX2 b).2.1 := by decide +kernel
theorem tyX2_ok : ∀ k, k < 6 → parseFieldDescriptor (TX2 k).2.2.1 = some (tyX2 k) := by decide +kernel
abbrev cX2_init : ByteArray := prog_4_method_1_code
def yX2_init : MethodName := ⟨RX2, "<init>", "()V"⟩
abbrev cX2_readOver : ByteArray := prog_4_method_2_code
def yX2_readOver : MethodName := ⟨RX2, "readOver", "(LWindowsLookedOut$Town;LWindowsLookedOut$Shelf;)I"⟩
abbrev cX2_readItem : ByteArray := prog_4_method_3_code
def yX2_readItem : MethodName := ⟨RX2, "readItem", "()V"⟩
abbrev cX2_readHouse : ByteArray := prog_4_method_4_code
def yX2_readHouse : MethodName := ⟨RX2, "readHouse", "()V"⟩
abbrev cX2_readYard : ByteArray := prog_4_method_5_code
def yX2_readYard : MethodName := ⟨RX2, "readYard", "()V"⟩
abbrev cX2_readPane : ByteArray := prog_4_method_6_code
def yX2_readPane : MethodName := ⟨RX2, "readPane", "()V"⟩
abbrev cX2_readWalker : ByteArray := prog_4_method_7_code
def yX2_readWalker : MethodName := ⟨RX2, "readWalker", "()V"⟩
abbrev cX2_readReach : ByteArray := prog_4_method_8_code
def yX2_readReach : MethodName := ⟨RX2, "readReach", "()V"⟩
abbrev cX2_letter : ByteArray := prog_4_method_9_code
def yX2_letter : MethodName := ⟨RX2, "letter", "()I"⟩
abbrev cX2_expect : ByteArray := prog_4_method_10_code
def yX2_expect : MethodName := ⟨RX2, "expect", "(I)V"⟩
abbrev cX2_expectWord : ByteArray := prog_4_method_11_code
def yX2_expectWord : MethodName := ⟨RX2, "expectWord", "(Ljava/lang/String;)V"⟩
abbrev cX2_readNumber : ByteArray := prog_4_method_12_code
def yX2_readNumber : MethodName := ⟨RX2, "readNumber", "()I"⟩
abbrev cX2_isDigit : ByteArray := prog_4_method_13_code
def yX2_isDigit : MethodName := ⟨RX2, "isDigit", "()Z"⟩
abbrev cX2_takeDigit : ByteArray := prog_4_method_14_code
def yX2_takeDigit : MethodName := ⟨RX2, "takeDigit", "()I"⟩
abbrev cX2_allow : ByteArray := prog_4_method_15_code
def yX2_allow : MethodName := ⟨RX2, "allow", "(Z)V"⟩
def RX3 : String := "WindowsLookedOut$Shelf"
def TX3 : u_T := fun k => match k with
  | 0 => ("WindowsLookedOut$Shelf", "held", "I", false)
  | 1 => ("WindowsLookedOut$Shelf", "size", "I", false)
  | _ => ("WindowsLookedOut$Shelf", "elements", "[J", true)
def tyX3 : Nat → FieldType := fun k => match k with
  | 0 => .int
  | 1 => .int
  | _ => .array .long
abbrev wsX30 : List Cond := u_ws RX3 TX3 3
theorem nmX3 : ∀ a, a < 3 → ∀ b, b < 3 → a ≠ b → (TX3 a).2.1 ≠ (TX3 b).2.1 := by decide +kernel
theorem tyX3_ok : ∀ k, k < 3 → parseFieldDescriptor (TX3 k).2.2.1 = some (tyX3 k) := by decide +kernel
abbrev cX3_init : ByteArray := prog_5_method_1_code
def yX3_init : MethodName := ⟨RX3, "<init>", "()V"⟩
abbrev cX3_isSort : ByteArray := prog_5_method_2_code
def yX3_isSort : MethodName := ⟨RX3, "isSort", "(I)Z"⟩
abbrev cX3_isRow : ByteArray := prog_5_method_3_code
def yX3_isRow : MethodName := ⟨RX3, "isRow", "()Z"⟩
abbrev cX3_isPane : ByteArray := prog_5_method_4_code
def yX3_isPane : MethodName := ⟨RX3, "isPane", "()Z"⟩
abbrev cX3_holdPane : ByteArray := prog_5_method_5_code
def yX3_holdPane : MethodName := ⟨RX3, "holdPane", "(I)V"⟩
abbrev cX3_holdRow : ByteArray := prog_5_method_6_code
def yX3_holdRow : MethodName := ⟨RX3, "holdRow", "(II)V"⟩
abbrev cX3_hasElement : ByteArray := prog_5_method_7_code
def yX3_hasElement : MethodName := ⟨RX3, "hasElement", "(I)Z"⟩
abbrev cX3_hasElements : ByteArray := prog_5_method_8_code
def yX3_hasElements : MethodName := ⟨RX3, "hasElements", "(II)Z"⟩
abbrev cX3_longAt : ByteArray := prog_5_method_9_code
def yX3_longAt : MethodName := ⟨RX3, "longAt", "(I)J"⟩
abbrev cX3_intAt : ByteArray := prog_5_method_10_code
def yX3_intAt : MethodName := ⟨RX3, "intAt", "(I)I"⟩
abbrev cX3_keep : ByteArray := prog_5_method_11_code
def yX3_keep : MethodName := ⟨RX3, "keep", "(IJ)V"⟩
abbrev cX3_lowestBits : ByteArray := prog_5_method_12_code
def yX3_lowestBits : MethodName := ⟨RX3, "lowestBits", "(J)J"⟩
abbrev cX3_takeFrom : ByteArray := prog_5_method_13_code
def yX3_takeFrom : MethodName := ⟨RX3, "takeFrom", "(LWindowsLookedOut$Shelf;III)V"⟩
abbrev cX3_squares : ByteArray := prog_5_method_14_code
def yX3_squares : MethodName := ⟨RX3, "squares", "()J"⟩
def RX4 : String := "WindowsLookedOut$Sight"
def TX4 : u_T := fun k => match k with
  | 0 => ("WindowsLookedOut$Sight", "panes", "I", false)
  | _ => ("WindowsLookedOut$Sight", "sees", "[J", true)
def tyX4 : Nat → FieldType := fun k => match k with
  | 0 => .int
  | _ => .array .long
abbrev wsX40 : List Cond := u_ws RX4 TX4 2
theorem nmX4 : ∀ a, a < 2 → ∀ b, b < 2 → a ≠ b → (TX4 a).2.1 ≠ (TX4 b).2.1 := by decide +kernel
theorem tyX4_ok : ∀ k, k < 2 → parseFieldDescriptor (TX4 k).2.2.1 = some (tyX4 k) := by decide +kernel
abbrev cX4_init : ByteArray := prog_6_method_1_code
def yX4_init : MethodName := ⟨RX4, "<init>", "()V"⟩
abbrev cX4_take : ByteArray := prog_6_method_2_code
def yX4_take : MethodName := ⟨RX4, "take", "(LWindowsLookedOut$Town;J)V"⟩
abbrev cX4_union : ByteArray := prog_6_method_3_code
def yX4_union : MethodName := ⟨RX4, "union", "()J"⟩
abbrev cX4_unionOf : ByteArray := prog_6_method_4_code
def yX4_unionOf : MethodName := ⟨RX4, "unionOf", "(I)J"⟩
abbrev cX4_thatSee : ByteArray := prog_6_method_5_code
def yX4_thatSee : MethodName := ⟨RX4, "thatSee", "(I)I"⟩
abbrev cX4_fewestFor : ByteArray := prog_6_method_6_code
def yX4_fewestFor : MethodName := ⟨RX4, "fewestFor", "(J)I"⟩
abbrev cX4_mostAlone : ByteArray := prog_6_method_7_code
def yX4_mostAlone : MethodName := ⟨RX4, "mostAlone", "()I"⟩
abbrev cX4_bestParting : ByteArray := prog_6_method_8_code
def yX4_bestParting : MethodName := ⟨RX4, "bestParting", "(LWindowsLookedOut$Shelf;)I"⟩
def RX5 : String := "WindowsLookedOut$Town"
def TX5 : u_T := fun k => match k with
  | 0 => ("WindowsLookedOut$Town", "houses", "J", false)
  | 1 => ("WindowsLookedOut$Town", "panes", "I", false)
  | 2 => ("WindowsLookedOut$Town", "walkers", "I", false)
  | 3 => ("WindowsLookedOut$Town", "reach", "I", false)
  | 4 => ("WindowsLookedOut$Town", "days", "I", false)
  | 5 => ("WindowsLookedOut$Town", "shame", "I", false)
  | 6 => ("WindowsLookedOut$Town", "seed", "I", false)
  | 7 => ("WindowsLookedOut$Town", "paneKind", "[I", true)
  | 8 => ("WindowsLookedOut$Town", "paneA", "[I", true)
  | 9 => ("WindowsLookedOut$Town", "paneAt", "[I", true)
  | 10 => ("WindowsLookedOut$Town", "paneOut", "[I", true)
  | 11 => ("WindowsLookedOut$Town", "walkerAt", "[I", true)
  | 12 => ("WindowsLookedOut$Town", "walkerFaces", "[I", true)
  | _ => ("WindowsLookedOut$Town", "walkerTried", "[I", true)
def tyX5 : Nat → FieldType := fun k => match k with
  | 0 => .long
  | 1 => .int
  | 2 => .int
  | 3 => .int
  | 4 => .int
  | 5 => .int
  | 6 => .int
  | 7 => .array .int
  | 8 => .array .int
  | 9 => .array .int
  | 10 => .array .int
  | 11 => .array .int
  | 12 => .array .int
  | _ => .array .int
abbrev wsX50 : List Cond := u_ws RX5 TX5 14
theorem nmX5 : ∀ a, a < 14 → ∀ b, b < 14 → a ≠ b → (TX5 a).2.1 ≠ (TX5 b).2.1 := by decide +kernel
theorem tyX5_ok : ∀ k, k < 14 → parseFieldDescriptor (TX5 k).2.2.1 = some (tyX5 k) := by decide +kernel
abbrev cX5_init : ByteArray := prog_7_method_1_code
def yX5_init : MethodName := ⟨RX5, "<init>", "()V"⟩
abbrev cX5_become : ByteArray := prog_7_method_2_code
def yX5_become : MethodName := ⟨RX5, "become", "(LWindowsLookedOut$Town;)V"⟩
abbrev cX5_isHouse : ByteArray := prog_7_method_3_code
def yX5_isHouse : MethodName := ⟨RX5, "isHouse", "(I)Z"⟩
abbrev cX5_isYard : ByteArray := prog_7_method_4_code
def yX5_isYard : MethodName := ⟨RX5, "isYard", "(I)Z"⟩
abbrev cX5_build : ByteArray := prog_7_method_5_code
def yX5_build : MethodName := ⟨RX5, "build", "(IZ)V"⟩
abbrev cX5_isPane : ByteArray := prog_7_method_6_code
def yX5_isPane : MethodName := ⟨RX5, "isPane", "(I)Z"⟩
abbrev cX5_isPaneAt : ByteArray := prog_7_method_7_code
def yX5_isPaneAt : MethodName := ⟨RX5, "isPaneAt", "(I)Z"⟩
abbrev cX5_hasRoomForPane : ByteArray := prog_7_method_8_code
def yX5_hasRoomForPane : MethodName := ⟨RX5, "hasRoomForPane", "()Z"⟩
abbrev cX5_addPane : ByteArray := prog_7_method_9_code
def yX5_addPane : MethodName := ⟨RX5, "addPane", "(IIII)I"⟩
abbrev cX5_kindOf : ByteArray := prog_7_method_10_code
def yX5_kindOf : MethodName := ⟨RX5, "kindOf", "(I)I"⟩
abbrev cX5_aOf : ByteArray := prog_7_method_11_code
def yX5_aOf : MethodName := ⟨RX5, "aOf", "(I)I"⟩
abbrev cX5_atOf : ByteArray := prog_7_method_12_code
def yX5_atOf : MethodName := ⟨RX5, "atOf", "(I)I"⟩
abbrev cX5_outOf : ByteArray := prog_7_method_13_code
def yX5_outOf : MethodName := ⟨RX5, "outOf", "(I)I"⟩
abbrev cX5_allPanes : ByteArray := prog_7_method_14_code
def yX5_allPanes : MethodName := ⟨RX5, "allPanes", "()I"⟩
abbrev cX5_isWalker : ByteArray := prog_7_method_15_code
def yX5_isWalker : MethodName := ⟨RX5, "isWalker", "(I)Z"⟩
abbrev cX5_isSomebodyAt : ByteArray := prog_7_method_16_code
def yX5_isSomebodyAt : MethodName := ⟨RX5, "isSomebodyAt", "(I)Z"⟩
abbrev cX5_hasRoomForWalker : ByteArray := prog_7_method_17_code
def yX5_hasRoomForWalker : MethodName := ⟨RX5, "hasRoomForWalker", "()Z"⟩
abbrev cX5_addWalker : ByteArray := prog_7_method_18_code
def yX5_addWalker : MethodName := ⟨RX5, "addWalker", "(II)I"⟩
abbrev cX5_whereIs : ByteArray := prog_7_method_19_code
def yX5_whereIs : MethodName := ⟨RX5, "whereIs", "(I)I"⟩
abbrev cX5_facedBy : ByteArray := prog_7_method_20_code
def yX5_facedBy : MethodName := ⟨RX5, "facedBy", "(I)I"⟩
abbrev cX5_triedOf : ByteArray := prog_7_method_21_code
def yX5_triedOf : MethodName := ⟨RX5, "triedOf", "(I)I"⟩
abbrev cX5_triedTogether : ByteArray := prog_7_method_22_code
def yX5_triedTogether : MethodName := ⟨RX5, "triedTogether", "()I"⟩
abbrev cX5_place : ByteArray := prog_7_method_23_code
def yX5_place : MethodName := ⟨RX5, "place", "(III)V"⟩
abbrev cX5_sightOf : ByteArray := prog_7_method_24_code
def yX5_sightOf : MethodName := ⟨RX5, "sightOf", "(I)J"⟩
abbrev cX5_sightAmong : ByteArray := prog_7_method_25_code
def yX5_sightAmong : MethodName := ⟨RX5, "sightAmong", "(JI)J"⟩
abbrev cX5_walkersIn : ByteArray := prog_7_method_26_code
def yX5_walkersIn : MethodName := ⟨RX5, "walkersIn", "(J)I"⟩
abbrev cX5_lookedInBy : ByteArray := prog_7_method_27_code
def yX5_lookedInBy : MethodName := ⟨RX5, "lookedInBy", "(I)I"⟩
abbrev cX5_shameFrom : ByteArray := prog_7_method_28_code
def yX5_shameFrom : MethodName := ⟨RX5, "shameFrom", "(II)I"⟩
abbrev cX5_lookedInFrom : ByteArray := prog_7_method_29_code
def yX5_lookedInFrom : MethodName := ⟨RX5, "lookedInFrom", "(II)I"⟩
abbrev cX5_openTo : ByteArray := prog_7_method_30_code
def yX5_openTo : MethodName := ⟨RX5, "openTo", "(III)I"⟩
abbrev cX5_letsIn : ByteArray := prog_7_method_31_code
def yX5_letsIn : MethodName := ⟨RX5, "letsIn", "(III)Z"⟩
abbrev cX5_bear : ByteArray := prog_7_method_32_code
def yX5_bear : MethodName := ⟨RX5, "bear", "(II)V"⟩
abbrev cX5_liveOneDay : ByteArray := prog_7_method_33_code
def yX5_liveOneDay : MethodName := ⟨RX5, "liveOneDay", "()V"⟩
abbrev cX5_draw : ByteArray := prog_7_method_34_code
def yX5_draw : MethodName := ⟨RX5, "draw", "(I)I"⟩
def RX6 : String := "WindowsLookedOut$Walk"
def TX6 : u_T := fun k => match k with
  | 0 => ("WindowsLookedOut$Walk", "wrong", "I", false)
  | 1 => ("WindowsLookedOut$Walk", "at", "I", false)
  | 2 => ("WindowsLookedOut$Walk", "faces", "I", false)
  | 3 => ("WindowsLookedOut$Walk", "shame", "I", false)
  | _ => ("WindowsLookedOut$Walk", "lookedIn", "I", false)
def tyX6 : Nat → FieldType := fun k => match k with
  | 0 => .int
  | 1 => .int
  | 2 => .int
  | 3 => .int
  | _ => .int
abbrev wsX60 : List Cond := u_ws RX6 TX6 5
theorem nmX6 : ∀ a, a < 5 → ∀ b, b < 5 → a ≠ b → (TX6 a).2.1 ≠ (TX6 b).2.1 := by decide +kernel
theorem tyX6_ok : ∀ k, k < 5 → parseFieldDescriptor (TX6 k).2.2.1 = some (tyX6 k) := by decide +kernel
abbrev cX6_init : ByteArray := prog_8_method_1_code
def yX6_init : MethodName := ⟨RX6, "<init>", "()V"⟩
abbrev cX6_follow : ByteArray := prog_8_method_2_code
def yX6_follow : MethodName := ⟨RX6, "follow", "(LWindowsLookedOut$Town;ILWindowsLookedOut$Shelf;I)V"⟩
def RX7 : String := "WindowsLookedOut$Ways"
def TX7 : u_T := fun k => match k with
  | 0 => ("WindowsLookedOut$Ways", "settled", "J", false)
  | _ => ("WindowsLookedOut$Ways", "prices", "[I", true)
def tyX7 : Nat → FieldType := fun k => match k with
  | 0 => .long
  | _ => .array .int
abbrev wsX70 : List Cond := u_ws RX7 TX7 2
theorem nmX7 : ∀ a, a < 2 → ∀ b, b < 2 → a ≠ b → (TX7 a).2.1 ≠ (TX7 b).2.1 := by decide +kernel
theorem tyX7_ok : ∀ k, k < 2 → parseFieldDescriptor (TX7 k).2.2.1 = some (tyX7 k) := by decide +kernel
abbrev cX7_init : ByteArray := prog_9_method_1_code
def yX7_init : MethodName := ⟨RX7, "<init>", "()V"⟩
abbrev cX7_measure : ByteArray := prog_9_method_2_code
def yX7_measure : MethodName := ⟨RX7, "measure", "(LWindowsLookedOut$Town;II)V"⟩
abbrev cX7_cheapestOpen : ByteArray := prog_9_method_3_code
def yX7_cheapestOpen : MethodName := ⟨RX7, "cheapestOpen", "()I"⟩
abbrev cX7_lower : ByteArray := prog_9_method_4_code
def yX7_lower : MethodName := ⟨RX7, "lower", "(II)V"⟩
abbrev cX7_stepPrice : ByteArray := prog_9_method_5_code
def yX7_stepPrice : MethodName := ⟨RX7, "stepPrice", "(LWindowsLookedOut$Town;III)I"⟩
abbrev cX7_priceFrom : ByteArray := prog_9_method_6_code
def yX7_priceFrom : MethodName := ⟨RX7, "priceFrom", "(I)I"⟩
abbrev cX7_leadsFrom : ByteArray := prog_9_method_7_code
def yX7_leadsFrom : MethodName := ⟨RX7, "leadsFrom", "(I)Z"⟩
abbrev cX7_firstFrom : ByteArray := prog_9_method_8_code
def yX7_firstFrom : MethodName := ⟨RX7, "firstFrom", "(LWindowsLookedOut$Town;I)I"⟩
def RX8 : String := "WindowsLookedOut"
def TX8 : u_T := fun k => match k with
  | 0 => ("WindowsLookedOut", "now", "LWindowsLookedOut$Town;", true)
  | 1 => ("WindowsLookedOut", "kept", "LWindowsLookedOut$Town;", true)
  | 2 => ("WindowsLookedOut", "keeps", "Z", false)
  | 3 => ("WindowsLookedOut", "shelves", "[LWindowsLookedOut$Shelf;", true)
  | 4 => ("WindowsLookedOut", "refusals", "[I", true)
  | 5 => ("WindowsLookedOut", "reader", "LWindowsLookedOut$Reader;", true)
  | 6 => ("WindowsLookedOut", "sight", "LWindowsLookedOut$Sight;", true)
  | 7 => ("WindowsLookedOut", "walk", "LWindowsLookedOut$Walk;", true)
  | 8 => ("WindowsLookedOut", "ways", "LWindowsLookedOut$Ways;", true)
  | 9 => ("WindowsLookedOut", "otherWays", "LWindowsLookedOut$Ways;", true)
  | _ => ("WindowsLookedOut", "moves", "LWindowsLookedOut$Moves;", true)
def tyX8 : Nat → FieldType := fun k => match k with
  | 0 => .object "WindowsLookedOut$Town"
  | 1 => .object "WindowsLookedOut$Town"
  | 2 => .boolean
  | 3 => .array (.object "WindowsLookedOut$Shelf")
  | 4 => .array .int
  | 5 => .object "WindowsLookedOut$Reader"
  | 6 => .object "WindowsLookedOut$Sight"
  | 7 => .object "WindowsLookedOut$Walk"
  | 8 => .object "WindowsLookedOut$Ways"
  | 9 => .object "WindowsLookedOut$Ways"
  | _ => .object "WindowsLookedOut$Moves"
abbrev wsX80 : List Cond := u_ws RX8 TX8 11
theorem nmX8 : ∀ a, a < 11 → ∀ b, b < 11 → a ≠ b → (TX8 a).2.1 ≠ (TX8 b).2.1 := by decide +kernel
theorem tyX8_ok : ∀ k, k < 11 → parseFieldDescriptor (TX8 k).2.2.1 = some (tyX8 k) := by decide +kernel
abbrev cX8_init : ByteArray := prog_1_method_1_code
def yX8_init : MethodName := ⟨RX8, "<init>", "()V"⟩
abbrev cX8_row : ByteArray := prog_1_method_2_code
def yX8_row : MethodName := ⟨RX8, "row", "(III)I"⟩
abbrev cX8_set : ByteArray := prog_1_method_3_code
def yX8_set : MethodName := ⟨RX8, "set", "(IIJ)I"⟩
abbrev cX8_copy : ByteArray := prog_1_method_4_code
def yX8_copy : MethodName := ⟨RX8, "copy", "(IIIII)I"⟩
abbrev cX8_element : ByteArray := prog_1_method_5_code
def yX8_element : MethodName := ⟨RX8, "element", "(II)J"⟩
abbrev cX8_show : ByteArray := prog_1_method_6_code
def yX8_show : MethodName := ⟨RX8, "show", "(II)I"⟩
abbrev cX8_holds : ByteArray := prog_1_method_7_code
def yX8_holds : MethodName := ⟨RX8, "holds", "(I)I"⟩
abbrev cX8_says : ByteArray := prog_1_method_8_code
def yX8_says : MethodName := ⟨RX8, "says", "(II)I"⟩
abbrev cX8_house : ByteArray := prog_1_method_9_code
def yX8_house : MethodName := ⟨RX8, "house", "(IZ)I"⟩
abbrev cX8_pane : ByteArray := prog_1_method_10_code
def yX8_pane : MethodName := ⟨RX8, "pane", "(IIII)I"⟩
abbrev cX8_walker : ByteArray := prog_1_method_11_code
def yX8_walker : MethodName := ⟨RX8, "walker", "(II)I"⟩
abbrev cX8_put : ByteArray := prog_1_method_12_code
def yX8_put : MethodName := ⟨RX8, "put", "(III)I"⟩
abbrev cX8_reach : ByteArray := prog_1_method_13_code
def yX8_reach : MethodName := ⟨RX8, "reach", "(I)I"⟩
abbrev cX8_paneOf : ByteArray := prog_1_method_14_code
def yX8_paneOf : MethodName := ⟨RX8, "paneOf", "(II)I"⟩
abbrev cX8_walkerOf : ByteArray := prog_1_method_15_code
def yX8_walkerOf : MethodName := ⟨RX8, "walkerOf", "(II)I"⟩
abbrev cX8_town : ByteArray := prog_1_method_16_code
def yX8_town : MethodName := ⟨RX8, "town", "(I)I"⟩
abbrev cX8_fault : ByteArray := prog_1_method_17_code
def yX8_fault : MethodName := ⟨RX8, "fault", "()I"⟩
abbrev cX8_seen : ByteArray := prog_1_method_18_code
def yX8_seen : MethodName := ⟨RX8, "seen", "(II)I"⟩
abbrev cX8_looks : ByteArray := prog_1_method_19_code
def yX8_looks : MethodName := ⟨RX8, "looks", "(II)I"⟩
abbrev cX8_all : ByteArray := prog_1_method_20_code
def yX8_all : MethodName := ⟨RX8, "all", "()I"⟩
abbrev cX8_turn : ByteArray := prog_1_method_21_code
def yX8_turn : MethodName := ⟨RX8, "turn", "(II)I"⟩
abbrev cX8_way : ByteArray := prog_1_method_22_code
def yX8_way : MethodName := ⟨RX8, "way", "(III)I"⟩
abbrev cX8_cover : ByteArray := prog_1_method_23_code
def yX8_cover : MethodName := ⟨RX8, "cover", "(I)I"⟩
abbrev cX8_sole : ByteArray := prog_1_method_24_code
def yX8_sole : MethodName := ⟨RX8, "sole", "()I"⟩
abbrev cX8_where : ByteArray := prog_1_method_25_code
def yX8_where : MethodName := ⟨RX8, "where", "(II)I"⟩
abbrev cX8_ask : ByteArray := prog_1_method_26_code
def yX8_ask : MethodName := ⟨RX8, "ask", "(I)I"⟩
abbrev cX8_fresh : ByteArray := prog_1_method_27_code
def yX8_fresh : MethodName := ⟨RX8, "fresh", "(I)I"⟩
abbrev cX8_housed : ByteArray := prog_1_method_28_code
def yX8_housed : MethodName := ⟨RX8, "housed", "(I)I"⟩
abbrev cX8_meet : ByteArray := prog_1_method_29_code
def yX8_meet : MethodName := ⟨RX8, "meet", "(III)I"⟩
abbrev cX8_judge : ByteArray := prog_1_method_30_code
def yX8_judge : MethodName := ⟨RX8, "judge", "(III)I"⟩
abbrev cX8_behind : ByteArray := prog_1_method_31_code
def yX8_behind : MethodName := ⟨RX8, "behind", "(IIII)I"⟩
abbrev cX8_done : ByteArray := prog_1_method_32_code
def yX8_done : MethodName := ⟨RX8, "done", "(III)I"⟩
abbrev cX8_days : ByteArray := prog_1_method_33_code
def yX8_days : MethodName := ⟨RX8, "days", "(I)I"⟩
abbrev cX8_seed : ByteArray := prog_1_method_34_code
def yX8_seed : MethodName := ⟨RX8, "seed", "(I)I"⟩
abbrev cX8_act : ByteArray := prog_1_method_35_code
def yX8_act : MethodName := ⟨RX8, "act", "(III)I"⟩
abbrev cX8_trace : ByteArray := prog_1_method_36_code
def yX8_trace : MethodName := ⟨RX8, "trace", "(I)I"⟩
abbrev cX8_image : ByteArray := prog_1_method_37_code
def yX8_image : MethodName := ⟨RX8, "image", "()I"⟩
abbrev cX8_restore : ByteArray := prog_1_method_38_code
def yX8_restore : MethodName := ⟨RX8, "restore", "()I"⟩
abbrev cX8_status : ByteArray := prog_1_method_39_code
def yX8_status : MethodName := ⟨RX8, "status", "(I)I"⟩
abbrev cX8_refuse : ByteArray := prog_1_method_40_code
def yX8_refuse : MethodName := ⟨RX8, "refuse", "(I)I"⟩
abbrev cX8_refuseApart : ByteArray := prog_1_method_41_code
def yX8_refuseApart : MethodName := ⟨RX8, "refuseApart", "(I)I"⟩
abbrev cX8_refusalsOf : ByteArray := prog_1_method_42_code
def yX8_refusalsOf : MethodName := ⟨RX8, "refusalsOf", "(I)I"⟩
abbrev cX8_rowTrouble : ByteArray := prog_1_method_43_code
def yX8_rowTrouble : MethodName := ⟨RX8, "rowTrouble", "(I)I"⟩
abbrev cX8_copyTrouble : ByteArray := prog_1_method_44_code
def yX8_copyTrouble : MethodName := ⟨RX8, "copyTrouble", "(IIIII)I"⟩
abbrev cX8_squaresTrouble : ByteArray := prog_1_method_45_code
def yX8_squaresTrouble : MethodName := ⟨RX8, "squaresTrouble", "(I)I"⟩
abbrev cX8_walkTrouble : ByteArray := prog_1_method_46_code
def yX8_walkTrouble : MethodName := ⟨RX8, "walkTrouble", "(IIIZ)I"⟩
abbrev cX8_isShelf : ByteArray := prog_1_method_47_code
def yX8_isShelf : MethodName := ⟨RX8, "isShelf", "(I)Z"⟩
abbrev cX8_isKind : ByteArray := prog_1_method_48_code
def yX8_isKind : MethodName := ⟨RX8, "isKind", "(I)Z"⟩
abbrev cX8_isReach : ByteArray := prog_1_method_49_code
def yX8_isReach : MethodName := ⟨RX8, "isReach", "(I)Z"⟩
abbrev cX8_above : ByteArray := prog_1_method_50_code
def yX8_above : MethodName := ⟨RX8, "above", "(I)I"⟩
abbrev cX8_isUnder : ByteArray := prog_1_method_51_code
def yX8_isUnder : MethodName := ⟨RX8, "isUnder", "(II)Z"⟩
abbrev cX8_panesThatSee : ByteArray := prog_1_method_52_code
def yX8_panesThatSee : MethodName := ⟨RX8, "panesThatSee", "(I)I"⟩
def RX9 : String := "WindowsLookedOutModel"
def TX9 : u_T := fun k => match k with
  | 0 => ("WindowsLookedOutModel", "panes", "I", false)
  | 1 => ("WindowsLookedOutModel", "kind", "[I", true)
  | 2 => ("WindowsLookedOutModel", "a", "[I", true)
  | 3 => ("WindowsLookedOutModel", "spot", "[I", true)
  | 4 => ("WindowsLookedOutModel", "out", "[I", true)
  | 5 => ("WindowsLookedOutModel", "walkers", "I", false)
  | 6 => ("WindowsLookedOutModel", "stand", "[I", true)
  | 7 => ("WindowsLookedOutModel", "face", "[I", true)
  | 8 => ("WindowsLookedOutModel", "tried", "[I", true)
  | 9 => ("WindowsLookedOutModel", "houses", "[Z", true)
  | 10 => ("WindowsLookedOutModel", "ways", "[I", true)
  | 11 => ("WindowsLookedOutModel", "seed", "I", false)
  | 12 => ("WindowsLookedOutModel", "holding", "[I", true)
  | 13 => ("WindowsLookedOutModel", "rowLength", "[I", true)
  | 14 => ("WindowsLookedOutModel", "rowOf", "[J", true)
  | 15 => ("WindowsLookedOutModel", "reading", "I", false)
  | 16 => ("WindowsLookedOutModel", "at", "I", false)
  | 17 => ("WindowsLookedOutModel", "numbers", "[I", true)
  | 18 => ("WindowsLookedOutModel", "fault", "I", false)
  | 19 => ("WindowsLookedOutModel", "ahead", "[I", true)
  | 20 => ("WindowsLookedOutModel", "traced", "I", false)
  | 21 => ("WindowsLookedOutModel", "traces", "[I", true)
  | 22 => ("WindowsLookedOutModel", "refusals", "[I", true)
  | 23 => ("WindowsLookedOutModel", "imaged", "Z", false)
  | 24 => ("WindowsLookedOutModel", "old", "[I", true)
  | 25 => ("WindowsLookedOutModel", "oldSeed", "I", false)
  | 26 => ("WindowsLookedOutModel", "least", "[I", true)
  | 27 => ("WindowsLookedOutModel", "first", "[I", true)
  | 28 => ("WindowsLookedOutModel", "steps", "[I", true)
  | 29 => ("WindowsLookedOutModel", "walked", "I", false)
  | 30 => ("WindowsLookedOutModel", "facing", "I", false)
  | 31 => ("WindowsLookedOutModel", "ashamed", "I", false)
  | _ => ("WindowsLookedOutModel", "lookedIn", "I", false)
def tyX9 : Nat → FieldType := fun k => match k with
  | 0 => .int
  | 1 => .array .int
  | 2 => .array .int
  | 3 => .array .int
  | 4 => .array .int
  | 5 => .int
  | 6 => .array .int
  | 7 => .array .int
  | 8 => .array .int
  | 9 => .array .boolean
  | 10 => .array .int
  | 11 => .int
  | 12 => .array .int
  | 13 => .array .int
  | 14 => .array .long
  | 15 => .int
  | 16 => .int
  | 17 => .array .int
  | 18 => .int
  | 19 => .array .int
  | 20 => .int
  | 21 => .array .int
  | 22 => .array .int
  | 23 => .boolean
  | 24 => .array .int
  | 25 => .int
  | 26 => .array .int
  | 27 => .array .int
  | 28 => .array .int
  | 29 => .int
  | 30 => .int
  | 31 => .int
  | _ => .int
abbrev wsX90 : List Cond := u_ws RX9 TX9 33
theorem nmX9 : ∀ a, a < 33 → ∀ b, b < 33 → a ≠ b → (TX9 a).2.1 ≠ (TX9 b).2.1 := by decide +kernel
theorem tyX9_ok : ∀ k, k < 33 → parseFieldDescriptor (TX9 k).2.2.1 = some (tyX9 k) := by decide +kernel
abbrev cX9_init : ByteArray := prog_11_method_1_code
def yX9_init : MethodName := ⟨RX9, "<init>", "()V"⟩
abbrev cX9_no : ByteArray := prog_11_method_2_code
def yX9_no : MethodName := ⟨RX9, "no", "(I)I"⟩
abbrev cX9_no10 : ByteArray := prog_11_method_3_code
def yX9_no10 : MethodName := ⟨RX9, "no10", "(I)I"⟩
abbrev cX9_within : ByteArray := prog_11_method_4_code
def yX9_within : MethodName := ⟨RX9, "within", "(III)Z"⟩
abbrev cX9_isPane : ByteArray := prog_11_method_5_code
def yX9_isPane : MethodName := ⟨RX9, "isPane", "(I)Z"⟩
abbrev cX9_isWalker : ByteArray := prog_11_method_6_code
def yX9_isWalker : MethodName := ⟨RX9, "isWalker", "(I)Z"⟩
abbrev cX9_isSquare : ByteArray := prog_11_method_7_code
def yX9_isSquare : MethodName := ⟨RX9, "isSquare", "(I)Z"⟩
abbrev cX9_isWay : ByteArray := prog_11_method_8_code
def yX9_isWay : MethodName := ⟨RX9, "isWay", "(I)Z"⟩
abbrev cX9_isOpen : ByteArray := prog_11_method_9_code
def yX9_isOpen : MethodName := ⟨RX9, "isOpen", "(I)Z"⟩
abbrev cX9_isRow : ByteArray := prog_11_method_10_code
def yX9_isRow : MethodName := ⟨RX9, "isRow", "(I)Z"⟩
abbrev cX9_row : ByteArray := prog_11_method_11_code
def yX9_row : MethodName := ⟨RX9, "row", "(III)I"⟩
abbrev cX9_noRow : ByteArray := prog_11_method_12_code
def yX9_noRow : MethodName := ⟨RX9, "noRow", "(I)I"⟩
abbrev cX9_set : ByteArray := prog_11_method_13_code
def yX9_set : MethodName := ⟨RX9, "set", "(IIJ)I"⟩
abbrev cX9_copy : ByteArray := prog_11_method_14_code
def yX9_copy : MethodName := ⟨RX9, "copy", "(IIIII)I"⟩
abbrev cX9_element : ByteArray := prog_11_method_15_code
def yX9_element : MethodName := ⟨RX9, "element", "(II)J"⟩
abbrev cX9_show : ByteArray := prog_11_method_16_code
def yX9_show : MethodName := ⟨RX9, "show", "(II)I"⟩
abbrev cX9_holds : ByteArray := prog_11_method_17_code
def yX9_holds : MethodName := ⟨RX9, "holds", "(I)I"⟩
abbrev cX9_above : ByteArray := prog_11_method_18_code
def yX9_above : MethodName := ⟨RX9, "above", "(I)I"⟩
abbrev cX9_isUnder : ByteArray := prog_11_method_19_code
def yX9_isUnder : MethodName := ⟨RX9, "isUnder", "(II)Z"⟩
abbrev cX9_says : ByteArray := prog_11_method_20_code
def yX9_says : MethodName := ⟨RX9, "says", "(II)I"⟩
abbrev cX9_newPane : ByteArray := prog_11_method_21_code
def yX9_newPane : MethodName := ⟨RX9, "newPane", "(IIII)I"⟩
abbrev cX9_newWalker : ByteArray := prog_11_method_22_code
def yX9_newWalker : MethodName := ⟨RX9, "newWalker", "(II)I"⟩
abbrev cX9_isStood : ByteArray := prog_11_method_23_code
def yX9_isStood : MethodName := ⟨RX9, "isStood", "(I)Z"⟩
abbrev cX9_isPaned : ByteArray := prog_11_method_24_code
def yX9_isPaned : MethodName := ⟨RX9, "isPaned", "(I)Z"⟩
abbrev cX9_mayBecome : ByteArray := prog_11_method_25_code
def yX9_mayBecome : MethodName := ⟨RX9, "mayBecome", "(IZ)Z"⟩
abbrev cX9_house : ByteArray := prog_11_method_26_code
def yX9_house : MethodName := ⟨RX9, "house", "(IZ)I"⟩
abbrev cX9_isHouse : ByteArray := prog_11_method_27_code
def yX9_isHouse : MethodName := ⟨RX9, "isHouse", "(I)Z"⟩
abbrev cX9_pane : ByteArray := prog_11_method_28_code
def yX9_pane : MethodName := ⟨RX9, "pane", "(IIII)I"⟩
abbrev cX9_walker : ByteArray := prog_11_method_29_code
def yX9_walker : MethodName := ⟨RX9, "walker", "(II)I"⟩
abbrev cX9_put : ByteArray := prog_11_method_30_code
def yX9_put : MethodName := ⟨RX9, "put", "(III)I"⟩
abbrev cX9_reach : ByteArray := prog_11_method_31_code
def yX9_reach : MethodName := ⟨RX9, "reach", "(I)I"⟩
abbrev cX9_paneOf : ByteArray := prog_11_method_32_code
def yX9_paneOf : MethodName := ⟨RX9, "paneOf", "(II)I"⟩
abbrev cX9_walkerOf : ByteArray := prog_11_method_33_code
def yX9_walkerOf : MethodName := ⟨RX9, "walkerOf", "(II)I"⟩
abbrev cX9_sign : ByteArray := prog_11_method_34_code
def yX9_sign : MethodName := ⟨RX9, "sign", "()I"⟩
abbrev cX9_is : ByteArray := prog_11_method_35_code
def yX9_is : MethodName := ⟨RX9, "is", "(C)Z"⟩
abbrev cX9_word : ByteArray := prog_11_method_36_code
def yX9_word : MethodName := ⟨RX9, "word", "(Ljava/lang/String;)Z"⟩
abbrev cX9_word_ : ByteArray := prog_11_method_37_code
def yX9_word_ : MethodName := ⟨RX9, "word", "(Ljava/lang/String;Z)Z"⟩
abbrev cX9_number : ByteArray := prog_11_method_38_code
def yX9_number : MethodName := ⟨RX9, "number", "(III)Z"⟩
abbrev cX9_may : ByteArray := prog_11_method_39_code
def yX9_may : MethodName := ⟨RX9, "may", "(ZI)Z"⟩
abbrev cX9_item : ByteArray := prog_11_method_40_code
def yX9_item : MethodName := ⟨RX9, "item", "()Z"⟩
abbrev cX9_town : ByteArray := prog_11_method_41_code
def yX9_town : MethodName := ⟨RX9, "town", "(I)I"⟩
abbrev cX9_fault : ByteArray := prog_11_method_42_code
def yX9_fault : MethodName := ⟨RX9, "fault", "()I"⟩
abbrev cX9_next : ByteArray := prog_11_method_43_code
def yX9_next : MethodName := ⟨RX9, "next", "(II)I"⟩
abbrev cX9_bit : ByteArray := prog_11_method_44_code
def yX9_bit : MethodName := ⟨RX9, "bit", "(I)J"⟩
abbrev cX9_line : ByteArray := prog_11_method_45_code
def yX9_line : MethodName := ⟨RX9, "line", "(IIIZ)J"⟩
abbrev cX9_sees : ByteArray := prog_11_method_46_code
def yX9_sees : MethodName := ⟨RX9, "sees", "(I)J"⟩
abbrev cX9_inSight : ByteArray := prog_11_method_47_code
def yX9_inSight : MethodName := ⟨RX9, "inSight", "(J)I"⟩
abbrev cX9_seenBy : ByteArray := prog_11_method_48_code
def yX9_seenBy : MethodName := ⟨RX9, "seenBy", "(I)I"⟩
abbrev cX9_allSeen : ByteArray := prog_11_method_49_code
def yX9_allSeen : MethodName := ⟨RX9, "allSeen", "()J"⟩
abbrev cX9_looksIn : ByteArray := prog_11_method_50_code
def yX9_looksIn : MethodName := ⟨RX9, "looksIn", "(II)I"⟩
abbrev cX9_shame : ByteArray := prog_11_method_51_code
def yX9_shame : MethodName := ⟨RX9, "shame", "(II)I"⟩
abbrev cX9_seen : ByteArray := prog_11_method_52_code
def yX9_seen : MethodName := ⟨RX9, "seen", "(II)I"⟩
abbrev cX9_looks : ByteArray := prog_11_method_53_code
def yX9_looks : MethodName := ⟨RX9, "looks", "(II)I"⟩
abbrev cX9_all : ByteArray := prog_11_method_54_code
def yX9_all : MethodName := ⟨RX9, "all", "()I"⟩
abbrev cX9_turn : ByteArray := prog_11_method_55_code
def yX9_turn : MethodName := ⟨RX9, "turn", "(II)I"⟩
abbrev cX9_leads : ByteArray := prog_11_method_56_code
def yX9_leads : MethodName := ⟨RX9, "leads", "(I)V"⟩
abbrev cX9_way : ByteArray := prog_11_method_57_code
def yX9_way : MethodName := ⟨RX9, "way", "(III)I"⟩
abbrev cX9_spreads : ByteArray := prog_11_method_58_code
def yX9_spreads : MethodName := ⟨RX9, "spreads", "(I[I)V"⟩
abbrev cX9_meet : ByteArray := prog_11_method_59_code
def yX9_meet : MethodName := ⟨RX9, "meet", "(III)I"⟩
abbrev cX9_toldAt : ByteArray := prog_11_method_60_code
def yX9_toldAt : MethodName := ⟨RX9, "toldAt", "(II)I"⟩
abbrev cX9_noSquares : ByteArray := prog_11_method_61_code
def yX9_noSquares : MethodName := ⟨RX9, "noSquares", "(I)I"⟩
abbrev cX9_cover : ByteArray := prog_11_method_62_code
def yX9_cover : MethodName := ⟨RX9, "cover", "(I)I"⟩
abbrev cX9_sole : ByteArray := prog_11_method_63_code
def yX9_sole : MethodName := ⟨RX9, "sole", "()I"⟩
abbrev cX9_where : ByteArray := prog_11_method_64_code
def yX9_where : MethodName := ⟨RX9, "where", "(II)I"⟩
abbrev cX9_ask : ByteArray := prog_11_method_65_code
def yX9_ask : MethodName := ⟨RX9, "ask", "(I)I"⟩
abbrev cX9_fresh : ByteArray := prog_11_method_66_code
def yX9_fresh : MethodName := ⟨RX9, "fresh", "(I)I"⟩
abbrev cX9_housed : ByteArray := prog_11_method_67_code
def yX9_housed : MethodName := ⟨RX9, "housed", "(I)I"⟩
abbrev cX9_noWalk : ByteArray := prog_11_method_68_code
def yX9_noWalk : MethodName := ⟨RX9, "noWalk", "(III)I"⟩
abbrev cX9_walks : ByteArray := prog_11_method_69_code
def yX9_walks : MethodName := ⟨RX9, "walks", "(III)I"⟩
abbrev cX9_judge : ByteArray := prog_11_method_70_code
def yX9_judge : MethodName := ⟨RX9, "judge", "(III)I"⟩
abbrev cX9_behind : ByteArray := prog_11_method_71_code
def yX9_behind : MethodName := ⟨RX9, "behind", "(IIII)I"⟩
abbrev cX9_done : ByteArray := prog_11_method_72_code
def yX9_done : MethodName := ⟨RX9, "done", "(III)I"⟩
abbrev cX9_draw : ByteArray := prog_11_method_73_code
def yX9_draw : MethodName := ⟨RX9, "draw", "(I)I"⟩
abbrev cX9_goesDay : ByteArray := prog_11_method_74_code
def yX9_goesDay : MethodName := ⟨RX9, "goesDay", "()V"⟩
abbrev cX9_days : ByteArray := prog_11_method_75_code
def yX9_days : MethodName := ⟨RX9, "days", "(I)I"⟩
abbrev cX9_seed : ByteArray := prog_11_method_76_code
def yX9_seed : MethodName := ⟨RX9, "seed", "(I)I"⟩
abbrev cX9_ran : ByteArray := prog_11_method_77_code
def yX9_ran : MethodName := ⟨RX9, "ran", "(I)V"⟩
abbrev cX9_opensBy : ByteArray := prog_11_method_78_code
def yX9_opensBy : MethodName := ⟨RX9, "opensBy", "(III)I"⟩
abbrev cX9_shutsBy : ByteArray := prog_11_method_79_code
def yX9_shutsBy : MethodName := ⟨RX9, "shutsBy", "(III)I"⟩
abbrev cX9_shinesBy : ByteArray := prog_11_method_80_code
def yX9_shinesBy : MethodName := ⟨RX9, "shinesBy", "(III)I"⟩
abbrev cX9_act : ByteArray := prog_11_method_81_code
def yX9_act : MethodName := ⟨RX9, "act", "(III)I"⟩
abbrev cX9_trace : ByteArray := prog_11_method_82_code
def yX9_trace : MethodName := ⟨RX9, "trace", "(I)I"⟩
abbrev cX9_keep : ByteArray := prog_11_method_83_code
def yX9_keep : MethodName := ⟨RX9, "keep", "([I)V"⟩
abbrev cX9_again : ByteArray := prog_11_method_84_code
def yX9_again : MethodName := ⟨RX9, "again", "([I)V"⟩
abbrev cX9_image : ByteArray := prog_11_method_85_code
def yX9_image : MethodName := ⟨RX9, "image", "()I"⟩
abbrev cX9_restore : ByteArray := prog_11_method_86_code
def yX9_restore : MethodName := ⟨RX9, "restore", "()I"⟩
abbrev cX9_status : ByteArray := prog_11_method_87_code
def yX9_status : MethodName := ⟨RX9, "status", "(I)I"⟩
def RJ6 : String := "java/lang/Integer"
def TJ6 : u_T := fun k => match k with
  | _ => ("", "", "", false)
def tyJ6 : Nat → FieldType := fun k => match k with
  | _ => .int
abbrev cJ6_bitCount_0f7a4 : ByteArray := prog_12_method_49_code
def yJ6_bitCount_0f7a4 : MethodName := ⟨RJ6, "bitCount", "(I)I"⟩
def RJ13 : String := "java/lang/Long"
def TJ13 : u_T := fun k => match k with
  | _ => ("", "", "", false)
def tyJ13 : Nat → FieldType := fun k => match k with
  | _ => .int
abbrev cJ13_bitCount_95d88 : ByteArray := prog_13_method_50_code
def yJ13_bitCount_95d88 : MethodName := ⟨RJ13, "bitCount", "(J)I"⟩
def RJ9 : String := "java/lang/Math"
def TJ9 : u_T := fun k => match k with
  | _ => ("", "", "", false)
def tyJ9 : Nat → FieldType := fun k => match k with
  | _ => .int
abbrev cJ9_max_7cf53 : ByteArray := prog_14_method_65_code
def yJ9_max_7cf53 : MethodName := ⟨RJ9, "max", "(II)I"⟩
abbrev cJ9_min_7cf53 : ByteArray := prog_14_method_69_code
def yJ9_min_7cf53 : MethodName := ⟨RJ9, "min", "(II)I"⟩
def RJ0 : String := "java/lang/String"
def TJ0 : u_T := fun k => match k with
  | _ => ("", "", "", false)
def tyJ0 : Nat → FieldType := fun k => match k with
  | _ => .int
abbrev cJ0_length_8abf5 : ByteArray := prog_15_method_54_code
def yJ0_length_8abf5 : MethodName := ⟨RJ0, "length", "()I"⟩
abbrev cJ0_charAt_5068e : ByteArray := prog_15_method_56_code
def yJ0_charAt_5068e : MethodName := ⟨RJ0, "charAt", "(I)C"⟩
abbrev cJ0_coder_7d493 : ByteArray := prog_15_method_152_code
def yJ0_coder_7d493 : MethodName := ⟨RJ0, "coder", "()B"⟩
abbrev cJ0_isLatin1_aae02 : ByteArray := prog_15_method_154_code
def yJ0_isLatin1_aae02 : MethodName := ⟨RJ0, "isLatin1", "()Z"⟩
abbrev cJ0_checkIndex_df160 : ByteArray := prog_15_method_155_code
def yJ0_checkIndex_df160 : MethodName := ⟨RJ0, "checkIndex", "(II)V"⟩
def RJ1 : String := "java/lang/StringLatin1"
def TJ1 : u_T := fun k => match k with
  | _ => ("", "", "", false)
def tyJ1 : Nat → FieldType := fun k => match k with
  | _ => .int
abbrev cJ1_charAt_3b067 : ByteArray := prog_16_method_2_code
def yJ1_charAt_3b067 : MethodName := ⟨RJ1, "charAt", "([BI)C"⟩
def RJ2 : String := "java/lang/StringUTF16"
def TJ2 : u_T := fun k => match k with
  | _ => ("", "", "", false)
def tyJ2 : Nat → FieldType := fun k => match k with
  | _ => .int
abbrev cJ2_getChar_3b067 : ByteArray := prog_17_method_5_code
def yJ2_getChar_3b067 : MethodName := ⟨RJ2, "getChar", "([BI)C"⟩
abbrev cJ2_length_9d52b : ByteArray := prog_17_method_6_code
def yJ2_length_9d52b : MethodName := ⟨RJ2, "length", "([B)I"⟩
abbrev cJ2_charAt_3b067 : ByteArray := prog_17_method_83_code
def yJ2_charAt_3b067 : MethodName := ⟨RJ2, "charAt", "([BI)C"⟩
abbrev cJ2_checkIndex_2214a : ByteArray := prog_17_method_91_code
def yJ2_checkIndex_2214a : MethodName := ⟨RJ2, "checkIndex", "(I[B)V"⟩
def RJ10 : String := "java/lang/System"
def TJ10 : u_T := fun k => match k with
  | _ => ("", "", "", false)
def tyJ10 : Nat → FieldType := fun k => match k with
  | _ => .int
def RJ3 : String := "jdk/internal/util/Preconditions"
def TJ3 : u_T := fun k => match k with
  | _ => ("", "", "", false)
def tyJ3 : Nat → FieldType := fun k => match k with
  | _ => .int
abbrev cJ3_checkIndex_8e157 : ByteArray := prog_19_method_11_code
def yJ3_checkIndex_8e157 : MethodName := ⟨RJ3, "checkIndex", "(IILjava/util/function/BiFunction;)I"⟩
def RL : String := "WindowsLookedOutLaw"
abbrev cL_law : ByteArray := code
def yL_law : MethodName := ⟨RL, "law", "([I)Z"⟩
abbrev vwCl : List vw_C := [(RX1, TX1, 5), (RX2, TX2, 6), (RX3, TX3, 3), (RX4, TX4, 2), (RX5, TX5, 14), (RX6, TX6, 5), (RX7, TX7, 2), (RX8, TX8, 11), (RX9, TX9, 33)]

/-! the words of the tables, by their places -/
theorem tb_m {w : Cond} (i : Nat) (h : tables_1[i]? = some w) : w ∈ lw_tbl := List.mem_append_right _ (List.mem_of_getElem? h)
theorem tb_s {y : MethodName} {n : Nat} (i : Nat) (h : lw_privs[i]? = some (y, n)) : Cond.selects y.cls y y ∈ lw_tbl :=
  List.mem_append_left _ (List.mem_map.mpr ⟨(y, n), List.mem_of_getElem? h, rfl⟩)
def TW : List Cond := lw_tbl.filter goodWord
/-- a call's words: of a method y with n arguments, its code b, its frame mL, its answer ret -/
def LkB (y : MethodName) (n : Nat) (b : ByteArray) (mL : Nat) (ret : Option FieldType) : Prop :=
  Cond.initialized y.cls ∈ lw_tbl ∧ Cond.code y b mL ret ∈ lw_tbl ∧ y.cls ≠ "java/lang/invoke/MethodHandle" ∧ y.cls ≠ "java/lang/invoke/VarHandle" ∧ (parseMethodDescriptor y.desc).map (fun d => d.parameters.length) = some n
def LkS (own : String) (idx : Nat) (y : MethodName) (n : Nat) (b : ByteArray) (mL : Nat) (ret : Option FieldType) : Prop :=
  LkB y n b mL ret ∧ Cond.methodLink own idx y ∈ lw_tbl ∧ Cond.static y ∈ lw_tbl
def LkV (own : String) (idx : Nat) (y : MethodName) (n : Nat) (b : ByteArray) (mL : Nat) (ret : Option FieldType) : Prop :=
  LkB y n b mL ret ∧ Cond.methodLink own idx y ∈ lw_tbl ∧ Cond.instanceMethod y ∈ lw_tbl ∧ Cond.selects y.cls y y ∈ lw_tbl
/-- a field's words: field k of class ci of vwCl -/
def LkF (own : String) (idx : Nat) (ci k : Nat) : Prop :=
  ∃ q : vw_C, vwCl[ci]? = some q ∧ k < q.2.2 ∧ Cond.fieldLink own idx (q.2.1 k).1 (q.2.1 k).2.1 (q.2.1 k).2.2.1 ∈ lw_tbl

theorem lbX8_row : LkB yX8_row 3 cX8_row 4 (some .int) := ⟨tb_m 1 (by decide +kernel), tb_m 250 (by decide +kernel), by decide +kernel, by decide +kernel, by decide +kernel⟩
theorem lbX8_isShelf : LkB yX8_isShelf 1 cX8_isShelf 1 (some .boolean) := ⟨tb_m 1 (by decide +kernel), tb_m 253 (by decide +kernel), by decide +kernel, by decide +kernel, by decide +kernel⟩
theorem lbX8_refuse : LkB yX8_refuse 1 cX8_refuse 3 (some .int) := ⟨tb_m 1 (by decide +kernel), tb_m 257 (by decide +kernel), by decide +kernel, by decide +kernel, by decide +kernel⟩
theorem lbX3_isSort : LkB yX3_isSort 1 cX3_isSort 1 (some .boolean) := ⟨tb_m 8 (by decide +kernel), tb_m 260 (by decide +kernel), by decide +kernel, by decide +kernel, by decide +kernel⟩
theorem lbX3_holdRow : LkB yX3_holdRow 2 cX3_holdRow 4 none := ⟨tb_m 8 (by decide +kernel), tb_m 264 (by decide +kernel), by decide +kernel, by decide +kernel, by decide +kernel⟩
theorem lbX8_set : LkB yX8_set 3 cX8_set 6 (some .int) := ⟨tb_m 1 (by decide +kernel), tb_m 268 (by decide +kernel), by decide +kernel, by decide +kernel, by decide +kernel⟩
theorem lbX8_rowTrouble : LkB yX8_rowTrouble 1 cX8_rowTrouble 2 (some .int) := ⟨tb_m 1 (by decide +kernel), tb_m 272 (by decide +kernel), by decide +kernel, by decide +kernel, by decide +kernel⟩
theorem lbX3_isPane : LkB yX3_isPane 0 cX3_isPane 1 (some .boolean) := ⟨tb_m 8 (by decide +kernel), tb_m 276 (by decide +kernel), by decide +kernel, by decide +kernel, by decide +kernel⟩
theorem lbX3_isRow : LkB yX3_isRow 0 cX3_isRow 1 (some .boolean) := ⟨tb_m 8 (by decide +kernel), tb_m 280 (by decide +kernel), by decide +kernel, by decide +kernel, by decide +kernel⟩
theorem lbX3_hasElement : LkB yX3_hasElement 1 cX3_hasElement 2 (some .boolean) := ⟨tb_m 8 (by decide +kernel), tb_m 284 (by decide +kernel), by decide +kernel, by decide +kernel, by decide +kernel⟩
theorem lbX3_keep : LkB yX3_keep 2 cX3_keep 4 none := ⟨tb_m 8 (by decide +kernel), tb_m 288 (by decide +kernel), by decide +kernel, by decide +kernel, by decide +kernel⟩
theorem lbX3_lowestBits : LkB yX3_lowestBits 1 cX3_lowestBits 3 (some .long) := ⟨tb_m 8 (by decide +kernel), tb_m 293 (by decide +kernel), by decide +kernel, by decide +kernel, by decide +kernel⟩
theorem lbX8_copy : LkB yX8_copy 5 cX8_copy 7 (some .int) := ⟨tb_m 1 (by decide +kernel), tb_m 297 (by decide +kernel), by decide +kernel, by decide +kernel, by decide +kernel⟩
theorem lbX8_copyTrouble : LkB yX8_copyTrouble 5 cX8_copyTrouble 8 (some .int) := ⟨tb_m 1 (by decide +kernel), tb_m 301 (by decide +kernel), by decide +kernel, by decide +kernel, by decide +kernel⟩
theorem lbX3_hasElements : LkB yX3_hasElements 2 cX3_hasElements 3 (some .boolean) := ⟨tb_m 8 (by decide +kernel), tb_m 305 (by decide +kernel), by decide +kernel, by decide +kernel, by decide +kernel⟩
theorem lbX3_takeFrom : LkB yX3_takeFrom 4 cX3_takeFrom 5 none := ⟨tb_m 8 (by decide +kernel), tb_m 309 (by decide +kernel), by decide +kernel, by decide +kernel, by decide +kernel⟩
theorem lbX8_element : LkB yX8_element 2 cX8_element 3 (some .long) := ⟨tb_m 1 (by decide +kernel), tb_m 317 (by decide +kernel), by decide +kernel, by decide +kernel, by decide +kernel⟩
theorem lbX3_longAt : LkB yX3_longAt 1 cX3_longAt 2 (some .long) := ⟨tb_m 8 (by decide +kernel), tb_m 321 (by decide +kernel), by decide +kernel, by decide +kernel, by decide +kernel⟩
theorem lbX8_show : LkB yX8_show 2 cX8_show 3 (some .int) := ⟨tb_m 1 (by decide +kernel), tb_m 325 (by decide +kernel), by decide +kernel, by decide +kernel, by decide +kernel⟩
theorem lbX5_isPane : LkB yX5_isPane 1 cX5_isPane 2 (some .boolean) := ⟨tb_m 2 (by decide +kernel), tb_m 329 (by decide +kernel), by decide +kernel, by decide +kernel, by decide +kernel⟩
theorem lbX3_holdPane : LkB yX3_holdPane 1 cX3_holdPane 2 none := ⟨tb_m 8 (by decide +kernel), tb_m 333 (by decide +kernel), by decide +kernel, by decide +kernel, by decide +kernel⟩
theorem lbX8_holds : LkB yX8_holds 1 cX8_holds 2 (some .int) := ⟨tb_m 1 (by decide +kernel), tb_m 337 (by decide +kernel), by decide +kernel, by decide +kernel, by decide +kernel⟩
theorem lbX8_says : LkB yX8_says 2 cX8_says 4 (some .int) := ⟨tb_m 1 (by decide +kernel), tb_m 341 (by decide +kernel), by decide +kernel, by decide +kernel, by decide +kernel⟩
theorem lbX8_isKind : LkB yX8_isKind 1 cX8_isKind 1 (some .boolean) := ⟨tb_m 1 (by decide +kernel), tb_m 344 (by decide +kernel), by decide +kernel, by decide +kernel, by decide +kernel⟩
theorem lbX5_kindOf : LkB yX5_kindOf 1 cX5_kindOf 2 (some .int) := ⟨tb_m 2 (by decide +kernel), tb_m 348 (by decide +kernel), by decide +kernel, by decide +kernel, by decide +kernel⟩
theorem lbX8_isUnder : LkB yX8_isUnder 2 cX8_isUnder 4 (some .boolean) := ⟨tb_m 1 (by decide +kernel), tb_m 352 (by decide +kernel), by decide +kernel, by decide +kernel, by decide +kernel⟩
theorem lbX8_above : LkB yX8_above 1 cX8_above 1 (some .int) := ⟨tb_m 1 (by decide +kernel), tb_m 355 (by decide +kernel), by decide +kernel, by decide +kernel, by decide +kernel⟩
theorem lbX5_outOf : LkB yX5_outOf 1 cX5_outOf 2 (some .int) := ⟨tb_m 2 (by decide +kernel), tb_m 361 (by decide +kernel), by decide +kernel, by decide +kernel, by decide +kernel⟩
theorem lbX5_aOf : LkB yX5_aOf 1 cX5_aOf 2 (some .int) := ⟨tb_m 2 (by decide +kernel), tb_m 365 (by decide +kernel), by decide +kernel, by decide +kernel, by decide +kernel⟩
theorem lbX5_sightOf : LkB yX5_sightOf 1 cX5_sightOf 2 (some .long) := ⟨tb_m 2 (by decide +kernel), tb_m 369 (by decide +kernel), by decide +kernel, by decide +kernel, by decide +kernel⟩
theorem lbX5_sightAmong : LkB yX5_sightAmong 2 cX5_sightAmong 6 (some .long) := ⟨tb_m 2 (by decide +kernel), tb_m 373 (by decide +kernel), by decide +kernel, by decide +kernel, by decide +kernel⟩
theorem lbX5_atOf : LkB yX5_atOf 1 cX5_atOf 2 (some .int) := ⟨tb_m 2 (by decide +kernel), tb_m 377 (by decide +kernel), by decide +kernel, by decide +kernel, by decide +kernel⟩
theorem lbX0_line : LkB yX0_line 4 cX0_line 9 (some .long) := ⟨tb_m 11 (by decide +kernel), tb_m 382 (by decide +kernel), by decide +kernel, by decide +kernel, by decide +kernel⟩
theorem lbX0_beside : LkB yX0_beside 2 cX0_beside 2 (some .int) := ⟨tb_m 11 (by decide +kernel), tb_m 385 (by decide +kernel), by decide +kernel, by decide +kernel, by decide +kernel⟩
theorem lbX0_has : LkB yX0_has 2 cX0_has 3 (some .boolean) := ⟨tb_m 11 (by decide +kernel), tb_m 388 (by decide +kernel), by decide +kernel, by decide +kernel, by decide +kernel⟩
theorem lbX0_with : LkB yX0_with 2 cX0_with 3 (some .long) := ⟨tb_m 11 (by decide +kernel), tb_m 391 (by decide +kernel), by decide +kernel, by decide +kernel, by decide +kernel⟩
theorem lbX0_wideLine : LkB yX0_wideLine 4 cX0_wideLine 11 (some .long) := ⟨tb_m 11 (by decide +kernel), tb_m 394 (by decide +kernel), by decide +kernel, by decide +kernel, by decide +kernel⟩
theorem lbX0_across : LkB yX0_across 3 cX0_across 8 (some .long) := ⟨tb_m 11 (by decide +kernel), tb_m 398 (by decide +kernel), by decide +kernel, by decide +kernel, by decide +kernel⟩
theorem lbX0_opposite : LkB yX0_opposite 1 cX0_opposite 1 (some .int) := ⟨tb_m 11 (by decide +kernel), tb_m 401 (by decide +kernel), by decide +kernel, by decide +kernel, by decide +kernel⟩
theorem lbJ13_bitCount_95d88 : LkB yJ13_bitCount_95d88 1 cJ13_bitCount_95d88 2 (some .int) := ⟨tb_m 12 (by decide +kernel), tb_m 405 (by decide +kernel), by decide +kernel, by decide +kernel, by decide +kernel⟩
theorem lbX8_house : LkB yX8_house 2 cX8_house 4 (some .int) := ⟨tb_m 1 (by decide +kernel), tb_m 413 (by decide +kernel), by decide +kernel, by decide +kernel, by decide +kernel⟩
theorem lbX0_isSquare : LkB yX0_isSquare 1 cX0_isSquare 1 (some .boolean) := ⟨tb_m 11 (by decide +kernel), tb_m 416 (by decide +kernel), by decide +kernel, by decide +kernel, by decide +kernel⟩
theorem lbX5_isSomebodyAt : LkB yX5_isSomebodyAt 1 cX5_isSomebodyAt 3 (some .boolean) := ⟨tb_m 2 (by decide +kernel), tb_m 420 (by decide +kernel), by decide +kernel, by decide +kernel, by decide +kernel⟩
theorem lbX5_isPaneAt : LkB yX5_isPaneAt 1 cX5_isPaneAt 3 (some .boolean) := ⟨tb_m 2 (by decide +kernel), tb_m 424 (by decide +kernel), by decide +kernel, by decide +kernel, by decide +kernel⟩
theorem lbX5_isHouse : LkB yX5_isHouse 1 cX5_isHouse 2 (some .boolean) := ⟨tb_m 2 (by decide +kernel), tb_m 428 (by decide +kernel), by decide +kernel, by decide +kernel, by decide +kernel⟩
theorem lbX5_build : LkB yX5_build 2 cX5_build 3 none := ⟨tb_m 2 (by decide +kernel), tb_m 433 (by decide +kernel), by decide +kernel, by decide +kernel, by decide +kernel⟩
theorem lbX0_without : LkB yX0_without 2 cX0_without 3 (some .long) := ⟨tb_m 11 (by decide +kernel), tb_m 437 (by decide +kernel), by decide +kernel, by decide +kernel, by decide +kernel⟩
theorem lbX8_pane : LkB yX8_pane 4 cX8_pane 5 (some .int) := ⟨tb_m 1 (by decide +kernel), tb_m 442 (by decide +kernel), by decide +kernel, by decide +kernel, by decide +kernel⟩
theorem lbX0_isWay : LkB yX0_isWay 1 cX0_isWay 1 (some .boolean) := ⟨tb_m 11 (by decide +kernel), tb_m 445 (by decide +kernel), by decide +kernel, by decide +kernel, by decide +kernel⟩
theorem lbX5_hasRoomForPane : LkB yX5_hasRoomForPane 0 cX5_hasRoomForPane 1 (some .boolean) := ⟨tb_m 2 (by decide +kernel), tb_m 449 (by decide +kernel), by decide +kernel, by decide +kernel, by decide +kernel⟩
theorem lbX5_addPane : LkB yX5_addPane 4 cX5_addPane 6 (some .int) := ⟨tb_m 2 (by decide +kernel), tb_m 453 (by decide +kernel), by decide +kernel, by decide +kernel, by decide +kernel⟩
theorem lbX8_walker : LkB yX8_walker 2 cX8_walker 3 (some .int) := ⟨tb_m 1 (by decide +kernel), tb_m 457 (by decide +kernel), by decide +kernel, by decide +kernel, by decide +kernel⟩
theorem lbX5_isYard : LkB yX5_isYard 1 cX5_isYard 2 (some .boolean) := ⟨tb_m 2 (by decide +kernel), tb_m 461 (by decide +kernel), by decide +kernel, by decide +kernel, by decide +kernel⟩
theorem lbX5_hasRoomForWalker : LkB yX5_hasRoomForWalker 0 cX5_hasRoomForWalker 1 (some .boolean) := ⟨tb_m 2 (by decide +kernel), tb_m 467 (by decide +kernel), by decide +kernel, by decide +kernel, by decide +kernel⟩
theorem lbX5_addWalker : LkB yX5_addWalker 2 cX5_addWalker 4 (some .int) := ⟨tb_m 2 (by decide +kernel), tb_m 471 (by decide +kernel), by decide +kernel, by decide +kernel, by decide +kernel⟩
theorem lbX8_put : LkB yX8_put 3 cX8_put 5 (some .int) := ⟨tb_m 1 (by decide +kernel), tb_m 475 (by decide +kernel), by decide +kernel, by decide +kernel, by decide +kernel⟩
theorem lbX5_isWalker : LkB yX5_isWalker 1 cX5_isWalker 2 (some .boolean) := ⟨tb_m 2 (by decide +kernel), tb_m 479 (by decide +kernel), by decide +kernel, by decide +kernel, by decide +kernel⟩
theorem lbX5_whereIs : LkB yX5_whereIs 1 cX5_whereIs 2 (some .int) := ⟨tb_m 2 (by decide +kernel), tb_m 483 (by decide +kernel), by decide +kernel, by decide +kernel, by decide +kernel⟩
theorem lbX5_place : LkB yX5_place 3 cX5_place 4 none := ⟨tb_m 2 (by decide +kernel), tb_m 488 (by decide +kernel), by decide +kernel, by decide +kernel, by decide +kernel⟩
theorem lbX8_reach : LkB yX8_reach 1 cX8_reach 3 (some .int) := ⟨tb_m 1 (by decide +kernel), tb_m 492 (by decide +kernel), by decide +kernel, by decide +kernel, by decide +kernel⟩
theorem lbX8_isReach : LkB yX8_isReach 1 cX8_isReach 1 (some .boolean) := ⟨tb_m 1 (by decide +kernel), tb_m 495 (by decide +kernel), by decide +kernel, by decide +kernel, by decide +kernel⟩
theorem lbX8_paneOf : LkB yX8_paneOf 2 cX8_paneOf 3 (some .int) := ⟨tb_m 1 (by decide +kernel), tb_m 499 (by decide +kernel), by decide +kernel, by decide +kernel, by decide +kernel⟩
theorem lbX5_walkersIn : LkB yX5_walkersIn 1 cX5_walkersIn 5 (some .int) := ⟨tb_m 2 (by decide +kernel), tb_m 503 (by decide +kernel), by decide +kernel, by decide +kernel, by decide +kernel⟩
theorem lbX8_walkerOf : LkB yX8_walkerOf 2 cX8_walkerOf 3 (some .int) := ⟨tb_m 1 (by decide +kernel), tb_m 507 (by decide +kernel), by decide +kernel, by decide +kernel, by decide +kernel⟩
theorem lbX5_facedBy : LkB yX5_facedBy 1 cX5_facedBy 2 (some .int) := ⟨tb_m 2 (by decide +kernel), tb_m 511 (by decide +kernel), by decide +kernel, by decide +kernel, by decide +kernel⟩
theorem lbX5_triedOf : LkB yX5_triedOf 1 cX5_triedOf 2 (some .int) := ⟨tb_m 2 (by decide +kernel), tb_m 515 (by decide +kernel), by decide +kernel, by decide +kernel, by decide +kernel⟩
theorem lbX5_lookedInBy : LkB yX5_lookedInBy 1 cX5_lookedInBy 2 (some .int) := ⟨tb_m 2 (by decide +kernel), tb_m 519 (by decide +kernel), by decide +kernel, by decide +kernel, by decide +kernel⟩
theorem lbX5_lookedInFrom : LkB yX5_lookedInFrom 2 cX5_lookedInFrom 5 (some .int) := ⟨tb_m 2 (by decide +kernel), tb_m 525 (by decide +kernel), by decide +kernel, by decide +kernel, by decide +kernel⟩
theorem lbX5_openTo : LkB yX5_openTo 3 cX5_openTo 6 (some .int) := ⟨tb_m 2 (by decide +kernel), tb_m 531 (by decide +kernel), by decide +kernel, by decide +kernel, by decide +kernel⟩
theorem lbX5_letsIn : LkB yX5_letsIn 3 cX5_letsIn 3 (some .boolean) := ⟨tb_m 2 (by decide +kernel), tb_m 534 (by decide +kernel), by decide +kernel, by decide +kernel, by decide +kernel⟩
theorem lbJ6_bitCount_0f7a4 : LkB yJ6_bitCount_0f7a4 1 cJ6_bitCount_0f7a4 1 (some .int) := ⟨tb_m 13 (by decide +kernel), tb_m 537 (by decide +kernel), by decide +kernel, by decide +kernel, by decide +kernel⟩
theorem lbX8_panesThatSee : LkB yX8_panesThatSee 1 cX8_panesThatSee 2 (some .int) := ⟨tb_m 1 (by decide +kernel), tb_m 544 (by decide +kernel), by decide +kernel, by decide +kernel, by decide +kernel⟩
theorem lbX4_take : LkB yX4_take 2 cX4_take 5 none := ⟨tb_m 4 (by decide +kernel), tb_m 548 (by decide +kernel), by decide +kernel, by decide +kernel, by decide +kernel⟩
theorem lbJ9_min_7cf53 : LkB yJ9_min_7cf53 2 cJ9_min_7cf53 2 (some .int) := ⟨tb_m 14 (by decide +kernel), tb_m 551 (by decide +kernel), by decide +kernel, by decide +kernel, by decide +kernel⟩
theorem lbX4_thatSee : LkB yX4_thatSee 1 cX4_thatSee 4 (some .int) := ⟨tb_m 4 (by decide +kernel), tb_m 556 (by decide +kernel), by decide +kernel, by decide +kernel, by decide +kernel⟩
theorem lbX8_town : LkB yX8_town 1 cX8_town 4 (some .int) := ⟨tb_m 1 (by decide +kernel), tb_m 561 (by decide +kernel), by decide +kernel, by decide +kernel, by decide +kernel⟩
theorem lbX2_readOver : LkB yX2_readOver 2 cX2_readOver 4 (some .int) := ⟨tb_m 3 (by decide +kernel), tb_m 565 (by decide +kernel), by decide +kernel, by decide +kernel, by decide +kernel⟩
theorem lbX5_become : LkB yX5_become 1 cX5_become 3 none := ⟨tb_m 2 (by decide +kernel), tb_m 569 (by decide +kernel), by decide +kernel, by decide +kernel, by decide +kernel⟩
theorem lbX3_intAt : LkB yX3_intAt 1 cX3_intAt 2 (some .int) := ⟨tb_m 8 (by decide +kernel), tb_m 574 (by decide +kernel), by decide +kernel, by decide +kernel, by decide +kernel⟩
theorem lbX2_readItem : LkB yX2_readItem 0 cX2_readItem 1 none := ⟨tb_m 3 (by decide +kernel), tb_m 579 (by decide +kernel), by decide +kernel, by decide +kernel, by decide +kernel⟩
theorem lbX2_letter : LkB yX2_letter 0 cX2_letter 1 (some .int) := ⟨tb_m 3 (by decide +kernel), tb_m 583 (by decide +kernel), by decide +kernel, by decide +kernel, by decide +kernel⟩
theorem lbX2_readHouse : LkB yX2_readHouse 0 cX2_readHouse 2 none := ⟨tb_m 3 (by decide +kernel), tb_m 587 (by decide +kernel), by decide +kernel, by decide +kernel, by decide +kernel⟩
theorem lbX2_expectWord : LkB yX2_expectWord 1 cX2_expectWord 3 none := ⟨tb_m 3 (by decide +kernel), tb_m 592 (by decide +kernel), by decide +kernel, by decide +kernel, by decide +kernel⟩
theorem lbJ0_length_8abf5 : LkB yJ0_length_8abf5 0 cJ0_length_8abf5 1 (some .int) := ⟨tb_m 15 (by decide +kernel), tb_m 596 (by decide +kernel), by decide +kernel, by decide +kernel, by decide +kernel⟩
theorem lbJ0_coder_7d493 : LkB yJ0_coder_7d493 0 cJ0_coder_7d493 1 (some .byte) := ⟨tb_m 15 (by decide +kernel), tb_m 600 (by decide +kernel), by decide +kernel, by decide +kernel, by decide +kernel⟩
theorem lbJ0_charAt_5068e : LkB yJ0_charAt_5068e 1 cJ0_charAt_5068e 2 (some .char) := ⟨tb_m 15 (by decide +kernel), tb_m 606 (by decide +kernel), by decide +kernel, by decide +kernel, by decide +kernel⟩
theorem lbJ0_isLatin1_aae02 : LkB yJ0_isLatin1_aae02 0 cJ0_isLatin1_aae02 1 (some .boolean) := ⟨tb_m 15 (by decide +kernel), tb_m 610 (by decide +kernel), by decide +kernel, by decide +kernel, by decide +kernel⟩
theorem lbJ1_charAt_3b067 : LkB yJ1_charAt_3b067 2 cJ1_charAt_3b067 2 (some .char) := ⟨tb_m 16 (by decide +kernel), tb_m 613 (by decide +kernel), by decide +kernel, by decide +kernel, by decide +kernel⟩
theorem lbJ0_checkIndex_df160 : LkB yJ0_checkIndex_df160 2 cJ0_checkIndex_df160 2 none := ⟨tb_m 15 (by decide +kernel), tb_m 616 (by decide +kernel), by decide +kernel, by decide +kernel, by decide +kernel⟩
theorem lbJ3_checkIndex_8e157 : LkB yJ3_checkIndex_8e157 3 cJ3_checkIndex_8e157 3 (some .int) := ⟨tb_m 17 (by decide +kernel), tb_m 621 (by decide +kernel), by decide +kernel, by decide +kernel, by decide +kernel⟩
theorem lbJ2_charAt_3b067 : LkB yJ2_charAt_3b067 2 cJ2_charAt_3b067 2 (some .char) := ⟨tb_m 18 (by decide +kernel), tb_m 624 (by decide +kernel), by decide +kernel, by decide +kernel, by decide +kernel⟩
theorem lbJ2_checkIndex_2214a : LkB yJ2_checkIndex_2214a 2 cJ2_checkIndex_2214a 2 none := ⟨tb_m 18 (by decide +kernel), tb_m 627 (by decide +kernel), by decide +kernel, by decide +kernel, by decide +kernel⟩
theorem lbJ2_length_9d52b : LkB yJ2_length_9d52b 1 cJ2_length_9d52b 1 (some .int) := ⟨tb_m 18 (by decide +kernel), tb_m 630 (by decide +kernel), by decide +kernel, by decide +kernel, by decide +kernel⟩
theorem lbJ2_getChar_3b067 : LkB yJ2_getChar_3b067 2 cJ2_getChar_3b067 2 (some .char) := ⟨tb_m 18 (by decide +kernel), tb_m 634 (by decide +kernel), by decide +kernel, by decide +kernel, by decide +kernel⟩
theorem lbX2_expect : LkB yX2_expect 1 cX2_expect 2 none := ⟨tb_m 3 (by decide +kernel), tb_m 644 (by decide +kernel), by decide +kernel, by decide +kernel, by decide +kernel⟩
theorem lbX2_readNumber : LkB yX2_readNumber 0 cX2_readNumber 2 (some .int) := ⟨tb_m 3 (by decide +kernel), tb_m 648 (by decide +kernel), by decide +kernel, by decide +kernel, by decide +kernel⟩
theorem lbX2_isDigit : LkB yX2_isDigit 0 cX2_isDigit 1 (some .boolean) := ⟨tb_m 3 (by decide +kernel), tb_m 652 (by decide +kernel), by decide +kernel, by decide +kernel, by decide +kernel⟩
theorem lbX2_takeDigit : LkB yX2_takeDigit 0 cX2_takeDigit 2 (some .int) := ⟨tb_m 3 (by decide +kernel), tb_m 656 (by decide +kernel), by decide +kernel, by decide +kernel, by decide +kernel⟩
theorem lbX2_allow : LkB yX2_allow 1 cX2_allow 2 none := ⟨tb_m 3 (by decide +kernel), tb_m 662 (by decide +kernel), by decide +kernel, by decide +kernel, by decide +kernel⟩
theorem lbX2_readYard : LkB yX2_readYard 0 cX2_readYard 2 none := ⟨tb_m 3 (by decide +kernel), tb_m 667 (by decide +kernel), by decide +kernel, by decide +kernel, by decide +kernel⟩
theorem lbX2_readPane : LkB yX2_readPane 0 cX2_readPane 6 none := ⟨tb_m 3 (by decide +kernel), tb_m 673 (by decide +kernel), by decide +kernel, by decide +kernel, by decide +kernel⟩
theorem lbX2_readWalker : LkB yX2_readWalker 0 cX2_readWalker 4 none := ⟨tb_m 3 (by decide +kernel), tb_m 683 (by decide +kernel), by decide +kernel, by decide +kernel, by decide +kernel⟩
theorem lbX2_readReach : LkB yX2_readReach 0 cX2_readReach 2 none := ⟨tb_m 3 (by decide +kernel), tb_m 691 (by decide +kernel), by decide +kernel, by decide +kernel, by decide +kernel⟩
theorem lbX8_fault : LkB yX8_fault 0 cX8_fault 1 (some .int) := ⟨tb_m 1 (by decide +kernel), tb_m 699 (by decide +kernel), by decide +kernel, by decide +kernel, by decide +kernel⟩
theorem lbX8_seen : LkB yX8_seen 2 cX8_seen 3 (some .int) := ⟨tb_m 1 (by decide +kernel), tb_m 703 (by decide +kernel), by decide +kernel, by decide +kernel, by decide +kernel⟩
theorem lbX8_refuseApart : LkB yX8_refuseApart 1 cX8_refuseApart 2 (some .int) := ⟨tb_m 1 (by decide +kernel), tb_m 707 (by decide +kernel), by decide +kernel, by decide +kernel, by decide +kernel⟩
theorem lbX8_looks : LkB yX8_looks 2 cX8_looks 3 (some .int) := ⟨tb_m 1 (by decide +kernel), tb_m 711 (by decide +kernel), by decide +kernel, by decide +kernel, by decide +kernel⟩
theorem lbX8_all : LkB yX8_all 0 cX8_all 1 (some .int) := ⟨tb_m 1 (by decide +kernel), tb_m 716 (by decide +kernel), by decide +kernel, by decide +kernel, by decide +kernel⟩
theorem lbX4_union : LkB yX4_union 0 cX4_union 1 (some .long) := ⟨tb_m 4 (by decide +kernel), tb_m 720 (by decide +kernel), by decide +kernel, by decide +kernel, by decide +kernel⟩
theorem lbX4_unionOf : LkB yX4_unionOf 1 cX4_unionOf 5 (some .long) := ⟨tb_m 4 (by decide +kernel), tb_m 724 (by decide +kernel), by decide +kernel, by decide +kernel, by decide +kernel⟩
theorem lbX8_turn : LkB yX8_turn 2 cX8_turn 8 (some .int) := ⟨tb_m 1 (by decide +kernel), tb_m 728 (by decide +kernel), by decide +kernel, by decide +kernel, by decide +kernel⟩
theorem lbX5_shameFrom : LkB yX5_shameFrom 2 cX5_shameFrom 3 (some .int) := ⟨tb_m 2 (by decide +kernel), tb_m 732 (by decide +kernel), by decide +kernel, by decide +kernel, by decide +kernel⟩
theorem lbX8_way : LkB yX8_way 3 cX8_way 5 (some .int) := ⟨tb_m 1 (by decide +kernel), tb_m 737 (by decide +kernel), by decide +kernel, by decide +kernel, by decide +kernel⟩
theorem lbX7_measure : LkB yX7_measure 3 cX7_measure 8 none := ⟨tb_m 6 (by decide +kernel), tb_m 741 (by decide +kernel), by decide +kernel, by decide +kernel, by decide +kernel⟩
theorem lbX7_cheapestOpen : LkB yX7_cheapestOpen 0 cX7_cheapestOpen 3 (some .int) := ⟨tb_m 6 (by decide +kernel), tb_m 746 (by decide +kernel), by decide +kernel, by decide +kernel, by decide +kernel⟩
theorem lbX7_leadsFrom : LkB yX7_leadsFrom 1 cX7_leadsFrom 2 (some .boolean) := ⟨tb_m 6 (by decide +kernel), tb_m 754 (by decide +kernel), by decide +kernel, by decide +kernel, by decide +kernel⟩
theorem lbX7_priceFrom : LkB yX7_priceFrom 1 cX7_priceFrom 2 (some .int) := ⟨tb_m 6 (by decide +kernel), tb_m 758 (by decide +kernel), by decide +kernel, by decide +kernel, by decide +kernel⟩
theorem lbX7_stepPrice : LkB yX7_stepPrice 4 cX7_stepPrice 4 (some .int) := ⟨tb_m 6 (by decide +kernel), tb_m 763 (by decide +kernel), by decide +kernel, by decide +kernel, by decide +kernel⟩
theorem lbX7_lower : LkB yX7_lower 2 cX7_lower 3 none := ⟨tb_m 6 (by decide +kernel), tb_m 768 (by decide +kernel), by decide +kernel, by decide +kernel, by decide +kernel⟩
theorem lbX7_firstFrom : LkB yX7_firstFrom 2 cX7_firstFrom 5 (some .int) := ⟨tb_m 6 (by decide +kernel), tb_m 775 (by decide +kernel), by decide +kernel, by decide +kernel, by decide +kernel⟩
theorem lbX8_cover : LkB yX8_cover 1 cX8_cover 3 (some .int) := ⟨tb_m 1 (by decide +kernel), tb_m 779 (by decide +kernel), by decide +kernel, by decide +kernel, by decide +kernel⟩
theorem lbX8_squaresTrouble : LkB yX8_squaresTrouble 1 cX8_squaresTrouble 4 (some .int) := ⟨tb_m 1 (by decide +kernel), tb_m 783 (by decide +kernel), by decide +kernel, by decide +kernel, by decide +kernel⟩
theorem lbX3_squares : LkB yX3_squares 0 cX3_squares 4 (some .long) := ⟨tb_m 8 (by decide +kernel), tb_m 788 (by decide +kernel), by decide +kernel, by decide +kernel, by decide +kernel⟩
theorem lbX4_fewestFor : LkB yX4_fewestFor 1 cX4_fewestFor 6 (some .int) := ⟨tb_m 4 (by decide +kernel), tb_m 794 (by decide +kernel), by decide +kernel, by decide +kernel, by decide +kernel⟩
theorem lbX8_sole : LkB yX8_sole 0 cX8_sole 1 (some .int) := ⟨tb_m 1 (by decide +kernel), tb_m 800 (by decide +kernel), by decide +kernel, by decide +kernel, by decide +kernel⟩
theorem lbX4_mostAlone : LkB yX4_mostAlone 0 cX4_mostAlone 6 (some .int) := ⟨tb_m 4 (by decide +kernel), tb_m 804 (by decide +kernel), by decide +kernel, by decide +kernel, by decide +kernel⟩
theorem lbX8_where : LkB yX8_where 2 cX8_where 6 (some .int) := ⟨tb_m 1 (by decide +kernel), tb_m 809 (by decide +kernel), by decide +kernel, by decide +kernel, by decide +kernel⟩
theorem lbX5_allPanes : LkB yX5_allPanes 0 cX5_allPanes 1 (some .int) := ⟨tb_m 2 (by decide +kernel), tb_m 813 (by decide +kernel), by decide +kernel, by decide +kernel, by decide +kernel⟩
theorem lbX8_ask : LkB yX8_ask 1 cX8_ask 3 (some .int) := ⟨tb_m 1 (by decide +kernel), tb_m 817 (by decide +kernel), by decide +kernel, by decide +kernel, by decide +kernel⟩
theorem lbX4_bestParting : LkB yX4_bestParting 1 cX4_bestParting 7 (some .int) := ⟨tb_m 4 (by decide +kernel), tb_m 821 (by decide +kernel), by decide +kernel, by decide +kernel, by decide +kernel⟩
theorem lbJ9_max_7cf53 : LkB yJ9_max_7cf53 2 cJ9_max_7cf53 2 (some .int) := ⟨tb_m 14 (by decide +kernel), tb_m 825 (by decide +kernel), by decide +kernel, by decide +kernel, by decide +kernel⟩
theorem lbX8_fresh : LkB yX8_fresh 1 cX8_fresh 4 (some .int) := ⟨tb_m 1 (by decide +kernel), tb_m 829 (by decide +kernel), by decide +kernel, by decide +kernel, by decide +kernel⟩
theorem lbX8_housed : LkB yX8_housed 1 cX8_housed 6 (some .int) := ⟨tb_m 1 (by decide +kernel), tb_m 835 (by decide +kernel), by decide +kernel, by decide +kernel, by decide +kernel⟩
theorem lbX8_meet : LkB yX8_meet 3 cX8_meet 8 (some .int) := ⟨tb_m 1 (by decide +kernel), tb_m 840 (by decide +kernel), by decide +kernel, by decide +kernel, by decide +kernel⟩
theorem lbX8_judge : LkB yX8_judge 3 cX8_judge 5 (some .int) := ⟨tb_m 1 (by decide +kernel), tb_m 844 (by decide +kernel), by decide +kernel, by decide +kernel, by decide +kernel⟩
theorem lbX8_walkTrouble : LkB yX8_walkTrouble 4 cX8_walkTrouble 6 (some .int) := ⟨tb_m 1 (by decide +kernel), tb_m 848 (by decide +kernel), by decide +kernel, by decide +kernel, by decide +kernel⟩
theorem lbX6_follow : LkB yX6_follow 4 cX6_follow 9 none := ⟨tb_m 5 (by decide +kernel), tb_m 852 (by decide +kernel), by decide +kernel, by decide +kernel, by decide +kernel⟩
theorem lbX8_behind : LkB yX8_behind 4 cX8_behind 6 (some .int) := ⟨tb_m 1 (by decide +kernel), tb_m 863 (by decide +kernel), by decide +kernel, by decide +kernel, by decide +kernel⟩
theorem lbX8_done : LkB yX8_done 3 cX8_done 5 (some .int) := ⟨tb_m 1 (by decide +kernel), tb_m 867 (by decide +kernel), by decide +kernel, by decide +kernel, by decide +kernel⟩
theorem lbX5_bear : LkB yX5_bear 2 cX5_bear 3 none := ⟨tb_m 2 (by decide +kernel), tb_m 871 (by decide +kernel), by decide +kernel, by decide +kernel, by decide +kernel⟩
theorem lbX8_days : LkB yX8_days 1 cX8_days 3 (some .int) := ⟨tb_m 1 (by decide +kernel), tb_m 875 (by decide +kernel), by decide +kernel, by decide +kernel, by decide +kernel⟩
theorem lbX5_liveOneDay : LkB yX5_liveOneDay 0 cX5_liveOneDay 4 none := ⟨tb_m 2 (by decide +kernel), tb_m 879 (by decide +kernel), by decide +kernel, by decide +kernel, by decide +kernel⟩
theorem lbX5_draw : LkB yX5_draw 1 cX5_draw 2 (some .int) := ⟨tb_m 2 (by decide +kernel), tb_m 883 (by decide +kernel), by decide +kernel, by decide +kernel, by decide +kernel⟩
theorem lbX8_seed : LkB yX8_seed 1 cX8_seed 3 (some .int) := ⟨tb_m 1 (by decide +kernel), tb_m 892 (by decide +kernel), by decide +kernel, by decide +kernel, by decide +kernel⟩
theorem lbX8_act : LkB yX8_act 3 cX8_act 4 (some .int) := ⟨tb_m 1 (by decide +kernel), tb_m 896 (by decide +kernel), by decide +kernel, by decide +kernel, by decide +kernel⟩
theorem lbX1_forget : LkB yX1_forget 0 cX1_forget 1 none := ⟨tb_m 7 (by decide +kernel), tb_m 900 (by decide +kernel), by decide +kernel, by decide +kernel, by decide +kernel⟩
theorem lbX1_isMove : LkB yX1_isMove 1 cX1_isMove 1 (some .boolean) := ⟨tb_m 7 (by decide +kernel), tb_m 903 (by decide +kernel), by decide +kernel, by decide +kernel, by decide +kernel⟩
theorem lbX1_make : LkB yX1_make 5 cX1_make 6 (some .int) := ⟨tb_m 7 (by decide +kernel), tb_m 907 (by decide +kernel), by decide +kernel, by decide +kernel, by decide +kernel⟩
theorem lbX1_run : LkB yX1_run 5 cX1_run 7 (some .int) := ⟨tb_m 7 (by decide +kernel), tb_m 910 (by decide +kernel), by decide +kernel, by decide +kernel, by decide +kernel⟩
theorem lbX1_bodyOf : LkB yX1_bodyOf 2 cX1_bodyOf 5 (some .int) := ⟨tb_m 7 (by decide +kernel), tb_m 913 (by decide +kernel), by decide +kernel, by decide +kernel, by decide +kernel⟩
theorem lbX1_note : LkB yX1_note 1 cX1_note 2 none := ⟨tb_m 7 (by decide +kernel), tb_m 922 (by decide +kernel), by decide +kernel, by decide +kernel, by decide +kernel⟩
theorem lbX8_trace : LkB yX8_trace 1 cX8_trace 2 (some .int) := ⟨tb_m 1 (by decide +kernel), tb_m 926 (by decide +kernel), by decide +kernel, by decide +kernel, by decide +kernel⟩
theorem lbX1_bodyAt : LkB yX1_bodyAt 1 cX1_bodyAt 2 (some .int) := ⟨tb_m 7 (by decide +kernel), tb_m 930 (by decide +kernel), by decide +kernel, by decide +kernel, by decide +kernel⟩
theorem lbX8_image : LkB yX8_image 0 cX8_image 1 (some .int) := ⟨tb_m 1 (by decide +kernel), tb_m 934 (by decide +kernel), by decide +kernel, by decide +kernel, by decide +kernel⟩
theorem lbX8_restore : LkB yX8_restore 0 cX8_restore 2 (some .int) := ⟨tb_m 1 (by decide +kernel), tb_m 938 (by decide +kernel), by decide +kernel, by decide +kernel, by decide +kernel⟩
theorem lbX8_status : LkB yX8_status 1 cX8_status 2 (some .int) := ⟨tb_m 1 (by decide +kernel), tb_m 942 (by decide +kernel), by decide +kernel, by decide +kernel, by decide +kernel⟩
theorem lbX5_triedTogether : LkB yX5_triedTogether 0 cX5_triedTogether 3 (some .int) := ⟨tb_m 2 (by decide +kernel), tb_m 946 (by decide +kernel), by decide +kernel, by decide +kernel, by decide +kernel⟩
theorem lbX8_refusalsOf : LkB yX8_refusalsOf 1 cX8_refusalsOf 2 (some .int) := ⟨tb_m 1 (by decide +kernel), tb_m 950 (by decide +kernel), by decide +kernel, by decide +kernel, by decide +kernel⟩
theorem lbX9_row : LkB yX9_row 3 cX9_row 5 (some .int) := ⟨tb_m 9 (by decide +kernel), tb_m 1061 (by decide +kernel), by decide +kernel, by decide +kernel, by decide +kernel⟩
theorem lbX9_within : LkB yX9_within 3 cX9_within 3 (some .boolean) := ⟨tb_m 9 (by decide +kernel), tb_m 1064 (by decide +kernel), by decide +kernel, by decide +kernel, by decide +kernel⟩
theorem lbX9_no : LkB yX9_no 1 cX9_no 2 (some .int) := ⟨tb_m 9 (by decide +kernel), tb_m 1068 (by decide +kernel), by decide +kernel, by decide +kernel, by decide +kernel⟩
theorem lbX9_set : LkB yX9_set 3 cX9_set 7 (some .int) := ⟨tb_m 9 (by decide +kernel), tb_m 1072 (by decide +kernel), by decide +kernel, by decide +kernel, by decide +kernel⟩
theorem lbX9_noRow : LkB yX9_noRow 1 cX9_noRow 2 (some .int) := ⟨tb_m 9 (by decide +kernel), tb_m 1076 (by decide +kernel), by decide +kernel, by decide +kernel, by decide +kernel⟩
theorem lbX9_isRow : LkB yX9_isRow 1 cX9_isRow 2 (some .boolean) := ⟨tb_m 9 (by decide +kernel), tb_m 1080 (by decide +kernel), by decide +kernel, by decide +kernel, by decide +kernel⟩
theorem lbX9_copy : LkB yX9_copy 5 cX9_copy 7 (some .int) := ⟨tb_m 9 (by decide +kernel), tb_m 1084 (by decide +kernel), by decide +kernel, by decide +kernel, by decide +kernel⟩
theorem lbX9_element : LkB yX9_element 2 cX9_element 3 (some .long) := ⟨tb_m 9 (by decide +kernel), tb_m 1088 (by decide +kernel), by decide +kernel, by decide +kernel, by decide +kernel⟩
theorem lbX9_show : LkB yX9_show 2 cX9_show 3 (some .int) := ⟨tb_m 9 (by decide +kernel), tb_m 1092 (by decide +kernel), by decide +kernel, by decide +kernel, by decide +kernel⟩
theorem lbX9_isPane : LkB yX9_isPane 1 cX9_isPane 2 (some .boolean) := ⟨tb_m 9 (by decide +kernel), tb_m 1096 (by decide +kernel), by decide +kernel, by decide +kernel, by decide +kernel⟩
theorem lbX9_holds : LkB yX9_holds 1 cX9_holds 2 (some .int) := ⟨tb_m 9 (by decide +kernel), tb_m 1100 (by decide +kernel), by decide +kernel, by decide +kernel, by decide +kernel⟩
theorem lbX9_says : LkB yX9_says 2 cX9_says 4 (some .int) := ⟨tb_m 9 (by decide +kernel), tb_m 1104 (by decide +kernel), by decide +kernel, by decide +kernel, by decide +kernel⟩
theorem lbX9_isUnder : LkB yX9_isUnder 2 cX9_isUnder 3 (some .boolean) := ⟨tb_m 9 (by decide +kernel), tb_m 1107 (by decide +kernel), by decide +kernel, by decide +kernel, by decide +kernel⟩
theorem lbX9_above : LkB yX9_above 1 cX9_above 1 (some .int) := ⟨tb_m 9 (by decide +kernel), tb_m 1110 (by decide +kernel), by decide +kernel, by decide +kernel, by decide +kernel⟩
theorem lbX9_sees : LkB yX9_sees 1 cX9_sees 2 (some .long) := ⟨tb_m 9 (by decide +kernel), tb_m 1114 (by decide +kernel), by decide +kernel, by decide +kernel, by decide +kernel⟩
theorem lbX9_line : LkB yX9_line 4 cX9_line 10 (some .long) := ⟨tb_m 9 (by decide +kernel), tb_m 1118 (by decide +kernel), by decide +kernel, by decide +kernel, by decide +kernel⟩
theorem lbX9_next : LkB yX9_next 2 cX9_next 2 (some .int) := ⟨tb_m 9 (by decide +kernel), tb_m 1121 (by decide +kernel), by decide +kernel, by decide +kernel, by decide +kernel⟩
theorem lbX9_bit : LkB yX9_bit 1 cX9_bit 2 (some .long) := ⟨tb_m 9 (by decide +kernel), tb_m 1125 (by decide +kernel), by decide +kernel, by decide +kernel, by decide +kernel⟩
theorem lbX9_isOpen : LkB yX9_isOpen 1 cX9_isOpen 2 (some .boolean) := ⟨tb_m 9 (by decide +kernel), tb_m 1129 (by decide +kernel), by decide +kernel, by decide +kernel, by decide +kernel⟩
theorem lbX9_isSquare : LkB yX9_isSquare 1 cX9_isSquare 1 (some .boolean) := ⟨tb_m 9 (by decide +kernel), tb_m 1132 (by decide +kernel), by decide +kernel, by decide +kernel, by decide +kernel⟩
theorem lbX9_house : LkB yX9_house 2 cX9_house 4 (some .int) := ⟨tb_m 9 (by decide +kernel), tb_m 1137 (by decide +kernel), by decide +kernel, by decide +kernel, by decide +kernel⟩
theorem lbX9_mayBecome : LkB yX9_mayBecome 2 cX9_mayBecome 3 (some .boolean) := ⟨tb_m 9 (by decide +kernel), tb_m 1141 (by decide +kernel), by decide +kernel, by decide +kernel, by decide +kernel⟩
theorem lbX9_isStood : LkB yX9_isStood 1 cX9_isStood 3 (some .boolean) := ⟨tb_m 9 (by decide +kernel), tb_m 1145 (by decide +kernel), by decide +kernel, by decide +kernel, by decide +kernel⟩
theorem lbX9_isPaned : LkB yX9_isPaned 1 cX9_isPaned 3 (some .boolean) := ⟨tb_m 9 (by decide +kernel), tb_m 1149 (by decide +kernel), by decide +kernel, by decide +kernel, by decide +kernel⟩
theorem lbX9_pane : LkB yX9_pane 4 cX9_pane 5 (some .int) := ⟨tb_m 9 (by decide +kernel), tb_m 1153 (by decide +kernel), by decide +kernel, by decide +kernel, by decide +kernel⟩
theorem lbX9_isHouse : LkB yX9_isHouse 1 cX9_isHouse 2 (some .boolean) := ⟨tb_m 9 (by decide +kernel), tb_m 1157 (by decide +kernel), by decide +kernel, by decide +kernel, by decide +kernel⟩
theorem lbX9_isWay : LkB yX9_isWay 1 cX9_isWay 1 (some .boolean) := ⟨tb_m 9 (by decide +kernel), tb_m 1160 (by decide +kernel), by decide +kernel, by decide +kernel, by decide +kernel⟩
theorem lbX9_newPane : LkB yX9_newPane 4 cX9_newPane 5 (some .int) := ⟨tb_m 9 (by decide +kernel), tb_m 1164 (by decide +kernel), by decide +kernel, by decide +kernel, by decide +kernel⟩
theorem lbX9_walker : LkB yX9_walker 2 cX9_walker 3 (some .int) := ⟨tb_m 9 (by decide +kernel), tb_m 1168 (by decide +kernel), by decide +kernel, by decide +kernel, by decide +kernel⟩
theorem lbX9_newWalker : LkB yX9_newWalker 2 cX9_newWalker 3 (some .int) := ⟨tb_m 9 (by decide +kernel), tb_m 1172 (by decide +kernel), by decide +kernel, by decide +kernel, by decide +kernel⟩
theorem lbX9_put : LkB yX9_put 3 cX9_put 5 (some .int) := ⟨tb_m 9 (by decide +kernel), tb_m 1176 (by decide +kernel), by decide +kernel, by decide +kernel, by decide +kernel⟩
theorem lbX9_isWalker : LkB yX9_isWalker 1 cX9_isWalker 2 (some .boolean) := ⟨tb_m 9 (by decide +kernel), tb_m 1180 (by decide +kernel), by decide +kernel, by decide +kernel, by decide +kernel⟩
theorem lbX9_reach : LkB yX9_reach 1 cX9_reach 3 (some .int) := ⟨tb_m 9 (by decide +kernel), tb_m 1184 (by decide +kernel), by decide +kernel, by decide +kernel, by decide +kernel⟩
theorem lbX9_paneOf : LkB yX9_paneOf 2 cX9_paneOf 3 (some .int) := ⟨tb_m 9 (by decide +kernel), tb_m 1188 (by decide +kernel), by decide +kernel, by decide +kernel, by decide +kernel⟩
theorem lbX9_inSight : LkB yX9_inSight 1 cX9_inSight 5 (some .int) := ⟨tb_m 9 (by decide +kernel), tb_m 1192 (by decide +kernel), by decide +kernel, by decide +kernel, by decide +kernel⟩
theorem lbX9_walkerOf : LkB yX9_walkerOf 2 cX9_walkerOf 3 (some .int) := ⟨tb_m 9 (by decide +kernel), tb_m 1196 (by decide +kernel), by decide +kernel, by decide +kernel, by decide +kernel⟩
theorem lbX9_shame : LkB yX9_shame 2 cX9_shame 3 (some .int) := ⟨tb_m 9 (by decide +kernel), tb_m 1200 (by decide +kernel), by decide +kernel, by decide +kernel, by decide +kernel⟩
theorem lbX9_looksIn : LkB yX9_looksIn 2 cX9_looksIn 7 (some .int) := ⟨tb_m 9 (by decide +kernel), tb_m 1204 (by decide +kernel), by decide +kernel, by decide +kernel, by decide +kernel⟩
theorem lbX9_seenBy : LkB yX9_seenBy 1 cX9_seenBy 4 (some .int) := ⟨tb_m 9 (by decide +kernel), tb_m 1209 (by decide +kernel), by decide +kernel, by decide +kernel, by decide +kernel⟩
theorem lbX9_town : LkB yX9_town 1 cX9_town 5 (some .int) := ⟨tb_m 9 (by decide +kernel), tb_m 1213 (by decide +kernel), by decide +kernel, by decide +kernel, by decide +kernel⟩
theorem lbX9_keep : LkB yX9_keep 1 cX9_keep 3 none := ⟨tb_m 9 (by decide +kernel), tb_m 1217 (by decide +kernel), by decide +kernel, by decide +kernel, by decide +kernel⟩
theorem lbX9_item : LkB yX9_item 0 cX9_item 2 (some .boolean) := ⟨tb_m 9 (by decide +kernel), tb_m 1221 (by decide +kernel), by decide +kernel, by decide +kernel, by decide +kernel⟩
theorem lbX9_sign : LkB yX9_sign 0 cX9_sign 1 (some .int) := ⟨tb_m 9 (by decide +kernel), tb_m 1225 (by decide +kernel), by decide +kernel, by decide +kernel, by decide +kernel⟩
theorem lbX9_word : LkB yX9_word 1 cX9_word 3 (some .boolean) := ⟨tb_m 9 (by decide +kernel), tb_m 1230 (by decide +kernel), by decide +kernel, by decide +kernel, by decide +kernel⟩
theorem lbX9_is : LkB yX9_is 1 cX9_is 2 (some .boolean) := ⟨tb_m 9 (by decide +kernel), tb_m 1236 (by decide +kernel), by decide +kernel, by decide +kernel, by decide +kernel⟩
theorem lbX9_number : LkB yX9_number 3 cX9_number 7 (some .boolean) := ⟨tb_m 9 (by decide +kernel), tb_m 1240 (by decide +kernel), by decide +kernel, by decide +kernel, by decide +kernel⟩
theorem lbX9_may : LkB yX9_may 2 cX9_may 3 (some .boolean) := ⟨tb_m 9 (by decide +kernel), tb_m 1244 (by decide +kernel), by decide +kernel, by decide +kernel, by decide +kernel⟩
theorem lbX9_word_ : LkB yX9_word_ 2 cX9_word_ 5 (some .boolean) := ⟨tb_m 9 (by decide +kernel), tb_m 1250 (by decide +kernel), by decide +kernel, by decide +kernel, by decide +kernel⟩
theorem lbX9_again : LkB yX9_again 1 cX9_again 3 none := ⟨tb_m 9 (by decide +kernel), tb_m 1256 (by decide +kernel), by decide +kernel, by decide +kernel, by decide +kernel⟩
theorem lbX9_fault : LkB yX9_fault 0 cX9_fault 1 (some .int) := ⟨tb_m 9 (by decide +kernel), tb_m 1260 (by decide +kernel), by decide +kernel, by decide +kernel, by decide +kernel⟩
theorem lbX9_seen : LkB yX9_seen 2 cX9_seen 3 (some .int) := ⟨tb_m 9 (by decide +kernel), tb_m 1264 (by decide +kernel), by decide +kernel, by decide +kernel, by decide +kernel⟩
theorem lbX9_no10 : LkB yX9_no10 1 cX9_no10 2 (some .int) := ⟨tb_m 9 (by decide +kernel), tb_m 1268 (by decide +kernel), by decide +kernel, by decide +kernel, by decide +kernel⟩
theorem lbX9_looks : LkB yX9_looks 2 cX9_looks 3 (some .int) := ⟨tb_m 9 (by decide +kernel), tb_m 1272 (by decide +kernel), by decide +kernel, by decide +kernel, by decide +kernel⟩
theorem lbX9_all : LkB yX9_all 0 cX9_all 1 (some .int) := ⟨tb_m 9 (by decide +kernel), tb_m 1276 (by decide +kernel), by decide +kernel, by decide +kernel, by decide +kernel⟩
theorem lbX9_allSeen : LkB yX9_allSeen 0 cX9_allSeen 4 (some .long) := ⟨tb_m 9 (by decide +kernel), tb_m 1280 (by decide +kernel), by decide +kernel, by decide +kernel, by decide +kernel⟩
theorem lbX9_turn : LkB yX9_turn 2 cX9_turn 5 (some .int) := ⟨tb_m 9 (by decide +kernel), tb_m 1284 (by decide +kernel), by decide +kernel, by decide +kernel, by decide +kernel⟩
theorem lbX9_way : LkB yX9_way 3 cX9_way 4 (some .int) := ⟨tb_m 9 (by decide +kernel), tb_m 1288 (by decide +kernel), by decide +kernel, by decide +kernel, by decide +kernel⟩
theorem lbX9_leads : LkB yX9_leads 1 cX9_leads 8 none := ⟨tb_m 9 (by decide +kernel), tb_m 1292 (by decide +kernel), by decide +kernel, by decide +kernel, by decide +kernel⟩
theorem lbX9_meet : LkB yX9_meet 3 cX9_meet 6 (some .int) := ⟨tb_m 9 (by decide +kernel), tb_m 1297 (by decide +kernel), by decide +kernel, by decide +kernel, by decide +kernel⟩
theorem lbX9_spreads : LkB yX9_spreads 2 cX9_spreads 7 none := ⟨tb_m 9 (by decide +kernel), tb_m 1301 (by decide +kernel), by decide +kernel, by decide +kernel, by decide +kernel⟩
theorem lbX9_cover : LkB yX9_cover 1 cX9_cover 10 (some .int) := ⟨tb_m 9 (by decide +kernel), tb_m 1305 (by decide +kernel), by decide +kernel, by decide +kernel, by decide +kernel⟩
theorem lbX9_noSquares : LkB yX9_noSquares 1 cX9_noSquares 4 (some .int) := ⟨tb_m 9 (by decide +kernel), tb_m 1309 (by decide +kernel), by decide +kernel, by decide +kernel, by decide +kernel⟩
theorem lbX9_toldAt : LkB yX9_toldAt 2 cX9_toldAt 3 (some .int) := ⟨tb_m 9 (by decide +kernel), tb_m 1313 (by decide +kernel), by decide +kernel, by decide +kernel, by decide +kernel⟩
theorem lbX9_sole : LkB yX9_sole 0 cX9_sole 7 (some .int) := ⟨tb_m 9 (by decide +kernel), tb_m 1318 (by decide +kernel), by decide +kernel, by decide +kernel, by decide +kernel⟩
theorem lbX9_where : LkB yX9_where 2 cX9_where 6 (some .int) := ⟨tb_m 9 (by decide +kernel), tb_m 1322 (by decide +kernel), by decide +kernel, by decide +kernel, by decide +kernel⟩
theorem lbX9_ask : LkB yX9_ask 1 cX9_ask 9 (some .int) := ⟨tb_m 9 (by decide +kernel), tb_m 1326 (by decide +kernel), by decide +kernel, by decide +kernel, by decide +kernel⟩
theorem lbX9_fresh : LkB yX9_fresh 1 cX9_fresh 4 (some .int) := ⟨tb_m 9 (by decide +kernel), tb_m 1331 (by decide +kernel), by decide +kernel, by decide +kernel, by decide +kernel⟩
theorem lbX9_housed : LkB yX9_housed 1 cX9_housed 6 (some .int) := ⟨tb_m 9 (by decide +kernel), tb_m 1335 (by decide +kernel), by decide +kernel, by decide +kernel, by decide +kernel⟩
theorem lbX9_judge : LkB yX9_judge 3 cX9_judge 5 (some .int) := ⟨tb_m 9 (by decide +kernel), tb_m 1339 (by decide +kernel), by decide +kernel, by decide +kernel, by decide +kernel⟩
theorem lbX9_noWalk : LkB yX9_noWalk 3 cX9_noWalk 5 (some .int) := ⟨tb_m 9 (by decide +kernel), tb_m 1343 (by decide +kernel), by decide +kernel, by decide +kernel, by decide +kernel⟩
theorem lbX9_walks : LkB yX9_walks 3 cX9_walks 7 (some .int) := ⟨tb_m 9 (by decide +kernel), tb_m 1347 (by decide +kernel), by decide +kernel, by decide +kernel, by decide +kernel⟩
theorem lbX9_behind : LkB yX9_behind 4 cX9_behind 6 (some .int) := ⟨tb_m 9 (by decide +kernel), tb_m 1351 (by decide +kernel), by decide +kernel, by decide +kernel, by decide +kernel⟩
theorem lbX9_done : LkB yX9_done 3 cX9_done 5 (some .int) := ⟨tb_m 9 (by decide +kernel), tb_m 1355 (by decide +kernel), by decide +kernel, by decide +kernel, by decide +kernel⟩
theorem lbX9_days : LkB yX9_days 1 cX9_days 3 (some .int) := ⟨tb_m 9 (by decide +kernel), tb_m 1359 (by decide +kernel), by decide +kernel, by decide +kernel, by decide +kernel⟩
theorem lbX9_goesDay : LkB yX9_goesDay 0 cX9_goesDay 3 none := ⟨tb_m 9 (by decide +kernel), tb_m 1363 (by decide +kernel), by decide +kernel, by decide +kernel, by decide +kernel⟩
theorem lbX9_draw : LkB yX9_draw 1 cX9_draw 2 (some .int) := ⟨tb_m 9 (by decide +kernel), tb_m 1367 (by decide +kernel), by decide +kernel, by decide +kernel, by decide +kernel⟩
theorem lbX9_seed : LkB yX9_seed 1 cX9_seed 3 (some .int) := ⟨tb_m 9 (by decide +kernel), tb_m 1372 (by decide +kernel), by decide +kernel, by decide +kernel, by decide +kernel⟩
theorem lbX9_act : LkB yX9_act 3 cX9_act 5 (some .int) := ⟨tb_m 9 (by decide +kernel), tb_m 1376 (by decide +kernel), by decide +kernel, by decide +kernel, by decide +kernel⟩
theorem lbX9_opensBy : LkB yX9_opensBy 3 cX9_opensBy 4 (some .int) := ⟨tb_m 9 (by decide +kernel), tb_m 1380 (by decide +kernel), by decide +kernel, by decide +kernel, by decide +kernel⟩
theorem lbX9_ran : LkB yX9_ran 1 cX9_ran 2 none := ⟨tb_m 9 (by decide +kernel), tb_m 1384 (by decide +kernel), by decide +kernel, by decide +kernel, by decide +kernel⟩
theorem lbX9_shutsBy : LkB yX9_shutsBy 3 cX9_shutsBy 4 (some .int) := ⟨tb_m 9 (by decide +kernel), tb_m 1388 (by decide +kernel), by decide +kernel, by decide +kernel, by decide +kernel⟩
theorem lbX9_shinesBy : LkB yX9_shinesBy 3 cX9_shinesBy 5 (some .int) := ⟨tb_m 9 (by decide +kernel), tb_m 1392 (by decide +kernel), by decide +kernel, by decide +kernel, by decide +kernel⟩
theorem lbX9_trace : LkB yX9_trace 1 cX9_trace 2 (some .int) := ⟨tb_m 9 (by decide +kernel), tb_m 1396 (by decide +kernel), by decide +kernel, by decide +kernel, by decide +kernel⟩
theorem lbX9_image : LkB yX9_image 0 cX9_image 1 (some .int) := ⟨tb_m 9 (by decide +kernel), tb_m 1400 (by decide +kernel), by decide +kernel, by decide +kernel, by decide +kernel⟩
theorem lbX9_restore : LkB yX9_restore 0 cX9_restore 2 (some .int) := ⟨tb_m 9 (by decide +kernel), tb_m 1404 (by decide +kernel), by decide +kernel, by decide +kernel, by decide +kernel⟩
theorem lbX9_status : LkB yX9_status 1 cX9_status 4 (some .int) := ⟨tb_m 9 (by decide +kernel), tb_m 1408 (by decide +kernel), by decide +kernel, by decide +kernel, by decide +kernel⟩
theorem kL_13 : LkV RL 13 yX8_row 3 cX8_row 4 (some .int) := ⟨lbX8_row, tb_m 247 (by decide +kernel), tb_m 248 (by decide +kernel), tb_m 249 (by decide +kernel)⟩
theorem kX8_72 : LkS RX8 72 yX8_isShelf 1 cX8_isShelf 1 (some .boolean) := ⟨lbX8_isShelf, tb_m 251 (by decide +kernel), tb_m 252 (by decide +kernel)⟩
theorem kX8_76 : LkV RX8 76 yX8_refuse 1 cX8_refuse 3 (some .int) := ⟨lbX8_refuse, tb_m 254 (by decide +kernel), tb_m 256 (by decide +kernel), tb_s (n := 11) 0 (by decide +kernel)⟩
theorem kX8_80 : LkS RX8 80 yX3_isSort 1 cX3_isSort 1 (some .boolean) := ⟨lbX3_isSort, tb_m 258 (by decide +kernel), tb_m 259 (by decide +kernel)⟩
theorem kX8_83 : LkV RX8 83 yX3_holdRow 2 cX3_holdRow 4 none := ⟨lbX3_holdRow, tb_m 261 (by decide +kernel), tb_m 262 (by decide +kernel), tb_m 263 (by decide +kernel)⟩
theorem kL_20 : LkV RL 20 yX8_set 3 cX8_set 6 (some .int) := ⟨lbX8_set, tb_m 265 (by decide +kernel), tb_m 266 (by decide +kernel), tb_m 267 (by decide +kernel)⟩
theorem kX8_87 : LkV RX8 87 yX8_rowTrouble 1 cX8_rowTrouble 2 (some .int) := ⟨lbX8_rowTrouble, tb_m 269 (by decide +kernel), tb_m 271 (by decide +kernel), tb_s (n := 11) 1 (by decide +kernel)⟩
theorem kX8_363 : LkV RX8 363 yX3_isPane 0 cX3_isPane 1 (some .boolean) := ⟨lbX3_isPane, tb_m 273 (by decide +kernel), tb_m 274 (by decide +kernel), tb_m 275 (by decide +kernel)⟩
theorem kX8_123 : LkV RX8 123 yX3_isRow 0 cX3_isRow 1 (some .boolean) := ⟨lbX3_isRow, tb_m 277 (by decide +kernel), tb_m 278 (by decide +kernel), tb_m 279 (by decide +kernel)⟩
theorem kX8_90 : LkV RX8 90 yX3_hasElement 1 cX3_hasElement 2 (some .boolean) := ⟨lbX3_hasElement, tb_m 281 (by decide +kernel), tb_m 282 (by decide +kernel), tb_m 283 (by decide +kernel)⟩
theorem kX8_93 : LkV RX8 93 yX3_keep 2 cX3_keep 4 none := ⟨lbX3_keep, tb_m 285 (by decide +kernel), tb_m 286 (by decide +kernel), tb_m 287 (by decide +kernel)⟩
theorem kX3_22 : LkV RX3 22 yX3_hasElement 1 cX3_hasElement 2 (some .boolean) := ⟨lbX3_hasElement, tb_m 289 (by decide +kernel), tb_m 282 (by decide +kernel), tb_m 283 (by decide +kernel)⟩
theorem kX3_30 : LkV RX3 30 yX3_lowestBits 1 cX3_lowestBits 3 (some .long) := ⟨lbX3_lowestBits, tb_m 290 (by decide +kernel), tb_m 292 (by decide +kernel), tb_s (n := 3) 2 (by decide +kernel)⟩
theorem kL_25 : LkV RL 25 yX8_copy 5 cX8_copy 7 (some .int) := ⟨lbX8_copy, tb_m 294 (by decide +kernel), tb_m 295 (by decide +kernel), tb_m 296 (by decide +kernel)⟩
theorem kX8_97 : LkV RX8 97 yX8_copyTrouble 5 cX8_copyTrouble 8 (some .int) := ⟨lbX8_copyTrouble, tb_m 298 (by decide +kernel), tb_m 300 (by decide +kernel), tb_s (n := 11) 3 (by decide +kernel)⟩
theorem kX8_377 : LkV RX8 377 yX3_hasElements 2 cX3_hasElements 3 (some .boolean) := ⟨lbX3_hasElements, tb_m 302 (by decide +kernel), tb_m 303 (by decide +kernel), tb_m 304 (by decide +kernel)⟩
theorem kX8_101 : LkV RX8 101 yX3_takeFrom 4 cX3_takeFrom 5 none := ⟨lbX3_takeFrom, tb_m 306 (by decide +kernel), tb_m 307 (by decide +kernel), tb_m 308 (by decide +kernel)⟩
theorem kX3_34 : LkV RX3 34 yX3_hasElements 2 cX3_hasElements 3 (some .boolean) := ⟨lbX3_hasElements, tb_m 310 (by decide +kernel), tb_m 303 (by decide +kernel), tb_m 304 (by decide +kernel)⟩
theorem kL_30 : LkV RL 30 yX8_element 2 cX8_element 3 (some .long) := ⟨lbX8_element, tb_m 314 (by decide +kernel), tb_m 315 (by decide +kernel), tb_m 316 (by decide +kernel)⟩
theorem kX8_105 : LkV RX8 105 yX3_longAt 1 cX3_longAt 2 (some .long) := ⟨lbX3_longAt, tb_m 318 (by decide +kernel), tb_m 319 (by decide +kernel), tb_m 320 (by decide +kernel)⟩
theorem kL_35 : LkV RL 35 yX8_show 2 cX8_show 3 (some .int) := ⟨lbX8_show, tb_m 322 (by decide +kernel), tb_m 323 (by decide +kernel), tb_m 324 (by decide +kernel)⟩
theorem kX8_109 : LkV RX8 109 yX5_isPane 1 cX5_isPane 2 (some .boolean) := ⟨lbX5_isPane, tb_m 326 (by decide +kernel), tb_m 327 (by decide +kernel), tb_m 328 (by decide +kernel)⟩
theorem kX8_112 : LkV RX8 112 yX3_holdPane 1 cX3_holdPane 2 none := ⟨lbX3_holdPane, tb_m 330 (by decide +kernel), tb_m 331 (by decide +kernel), tb_m 332 (by decide +kernel)⟩
theorem kL_40 : LkV RL 40 yX8_holds 1 cX8_holds 2 (some .int) := ⟨lbX8_holds, tb_m 334 (by decide +kernel), tb_m 335 (by decide +kernel), tb_m 336 (by decide +kernel)⟩
theorem kL_45 : LkV RL 45 yX8_says 2 cX8_says 4 (some .int) := ⟨lbX8_says, tb_m 338 (by decide +kernel), tb_m 339 (by decide +kernel), tb_m 340 (by decide +kernel)⟩
theorem kX8_120 : LkS RX8 120 yX8_isKind 1 cX8_isKind 1 (some .boolean) := ⟨lbX8_isKind, tb_m 342 (by decide +kernel), tb_m 343 (by decide +kernel)⟩
theorem kX8_127 : LkV RX8 127 yX5_kindOf 1 cX5_kindOf 2 (some .int) := ⟨lbX5_kindOf, tb_m 345 (by decide +kernel), tb_m 346 (by decide +kernel), tb_m 347 (by decide +kernel)⟩
theorem kX5_76 : LkV RX5 76 yX5_isPane 1 cX5_isPane 2 (some .boolean) := ⟨lbX5_isPane, tb_m 349 (by decide +kernel), tb_m 327 (by decide +kernel), tb_m 328 (by decide +kernel)⟩
theorem kX8_130 : LkS RX8 130 yX8_isUnder 2 cX8_isUnder 4 (some .boolean) := ⟨lbX8_isUnder, tb_m 350 (by decide +kernel), tb_m 351 (by decide +kernel)⟩
theorem kX8_386 : LkS RX8 386 yX8_above 1 cX8_above 1 (some .int) := ⟨lbX8_above, tb_m 353 (by decide +kernel), tb_m 354 (by decide +kernel)⟩
theorem kX8_134 : LkV RX8 134 yX5_outOf 1 cX5_outOf 2 (some .int) := ⟨lbX5_outOf, tb_m 358 (by decide +kernel), tb_m 359 (by decide +kernel), tb_m 360 (by decide +kernel)⟩
theorem kX8_137 : LkV RX8 137 yX5_aOf 1 cX5_aOf 2 (some .int) := ⟨lbX5_aOf, tb_m 362 (by decide +kernel), tb_m 363 (by decide +kernel), tb_m 364 (by decide +kernel)⟩
theorem kX8_140 : LkV RX8 140 yX5_sightOf 1 cX5_sightOf 2 (some .long) := ⟨lbX5_sightOf, tb_m 366 (by decide +kernel), tb_m 367 (by decide +kernel), tb_m 368 (by decide +kernel)⟩
theorem kX5_82 : LkV RX5 82 yX5_sightAmong 2 cX5_sightAmong 6 (some .long) := ⟨lbX5_sightAmong, tb_m 370 (by decide +kernel), tb_m 371 (by decide +kernel), tb_m 372 (by decide +kernel)⟩
theorem kX5_85 : LkV RX5 85 yX5_atOf 1 cX5_atOf 2 (some .int) := ⟨lbX5_atOf, tb_m 374 (by decide +kernel), tb_m 375 (by decide +kernel), tb_m 376 (by decide +kernel)⟩
theorem kX5_89 : LkV RX5 89 yX5_outOf 1 cX5_outOf 2 (some .int) := ⟨lbX5_outOf, tb_m 378 (by decide +kernel), tb_m 359 (by decide +kernel), tb_m 360 (by decide +kernel)⟩
theorem kX5_92 : LkV RX5 92 yX5_kindOf 1 cX5_kindOf 2 (some .int) := ⟨lbX5_kindOf, tb_m 379 (by decide +kernel), tb_m 346 (by decide +kernel), tb_m 347 (by decide +kernel)⟩
theorem kX5_95 : LkS RX5 95 yX0_line 4 cX0_line 9 (some .long) := ⟨lbX0_line, tb_m 380 (by decide +kernel), tb_m 381 (by decide +kernel)⟩
theorem kX0_11 : LkS RX0 11 yX0_beside 2 cX0_beside 2 (some .int) := ⟨lbX0_beside, tb_m 383 (by decide +kernel), tb_m 384 (by decide +kernel)⟩
theorem kX0_17 : LkS RX0 17 yX0_has 2 cX0_has 3 (some .boolean) := ⟨lbX0_has, tb_m 386 (by decide +kernel), tb_m 387 (by decide +kernel)⟩
theorem kX0_21 : LkS RX0 21 yX0_with 2 cX0_with 3 (some .long) := ⟨lbX0_with, tb_m 389 (by decide +kernel), tb_m 390 (by decide +kernel)⟩
theorem kX5_99 : LkS RX5 99 yX0_wideLine 4 cX0_wideLine 11 (some .long) := ⟨lbX0_wideLine, tb_m 392 (by decide +kernel), tb_m 393 (by decide +kernel)⟩
theorem kX0_25 : LkS RX0 25 yX0_line 4 cX0_line 9 (some .long) := ⟨lbX0_line, tb_m 395 (by decide +kernel), tb_m 381 (by decide +kernel)⟩
theorem kX0_29 : LkS RX0 29 yX0_across 3 cX0_across 8 (some .long) := ⟨lbX0_across, tb_m 396 (by decide +kernel), tb_m 397 (by decide +kernel)⟩
theorem kX0_33 : LkS RX0 33 yX0_opposite 1 cX0_opposite 1 (some .int) := ⟨lbX0_opposite, tb_m 399 (by decide +kernel), tb_m 400 (by decide +kernel)⟩
theorem kX5_102 : LkV RX5 102 yX5_aOf 1 cX5_aOf 2 (some .int) := ⟨lbX5_aOf, tb_m 402 (by decide +kernel), tb_m 363 (by decide +kernel), tb_m 364 (by decide +kernel)⟩
theorem kX8_143 : LkS RX8 143 yJ13_bitCount_95d88 1 cJ13_bitCount_95d88 2 (some .int) := ⟨lbJ13_bitCount_95d88, tb_m 403 (by decide +kernel), tb_m 404 (by decide +kernel)⟩
theorem kX8_149 : LkV RX8 149 yX5_atOf 1 cX5_atOf 2 (some .int) := ⟨lbX5_atOf, tb_m 409 (by decide +kernel), tb_m 375 (by decide +kernel), tb_m 376 (by decide +kernel)⟩
theorem kL_49 : LkV RL 49 yX8_house 2 cX8_house 4 (some .int) := ⟨lbX8_house, tb_m 410 (by decide +kernel), tb_m 411 (by decide +kernel), tb_m 412 (by decide +kernel)⟩
theorem kX8_152 : LkS RX8 152 yX0_isSquare 1 cX0_isSquare 1 (some .boolean) := ⟨lbX0_isSquare, tb_m 414 (by decide +kernel), tb_m 415 (by decide +kernel)⟩
theorem kX8_157 : LkV RX8 157 yX5_isSomebodyAt 1 cX5_isSomebodyAt 3 (some .boolean) := ⟨lbX5_isSomebodyAt, tb_m 417 (by decide +kernel), tb_m 418 (by decide +kernel), tb_m 419 (by decide +kernel)⟩
theorem kX8_160 : LkV RX8 160 yX5_isPaneAt 1 cX5_isPaneAt 3 (some .boolean) := ⟨lbX5_isPaneAt, tb_m 421 (by decide +kernel), tb_m 422 (by decide +kernel), tb_m 423 (by decide +kernel)⟩
theorem kX8_163 : LkV RX8 163 yX5_isHouse 1 cX5_isHouse 2 (some .boolean) := ⟨lbX5_isHouse, tb_m 425 (by decide +kernel), tb_m 426 (by decide +kernel), tb_m 427 (by decide +kernel)⟩
theorem kX5_56 : LkS RX5 56 yX0_has 2 cX0_has 3 (some .boolean) := ⟨lbX0_has, tb_m 429 (by decide +kernel), tb_m 387 (by decide +kernel)⟩
theorem kX8_166 : LkV RX8 166 yX5_build 2 cX5_build 3 none := ⟨lbX5_build, tb_m 430 (by decide +kernel), tb_m 431 (by decide +kernel), tb_m 432 (by decide +kernel)⟩
theorem kX5_69 : LkS RX5 69 yX0_with 2 cX0_with 3 (some .long) := ⟨lbX0_with, tb_m 434 (by decide +kernel), tb_m 390 (by decide +kernel)⟩
theorem kX5_73 : LkS RX5 73 yX0_without 2 cX0_without 3 (some .long) := ⟨lbX0_without, tb_m 435 (by decide +kernel), tb_m 436 (by decide +kernel)⟩
theorem kL_54 : LkV RL 54 yX8_pane 4 cX8_pane 5 (some .int) := ⟨lbX8_pane, tb_m 439 (by decide +kernel), tb_m 440 (by decide +kernel), tb_m 441 (by decide +kernel)⟩
theorem kX8_170 : LkS RX8 170 yX0_isWay 1 cX0_isWay 1 (some .boolean) := ⟨lbX0_isWay, tb_m 443 (by decide +kernel), tb_m 444 (by decide +kernel)⟩
theorem kX8_173 : LkV RX8 173 yX5_hasRoomForPane 0 cX5_hasRoomForPane 1 (some .boolean) := ⟨lbX5_hasRoomForPane, tb_m 446 (by decide +kernel), tb_m 447 (by decide +kernel), tb_m 448 (by decide +kernel)⟩
theorem kX8_176 : LkV RX8 176 yX5_addPane 4 cX5_addPane 6 (some .int) := ⟨lbX5_addPane, tb_m 450 (by decide +kernel), tb_m 451 (by decide +kernel), tb_m 452 (by decide +kernel)⟩
theorem kL_59 : LkV RL 59 yX8_walker 2 cX8_walker 3 (some .int) := ⟨lbX8_walker, tb_m 454 (by decide +kernel), tb_m 455 (by decide +kernel), tb_m 456 (by decide +kernel)⟩
theorem kX8_180 : LkV RX8 180 yX5_isYard 1 cX5_isYard 2 (some .boolean) := ⟨lbX5_isYard, tb_m 458 (by decide +kernel), tb_m 459 (by decide +kernel), tb_m 460 (by decide +kernel)⟩
theorem kX5_62 : LkS RX5 62 yX0_isSquare 1 cX0_isSquare 1 (some .boolean) := ⟨lbX0_isSquare, tb_m 462 (by decide +kernel), tb_m 415 (by decide +kernel)⟩
theorem kX5_66 : LkV RX5 66 yX5_isHouse 1 cX5_isHouse 2 (some .boolean) := ⟨lbX5_isHouse, tb_m 463 (by decide +kernel), tb_m 426 (by decide +kernel), tb_m 427 (by decide +kernel)⟩
theorem kX8_183 : LkV RX8 183 yX5_hasRoomForWalker 0 cX5_hasRoomForWalker 1 (some .boolean) := ⟨lbX5_hasRoomForWalker, tb_m 464 (by decide +kernel), tb_m 465 (by decide +kernel), tb_m 466 (by decide +kernel)⟩
theorem kX8_186 : LkV RX8 186 yX5_addWalker 2 cX5_addWalker 4 (some .int) := ⟨lbX5_addWalker, tb_m 468 (by decide +kernel), tb_m 469 (by decide +kernel), tb_m 470 (by decide +kernel)⟩
theorem kL_63 : LkV RL 63 yX8_put 3 cX8_put 5 (some .int) := ⟨lbX8_put, tb_m 472 (by decide +kernel), tb_m 473 (by decide +kernel), tb_m 474 (by decide +kernel)⟩
theorem kX8_190 : LkV RX8 190 yX5_isWalker 1 cX5_isWalker 2 (some .boolean) := ⟨lbX5_isWalker, tb_m 476 (by decide +kernel), tb_m 477 (by decide +kernel), tb_m 478 (by decide +kernel)⟩
theorem kX8_193 : LkV RX8 193 yX5_whereIs 1 cX5_whereIs 2 (some .int) := ⟨lbX5_whereIs, tb_m 480 (by decide +kernel), tb_m 481 (by decide +kernel), tb_m 482 (by decide +kernel)⟩
theorem kX5_79 : LkV RX5 79 yX5_isWalker 1 cX5_isWalker 2 (some .boolean) := ⟨lbX5_isWalker, tb_m 484 (by decide +kernel), tb_m 477 (by decide +kernel), tb_m 478 (by decide +kernel)⟩
theorem kX8_196 : LkV RX8 196 yX5_place 3 cX5_place 4 none := ⟨lbX5_place, tb_m 485 (by decide +kernel), tb_m 486 (by decide +kernel), tb_m 487 (by decide +kernel)⟩
theorem kL_67 : LkV RL 67 yX8_reach 1 cX8_reach 3 (some .int) := ⟨lbX8_reach, tb_m 489 (by decide +kernel), tb_m 490 (by decide +kernel), tb_m 491 (by decide +kernel)⟩
theorem kX8_200 : LkS RX8 200 yX8_isReach 1 cX8_isReach 1 (some .boolean) := ⟨lbX8_isReach, tb_m 493 (by decide +kernel), tb_m 494 (by decide +kernel)⟩
theorem kL_71 : LkV RL 71 yX8_paneOf 2 cX8_paneOf 3 (some .int) := ⟨lbX8_paneOf, tb_m 496 (by decide +kernel), tb_m 497 (by decide +kernel), tb_m 498 (by decide +kernel)⟩
theorem kX8_206 : LkV RX8 206 yX5_walkersIn 1 cX5_walkersIn 5 (some .int) := ⟨lbX5_walkersIn, tb_m 500 (by decide +kernel), tb_m 501 (by decide +kernel), tb_m 502 (by decide +kernel)⟩
theorem kL_75 : LkV RL 75 yX8_walkerOf 2 cX8_walkerOf 3 (some .int) := ⟨lbX8_walkerOf, tb_m 504 (by decide +kernel), tb_m 505 (by decide +kernel), tb_m 506 (by decide +kernel)⟩
theorem kX8_209 : LkV RX8 209 yX5_facedBy 1 cX5_facedBy 2 (some .int) := ⟨lbX5_facedBy, tb_m 508 (by decide +kernel), tb_m 509 (by decide +kernel), tb_m 510 (by decide +kernel)⟩
theorem kX8_212 : LkV RX8 212 yX5_triedOf 1 cX5_triedOf 2 (some .int) := ⟨lbX5_triedOf, tb_m 512 (by decide +kernel), tb_m 513 (by decide +kernel), tb_m 514 (by decide +kernel)⟩
theorem kX8_215 : LkV RX8 215 yX5_lookedInBy 1 cX5_lookedInBy 2 (some .int) := ⟨lbX5_lookedInBy, tb_m 516 (by decide +kernel), tb_m 517 (by decide +kernel), tb_m 518 (by decide +kernel)⟩
theorem kX5_105 : LkV RX5 105 yX5_whereIs 1 cX5_whereIs 2 (some .int) := ⟨lbX5_whereIs, tb_m 520 (by decide +kernel), tb_m 481 (by decide +kernel), tb_m 482 (by decide +kernel)⟩
theorem kX5_108 : LkV RX5 108 yX5_facedBy 1 cX5_facedBy 2 (some .int) := ⟨lbX5_facedBy, tb_m 521 (by decide +kernel), tb_m 509 (by decide +kernel), tb_m 510 (by decide +kernel)⟩
theorem kX5_111 : LkV RX5 111 yX5_lookedInFrom 2 cX5_lookedInFrom 5 (some .int) := ⟨lbX5_lookedInFrom, tb_m 522 (by decide +kernel), tb_m 523 (by decide +kernel), tb_m 524 (by decide +kernel)⟩
theorem kX5_120 : LkS RX5 120 yX0_beside 2 cX0_beside 2 (some .int) := ⟨lbX0_beside, tb_m 526 (by decide +kernel), tb_m 384 (by decide +kernel)⟩
theorem kX5_123 : LkS RX5 123 yX0_opposite 1 cX0_opposite 1 (some .int) := ⟨lbX0_opposite, tb_m 527 (by decide +kernel), tb_m 400 (by decide +kernel)⟩
theorem kX5_126 : LkV RX5 126 yX5_openTo 3 cX5_openTo 6 (some .int) := ⟨lbX5_openTo, tb_m 528 (by decide +kernel), tb_m 530 (by decide +kernel), tb_s (n := 14) 4 (by decide +kernel)⟩
theorem kX5_130 : LkS RX5 130 yX5_letsIn 3 cX5_letsIn 3 (some .boolean) := ⟨lbX5_letsIn, tb_m 532 (by decide +kernel), tb_m 533 (by decide +kernel)⟩
theorem kX8_218 : LkS RX8 218 yJ6_bitCount_0f7a4 1 cJ6_bitCount_0f7a4 1 (some .int) := ⟨lbJ6_bitCount_0f7a4, tb_m 535 (by decide +kernel), tb_m 536 (by decide +kernel)⟩
theorem kX8_222 : LkV RX8 222 yX8_panesThatSee 1 cX8_panesThatSee 2 (some .int) := ⟨lbX8_panesThatSee, tb_m 541 (by decide +kernel), tb_m 543 (by decide +kernel), tb_s (n := 11) 5 (by decide +kernel)⟩
theorem kX8_249 : LkV RX8 249 yX4_take 2 cX4_take 5 none := ⟨lbX4_take, tb_m 545 (by decide +kernel), tb_m 546 (by decide +kernel), tb_m 547 (by decide +kernel)⟩
theorem kX4_22 : LkS RX4 22 yJ9_min_7cf53 2 cJ9_min_7cf53 2 (some .int) := ⟨lbJ9_min_7cf53, tb_m 549 (by decide +kernel), tb_m 550 (by decide +kernel)⟩
theorem kX4_28 : LkV RX4 28 yX5_sightAmong 2 cX5_sightAmong 6 (some .long) := ⟨lbX5_sightAmong, tb_m 552 (by decide +kernel), tb_m 371 (by decide +kernel), tb_m 372 (by decide +kernel)⟩
theorem kX8_290 : LkV RX8 290 yX4_thatSee 1 cX4_thatSee 4 (some .int) := ⟨lbX4_thatSee, tb_m 553 (by decide +kernel), tb_m 554 (by decide +kernel), tb_m 555 (by decide +kernel)⟩
theorem kX4_36 : LkS RX4 36 yX0_has 2 cX0_has 3 (some .boolean) := ⟨lbX0_has, tb_m 557 (by decide +kernel), tb_m 387 (by decide +kernel)⟩
theorem kL_79 : LkV RL 79 yX8_town 1 cX8_town 4 (some .int) := ⟨lbX8_town, tb_m 558 (by decide +kernel), tb_m 559 (by decide +kernel), tb_m 560 (by decide +kernel)⟩
theorem kX8_225 : LkV RX8 225 yX2_readOver 2 cX2_readOver 4 (some .int) := ⟨lbX2_readOver, tb_m 562 (by decide +kernel), tb_m 563 (by decide +kernel), tb_m 564 (by decide +kernel)⟩
theorem kX2_35 : LkV RX2 35 yX5_become 1 cX5_become 3 none := ⟨lbX5_become, tb_m 566 (by decide +kernel), tb_m 567 (by decide +kernel), tb_m 568 (by decide +kernel)⟩
theorem kX2_42 : LkS RX2 42 yJ9_min_7cf53 2 cJ9_min_7cf53 2 (some .int) := ⟨lbJ9_min_7cf53, tb_m 570 (by decide +kernel), tb_m 550 (by decide +kernel)⟩
theorem kX2_48 : LkV RX2 48 yX3_intAt 1 cX3_intAt 2 (some .int) := ⟨lbX3_intAt, tb_m 571 (by decide +kernel), tb_m 572 (by decide +kernel), tb_m 573 (by decide +kernel)⟩
theorem kX3_26 : LkV RX3 26 yX3_longAt 1 cX3_longAt 2 (some .long) := ⟨lbX3_longAt, tb_m 575 (by decide +kernel), tb_m 319 (by decide +kernel), tb_m 320 (by decide +kernel)⟩
theorem kX2_52 : LkV RX2 52 yX2_readItem 0 cX2_readItem 1 none := ⟨lbX2_readItem, tb_m 576 (by decide +kernel), tb_m 578 (by decide +kernel), tb_s (n := 6) 6 (by decide +kernel)⟩
theorem kX2_59 : LkV RX2 59 yX2_letter 0 cX2_letter 1 (some .int) := ⟨lbX2_letter, tb_m 580 (by decide +kernel), tb_m 582 (by decide +kernel), tb_s (n := 6) 7 (by decide +kernel)⟩
theorem kX2_63 : LkV RX2 63 yX2_readHouse 0 cX2_readHouse 2 none := ⟨lbX2_readHouse, tb_m 584 (by decide +kernel), tb_m 586 (by decide +kernel), tb_s (n := 6) 8 (by decide +kernel)⟩
theorem kX2_80 : LkV RX2 80 yX2_expectWord 1 cX2_expectWord 3 none := ⟨lbX2_expectWord, tb_m 589 (by decide +kernel), tb_m 591 (by decide +kernel), tb_s (n := 6) 9 (by decide +kernel)⟩
theorem kX2_146 : LkV RX2 146 yJ0_length_8abf5 0 cJ0_length_8abf5 1 (some .int) := ⟨lbJ0_length_8abf5, tb_m 593 (by decide +kernel), tb_m 594 (by decide +kernel), tb_m 595 (by decide +kernel)⟩
theorem kJ0_335 : LkV RJ0 335 yJ0_coder_7d493 0 cJ0_coder_7d493 1 (some .byte) := ⟨lbJ0_coder_7d493, tb_m 597 (by decide +kernel), tb_m 598 (by decide +kernel), tb_m 599 (by decide +kernel)⟩
theorem kX2_151 : LkV RX2 151 yJ0_charAt_5068e 1 cJ0_charAt_5068e 2 (some .char) := ⟨lbJ0_charAt_5068e, tb_m 603 (by decide +kernel), tb_m 604 (by decide +kernel), tb_m 605 (by decide +kernel)⟩
theorem kJ0_492 : LkV RJ0 492 yJ0_isLatin1_aae02 0 cJ0_isLatin1_aae02 1 (some .boolean) := ⟨lbJ0_isLatin1_aae02, tb_m 607 (by decide +kernel), tb_m 608 (by decide +kernel), tb_m 609 (by decide +kernel)⟩
theorem kJ0_495 : LkS RJ0 495 yJ1_charAt_3b067 2 cJ1_charAt_3b067 2 (some .char) := ⟨lbJ1_charAt_3b067, tb_m 611 (by decide +kernel), tb_m 612 (by decide +kernel)⟩
theorem kJ1_9 : LkS RJ1 9 yJ0_checkIndex_df160 2 cJ0_checkIndex_df160 2 none := ⟨lbJ0_checkIndex_df160, tb_m 614 (by decide +kernel), tb_m 615 (by decide +kernel)⟩
theorem kJ0_1059 : LkS RJ0 1059 yJ3_checkIndex_8e157 3 cJ3_checkIndex_8e157 3 (some .int) := ⟨lbJ3_checkIndex_8e157, tb_m 619 (by decide +kernel), tb_m 620 (by decide +kernel)⟩
theorem kJ0_498 : LkS RJ0 498 yJ2_charAt_3b067 2 cJ2_charAt_3b067 2 (some .char) := ⟨lbJ2_charAt_3b067, tb_m 622 (by decide +kernel), tb_m 623 (by decide +kernel)⟩
theorem kJ2_67 : LkS RJ2 67 yJ2_checkIndex_2214a 2 cJ2_checkIndex_2214a 2 none := ⟨lbJ2_checkIndex_2214a, tb_m 625 (by decide +kernel), tb_m 626 (by decide +kernel)⟩
theorem kJ2_48 : LkS RJ2 48 yJ2_length_9d52b 1 cJ2_length_9d52b 1 (some .int) := ⟨lbJ2_length_9d52b, tb_m 628 (by decide +kernel), tb_m 629 (by decide +kernel)⟩
theorem kJ2_414 : LkS RJ2 414 yJ0_checkIndex_df160 2 cJ0_checkIndex_df160 2 none := ⟨lbJ0_checkIndex_df160, tb_m 631 (by decide +kernel), tb_m 615 (by decide +kernel)⟩
theorem kJ2_71 : LkS RJ2 71 yJ2_getChar_3b067 2 cJ2_getChar_3b067 2 (some .char) := ⟨lbJ2_getChar_3b067, tb_m 632 (by decide +kernel), tb_m 633 (by decide +kernel)⟩
theorem kX2_55 : LkV RX2 55 yX2_expect 1 cX2_expect 2 none := ⟨lbX2_expect, tb_m 641 (by decide +kernel), tb_m 643 (by decide +kernel), tb_s (n := 6) 10 (by decide +kernel)⟩
theorem kX2_84 : LkV RX2 84 yX2_readNumber 0 cX2_readNumber 2 (some .int) := ⟨lbX2_readNumber, tb_m 645 (by decide +kernel), tb_m 647 (by decide +kernel), tb_s (n := 6) 11 (by decide +kernel)⟩
theorem kX2_155 : LkV RX2 155 yX2_isDigit 0 cX2_isDigit 1 (some .boolean) := ⟨lbX2_isDigit, tb_m 649 (by decide +kernel), tb_m 651 (by decide +kernel), tb_s (n := 6) 12 (by decide +kernel)⟩
theorem kX2_158 : LkV RX2 158 yX2_takeDigit 0 cX2_takeDigit 2 (some .int) := ⟨lbX2_takeDigit, tb_m 653 (by decide +kernel), tb_m 655 (by decide +kernel), tb_s (n := 6) 13 (by decide +kernel)⟩
theorem kX2_87 : LkS RX2 87 yX0_isSquare 1 cX0_isSquare 1 (some .boolean) := ⟨lbX0_isSquare, tb_m 657 (by decide +kernel), tb_m 415 (by decide +kernel)⟩
theorem kX2_93 : LkV RX2 93 yX5_isSomebodyAt 1 cX5_isSomebodyAt 3 (some .boolean) := ⟨lbX5_isSomebodyAt, tb_m 658 (by decide +kernel), tb_m 418 (by decide +kernel), tb_m 419 (by decide +kernel)⟩
theorem kX2_96 : LkV RX2 96 yX2_allow 1 cX2_allow 2 none := ⟨lbX2_allow, tb_m 659 (by decide +kernel), tb_m 661 (by decide +kernel), tb_s (n := 6) 14 (by decide +kernel)⟩
theorem kX2_100 : LkV RX2 100 yX5_build 2 cX5_build 3 none := ⟨lbX5_build, tb_m 663 (by decide +kernel), tb_m 431 (by decide +kernel), tb_m 432 (by decide +kernel)⟩
theorem kX2_66 : LkV RX2 66 yX2_readYard 0 cX2_readYard 2 none := ⟨lbX2_readYard, tb_m 664 (by decide +kernel), tb_m 666 (by decide +kernel), tb_s (n := 6) 15 (by decide +kernel)⟩
theorem kX2_106 : LkV RX2 106 yX5_isPaneAt 1 cX5_isPaneAt 3 (some .boolean) := ⟨lbX5_isPaneAt, tb_m 669 (by decide +kernel), tb_m 422 (by decide +kernel), tb_m 423 (by decide +kernel)⟩
theorem kX2_69 : LkV RX2 69 yX2_readPane 0 cX2_readPane 6 none := ⟨lbX2_readPane, tb_m 670 (by decide +kernel), tb_m 672 (by decide +kernel), tb_s (n := 6) 16 (by decide +kernel)⟩
theorem kX2_111 : LkV RX2 111 yX5_hasRoomForPane 0 cX5_hasRoomForPane 1 (some .boolean) := ⟨lbX5_hasRoomForPane, tb_m 675 (by decide +kernel), tb_m 447 (by decide +kernel), tb_m 448 (by decide +kernel)⟩
theorem kX2_118 : LkV RX2 118 yX5_isHouse 1 cX5_isHouse 2 (some .boolean) := ⟨lbX5_isHouse, tb_m 677 (by decide +kernel), tb_m 426 (by decide +kernel), tb_m 427 (by decide +kernel)⟩
theorem kX2_121 : LkS RX2 121 yX0_isWay 1 cX0_isWay 1 (some .boolean) := ⟨lbX0_isWay, tb_m 678 (by decide +kernel), tb_m 444 (by decide +kernel)⟩
theorem kX2_124 : LkV RX2 124 yX5_addPane 4 cX5_addPane 6 (some .int) := ⟨lbX5_addPane, tb_m 679 (by decide +kernel), tb_m 451 (by decide +kernel), tb_m 452 (by decide +kernel)⟩
theorem kX2_72 : LkV RX2 72 yX2_readWalker 0 cX2_readWalker 4 none := ⟨lbX2_readWalker, tb_m 680 (by decide +kernel), tb_m 682 (by decide +kernel), tb_s (n := 6) 17 (by decide +kernel)⟩
theorem kX2_130 : LkV RX2 130 yX5_hasRoomForWalker 0 cX5_hasRoomForWalker 1 (some .boolean) := ⟨lbX5_hasRoomForWalker, tb_m 685 (by decide +kernel), tb_m 465 (by decide +kernel), tb_m 466 (by decide +kernel)⟩
theorem kX2_133 : LkV RX2 133 yX5_isYard 1 cX5_isYard 2 (some .boolean) := ⟨lbX5_isYard, tb_m 686 (by decide +kernel), tb_m 459 (by decide +kernel), tb_m 460 (by decide +kernel)⟩
theorem kX2_136 : LkV RX2 136 yX5_addWalker 2 cX5_addWalker 4 (some .int) := ⟨lbX5_addWalker, tb_m 687 (by decide +kernel), tb_m 469 (by decide +kernel), tb_m 470 (by decide +kernel)⟩
theorem kX2_75 : LkV RX2 75 yX2_readReach 0 cX2_readReach 2 none := ⟨lbX2_readReach, tb_m 688 (by decide +kernel), tb_m 690 (by decide +kernel), tb_s (n := 6) 18 (by decide +kernel)⟩
theorem kX8_232 : LkV RX8 232 yX5_become 1 cX5_become 3 none := ⟨lbX5_become, tb_m 694 (by decide +kernel), tb_m 567 (by decide +kernel), tb_m 568 (by decide +kernel)⟩
theorem kL_83 : LkV RL 83 yX8_fault 0 cX8_fault 1 (some .int) := ⟨lbX8_fault, tb_m 696 (by decide +kernel), tb_m 697 (by decide +kernel), tb_m 698 (by decide +kernel)⟩
theorem kL_88 : LkV RL 88 yX8_seen 2 cX8_seen 3 (some .int) := ⟨lbX8_seen, tb_m 700 (by decide +kernel), tb_m 701 (by decide +kernel), tb_m 702 (by decide +kernel)⟩
theorem kX8_239 : LkV RX8 239 yX8_refuseApart 1 cX8_refuseApart 2 (some .int) := ⟨lbX8_refuseApart, tb_m 704 (by decide +kernel), tb_m 706 (by decide +kernel), tb_s (n := 11) 19 (by decide +kernel)⟩
theorem kL_92 : LkV RL 92 yX8_looks 2 cX8_looks 3 (some .int) := ⟨lbX8_looks, tb_m 708 (by decide +kernel), tb_m 709 (by decide +kernel), tb_m 710 (by decide +kernel)⟩
theorem kX8_242 : LkV RX8 242 yX5_lookedInFrom 2 cX5_lookedInFrom 5 (some .int) := ⟨lbX5_lookedInFrom, tb_m 712 (by decide +kernel), tb_m 523 (by decide +kernel), tb_m 524 (by decide +kernel)⟩
theorem kL_96 : LkV RL 96 yX8_all 0 cX8_all 1 (some .int) := ⟨lbX8_all, tb_m 713 (by decide +kernel), tb_m 714 (by decide +kernel), tb_m 715 (by decide +kernel)⟩
theorem kX8_253 : LkV RX8 253 yX4_union 0 cX4_union 1 (some .long) := ⟨lbX4_union, tb_m 717 (by decide +kernel), tb_m 718 (by decide +kernel), tb_m 719 (by decide +kernel)⟩
theorem kX4_32 : LkV RX4 32 yX4_unionOf 1 cX4_unionOf 5 (some .long) := ⟨lbX4_unionOf, tb_m 721 (by decide +kernel), tb_m 723 (by decide +kernel), tb_s (n := 2) 20 (by decide +kernel)⟩
theorem kL_100 : LkV RL 100 yX8_turn 2 cX8_turn 8 (some .int) := ⟨lbX8_turn, tb_m 725 (by decide +kernel), tb_m 726 (by decide +kernel), tb_m 727 (by decide +kernel)⟩
theorem kX8_257 : LkV RX8 257 yX5_shameFrom 2 cX5_shameFrom 3 (some .int) := ⟨lbX5_shameFrom, tb_m 729 (by decide +kernel), tb_m 730 (by decide +kernel), tb_m 731 (by decide +kernel)⟩
theorem kX5_115 : LkS RX5 115 yJ6_bitCount_0f7a4 1 cJ6_bitCount_0f7a4 1 (some .int) := ⟨lbJ6_bitCount_0f7a4, tb_m 733 (by decide +kernel), tb_m 536 (by decide +kernel)⟩
theorem kL_104 : LkV RL 104 yX8_way 3 cX8_way 5 (some .int) := ⟨lbX8_way, tb_m 734 (by decide +kernel), tb_m 735 (by decide +kernel), tb_m 736 (by decide +kernel)⟩
theorem kX8_260 : LkV RX8 260 yX7_measure 3 cX7_measure 8 none := ⟨lbX7_measure, tb_m 738 (by decide +kernel), tb_m 739 (by decide +kernel), tb_m 740 (by decide +kernel)⟩
theorem kX7_20 : LkV RX7 20 yX7_cheapestOpen 0 cX7_cheapestOpen 3 (some .int) := ⟨lbX7_cheapestOpen, tb_m 743 (by decide +kernel), tb_m 745 (by decide +kernel), tb_s (n := 2) 21 (by decide +kernel)⟩
theorem kX7_55 : LkS RX7 55 yX0_has 2 cX0_has 3 (some .boolean) := ⟨lbX0_has, tb_m 747 (by decide +kernel), tb_m 387 (by decide +kernel)⟩
theorem kX7_24 : LkS RX7 24 yX0_with 2 cX0_with 3 (some .long) := ⟨lbX0_with, tb_m 748 (by decide +kernel), tb_m 390 (by decide +kernel)⟩
theorem kX7_30 : LkS RX7 30 yX0_opposite 1 cX0_opposite 1 (some .int) := ⟨lbX0_opposite, tb_m 749 (by decide +kernel), tb_m 400 (by decide +kernel)⟩
theorem kX7_34 : LkS RX7 34 yX0_beside 2 cX0_beside 2 (some .int) := ⟨lbX0_beside, tb_m 750 (by decide +kernel), tb_m 384 (by decide +kernel)⟩
theorem kX7_38 : LkV RX7 38 yX7_leadsFrom 1 cX7_leadsFrom 2 (some .boolean) := ⟨lbX7_leadsFrom, tb_m 751 (by decide +kernel), tb_m 752 (by decide +kernel), tb_m 753 (by decide +kernel)⟩
theorem kX7_70 : LkV RX7 70 yX7_priceFrom 1 cX7_priceFrom 2 (some .int) := ⟨lbX7_priceFrom, tb_m 755 (by decide +kernel), tb_m 756 (by decide +kernel), tb_m 757 (by decide +kernel)⟩
theorem kX7_59 : LkS RX7 59 yX0_isSquare 1 cX0_isSquare 1 (some .boolean) := ⟨lbX0_isSquare, tb_m 759 (by decide +kernel), tb_m 415 (by decide +kernel)⟩
theorem kX7_42 : LkV RX7 42 yX5_isYard 1 cX5_isYard 2 (some .boolean) := ⟨lbX5_isYard, tb_m 760 (by decide +kernel), tb_m 459 (by decide +kernel), tb_m 460 (by decide +kernel)⟩
theorem kX7_47 : LkS RX7 47 yX7_stepPrice 4 cX7_stepPrice 4 (some .int) := ⟨lbX7_stepPrice, tb_m 761 (by decide +kernel), tb_m 762 (by decide +kernel)⟩
theorem kX7_67 : LkV RX7 67 yX5_shameFrom 2 cX5_shameFrom 3 (some .int) := ⟨lbX5_shameFrom, tb_m 764 (by decide +kernel), tb_m 730 (by decide +kernel), tb_m 731 (by decide +kernel)⟩
theorem kX7_51 : LkV RX7 51 yX7_lower 2 cX7_lower 3 none := ⟨lbX7_lower, tb_m 765 (by decide +kernel), tb_m 767 (by decide +kernel), tb_s (n := 2) 22 (by decide +kernel)⟩
theorem kX7_62 : LkS RX7 62 yJ9_min_7cf53 2 cJ9_min_7cf53 2 (some .int) := ⟨lbJ9_min_7cf53, tb_m 769 (by decide +kernel), tb_m 550 (by decide +kernel)⟩
theorem kX8_264 : LkV RX8 264 yX7_leadsFrom 1 cX7_leadsFrom 2 (some .boolean) := ⟨lbX7_leadsFrom, tb_m 770 (by decide +kernel), tb_m 752 (by decide +kernel), tb_m 753 (by decide +kernel)⟩
theorem kX8_267 : LkV RX8 267 yX7_priceFrom 1 cX7_priceFrom 2 (some .int) := ⟨lbX7_priceFrom, tb_m 771 (by decide +kernel), tb_m 756 (by decide +kernel), tb_m 757 (by decide +kernel)⟩
theorem kX8_270 : LkV RX8 270 yX7_firstFrom 2 cX7_firstFrom 5 (some .int) := ⟨lbX7_firstFrom, tb_m 772 (by decide +kernel), tb_m 773 (by decide +kernel), tb_m 774 (by decide +kernel)⟩
theorem kL_108 : LkV RL 108 yX8_cover 1 cX8_cover 3 (some .int) := ⟨lbX8_cover, tb_m 776 (by decide +kernel), tb_m 777 (by decide +kernel), tb_m 778 (by decide +kernel)⟩
theorem kX8_274 : LkV RX8 274 yX8_squaresTrouble 1 cX8_squaresTrouble 4 (some .int) := ⟨lbX8_squaresTrouble, tb_m 780 (by decide +kernel), tb_m 782 (by decide +kernel), tb_s (n := 11) 23 (by decide +kernel)⟩
theorem kX8_380 : LkV RX8 380 yX3_intAt 1 cX3_intAt 2 (some .int) := ⟨lbX3_intAt, tb_m 784 (by decide +kernel), tb_m 572 (by decide +kernel), tb_m 573 (by decide +kernel)⟩
theorem kX8_277 : LkV RX8 277 yX3_squares 0 cX3_squares 4 (some .long) := ⟨lbX3_squares, tb_m 785 (by decide +kernel), tb_m 786 (by decide +kernel), tb_m 787 (by decide +kernel)⟩
theorem kX3_44 : LkV RX3 44 yX3_intAt 1 cX3_intAt 2 (some .int) := ⟨lbX3_intAt, tb_m 789 (by decide +kernel), tb_m 572 (by decide +kernel), tb_m 573 (by decide +kernel)⟩
theorem kX3_48 : LkS RX3 48 yX0_with 2 cX0_with 3 (some .long) := ⟨lbX0_with, tb_m 790 (by decide +kernel), tb_m 390 (by decide +kernel)⟩
theorem kX8_280 : LkV RX8 280 yX4_fewestFor 1 cX4_fewestFor 6 (some .int) := ⟨lbX4_fewestFor, tb_m 791 (by decide +kernel), tb_m 792 (by decide +kernel), tb_m 793 (by decide +kernel)⟩
theorem kX4_42 : LkS RX4 42 yJ6_bitCount_0f7a4 1 cJ6_bitCount_0f7a4 1 (some .int) := ⟨lbJ6_bitCount_0f7a4, tb_m 795 (by decide +kernel), tb_m 536 (by decide +kernel)⟩
theorem kL_112 : LkV RL 112 yX8_sole 0 cX8_sole 1 (some .int) := ⟨lbX8_sole, tb_m 797 (by decide +kernel), tb_m 798 (by decide +kernel), tb_m 799 (by decide +kernel)⟩
theorem kX8_283 : LkV RX8 283 yX4_mostAlone 0 cX4_mostAlone 6 (some .int) := ⟨lbX4_mostAlone, tb_m 801 (by decide +kernel), tb_m 802 (by decide +kernel), tb_m 803 (by decide +kernel)⟩
theorem kX4_50 : LkS RX4 50 yJ13_bitCount_95d88 1 cJ13_bitCount_95d88 2 (some .int) := ⟨lbJ13_bitCount_95d88, tb_m 805 (by decide +kernel), tb_m 404 (by decide +kernel)⟩
theorem kL_116 : LkV RL 116 yX8_where 2 cX8_where 6 (some .int) := ⟨lbX8_where, tb_m 806 (by decide +kernel), tb_m 807 (by decide +kernel), tb_m 808 (by decide +kernel)⟩
theorem kX8_287 : LkV RX8 287 yX5_allPanes 0 cX5_allPanes 1 (some .int) := ⟨lbX5_allPanes, tb_m 810 (by decide +kernel), tb_m 811 (by decide +kernel), tb_m 812 (by decide +kernel)⟩
theorem kL_120 : LkV RL 120 yX8_ask 1 cX8_ask 3 (some .int) := ⟨lbX8_ask, tb_m 814 (by decide +kernel), tb_m 815 (by decide +kernel), tb_m 816 (by decide +kernel)⟩
theorem kX8_296 : LkV RX8 296 yX4_bestParting 1 cX4_bestParting 7 (some .int) := ⟨lbX4_bestParting, tb_m 818 (by decide +kernel), tb_m 819 (by decide +kernel), tb_m 820 (by decide +kernel)⟩
theorem kX4_60 : LkV RX4 60 yX3_intAt 1 cX3_intAt 2 (some .int) := ⟨lbX3_intAt, tb_m 822 (by decide +kernel), tb_m 572 (by decide +kernel), tb_m 573 (by decide +kernel)⟩
theorem kX4_63 : LkS RX4 63 yJ9_max_7cf53 2 cJ9_max_7cf53 2 (some .int) := ⟨lbJ9_max_7cf53, tb_m 823 (by decide +kernel), tb_m 824 (by decide +kernel)⟩
theorem kL_124 : LkV RL 124 yX8_fresh 1 cX8_fresh 4 (some .int) := ⟨lbX8_fresh, tb_m 826 (by decide +kernel), tb_m 827 (by decide +kernel), tb_m 828 (by decide +kernel)⟩
theorem kX8_300 : LkS RX8 300 yX0_line 4 cX0_line 9 (some .long) := ⟨lbX0_line, tb_m 830 (by decide +kernel), tb_m 381 (by decide +kernel)⟩
theorem kX8_304 : LkS RX8 304 yX0_has 2 cX0_has 3 (some .boolean) := ⟨lbX0_has, tb_m 831 (by decide +kernel), tb_m 387 (by decide +kernel)⟩
theorem kL_128 : LkV RL 128 yX8_housed 1 cX8_housed 6 (some .int) := ⟨lbX8_housed, tb_m 832 (by decide +kernel), tb_m 833 (by decide +kernel), tb_m 834 (by decide +kernel)⟩
theorem kX8_308 : LkS RX8 308 yX0_with 2 cX0_with 3 (some .long) := ⟨lbX0_with, tb_m 836 (by decide +kernel), tb_m 390 (by decide +kernel)⟩
theorem kL_132 : LkV RL 132 yX8_meet 3 cX8_meet 8 (some .int) := ⟨lbX8_meet, tb_m 837 (by decide +kernel), tb_m 838 (by decide +kernel), tb_m 839 (by decide +kernel)⟩
theorem kL_136 : LkV RL 136 yX8_judge 3 cX8_judge 5 (some .int) := ⟨lbX8_judge, tb_m 841 (by decide +kernel), tb_m 842 (by decide +kernel), tb_m 843 (by decide +kernel)⟩
theorem kX8_312 : LkV RX8 312 yX8_walkTrouble 4 cX8_walkTrouble 6 (some .int) := ⟨lbX8_walkTrouble, tb_m 845 (by decide +kernel), tb_m 847 (by decide +kernel), tb_s (n := 11) 24 (by decide +kernel)⟩
theorem kX8_316 : LkV RX8 316 yX6_follow 4 cX6_follow 9 none := ⟨lbX6_follow, tb_m 849 (by decide +kernel), tb_m 850 (by decide +kernel), tb_m 851 (by decide +kernel)⟩
theorem kX6_27 : LkV RX6 27 yX5_whereIs 1 cX5_whereIs 2 (some .int) := ⟨lbX5_whereIs, tb_m 853 (by decide +kernel), tb_m 481 (by decide +kernel), tb_m 482 (by decide +kernel)⟩
theorem kX6_33 : LkV RX6 33 yX5_facedBy 1 cX5_facedBy 2 (some .int) := ⟨lbX5_facedBy, tb_m 854 (by decide +kernel), tb_m 509 (by decide +kernel), tb_m 510 (by decide +kernel)⟩
theorem kX6_36 : LkV RX6 36 yX3_intAt 1 cX3_intAt 2 (some .int) := ⟨lbX3_intAt, tb_m 855 (by decide +kernel), tb_m 572 (by decide +kernel), tb_m 573 (by decide +kernel)⟩
theorem kX6_41 : LkS RX6 41 yX0_beside 2 cX0_beside 2 (some .int) := ⟨lbX0_beside, tb_m 856 (by decide +kernel), tb_m 384 (by decide +kernel)⟩
theorem kX6_47 : LkV RX6 47 yX5_isYard 1 cX5_isYard 2 (some .boolean) := ⟨lbX5_isYard, tb_m 857 (by decide +kernel), tb_m 459 (by decide +kernel), tb_m 460 (by decide +kernel)⟩
theorem kX6_51 : LkV RX6 51 yX5_lookedInFrom 2 cX5_lookedInFrom 5 (some .int) := ⟨lbX5_lookedInFrom, tb_m 858 (by decide +kernel), tb_m 523 (by decide +kernel), tb_m 524 (by decide +kernel)⟩
theorem kX6_54 : LkS RX6 54 yJ6_bitCount_0f7a4 1 cJ6_bitCount_0f7a4 1 (some .int) := ⟨lbJ6_bitCount_0f7a4, tb_m 859 (by decide +kernel), tb_m 536 (by decide +kernel)⟩
theorem kL_140 : LkV RL 140 yX8_behind 4 cX8_behind 6 (some .int) := ⟨lbX8_behind, tb_m 860 (by decide +kernel), tb_m 861 (by decide +kernel), tb_m 862 (by decide +kernel)⟩
theorem kL_144 : LkV RL 144 yX8_done 3 cX8_done 5 (some .int) := ⟨lbX8_done, tb_m 864 (by decide +kernel), tb_m 865 (by decide +kernel), tb_m 866 (by decide +kernel)⟩
theorem kX8_335 : LkV RX8 335 yX5_bear 2 cX5_bear 3 none := ⟨lbX5_bear, tb_m 868 (by decide +kernel), tb_m 869 (by decide +kernel), tb_m 870 (by decide +kernel)⟩
theorem kL_148 : LkV RL 148 yX8_days 1 cX8_days 3 (some .int) := ⟨lbX8_days, tb_m 872 (by decide +kernel), tb_m 873 (by decide +kernel), tb_m 874 (by decide +kernel)⟩
theorem kX8_342 : LkV RX8 342 yX5_liveOneDay 0 cX5_liveOneDay 4 none := ⟨lbX5_liveOneDay, tb_m 876 (by decide +kernel), tb_m 877 (by decide +kernel), tb_m 878 (by decide +kernel)⟩
theorem kX5_134 : LkV RX5 134 yX5_draw 1 cX5_draw 2 (some .int) := ⟨lbX5_draw, tb_m 880 (by decide +kernel), tb_m 882 (by decide +kernel), tb_s (n := 14) 25 (by decide +kernel)⟩
theorem kX5_137 : LkV RX5 137 yX5_isYard 1 cX5_isYard 2 (some .boolean) := ⟨lbX5_isYard, tb_m 885 (by decide +kernel), tb_m 459 (by decide +kernel), tb_m 460 (by decide +kernel)⟩
theorem kX5_140 : LkV RX5 140 yX5_place 3 cX5_place 4 none := ⟨lbX5_place, tb_m 886 (by decide +kernel), tb_m 486 (by decide +kernel), tb_m 487 (by decide +kernel)⟩
theorem kX5_144 : LkV RX5 144 yX5_lookedInBy 1 cX5_lookedInBy 2 (some .int) := ⟨lbX5_lookedInBy, tb_m 887 (by decide +kernel), tb_m 517 (by decide +kernel), tb_m 518 (by decide +kernel)⟩
theorem kX5_147 : LkV RX5 147 yX5_bear 2 cX5_bear 3 none := ⟨lbX5_bear, tb_m 888 (by decide +kernel), tb_m 869 (by decide +kernel), tb_m 870 (by decide +kernel)⟩
theorem kL_152 : LkV RL 152 yX8_seed 1 cX8_seed 3 (some .int) := ⟨lbX8_seed, tb_m 889 (by decide +kernel), tb_m 890 (by decide +kernel), tb_m 891 (by decide +kernel)⟩
theorem kL_156 : LkV RL 156 yX8_act 3 cX8_act 4 (some .int) := ⟨lbX8_act, tb_m 893 (by decide +kernel), tb_m 894 (by decide +kernel), tb_m 895 (by decide +kernel)⟩
theorem kX8_348 : LkV RX8 348 yX1_forget 0 cX1_forget 1 none := ⟨lbX1_forget, tb_m 897 (by decide +kernel), tb_m 898 (by decide +kernel), tb_m 899 (by decide +kernel)⟩
theorem kX8_351 : LkS RX8 351 yX1_isMove 1 cX1_isMove 1 (some .boolean) := ⟨lbX1_isMove, tb_m 901 (by decide +kernel), tb_m 902 (by decide +kernel)⟩
theorem kX8_354 : LkV RX8 354 yX1_make 5 cX1_make 6 (some .int) := ⟨lbX1_make, tb_m 904 (by decide +kernel), tb_m 905 (by decide +kernel), tb_m 906 (by decide +kernel)⟩
theorem kX1_28 : LkS RX1 28 yX1_run 5 cX1_run 7 (some .int) := ⟨lbX1_run, tb_m 908 (by decide +kernel), tb_m 909 (by decide +kernel)⟩
theorem kX1_32 : LkS RX1 32 yX1_bodyOf 2 cX1_bodyOf 5 (some .int) := ⟨lbX1_bodyOf, tb_m 911 (by decide +kernel), tb_m 912 (by decide +kernel)⟩
theorem kX1_48 : LkS RX1 48 yX1_isMove 1 cX1_isMove 1 (some .boolean) := ⟨lbX1_isMove, tb_m 915 (by decide +kernel), tb_m 902 (by decide +kernel)⟩
theorem kX1_36 : LkV RX1 36 yX1_note 1 cX1_note 2 none := ⟨lbX1_note, tb_m 919 (by decide +kernel), tb_m 921 (by decide +kernel), tb_s (n := 5) 26 (by decide +kernel)⟩
theorem kL_160 : LkV RL 160 yX8_trace 1 cX8_trace 2 (some .int) := ⟨lbX8_trace, tb_m 923 (by decide +kernel), tb_m 924 (by decide +kernel), tb_m 925 (by decide +kernel)⟩
theorem kX8_357 : LkV RX8 357 yX1_bodyAt 1 cX1_bodyAt 2 (some .int) := ⟨lbX1_bodyAt, tb_m 927 (by decide +kernel), tb_m 928 (by decide +kernel), tb_m 929 (by decide +kernel)⟩
theorem kL_164 : LkV RL 164 yX8_image 0 cX8_image 1 (some .int) := ⟨lbX8_image, tb_m 931 (by decide +kernel), tb_m 932 (by decide +kernel), tb_m 933 (by decide +kernel)⟩
theorem kL_168 : LkV RL 168 yX8_restore 0 cX8_restore 2 (some .int) := ⟨lbX8_restore, tb_m 935 (by decide +kernel), tb_m 936 (by decide +kernel), tb_m 937 (by decide +kernel)⟩
theorem kL_172 : LkV RL 172 yX8_status 1 cX8_status 2 (some .int) := ⟨lbX8_status, tb_m 939 (by decide +kernel), tb_m 940 (by decide +kernel), tb_m 941 (by decide +kernel)⟩
theorem kX8_368 : LkV RX8 368 yX5_triedTogether 0 cX5_triedTogether 3 (some .int) := ⟨lbX5_triedTogether, tb_m 943 (by decide +kernel), tb_m 944 (by decide +kernel), tb_m 945 (by decide +kernel)⟩
theorem kX8_374 : LkV RX8 374 yX8_refusalsOf 1 cX8_refusalsOf 2 (some .int) := ⟨lbX8_refusalsOf, tb_m 947 (by decide +kernel), tb_m 949 (by decide +kernel), tb_s (n := 11) 27 (by decide +kernel)⟩
theorem kL_17 : LkV RL 17 yX9_row 3 cX9_row 5 (some .int) := ⟨lbX9_row, tb_m 1058 (by decide +kernel), tb_m 1059 (by decide +kernel), tb_m 1060 (by decide +kernel)⟩
theorem kX9_86 : LkS RX9 86 yX9_within 3 cX9_within 3 (some .boolean) := ⟨lbX9_within, tb_m 1062 (by decide +kernel), tb_m 1063 (by decide +kernel)⟩
theorem kX9_79 : LkV RX9 79 yX9_no 1 cX9_no 2 (some .int) := ⟨lbX9_no, tb_m 1065 (by decide +kernel), tb_m 1067 (by decide +kernel), tb_s (n := 33) 28 (by decide +kernel)⟩
theorem kL_24 : LkV RL 24 yX9_set 3 cX9_set 7 (some .int) := ⟨lbX9_set, tb_m 1069 (by decide +kernel), tb_m 1070 (by decide +kernel), tb_m 1071 (by decide +kernel)⟩
theorem kX9_100 : LkV RX9 100 yX9_noRow 1 cX9_noRow 2 (some .int) := ⟨lbX9_noRow, tb_m 1073 (by decide +kernel), tb_m 1075 (by decide +kernel), tb_s (n := 33) 29 (by decide +kernel)⟩
theorem kX9_97 : LkV RX9 97 yX9_isRow 1 cX9_isRow 2 (some .boolean) := ⟨lbX9_isRow, tb_m 1077 (by decide +kernel), tb_m 1079 (by decide +kernel), tb_s (n := 33) 30 (by decide +kernel)⟩
theorem kL_29 : LkV RL 29 yX9_copy 5 cX9_copy 7 (some .int) := ⟨lbX9_copy, tb_m 1081 (by decide +kernel), tb_m 1082 (by decide +kernel), tb_m 1083 (by decide +kernel)⟩
theorem kL_34 : LkV RL 34 yX9_element 2 cX9_element 3 (some .long) := ⟨lbX9_element, tb_m 1085 (by decide +kernel), tb_m 1086 (by decide +kernel), tb_m 1087 (by decide +kernel)⟩
theorem kL_39 : LkV RL 39 yX9_show 2 cX9_show 3 (some .int) := ⟨lbX9_show, tb_m 1089 (by decide +kernel), tb_m 1090 (by decide +kernel), tb_m 1091 (by decide +kernel)⟩
theorem kX9_103 : LkV RX9 103 yX9_isPane 1 cX9_isPane 2 (some .boolean) := ⟨lbX9_isPane, tb_m 1093 (by decide +kernel), tb_m 1095 (by decide +kernel), tb_s (n := 33) 31 (by decide +kernel)⟩
theorem kL_44 : LkV RL 44 yX9_holds 1 cX9_holds 2 (some .int) := ⟨lbX9_holds, tb_m 1097 (by decide +kernel), tb_m 1098 (by decide +kernel), tb_m 1099 (by decide +kernel)⟩
theorem kL_48 : LkV RL 48 yX9_says 2 cX9_says 4 (some .int) := ⟨lbX9_says, tb_m 1101 (by decide +kernel), tb_m 1102 (by decide +kernel), tb_m 1103 (by decide +kernel)⟩
theorem kX9_109 : LkS RX9 109 yX9_isUnder 2 cX9_isUnder 3 (some .boolean) := ⟨lbX9_isUnder, tb_m 1105 (by decide +kernel), tb_m 1106 (by decide +kernel)⟩
theorem kX9_106 : LkS RX9 106 yX9_above 1 cX9_above 1 (some .int) := ⟨lbX9_above, tb_m 1108 (by decide +kernel), tb_m 1109 (by decide +kernel)⟩
theorem kX9_113 : LkV RX9 113 yX9_sees 1 cX9_sees 2 (some .long) := ⟨lbX9_sees, tb_m 1111 (by decide +kernel), tb_m 1113 (by decide +kernel), tb_s (n := 33) 32 (by decide +kernel)⟩
theorem kX9_229 : LkV RX9 229 yX9_line 4 cX9_line 10 (some .long) := ⟨lbX9_line, tb_m 1115 (by decide +kernel), tb_m 1117 (by decide +kernel), tb_s (n := 33) 33 (by decide +kernel)⟩
theorem kX9_223 : LkS RX9 223 yX9_next 2 cX9_next 2 (some .int) := ⟨lbX9_next, tb_m 1119 (by decide +kernel), tb_m 1120 (by decide +kernel)⟩
theorem kX9_226 : LkV RX9 226 yX9_bit 1 cX9_bit 2 (some .long) := ⟨lbX9_bit, tb_m 1122 (by decide +kernel), tb_m 1124 (by decide +kernel), tb_s (n := 33) 34 (by decide +kernel)⟩
theorem kX9_143 : LkV RX9 143 yX9_isOpen 1 cX9_isOpen 2 (some .boolean) := ⟨lbX9_isOpen, tb_m 1126 (by decide +kernel), tb_m 1128 (by decide +kernel), tb_s (n := 33) 35 (by decide +kernel)⟩
theorem kX9_93 : LkS RX9 93 yX9_isSquare 1 cX9_isSquare 1 (some .boolean) := ⟨lbX9_isSquare, tb_m 1130 (by decide +kernel), tb_m 1131 (by decide +kernel)⟩
theorem kX9_117 : LkS RX9 117 yJ13_bitCount_95d88 1 cJ13_bitCount_95d88 2 (some .int) := ⟨lbJ13_bitCount_95d88, tb_m 1133 (by decide +kernel), tb_m 404 (by decide +kernel)⟩
theorem kL_53 : LkV RL 53 yX9_house 2 cX9_house 4 (some .int) := ⟨lbX9_house, tb_m 1134 (by decide +kernel), tb_m 1135 (by decide +kernel), tb_m 1136 (by decide +kernel)⟩
theorem kX9_129 : LkV RX9 129 yX9_mayBecome 2 cX9_mayBecome 3 (some .boolean) := ⟨lbX9_mayBecome, tb_m 1138 (by decide +kernel), tb_m 1140 (by decide +kernel), tb_s (n := 33) 36 (by decide +kernel)⟩
theorem kX9_123 : LkV RX9 123 yX9_isStood 1 cX9_isStood 3 (some .boolean) := ⟨lbX9_isStood, tb_m 1142 (by decide +kernel), tb_m 1144 (by decide +kernel), tb_s (n := 33) 37 (by decide +kernel)⟩
theorem kX9_126 : LkV RX9 126 yX9_isPaned 1 cX9_isPaned 3 (some .boolean) := ⟨lbX9_isPaned, tb_m 1146 (by decide +kernel), tb_m 1148 (by decide +kernel), tb_s (n := 33) 38 (by decide +kernel)⟩
theorem kL_58 : LkV RL 58 yX9_pane 4 cX9_pane 5 (some .int) := ⟨lbX9_pane, tb_m 1150 (by decide +kernel), tb_m 1151 (by decide +kernel), tb_m 1152 (by decide +kernel)⟩
theorem kX9_133 : LkV RX9 133 yX9_isHouse 1 cX9_isHouse 2 (some .boolean) := ⟨lbX9_isHouse, tb_m 1154 (by decide +kernel), tb_m 1156 (by decide +kernel), tb_s (n := 33) 39 (by decide +kernel)⟩
theorem kX9_136 : LkS RX9 136 yX9_isWay 1 cX9_isWay 1 (some .boolean) := ⟨lbX9_isWay, tb_m 1158 (by decide +kernel), tb_m 1159 (by decide +kernel)⟩
theorem kX9_139 : LkV RX9 139 yX9_newPane 4 cX9_newPane 5 (some .int) := ⟨lbX9_newPane, tb_m 1161 (by decide +kernel), tb_m 1163 (by decide +kernel), tb_s (n := 33) 40 (by decide +kernel)⟩
theorem kL_62 : LkV RL 62 yX9_walker 2 cX9_walker 3 (some .int) := ⟨lbX9_walker, tb_m 1165 (by decide +kernel), tb_m 1166 (by decide +kernel), tb_m 1167 (by decide +kernel)⟩
theorem kX9_146 : LkV RX9 146 yX9_newWalker 2 cX9_newWalker 3 (some .int) := ⟨lbX9_newWalker, tb_m 1169 (by decide +kernel), tb_m 1171 (by decide +kernel), tb_s (n := 33) 41 (by decide +kernel)⟩
theorem kL_66 : LkV RL 66 yX9_put 3 cX9_put 5 (some .int) := ⟨lbX9_put, tb_m 1173 (by decide +kernel), tb_m 1174 (by decide +kernel), tb_m 1175 (by decide +kernel)⟩
theorem kX9_150 : LkV RX9 150 yX9_isWalker 1 cX9_isWalker 2 (some .boolean) := ⟨lbX9_isWalker, tb_m 1177 (by decide +kernel), tb_m 1179 (by decide +kernel), tb_s (n := 33) 42 (by decide +kernel)⟩
theorem kL_70 : LkV RL 70 yX9_reach 1 cX9_reach 3 (some .int) := ⟨lbX9_reach, tb_m 1181 (by decide +kernel), tb_m 1182 (by decide +kernel), tb_m 1183 (by decide +kernel)⟩
theorem kL_74 : LkV RL 74 yX9_paneOf 2 cX9_paneOf 3 (some .int) := ⟨lbX9_paneOf, tb_m 1185 (by decide +kernel), tb_m 1186 (by decide +kernel), tb_m 1187 (by decide +kernel)⟩
theorem kX9_153 : LkV RX9 153 yX9_inSight 1 cX9_inSight 5 (some .int) := ⟨lbX9_inSight, tb_m 1189 (by decide +kernel), tb_m 1191 (by decide +kernel), tb_s (n := 33) 43 (by decide +kernel)⟩
theorem kL_78 : LkV RL 78 yX9_walkerOf 2 cX9_walkerOf 3 (some .int) := ⟨lbX9_walkerOf, tb_m 1193 (by decide +kernel), tb_m 1194 (by decide +kernel), tb_m 1195 (by decide +kernel)⟩
theorem kX9_156 : LkV RX9 156 yX9_shame 2 cX9_shame 3 (some .int) := ⟨lbX9_shame, tb_m 1197 (by decide +kernel), tb_m 1199 (by decide +kernel), tb_s (n := 33) 44 (by decide +kernel)⟩
theorem kX9_159 : LkV RX9 159 yX9_looksIn 2 cX9_looksIn 7 (some .int) := ⟨lbX9_looksIn, tb_m 1201 (by decide +kernel), tb_m 1203 (by decide +kernel), tb_s (n := 33) 45 (by decide +kernel)⟩
theorem kX9_233 : LkS RX9 233 yJ6_bitCount_0f7a4 1 cJ6_bitCount_0f7a4 1 (some .int) := ⟨lbJ6_bitCount_0f7a4, tb_m 1205 (by decide +kernel), tb_m 536 (by decide +kernel)⟩
theorem kX9_162 : LkV RX9 162 yX9_seenBy 1 cX9_seenBy 4 (some .int) := ⟨lbX9_seenBy, tb_m 1206 (by decide +kernel), tb_m 1208 (by decide +kernel), tb_s (n := 33) 46 (by decide +kernel)⟩
theorem kL_82 : LkV RL 82 yX9_town 1 cX9_town 5 (some .int) := ⟨lbX9_town, tb_m 1210 (by decide +kernel), tb_m 1211 (by decide +kernel), tb_m 1212 (by decide +kernel)⟩
theorem kX9_212 : LkV RX9 212 yX9_keep 1 cX9_keep 3 none := ⟨lbX9_keep, tb_m 1214 (by decide +kernel), tb_m 1216 (by decide +kernel), tb_s (n := 33) 47 (by decide +kernel)⟩
theorem kX9_216 : LkV RX9 216 yX9_item 0 cX9_item 2 (some .boolean) := ⟨lbX9_item, tb_m 1218 (by decide +kernel), tb_m 1220 (by decide +kernel), tb_s (n := 33) 48 (by decide +kernel)⟩
theorem kX9_171 : LkV RX9 171 yX9_sign 0 cX9_sign 1 (some .int) := ⟨lbX9_sign, tb_m 1222 (by decide +kernel), tb_m 1224 (by decide +kernel), tb_s (n := 33) 49 (by decide +kernel)⟩
theorem kX9_188 : LkV RX9 188 yX9_word 1 cX9_word 3 (some .boolean) := ⟨lbX9_word, tb_m 1227 (by decide +kernel), tb_m 1229 (by decide +kernel), tb_s (n := 33) 50 (by decide +kernel)⟩
theorem kX9_175 : LkV RX9 175 yJ0_length_8abf5 0 cJ0_length_8abf5 1 (some .int) := ⟨lbJ0_length_8abf5, tb_m 1231 (by decide +kernel), tb_m 594 (by decide +kernel), tb_m 595 (by decide +kernel)⟩
theorem kX9_180 : LkV RX9 180 yJ0_charAt_5068e 1 cJ0_charAt_5068e 2 (some .char) := ⟨lbJ0_charAt_5068e, tb_m 1232 (by decide +kernel), tb_m 604 (by decide +kernel), tb_m 605 (by decide +kernel)⟩
theorem kX9_184 : LkV RX9 184 yX9_is 1 cX9_is 2 (some .boolean) := ⟨lbX9_is, tb_m 1233 (by decide +kernel), tb_m 1235 (by decide +kernel), tb_s (n := 33) 51 (by decide +kernel)⟩
theorem kX9_194 : LkV RX9 194 yX9_number 3 cX9_number 7 (some .boolean) := ⟨lbX9_number, tb_m 1237 (by decide +kernel), tb_m 1239 (by decide +kernel), tb_s (n := 33) 52 (by decide +kernel)⟩
theorem kX9_197 : LkV RX9 197 yX9_may 2 cX9_may 3 (some .boolean) := ⟨lbX9_may, tb_m 1241 (by decide +kernel), tb_m 1243 (by decide +kernel), tb_s (n := 33) 53 (by decide +kernel)⟩
theorem kX9_205 : LkV RX9 205 yX9_word_ 2 cX9_word_ 5 (some .boolean) := ⟨lbX9_word_, tb_m 1247 (by decide +kernel), tb_m 1249 (by decide +kernel), tb_s (n := 33) 54 (by decide +kernel)⟩
theorem kX9_220 : LkV RX9 220 yX9_again 1 cX9_again 3 none := ⟨lbX9_again, tb_m 1253 (by decide +kernel), tb_m 1255 (by decide +kernel), tb_s (n := 33) 55 (by decide +kernel)⟩
theorem kL_87 : LkV RL 87 yX9_fault 0 cX9_fault 1 (some .int) := ⟨lbX9_fault, tb_m 1257 (by decide +kernel), tb_m 1258 (by decide +kernel), tb_m 1259 (by decide +kernel)⟩
theorem kL_91 : LkV RL 91 yX9_seen 2 cX9_seen 3 (some .int) := ⟨lbX9_seen, tb_m 1261 (by decide +kernel), tb_m 1262 (by decide +kernel), tb_m 1263 (by decide +kernel)⟩
theorem kX9_237 : LkV RX9 237 yX9_no10 1 cX9_no10 2 (some .int) := ⟨lbX9_no10, tb_m 1265 (by decide +kernel), tb_m 1267 (by decide +kernel), tb_s (n := 33) 56 (by decide +kernel)⟩
theorem kL_95 : LkV RL 95 yX9_looks 2 cX9_looks 3 (some .int) := ⟨lbX9_looks, tb_m 1269 (by decide +kernel), tb_m 1270 (by decide +kernel), tb_m 1271 (by decide +kernel)⟩
theorem kL_99 : LkV RL 99 yX9_all 0 cX9_all 1 (some .int) := ⟨lbX9_all, tb_m 1273 (by decide +kernel), tb_m 1274 (by decide +kernel), tb_m 1275 (by decide +kernel)⟩
theorem kX9_240 : LkV RX9 240 yX9_allSeen 0 cX9_allSeen 4 (some .long) := ⟨lbX9_allSeen, tb_m 1277 (by decide +kernel), tb_m 1279 (by decide +kernel), tb_s (n := 33) 57 (by decide +kernel)⟩
theorem kL_103 : LkV RL 103 yX9_turn 2 cX9_turn 5 (some .int) := ⟨lbX9_turn, tb_m 1281 (by decide +kernel), tb_m 1282 (by decide +kernel), tb_m 1283 (by decide +kernel)⟩
theorem kL_107 : LkV RL 107 yX9_way 3 cX9_way 4 (some .int) := ⟨lbX9_way, tb_m 1285 (by decide +kernel), tb_m 1286 (by decide +kernel), tb_m 1287 (by decide +kernel)⟩
theorem kX9_245 : LkV RX9 245 yX9_leads 1 cX9_leads 8 none := ⟨lbX9_leads, tb_m 1289 (by decide +kernel), tb_m 1291 (by decide +kernel), tb_s (n := 33) 58 (by decide +kernel)⟩
theorem kL_135 : LkV RL 135 yX9_meet 3 cX9_meet 6 (some .int) := ⟨lbX9_meet, tb_m 1294 (by decide +kernel), tb_m 1295 (by decide +kernel), tb_m 1296 (by decide +kernel)⟩
theorem kX9_249 : LkV RX9 249 yX9_spreads 2 cX9_spreads 7 none := ⟨lbX9_spreads, tb_m 1298 (by decide +kernel), tb_m 1300 (by decide +kernel), tb_s (n := 33) 59 (by decide +kernel)⟩
theorem kL_111 : LkV RL 111 yX9_cover 1 cX9_cover 10 (some .int) := ⟨lbX9_cover, tb_m 1302 (by decide +kernel), tb_m 1303 (by decide +kernel), tb_m 1304 (by decide +kernel)⟩
theorem kX9_256 : LkV RX9 256 yX9_noSquares 1 cX9_noSquares 4 (some .int) := ⟨lbX9_noSquares, tb_m 1306 (by decide +kernel), tb_m 1308 (by decide +kernel), tb_s (n := 33) 60 (by decide +kernel)⟩
theorem kX9_253 : LkV RX9 253 yX9_toldAt 2 cX9_toldAt 3 (some .int) := ⟨lbX9_toldAt, tb_m 1310 (by decide +kernel), tb_m 1312 (by decide +kernel), tb_s (n := 33) 61 (by decide +kernel)⟩
theorem kL_115 : LkV RL 115 yX9_sole 0 cX9_sole 7 (some .int) := ⟨lbX9_sole, tb_m 1315 (by decide +kernel), tb_m 1316 (by decide +kernel), tb_m 1317 (by decide +kernel)⟩
theorem kL_119 : LkV RL 119 yX9_where 2 cX9_where 6 (some .int) := ⟨lbX9_where, tb_m 1319 (by decide +kernel), tb_m 1320 (by decide +kernel), tb_m 1321 (by decide +kernel)⟩
theorem kL_123 : LkV RL 123 yX9_ask 1 cX9_ask 9 (some .int) := ⟨lbX9_ask, tb_m 1323 (by decide +kernel), tb_m 1324 (by decide +kernel), tb_m 1325 (by decide +kernel)⟩
theorem kX9_261 : LkS RX9 261 yJ9_max_7cf53 2 cJ9_max_7cf53 2 (some .int) := ⟨lbJ9_max_7cf53, tb_m 1327 (by decide +kernel), tb_m 824 (by decide +kernel)⟩
theorem kL_127 : LkV RL 127 yX9_fresh 1 cX9_fresh 4 (some .int) := ⟨lbX9_fresh, tb_m 1328 (by decide +kernel), tb_m 1329 (by decide +kernel), tb_m 1330 (by decide +kernel)⟩
theorem kL_131 : LkV RL 131 yX9_housed 1 cX9_housed 6 (some .int) := ⟨lbX9_housed, tb_m 1332 (by decide +kernel), tb_m 1333 (by decide +kernel), tb_m 1334 (by decide +kernel)⟩
theorem kL_139 : LkV RL 139 yX9_judge 3 cX9_judge 5 (some .int) := ⟨lbX9_judge, tb_m 1336 (by decide +kernel), tb_m 1337 (by decide +kernel), tb_m 1338 (by decide +kernel)⟩
theorem kX9_278 : LkV RX9 278 yX9_noWalk 3 cX9_noWalk 5 (some .int) := ⟨lbX9_noWalk, tb_m 1340 (by decide +kernel), tb_m 1342 (by decide +kernel), tb_s (n := 33) 62 (by decide +kernel)⟩
theorem kX9_282 : LkV RX9 282 yX9_walks 3 cX9_walks 7 (some .int) := ⟨lbX9_walks, tb_m 1344 (by decide +kernel), tb_m 1346 (by decide +kernel), tb_s (n := 33) 63 (by decide +kernel)⟩
theorem kL_143 : LkV RL 143 yX9_behind 4 cX9_behind 6 (some .int) := ⟨lbX9_behind, tb_m 1348 (by decide +kernel), tb_m 1349 (by decide +kernel), tb_m 1350 (by decide +kernel)⟩
theorem kL_147 : LkV RL 147 yX9_done 3 cX9_done 5 (some .int) := ⟨lbX9_done, tb_m 1352 (by decide +kernel), tb_m 1353 (by decide +kernel), tb_m 1354 (by decide +kernel)⟩
theorem kL_151 : LkV RL 151 yX9_days 1 cX9_days 3 (some .int) := ⟨lbX9_days, tb_m 1356 (by decide +kernel), tb_m 1357 (by decide +kernel), tb_m 1358 (by decide +kernel)⟩
theorem kX9_289 : LkV RX9 289 yX9_goesDay 0 cX9_goesDay 3 none := ⟨lbX9_goesDay, tb_m 1360 (by decide +kernel), tb_m 1362 (by decide +kernel), tb_s (n := 33) 64 (by decide +kernel)⟩
theorem kX9_286 : LkV RX9 286 yX9_draw 1 cX9_draw 2 (some .int) := ⟨lbX9_draw, tb_m 1364 (by decide +kernel), tb_m 1366 (by decide +kernel), tb_s (n := 33) 65 (by decide +kernel)⟩
theorem kL_155 : LkV RL 155 yX9_seed 1 cX9_seed 3 (some .int) := ⟨lbX9_seed, tb_m 1369 (by decide +kernel), tb_m 1370 (by decide +kernel), tb_m 1371 (by decide +kernel)⟩
theorem kL_159 : LkV RL 159 yX9_act 3 cX9_act 5 (some .int) := ⟨lbX9_act, tb_m 1373 (by decide +kernel), tb_m 1374 (by decide +kernel), tb_m 1375 (by decide +kernel)⟩
theorem kX9_298 : LkV RX9 298 yX9_opensBy 3 cX9_opensBy 4 (some .int) := ⟨lbX9_opensBy, tb_m 1377 (by decide +kernel), tb_m 1379 (by decide +kernel), tb_s (n := 33) 66 (by decide +kernel)⟩
theorem kX9_295 : LkV RX9 295 yX9_ran 1 cX9_ran 2 none := ⟨lbX9_ran, tb_m 1381 (by decide +kernel), tb_m 1383 (by decide +kernel), tb_s (n := 33) 67 (by decide +kernel)⟩
theorem kX9_301 : LkV RX9 301 yX9_shutsBy 3 cX9_shutsBy 4 (some .int) := ⟨lbX9_shutsBy, tb_m 1385 (by decide +kernel), tb_m 1387 (by decide +kernel), tb_s (n := 33) 68 (by decide +kernel)⟩
theorem kX9_304 : LkV RX9 304 yX9_shinesBy 3 cX9_shinesBy 5 (some .int) := ⟨lbX9_shinesBy, tb_m 1389 (by decide +kernel), tb_m 1391 (by decide +kernel), tb_s (n := 33) 69 (by decide +kernel)⟩
theorem kL_163 : LkV RL 163 yX9_trace 1 cX9_trace 2 (some .int) := ⟨lbX9_trace, tb_m 1393 (by decide +kernel), tb_m 1394 (by decide +kernel), tb_m 1395 (by decide +kernel)⟩
theorem kL_167 : LkV RL 167 yX9_image 0 cX9_image 1 (some .int) := ⟨lbX9_image, tb_m 1397 (by decide +kernel), tb_m 1398 (by decide +kernel), tb_m 1399 (by decide +kernel)⟩
theorem kL_171 : LkV RL 171 yX9_restore 0 cX9_restore 2 (some .int) := ⟨lbX9_restore, tb_m 1401 (by decide +kernel), tb_m 1402 (by decide +kernel), tb_m 1403 (by decide +kernel)⟩
theorem kL_175 : LkV RL 175 yX9_status 1 cX9_status 4 (some .int) := ⟨lbX9_status, tb_m 1405 (by decide +kernel), tb_m 1406 (by decide +kernel), tb_m 1407 (by decide +kernel)⟩
theorem fX5_9 : LkF RX5 9 4 0 := ⟨_, rfl, by decide, tb_m 33 (by decide +kernel)⟩
theorem fX8_245 : LkF RX8 245 4 0 := ⟨_, rfl, by decide, tb_m 34 (by decide +kernel)⟩
theorem fX5_15 : LkF RX5 15 4 1 := ⟨_, rfl, by decide, tb_m 35 (by decide +kernel)⟩
theorem fX4_19 : LkF RX4 19 4 1 := ⟨_, rfl, by decide, tb_m 36 (by decide +kernel)⟩
theorem fX8_360 : LkF RX8 360 4 1 := ⟨_, rfl, by decide, tb_m 37 (by decide +kernel)⟩
theorem fX5_19 : LkF RX5 19 4 2 := ⟨_, rfl, by decide, tb_m 38 (by decide +kernel)⟩
theorem fX8_339 : LkF RX8 339 4 2 := ⟨_, rfl, by decide, tb_m 39 (by decide +kernel)⟩
theorem fX5_22 : LkF RX5 22 4 3 := ⟨_, rfl, by decide, tb_m 40 (by decide +kernel)⟩
theorem fX2_144 : LkF RX2 144 4 3 := ⟨_, rfl, by decide, tb_m 41 (by decide +kernel)⟩
theorem fX8_203 : LkF RX8 203 4 3 := ⟨_, rfl, by decide, tb_m 42 (by decide +kernel)⟩
theorem fX5_25 : LkF RX5 25 4 4 := ⟨_, rfl, by decide, tb_m 43 (by decide +kernel)⟩
theorem fX8_365 : LkF RX8 365 4 4 := ⟨_, rfl, by decide, tb_m 44 (by decide +kernel)⟩
theorem fX5_28 : LkF RX5 28 4 5 := ⟨_, rfl, by decide, tb_m 45 (by decide +kernel)⟩
theorem fX8_338 : LkF RX8 338 4 5 := ⟨_, rfl, by decide, tb_m 46 (by decide +kernel)⟩
theorem fX5_31 : LkF RX5 31 4 6 := ⟨_, rfl, by decide, tb_m 47 (by decide +kernel)⟩
theorem fX8_345 : LkF RX8 345 4 6 := ⟨_, rfl, by decide, tb_m 48 (by decide +kernel)⟩
theorem fX5_34 : LkF RX5 34 4 7 := ⟨_, rfl, by decide, tb_m 49 (by decide +kernel)⟩
theorem fX5_38 : LkF RX5 38 4 8 := ⟨_, rfl, by decide, tb_m 50 (by decide +kernel)⟩
theorem fX5_41 : LkF RX5 41 4 9 := ⟨_, rfl, by decide, tb_m 51 (by decide +kernel)⟩
theorem fX5_44 : LkF RX5 44 4 10 := ⟨_, rfl, by decide, tb_m 52 (by decide +kernel)⟩
theorem fX5_47 : LkF RX5 47 4 11 := ⟨_, rfl, by decide, tb_m 53 (by decide +kernel)⟩
theorem fX5_50 : LkF RX5 50 4 12 := ⟨_, rfl, by decide, tb_m 54 (by decide +kernel)⟩
theorem fX5_53 : LkF RX5 53 4 13 := ⟨_, rfl, by decide, tb_m 55 (by decide +kernel)⟩
theorem fX2_12 : LkF RX2 12 1 0 := ⟨_, rfl, by decide, tb_m 96 (by decide +kernel)⟩
theorem fX8_229 : LkF RX8 229 1 0 := ⟨_, rfl, by decide, tb_m 97 (by decide +kernel)⟩
theorem fX2_18 : LkF RX2 18 1 1 := ⟨_, rfl, by decide, tb_m 98 (by decide +kernel)⟩
theorem fX8_236 : LkF RX8 236 1 1 := ⟨_, rfl, by decide, tb_m 99 (by decide +kernel)⟩
theorem fX2_22 : LkF RX2 22 1 2 := ⟨_, rfl, by decide, tb_m 100 (by decide +kernel)⟩
theorem fX2_26 : LkF RX2 26 1 3 := ⟨_, rfl, by decide, tb_m 101 (by decide +kernel)⟩
theorem fX2_29 : LkF RX2 29 1 4 := ⟨_, rfl, by decide, tb_m 102 (by decide +kernel)⟩
theorem fX2_32 : LkF RX2 32 1 5 := ⟨_, rfl, by decide, tb_m 103 (by decide +kernel)⟩
theorem fX4_9 : LkF RX4 9 3 0 := ⟨_, rfl, by decide, tb_m 123 (by decide +kernel)⟩
theorem fX4_15 : LkF RX4 15 3 1 := ⟨_, rfl, by decide, tb_m 124 (by decide +kernel)⟩
theorem fX6_9 : LkF RX6 9 5 0 := ⟨_, rfl, by decide, tb_m 137 (by decide +kernel)⟩
theorem fX8_320 : LkF RX8 320 5 0 := ⟨_, rfl, by decide, tb_m 138 (by decide +kernel)⟩
theorem fX6_15 : LkF RX6 15 5 1 := ⟨_, rfl, by decide, tb_m 139 (by decide +kernel)⟩
theorem fX8_326 : LkF RX8 326 5 1 := ⟨_, rfl, by decide, tb_m 140 (by decide +kernel)⟩
theorem fX6_18 : LkF RX6 18 5 2 := ⟨_, rfl, by decide, tb_m 141 (by decide +kernel)⟩
theorem fX8_332 : LkF RX8 332 5 2 := ⟨_, rfl, by decide, tb_m 142 (by decide +kernel)⟩
theorem fX6_21 : LkF RX6 21 5 3 := ⟨_, rfl, by decide, tb_m 143 (by decide +kernel)⟩
theorem fX8_323 : LkF RX8 323 5 3 := ⟨_, rfl, by decide, tb_m 144 (by decide +kernel)⟩
theorem fX6_24 : LkF RX6 24 5 4 := ⟨_, rfl, by decide, tb_m 145 (by decide +kernel)⟩
theorem fX8_329 : LkF RX8 329 5 4 := ⟨_, rfl, by decide, tb_m 146 (by decide +kernel)⟩
theorem fX7_9 : LkF RX7 9 6 0 := ⟨_, rfl, by decide, tb_m 164 (by decide +kernel)⟩
theorem fX7_15 : LkF RX7 15 6 1 := ⟨_, rfl, by decide, tb_m 165 (by decide +kernel)⟩
theorem fX1_9 : LkF RX1 9 0 0 := ⟨_, rfl, by decide, tb_m 177 (by decide +kernel)⟩
theorem fX8_371 : LkF RX8 371 0 0 := ⟨_, rfl, by decide, tb_m 178 (by decide +kernel)⟩
theorem fX1_15 : LkF RX1 15 0 1 := ⟨_, rfl, by decide, tb_m 179 (by decide +kernel)⟩
theorem fX1_19 : LkF RX1 19 0 2 := ⟨_, rfl, by decide, tb_m 180 (by decide +kernel)⟩
theorem fX1_22 : LkF RX1 22 0 3 := ⟨_, rfl, by decide, tb_m 181 (by decide +kernel)⟩
theorem fX1_25 : LkF RX1 25 0 4 := ⟨_, rfl, by decide, tb_m 182 (by decide +kernel)⟩
theorem fX3_9 : LkF RX3 9 2 0 := ⟨_, rfl, by decide, tb_m 199 (by decide +kernel)⟩
theorem fX8_116 : LkF RX8 116 2 0 := ⟨_, rfl, by decide, tb_m 200 (by decide +kernel)⟩
theorem fX3_15 : LkF RX3 15 2 1 := ⟨_, rfl, by decide, tb_m 201 (by decide +kernel)⟩
theorem fX2_39 : LkF RX2 39 2 1 := ⟨_, rfl, by decide, tb_m 202 (by decide +kernel)⟩
theorem fX4_55 : LkF RX4 55 2 1 := ⟨_, rfl, by decide, tb_m 203 (by decide +kernel)⟩
theorem fX8_293 : LkF RX8 293 2 1 := ⟨_, rfl, by decide, tb_m 204 (by decide +kernel)⟩
theorem fX3_18 : LkF RX3 18 2 2 := ⟨_, rfl, by decide, tb_m 205 (by decide +kernel)⟩
theorem fX8_10 : LkF RX8 10 7 0 := ⟨_, rfl, by decide, tb_m 213 (by decide +kernel)⟩
theorem fX8_16 : LkF RX8 16 7 1 := ⟨_, rfl, by decide, tb_m 214 (by decide +kernel)⟩
theorem fX8_19 : LkF RX8 19 7 2 := ⟨_, rfl, by decide, tb_m 215 (by decide +kernel)⟩
theorem fX8_25 : LkF RX8 25 7 3 := ⟨_, rfl, by decide, tb_m 216 (by decide +kernel)⟩
theorem fX8_29 : LkF RX8 29 7 4 := ⟨_, rfl, by decide, tb_m 217 (by decide +kernel)⟩
theorem fX8_36 : LkF RX8 36 7 5 := ⟨_, rfl, by decide, tb_m 218 (by decide +kernel)⟩
theorem fX8_43 : LkF RX8 43 7 6 := ⟨_, rfl, by decide, tb_m 219 (by decide +kernel)⟩
theorem fX8_50 : LkF RX8 50 7 7 := ⟨_, rfl, by decide, tb_m 220 (by decide +kernel)⟩
theorem fX8_57 : LkF RX8 57 7 8 := ⟨_, rfl, by decide, tb_m 221 (by decide +kernel)⟩
theorem fX8_61 : LkF RX8 61 7 9 := ⟨_, rfl, by decide, tb_m 222 (by decide +kernel)⟩
theorem fX8_67 : LkF RX8 67 7 10 := ⟨_, rfl, by decide, tb_m 223 (by decide +kernel)⟩
theorem fX9_83 : LkF RX9 83 8 0 := ⟨_, rfl, by decide, tb_m 957 (by decide +kernel)⟩
theorem fX9_7 : LkF RX9 7 8 1 := ⟨_, rfl, by decide, tb_m 958 (by decide +kernel)⟩
theorem fX9_13 : LkF RX9 13 8 2 := ⟨_, rfl, by decide, tb_m 959 (by decide +kernel)⟩
theorem fX9_16 : LkF RX9 16 8 3 := ⟨_, rfl, by decide, tb_m 960 (by decide +kernel)⟩
theorem fX9_19 : LkF RX9 19 8 4 := ⟨_, rfl, by decide, tb_m 961 (by decide +kernel)⟩
theorem fX9_90 : LkF RX9 90 8 5 := ⟨_, rfl, by decide, tb_m 962 (by decide +kernel)⟩
theorem fX9_22 : LkF RX9 22 8 6 := ⟨_, rfl, by decide, tb_m 963 (by decide +kernel)⟩
theorem fX9_25 : LkF RX9 25 8 7 := ⟨_, rfl, by decide, tb_m 964 (by decide +kernel)⟩
theorem fX9_28 : LkF RX9 28 8 8 := ⟨_, rfl, by decide, tb_m 965 (by decide +kernel)⟩
theorem fX9_31 : LkF RX9 31 8 9 := ⟨_, rfl, by decide, tb_m 966 (by decide +kernel)⟩
theorem fX9_35 : LkF RX9 35 8 10 := ⟨_, rfl, by decide, tb_m 967 (by decide +kernel)⟩
theorem fX9_72 : LkF RX9 72 8 11 := ⟨_, rfl, by decide, tb_m 968 (by decide +kernel)⟩
theorem fX9_38 : LkF RX9 38 8 12 := ⟨_, rfl, by decide, tb_m 969 (by decide +kernel)⟩
theorem fX9_41 : LkF RX9 41 8 13 := ⟨_, rfl, by decide, tb_m 970 (by decide +kernel)⟩
theorem fX9_44 : LkF RX9 44 8 14 := ⟨_, rfl, by decide, tb_m 971 (by decide +kernel)⟩
theorem fX9_168 : LkF RX9 168 8 15 := ⟨_, rfl, by decide, tb_m 972 (by decide +kernel)⟩
theorem fX9_165 : LkF RX9 165 8 16 := ⟨_, rfl, by decide, tb_m 973 (by decide +kernel)⟩
theorem fX9_48 : LkF RX9 48 8 17 := ⟨_, rfl, by decide, tb_m 974 (by decide +kernel)⟩
theorem fX9_76 : LkF RX9 76 8 18 := ⟨_, rfl, by decide, tb_m 975 (by decide +kernel)⟩
theorem fX9_51 : LkF RX9 51 8 19 := ⟨_, rfl, by decide, tb_m 976 (by decide +kernel)⟩
theorem fX9_292 : LkF RX9 292 8 20 := ⟨_, rfl, by decide, tb_m 977 (by decide +kernel)⟩
theorem fX9_54 : LkF RX9 54 8 21 := ⟨_, rfl, by decide, tb_m 978 (by decide +kernel)⟩
theorem fX9_57 : LkF RX9 57 8 22 := ⟨_, rfl, by decide, tb_m 979 (by decide +kernel)⟩
theorem fX9_307 : LkF RX9 307 8 23 := ⟨_, rfl, by decide, tb_m 980 (by decide +kernel)⟩
theorem fX9_60 : LkF RX9 60 8 24 := ⟨_, rfl, by decide, tb_m 981 (by decide +kernel)⟩
theorem fX9_311 : LkF RX9 311 8 25 := ⟨_, rfl, by decide, tb_m 982 (by decide +kernel)⟩
theorem fX9_63 : LkF RX9 63 8 26 := ⟨_, rfl, by decide, tb_m 983 (by decide +kernel)⟩
theorem fX9_66 : LkF RX9 66 8 27 := ⟨_, rfl, by decide, tb_m 984 (by decide +kernel)⟩
theorem fX9_69 : LkF RX9 69 8 28 := ⟨_, rfl, by decide, tb_m 985 (by decide +kernel)⟩
theorem fX9_266 : LkF RX9 266 8 29 := ⟨_, rfl, by decide, tb_m 986 (by decide +kernel)⟩
theorem fX9_269 : LkF RX9 269 8 30 := ⟨_, rfl, by decide, tb_m 987 (by decide +kernel)⟩
theorem fX9_272 : LkF RX9 272 8 31 := ⟨_, rfl, by decide, tb_m 988 (by decide +kernel)⟩
theorem fX9_275 : LkF RX9 275 8 32 := ⟨_, rfl, by decide, tb_m 989 (by decide +kernel)⟩
theorem nJ13_314 : Cond.constantLong RJ13 314 (6148914691236517205) ∈ lw_tbl := tb_m 406 (by decide +kernel)
theorem nJ13_316 : Cond.constantLong RJ13 316 (3689348814741910323) ∈ lw_tbl := tb_m 407 (by decide +kernel)
theorem nJ13_318 : Cond.constantLong RJ13 318 (1085102592571150095) ∈ lw_tbl := tb_m 408 (by decide +kernel)
theorem nX0_9 : Cond.constantLong RX0 9 (-1) ∈ lw_tbl := tb_m 438 (by decide +kernel)
theorem nJ6_265 : Cond.constant RJ6 265 (1431655765) ∈ lw_tbl := tb_m 538 (by decide +kernel)
theorem nJ6_266 : Cond.constant RJ6 266 (858993459) ∈ lw_tbl := tb_m 539 (by decide +kernel)
theorem nJ6_267 : Cond.constant RJ6 267 (252645135) ∈ lw_tbl := tb_m 540 (by decide +kernel)
theorem nX7_19 : Cond.constant RX7 19 (1000000) ∈ lw_tbl := tb_m 742 (by decide +kernel)
theorem nX4_48 : Cond.constantLong RX4 48 (-1) ∈ lw_tbl := tb_m 796 (by decide +kernel)
theorem nX5_151 : Cond.constant RX5 151 (1103515245) ∈ lw_tbl := tb_m 884 (by decide +kernel)
theorem nX9_244 : Cond.constant RX9 244 (999999) ∈ lw_tbl := tb_m 1293 (by decide +kernel)
theorem nX9_259 : Cond.constantLong RX9 259 (-1) ∈ lw_tbl := tb_m 1314 (by decide +kernel)
theorem nX9_285 : Cond.constant RX9 285 (1103515245) ∈ lw_tbl := tb_m 1368 (by decide +kernel)
theorem nL_18 : Cond.constantLong RL 18 (4294967295) ∈ lw_tbl := tb_m 1409 (by decide +kernel)
end
section
/-! PART 02: the store of both classes, its picture in the heap, methods' contracts (CT) and the walk (AW) over it -/
abbrev Gl : Type := Launch × (Nat → Nat) × va_G × (Nat → ClassId) × (Nat × Nat) × (Nat → Nat) × (Nat → Nat)
def gL (G : Gl) : Launch := G.1
def gA (G : Gl) : Nat → Nat := G.2.1
def gD (G : Gl) : va_G := G.2.2.1
def gY (G : Gl) : Nat → ClassId := G.2.2.2.1
def gB (G : Gl) : Nat × Nat := G.2.2.2.2.1
def gK (G : Gl) : Nat → Nat := G.2.2.2.2.2.1
def gV (G : Gl) : Nat → Nat := G.2.2.2.2.2.2
/-- an int of the machine, of a whole number -/
def iI (z : Int) : Int32 := Int32.ofInt z
theorem iI_add (a b : Int) : iI a + iI b = iI (a + b) := (Int32.ofInt_add a b).symm
theorem iI_sub (a b : Int) : iI a - iI b = iI (a - b) := (Int32.ofInt_sub a b).symm
theorem iI_mul (a b : Int) : iI a * iI b = iI (a * b) := (Int32.ofInt_mul a b).symm
theorem iI_neg (a : Int) : -iI a = iI (-a) := (Int32.ofInt_neg a).symm
theorem iI_t {z : Int} (h1 : -2147483648 ≤ z) (h2 : z < 2147483648) : (iI z).toInt = z := Int32.toInt_ofInt_of_le (by omega) (by omega)
theorem iI_of (x : Int32) : iI x.toInt = x := Int32.ofInt_toInt x
theorem iI_n (n : Nat) : iI (n : Int) = nI n := Int32.ofInt_eq_ofNat
theorem iI_eq {a b : Int} (a1 : -2147483648 ≤ a) (a2 : a < 2147483648) (b1 : -2147483648 ≤ b) (b2 : b < 2147483648) : iI a = iI b ↔ a = b :=
  ⟨fun h => by rw [← iI_t a1 a2, ← iI_t b1 b2, h], fun h => by rw [h]⟩
theorem iI_lt {a b : Int} (a1 : -2147483648 ≤ a) (a2 : a < 2147483648) (b1 : -2147483648 ≤ b) (b2 : b < 2147483648) : iI a < iI b ↔ a < b := by
  rw [Int32.lt_iff_toInt_lt, iI_t a1 a2, iI_t b1 b2]
theorem iI_le {a b : Int} (a1 : -2147483648 ≤ a) (a2 : a < 2147483648) (b1 : -2147483648 ≤ b) (b2 : b < 2147483648) : iI a ≤ iI b ↔ a ≤ b := by
  rw [Int32.le_iff_toInt_le, iI_t a1 a2, iI_t b1 b2]
theorem iI_0 : iI 0 = 0 := by decide
/-- the store: cell, place -> value; ints by whole numbers (the heap holds iI of them) -/
abbrev Sg : Type := (Nat → Nat → Int) × (Nat → Nat → Int64)
def uI (σ : Sg) (c k : Nat) (v : Int) : Sg := (fun a b => if a = c ∧ b = k then v else σ.1 a b, σ.2)
def uL (σ : Sg) (c k : Nat) (v : Int64) : Sg := (σ.1, fun a b => if a = c ∧ b = k then v else σ.2 a b)
/-- a cell's shape: an object (its class, its fields: 0 an int, 1 a long, 2 a reference to a cell), or an array (0 ints, 1 longs, 2 booleans, 3 shelves; its length) -/
abbrev Shp : Type := (Nat × List (Nat × Nat)) ⊕ (Nat × Nat)
def shT : List Shp := [
  .inl (7, [(2, 14), (2, 22), (0, 0), (2, 1), (2, 2), (2, 3), (2, 5), (2, 7), (2, 8), (2, 10), (2, 12)]),
  .inr (3, 8),
  .inr (0, 8),
  .inl (1, [(2, 30), (0, 0), (2, 4), (0, 0), (0, 0), (0, 0)]),
  .inr (0, 160),
  .inl (3, [(0, 0), (2, 6)]),
  .inr (1, 9),
  .inl (5, [(0, 0), (0, 0), (0, 0), (0, 0), (0, 0)]),
  .inl (6, [(1, 0), (2, 9)]),
  .inr (0, 49),
  .inl (6, [(1, 0), (2, 11)]),
  .inr (0, 49),
  .inl (0, [(0, 0), (2, 13), (0, 0), (0, 0), (0, 0)]),
  .inr (0, 20),
  .inl (4, [(1, 0), (0, 0), (0, 0), (0, 0), (0, 0), (0, 0), (0, 0), (2, 15), (2, 16), (2, 17), (2, 18), (2, 19), (2, 20), (2, 21)]),
  .inr (0, 9),
  .inr (0, 9),
  .inr (0, 9),
  .inr (0, 9),
  .inr (0, 5),
  .inr (0, 5),
  .inr (0, 5),
  .inl (4, [(1, 0), (0, 0), (0, 0), (0, 0), (0, 0), (0, 0), (0, 0), (2, 23), (2, 24), (2, 25), (2, 26), (2, 27), (2, 28), (2, 29)]),
  .inr (0, 9),
  .inr (0, 9),
  .inr (0, 9),
  .inr (0, 9),
  .inr (0, 5),
  .inr (0, 5),
  .inr (0, 5),
  .inl (4, [(1, 0), (0, 0), (0, 0), (0, 0), (0, 0), (0, 0), (0, 0), (2, 31), (2, 32), (2, 33), (2, 34), (2, 35), (2, 36), (2, 37)]),
  .inr (0, 9),
  .inr (0, 9),
  .inr (0, 9),
  .inr (0, 9),
  .inr (0, 5),
  .inr (0, 5),
  .inr (0, 5),
  .inl (2, [(0, 0), (0, 0), (2, 39)]),
  .inr (1, 160),
  .inl (2, [(0, 0), (0, 0), (2, 41)]),
  .inr (1, 160),
  .inl (2, [(0, 0), (0, 0), (2, 43)]),
  .inr (1, 160),
  .inl (2, [(0, 0), (0, 0), (2, 45)]),
  .inr (1, 160),
  .inl (2, [(0, 0), (0, 0), (2, 47)]),
  .inr (1, 160),
  .inl (2, [(0, 0), (0, 0), (2, 49)]),
  .inr (1, 160),
  .inl (2, [(0, 0), (0, 0), (2, 51)]),
  .inr (1, 160),
  .inl (2, [(0, 0), (0, 0), (2, 53)]),
  .inr (1, 160),
  .inl (8, [(0, 0), (2, 55), (2, 56), (2, 57), (2, 58), (0, 0), (2, 59), (2, 60), (2, 61), (2, 62), (2, 63), (0, 0), (2, 64), (2, 65), (2, 66), (0, 0), (0, 0), (2, 67), (0, 0), (2, 68), (0, 0), (2, 69), (2, 70), (0, 0), (2, 71), (0, 0), (2, 72), (2, 73), (2, 74), (0, 0), (0, 0), (0, 0), (0, 0)]),
  .inr (0, 9),
  .inr (0, 9),
  .inr (0, 9),
  .inr (0, 9),
  .inr (0, 5),
  .inr (0, 5),
  .inr (0, 5),
  .inr (2, 49),
  .inr (0, 3),
  .inr (0, 8),
  .inr (0, 8),
  .inr (1, 1280),
  .inr (0, 4),
  .inr (0, 105),
  .inr (0, 20),
  .inr (0, 8),
  .inr (0, 105),
  .inr (0, 49),
  .inr (0, 49),
  .inr (0, 49)]

def shp (c : Nat) : Shp := shT.getD c (.inr (9, 0))
theorem shp_lt {c : Nat} {q : Nat × List (Nat × Nat)} (h : shp c = .inl q) : c < 75 := by
  rcases Nat.lt_or_ge c 75 with h1 | h1
  · exact h1
  · have : shp c = .inr (9, 0) := by
      unfold shp
      rw [List.getD_eq_getElem?_getD, List.getElem?_eq_none (by exact h1)]
      rfl
    rw [this] at h
    cases h
theorem shp_lt2 {c t n : Nat} (h : shp c = .inr (t, n)) (ht : t ≠ 9) : c < 75 := by
  rcases Nat.lt_or_ge c 75 with h1 | h1
  · exact h1
  · have : shp c = .inr (9, 0) := by
      unfold shp
      rw [List.getD_eq_getElem?_getD, List.getElem?_eq_none (by exact h1)]
      rfl
    rw [this] at h
    cases h
    exact absurd rfl ht
def fv (G : Gl) (σ : Sg) (c k : Nat) (f : Nat × Nat) : Value := if f.1 = 0 then .int (iI (σ.1 c k)) else if f.1 = 1 then .long (σ.2 c k) else .ref (gA G f.2)
def av (G : Gl) (σ : Sg) (c t n : Nat) : vp_A := (n, if t = 1 then .inr (.inl (σ.2 c)) else if t = 3 then .inr (.inr (.inr (.inr (fun i => some (gA G (38 + 2 * i)))))) else .inl (fun j => iI (σ.1 c j)))
def fvs (G : Gl) (σ : Sg) (c : Nat) (fl : List (Nat × Nat)) : List Value := fl.zipIdx.map (fun p => fv G σ c p.2 p.1)
def EN (G : Gl) (σ : Sg) (c : Nat) : va_E := match shp c with
  | .inl q => .inr (q.1, fvs G σ c q.2)
  | .inr q => .inl (gY G q.1, av G σ c q.1 q.2)
def WS (G : Gl) (σ : Sg) : va_W := (List.range 75).map (fun c => (gA G c, EN G σ c))
theorem WS_at {G : Gl} {σ : Sg} {c : Nat} (h : c < 75) : (WS G σ)[c]? = some (gA G c, EN G σ c) := by
  simp [WS, h]
theorem EN_congr {G : Gl} {σ τ : Sg} {c : Nat} (h1 : σ.1 c = τ.1 c) (h2 : σ.2 c = τ.2 c) : EN G σ c = EN G τ c := by
  have hf : ∀ k f, fv G σ c k f = fv G τ c k f := fun k f => by unfold fv; rw [h1, h2]
  unfold EN fvs av
  simp only [hf, h1, h2]
theorem WS_set {G : Gl} {σ τ : Sg} {c : Nat} {e : va_E} (he : EN G τ c = e) (h1 : ∀ a, a ≠ c → σ.1 a = τ.1 a) (h2 : ∀ a, a ≠ c → σ.2 a = τ.2 a) : (WS G σ).set c (gA G c, e) = WS G τ := by
  apply List.ext_getElem?
  intro i
  rcases Nat.lt_or_ge i 75 with hi | hi
  · by_cases hic : i = c
    · subst hic
      rw [List.getElem?_set_self (by simp [WS, hi]), WS_at hi, he]
    · rw [List.getElem?_set_ne (Ne.symm hic), WS_at hi, WS_at hi, EN_congr (h1 i hic) (h2 i hic)]
  · rw [List.getElem?_eq_none (by simp [WS, hi]), List.getElem?_eq_none (by simp [WS, hi])]
theorem fvs_at {G : Gl} {σ : Sg} {c k : Nat} {fl : List (Nat × Nat)} {f : Nat × Nat} (h : fl[k]? = some f) : (fvs G σ c fl)[k]? = some (fv G σ c k f) := by
  simp [fvs, h]
theorem fvs_len {G : Gl} {σ : Sg} {c : Nat} {fl : List (Nat × Nat)} : (fvs G σ c fl).length = fl.length := by
  simp [fvs]
theorem fvs_set {G : Gl} {σ τ : Sg} {c k : Nat} {fl : List (Nat × Nat)} {f : Nat × Nat} {v : Value} (h : fl[k]? = some f) (hv : fv G τ c k f = v) (ho : ∀ j g, j ≠ k → fv G σ c j g = fv G τ c j g) : (fvs G σ c fl).set k v = fvs G τ c fl := by
  apply List.ext_getElem?
  intro i
  have hk := (List.getElem?_eq_some_iff.mp h).1
  by_cases hik : i = k
  · subst hik
    rw [List.getElem?_set_self (by rw [fvs_len]; exact hk), fvs_at h, hv]
  · rw [List.getElem?_set_ne (Ne.symm hik)]
    cases hg : fl[i]? with
    | none =>
      have : fl.length ≤ i := by simpa using hg
      rw [List.getElem?_eq_none (by rw [fvs_len]; exact this), List.getElem?_eq_none (by rw [fvs_len]; exact this)]
    | some g => rw [fvs_at hg, fvs_at hg, ho i g hik]
theorem uI_ne {σ : Sg} {c k : Nat} {v : Int} {a : Nat} (h : a ≠ c) : σ.1 a = (uI σ c k v).1 a := by
  funext b
  simp [uI, h]
theorem uL_ne {σ : Sg} {c k : Nat} {v : Int64} {a : Nat} (h : a ≠ c) : σ.2 a = (uL σ c k v).2 a := by
  funext b
  simp [uL, h]
theorem uI_self {σ : Sg} {c k : Nat} {v : Int} : (uI σ c k v).1 c k = v := by simp [uI]
theorem uI_at {σ : Sg} {c k : Nat} {v : Int} {a b : Nat} : (uI σ c k v).1 a b = if a = c ∧ b = k then v else σ.1 a b := rfl
theorem uL_at {σ : Sg} {c k : Nat} {v : Int64} {a b : Nat} : (uL σ c k v).2 a b = if a = c ∧ b = k then v else σ.2 a b := rfl
theorem uI_2 {σ : Sg} {c k : Nat} {v : Int} : (uI σ c k v).2 = σ.2 := rfl
theorem uL_1 {σ : Sg} {c k : Nat} {v : Int64} : (uL σ c k v).1 = σ.1 := rfl
theorem uI_upd {σ : Sg} {c k : Nat} {v : Int} : (fun j => iI ((uI σ c k v).1 c j)) = upd (fun j => iI (σ.1 c j)) k (iI v) := by
  funext b
  by_cases h : b = k <;> simp [uI, upd, h]
theorem uL_upd {σ : Sg} {c k : Nat} {v : Int64} : (uL σ c k v).2 c = vp_updL (σ.2 c) k v := by
  funext b
  simp [uL, vp_updL]
/-- the addresses of the store -/
def AA (G : Gl) : Nat → Prop := fun q => ∃ c, c < 75 ∧ q = gA G c
def gInj (G : Gl) : Prop := ∀ i j, i < 75 → j < 75 → gA G i = gA G j → i = j
theorem WS_D {G : Gl} {σ : Sg} (h : gInj G) : va_D (AA G) (WS G σ) := by
  have key : ∀ (k : Nat) (q : Nat × va_E), (WS G σ)[k]? = some q → k < 75 ∧ q.1 = gA G k := by
    intro k q hq
    rcases Nat.lt_or_ge k 75 with hk | hk
    · rw [WS_at hk] at hq
      cases hq
      exact ⟨hk, rfl⟩
    · rw [List.getElem?_eq_none (by simp [WS, hk])] at hq
      cases hq
  refine ⟨fun i j p q hi hj e => ?_, fun k q hq => ?_⟩
  · obtain ⟨a1, a2⟩ := key i p hi
    obtain ⟨b1, b2⟩ := key j q hj
    exact h i j a1 b1 (by rw [← a2, ← b2]; exact e)
  · obtain ⟨a1, a2⟩ := key k q hq
    exact ⟨k, a1, a2⟩
def gT (G : Gl) : List (ClassId × FieldType) := [(gY G 0, .int), (gY G 1, .long), (gY G 2, .boolean), (gY G 3, .object "WindowsLookedOut$Shelf")]
def fAb : List Int := [-1, 0, 0, 1, 0, 4, 2]
def fBo : List Int := [10, 11, 12, 20, -1, -1, -1, 30, -1, 40, -1, -1, 51, -1, 50, -1, -1, 60, 70, 71, -1]
def lenS : List Nat := [5, 4, 4, 6, 5]
def bytS : List (List Int32) := [[104, 111, 117, 115, 101], [121, 97, 114, 100], [112, 97, 110, 101], [119, 97, 108, 107, 101, 114], [114, 101, 97, 99, 104]]
def strR : List (String × Nat × String × Nat) := [(RX2, 78, "house", 0), (RX2, 104, "yard", 1), (RX2, 109, "pane", 2), (RX2, 128, "walker", 3), (RX2, 139, "reach", 4), (RX9, 192, "house", 0), (RX9, 201, "yard", 1), (RX9, 203, "pane", 2), (RX9, 208, "walker", 3), (RX9, 210, "reach", 4)]
def nestR : List (String × Nat × MethodName) := [(RX2, 115, yX8_isKind), (RX2, 141, yX8_isReach), (RX1, 44, yX8_isKind), (RX1, 40, yX8_above)]
/-- what never changes: the tables of classes, static arrays, texts -/
def Kon (G : Gl) (U : State) (H : Heap) : Prop :=
  gInj G ∧ va_K (gD G) vwCl (gT G) U ∧
  va_Z RX8 "ABOVE" "[I" (.ref (gB G).1) (AA G) U H ∧ va_T .int (gB G).1 7 (fun j => .int (iI (fAb.getD j 0))) (AA G) U H ∧
  va_Z RX1 "BODIES" "[I" (.ref (gB G).2) (AA G) U H ∧ va_T .int (gB G).2 21 (fun j => .int (iI (fBo.getD j 0))) (AA G) U H ∧
  vk_S 5 lenS bytS (gK G) (gV G) (AA G) U H ∧ (∀ q ∈ strR, vk_R q.1 q.2.1 q.2.2.1 (gK G q.2.2.2) U) ∧
  va_Z "java/lang/String" "COMPACT_STRINGS" "Z" (.int 1) (AA G) U H ∧ va_Zq "jdk/internal/util/Preconditions" "SIOOBE_FORMATTER" "Ljava/util/function/BiFunction;" (AA G) U H ∧
  (∀ q ∈ nestR, va_Nw (.methodLinkNest q.1 q.2.1 q.2.2 RX8) U)
theorem Kon.go {G : Gl} {u U : State} {H H1 : Heap} (hW : u.WarmedH U.vm) (hq : ∀ a : Nat, a < H.size → ¬ AA G a → H1[a]? = H[a]?) (h : Kon G u H) : Kon G U H1 := by
  obtain ⟨h1, h2, h3, h4, h5, h6, h7, h8, h9, h10, h11⟩ := h
  exact ⟨h1, va_K.moved hW.alike h2, (va_Z.moved hW.alike h3).kept hq, (va_T.moved hW.alike h4).kept hq, (va_Z.moved hW.alike h5).kept hq, (va_T.moved hW.alike h6).kept hq, (vk_S.moved hW.alike h7).kept hq, fun q h => vk_R.warm hW (h8 q h), (va_Z.moved hW.alike h9).kept hq, (va_Zq.moved hW.alike h10).kept hq, fun q h => va_Nw.warmM hW (h11 q h)⟩
theorem Kon.blind {G : Gl} {U : State} {g : JFrame} {mk : MethodId} {a : Array Value} (h : Kon G U U.heap) : Kon G (U.calling g mk a) (U.calling g mk a).heap := by
  obtain ⟨h1, h2, h3, h4, h5, h6, h7, h8, h9, h10, h11⟩ := h
  have r : U.vm.Alike (U.calling g mk a).vm := Vm.Alike.refl U.vm
  exact ⟨h1, va_K.moved r h2, va_Z.moved r h3, va_T.moved r h4, va_Z.moved r h5, va_T.moved r h6, vk_S.moved r h7, fun q h => vk_R.same (u := U) rfl (h8 q h), va_Z.moved r h9, va_Zq.moved r h10, fun q h => va_Nw.same (u := U) rfl rfl (h11 q h)⟩
def RM (d : Nat) : Room := { frames := d, cells := 0, slots := 0, locals := 100 * d }
/-- a method's end: its answer and the store behind it, as K says -/
def QK (G : Gl) (K : Option Value → Sg → Prop) : Array Value → State → Outcome → State → Prop := fun _ st oc t => (∃ (v : Option Value) (τ : Sg), oc = .returned v ∧ K v τ ∧ va_P (gD G) vwCl (WS G τ) t.heap) ∧ va_F (AA G) st t
/-- a method's contract over the store: room for d calls one in the other -/
def CT (G : Gl) (d : Nat) (y : MethodName) (b : ByteArray) (mL : Nat) (ret : Option FieldType) (As : List Value) (σ : Sg) (K : Option Value → Sg → Prop) : Prop :=
  Met (gL G) y (Cond.code y b mL ret :: TW) (RM d) (va_Pc As (fun U => va_P (gD G) vwCl (WS G σ) U.heap ∧ Kon G U U.heap)) (QK G K) 0 0 (AA G)
def Cx (G : Gl) (own : String) (cc : ByteArray) (mL : Nat) (ret : Option FieldType) (p : Program) (s : State) (m : MethodId) (args : Array Value) (meth : Method) (c : Code) : Prop :=
  p.tables.exec = Jvm.exec ∧ c.code = cc ∧ c.maxLocals = mL ∧ meth.sig.returnType = ret ∧ meth.locks = false ∧ s.vm.findClass own = some m.cls ∧ (∀ w ∈ TW, w.before args s = true) ∧ Kon G s s.heap
/-- the walk: from here (place, locals, stack, store) the method ends as K says -/
def AW (G : Gl) (d : Nat) (own : String) (cc : ByteArray) (mL : Nat) (ret : Option FieldType) (pc : Nat) (ls : List (Nat × Value)) (st : List Value) (σ : Sg) (K : Option Value → Sg → Prop) : Prop :=
  ∀ (p : Program) (e : Env) (s : State) (m : MethodId) (args : Array Value) (below : List Frame) (meth : Method) (c : Code) (H : Heap) (locs : List Loc) (la : Array Slot),
    Cx G own cc mL ret p s m args meth c → va_P (gD G) vwCl (WS G σ) H → va_S (AA G) s.heap H locs → lv_has la mL ls →
    W p (gL G) e (RM d) s m args below meth c H locs 0 0 (MQ below (QK G K) args s 0 0 (AA G)) (F0 m pc la st)
theorem TW_in {w : Cond} (h : w ∈ lw_tbl) (hg : goodWord w = true) : w ∈ TW := List.mem_filter.mpr ⟨h, hg⟩
theorem TW_good : ∀ w ∈ TW, w ∈ TW ∧ ((w.onTables && w.keeps) = true ∨ ∃ ty, w = .arrayClass ty) := fun w h => ⟨h, good_of_word (List.mem_filter.mp h).2⟩
/-- a contract by a walk from its entry -/
theorem CT.of {G : Gl} {d : Nat} {y : MethodName} {b : ByteArray} {mL : Nat} {ret : Option FieldType} {As : List Value} {σ : Sg} {K : Option Value → Sg → Prop} (hy : plainName y.cls = true) (hn : (lg_sl As).length ≤ mL)
    (h : AW G d y.cls b mL ret 0 (lv_args 0 As) [] σ K) : CT G d y b mL ret As σ K := by
  refine Met.ofW (cc := b) (maxL := mL) (ret := ret) (ws' := TW) hy rfl ?_
  intro p e s m args below meth c s₁ B hml hv
  obtain ⟨rfl, hP, hK⟩ := hv
  have hts := atoms_spec (ws := Cond.code y b mL ret :: TW) B.pre
  rw [lg_entry_eq]
  exact h p e s m _ below meth c s.heap [] _ ⟨B.exec, B.bytes, hml, B.returns, B.notSynchronized, findClass_of_methodNamed B.named, fun w hw => hts w (List.mem_cons_of_mem _ hw), hK⟩ hP va_S.rf (lv_entry As hn)
end
section
/-! PART 03: the rules of AW -/
/-- the value of a local -/
def lk (ls : List (Nat × Value)) (i : Nat) : Option Value := (ls.find? (fun q => q.1 == i)).map (fun q => q.2)
def sf (ls : List (Nat × Value)) (i : Nat) (v : Value) : List (Nat × Value) := (i, v) :: ls.filter (fun q => !(q.1 == i) && !(q.1 + 1 == i && q.2.category == 2))
def sl (ls : List (Nat × Value)) (i : Nat) (v : Value) : List (Nat × Value) := (i, v) :: ls.filter (fun q => !(q.1 == i) && (!(q.1 == i + 1) && !(q.1 + 1 == i && q.2.category == 2)))
theorem lk_mem {ls : List (Nat × Value)} {i : Nat} {v : Value} (h : lk ls i = some v) : (i, v) ∈ ls := by
  unfold lk at h
  cases hf : ls.find? (fun q => q.1 == i) with
  | none => rw [hf] at h; cases h
  | some q =>
    rw [hf] at h
    have h1 := List.mem_of_find?_eq_some hf
    have h2 := List.find?_some hf
    have h3 : q.1 = i := by simpa using h2
    have h4 : q.2 = v := by simpa using h
    rw [← h3, ← h4]
    exact h1
theorem lk_at {la : Array Slot} {n : Nat} {ls : List (Nat × Value)} {i : Nat} {v : Value} (h : lv_has la n ls) (hl : lk ls i = some v) : la[i]? = some (.val v) := h.2.2 (i, v) (lk_mem hl)
/-- fewer locals -/
def LSub (ls : List (Nat × Value)) : List (Nat × Value) → Prop
  | [] => True
  | q :: r => lk ls q.1 = some q.2 ∧ LSub ls r
theorem LSub.mem {ls : List (Nat × Value)} : ∀ {l : List (Nat × Value)}, LSub ls l → ∀ q ∈ l, q ∈ ls
  | [], _, _, h => by cases h
  | a :: l, h, q, hq => by
    rcases List.mem_cons.mp hq with e | e
    · rw [e]; exact lk_mem h.1
    · exact LSub.mem h.2 q e
section AWR
variable {G : Gl} {d : Nat} {own : String} {cc : ByteArray} {mL : Nat} {ret : Option FieldType} {pc : Nat} {ls : List (Nat × Value)} {st : List Value} {σ : Sg} {K : Option Value → Sg → Prop}
theorem AW.go {pc2 : Nat} {st2 : List Value} (h : ∀ {p : Program} {e : Env} {s : State} {m : MethodId} {args : Array Value} {below : List Frame} {meth : Method} {c : Code} {H : Heap} {locs : List Loc} {la : Array Slot} {Q : State → Prop}, p.tables.exec = Jvm.exec → c.code = cc →
      W p (gL G) e (RM d) s m args below meth c H locs 0 0 Q (F0 m pc2 la st2) → W p (gL G) e (RM d) s m args below meth c H locs 0 0 Q (F0 m pc la st))
    (k : AW G d own cc mL ret pc2 ls st2 σ K) : AW G d own cc mL ret pc ls st σ K :=
  fun p e s m args below meth c H locs la hC hP hS hL => h hC.1 hC.2.1 (k p e s m args below meth c H locs la hC hP hS hL)
theorem A_loc {l2 : List (Nat × Value)} (h : LSub ls l2) (k : AW G d own cc mL ret pc l2 st σ K) : AW G d own cc mL ret pc ls st σ K :=
  fun p e s m args below meth c H locs la hC hP hS hL => k p e s m args below meth c H locs la hC hP hS ⟨hL.1, hL.2.1, fun q hq => hL.2.2 q (h.mem q hq)⟩
theorem A_st {st2 : List Value} (h : st = st2) (k : AW G d own cc mL ret pc ls st2 σ K) : AW G d own cc mL ret pc ls st σ K := h ▸ k
theorem A_ls {l2 : List (Nat × Value)} (h : ls = l2) (k : AW G d own cc mL ret pc l2 st σ K) : AW G d own cc mL ret pc ls st σ K := h ▸ k
theorem A_sg {τ : Sg} (h : σ = τ) (k : AW G d own cc mL ret pc ls st τ K) : AW G d own cc mL ret pc ls st σ K := h ▸ k
theorem A_iconst {n : Int} (hd : decode cc pc = .ok (.iconst n, 1)) (k : AW G d own cc mL ret (pc + 1) ls (.int (iI n) :: st) σ K) : AW G d own cc mL ret pc ls st σ K :=
  AW.go (fun hx hb k => lv_iconst hx hb hd rfl k) k
theorem A_bipush {n : Int} (hd : decode cc pc = .ok (.bipush n, 2)) (hv : (Int8.ofInt n).toInt32 = iI n) (k : AW G d own cc mL ret (pc + 2) ls (.int (iI n) :: st) σ K) : AW G d own cc mL ret pc ls st σ K :=
  AW.go (fun hx hb k => lv_bipush hx hb hd hv k) k
theorem A_sipush {n : Int} (hd : decode cc pc = .ok (.sipush n, 3)) (hv : (Int16.ofInt n).toInt32 = iI n) (k : AW G d own cc mL ret (pc + 3) ls (.int (iI n) :: st) σ K) : AW G d own cc mL ret pc ls st σ K :=
  AW.go (fun hx hb k => lv_sipush hx hb hd hv k) k
theorem A_lconst {n : Fin 2} (v : Int64) (hd : decode cc pc = .ok (.lconst n, 1)) (hv : Int64.ofNat (n : Nat) = v) (k : AW G d own cc mL ret (pc + 1) ls (.long v :: st) σ K) : AW G d own cc mL ret pc ls st σ K :=
  AW.go (fun hx hb k => lv_lconst hx hb hd hv k) k
theorem A_iadd {x y : Int} (hd : decode cc pc = .ok (.iadd, 1)) (k : AW G d own cc mL ret (pc + 1) ls (.int (iI (x + y)) :: st) σ K) : AW G d own cc mL ret pc ls (.int (iI y) :: .int (iI x) :: st) σ K :=
  AW.go (fun hx hb k => lv_iadd hx hb hd (by rw [iI_add]; exact k)) k
theorem A_isub {x y : Int} (hd : decode cc pc = .ok (.isub, 1)) (k : AW G d own cc mL ret (pc + 1) ls (.int (iI (x - y)) :: st) σ K) : AW G d own cc mL ret pc ls (.int (iI y) :: .int (iI x) :: st) σ K :=
  AW.go (fun hx hb k => lv_isub hx hb hd (by rw [iI_sub]; exact k)) k
theorem A_imul {x y : Int} (hd : decode cc pc = .ok (.imul, 1)) (k : AW G d own cc mL ret (pc + 1) ls (.int (iI (x * y)) :: st) σ K) : AW G d own cc mL ret pc ls (.int (iI y) :: .int (iI x) :: st) σ K :=
  AW.go (fun hx hb k => lv_imul hx hb hd (by rw [iI_mul]; exact k)) k
theorem A_iand {x y : Int} (z : Int) (hd : decode cc pc = .ok (.iand, 1)) (hz : iI x &&& iI y = iI z) (k : AW G d own cc mL ret (pc + 1) ls (.int (iI z) :: st) σ K) : AW G d own cc mL ret pc ls (.int (iI y) :: .int (iI x) :: st) σ K :=
  AW.go (fun hx hb k => lv_iand hx hb hd (by rw [hz]; exact k)) k
theorem A_ior {x y : Int} (z : Int) (hd : decode cc pc = .ok (.ior, 1)) (hz : iI x ||| iI y = iI z) (k : AW G d own cc mL ret (pc + 1) ls (.int (iI z) :: st) σ K) : AW G d own cc mL ret pc ls (.int (iI y) :: .int (iI x) :: st) σ K :=
  AW.go (fun hx hb k => lv_ior hx hb hd (by rw [hz]; exact k)) k
theorem A_ixor {x y : Int} (z : Int) (hd : decode cc pc = .ok (.ixor, 1)) (hz : iI x ^^^ iI y = iI z) (k : AW G d own cc mL ret (pc + 1) ls (.int (iI z) :: st) σ K) : AW G d own cc mL ret pc ls (.int (iI y) :: .int (iI x) :: st) σ K :=
  AW.go (fun hx hb k => lv_ixor hx hb hd (by rw [hz]; exact k)) k
theorem A_ladd {x y : Int64} (hd : decode cc pc = .ok (.ladd, 1)) (k : AW G d own cc mL ret (pc + 1) ls (.long (x + y) :: st) σ K) : AW G d own cc mL ret pc ls (.long y :: .long x :: st) σ K :=
  AW.go (fun hx hb k => lv_ladd hx hb hd k) k
theorem A_lsub {x y : Int64} (hd : decode cc pc = .ok (.lsub, 1)) (k : AW G d own cc mL ret (pc + 1) ls (.long (x - y) :: st) σ K) : AW G d own cc mL ret pc ls (.long y :: .long x :: st) σ K :=
  AW.go (fun hx hb k => lv_lsub hx hb hd k) k
theorem A_land {x y : Int64} (hd : decode cc pc = .ok (.land, 1)) (k : AW G d own cc mL ret (pc + 1) ls (.long (x &&& y) :: st) σ K) : AW G d own cc mL ret pc ls (.long y :: .long x :: st) σ K :=
  AW.go (fun hx hb k => lv_land hx hb hd k) k
theorem A_lor {x y : Int64} (hd : decode cc pc = .ok (.lor, 1)) (k : AW G d own cc mL ret (pc + 1) ls (.long (x ||| y) :: st) σ K) : AW G d own cc mL ret pc ls (.long y :: .long x :: st) σ K :=
  AW.go (fun hx hb k => lv_lor hx hb hd k) k
theorem A_lxor {x y : Int64} (hd : decode cc pc = .ok (.lxor, 1)) (k : AW G d own cc mL ret (pc + 1) ls (.long (x ^^^ y) :: st) σ K) : AW G d own cc mL ret pc ls (.long y :: .long x :: st) σ K :=
  AW.go (fun hx hb k => lv_lxor hx hb hd k) k
theorem iI_div {a b : Int} (h0 : 0 ≤ a) (h1 : a < 2147483648) (h2 : 0 < b) (h3 : b < 2147483648) : iI a / iI b = iI (a / b) := by
  obtain ⟨x, rfl⟩ := Int.eq_ofNat_of_zero_le h0
  obtain ⟨y, rfl⟩ := Int.eq_ofNat_of_zero_le (Int.le_of_lt h2)
  rw [iI_n, iI_n, pk_div (by omega) (by omega) (by omega), ← iI_n]
  rfl
theorem iI_rem {a b : Int} (h0 : 0 ≤ a) (h1 : a < 2147483648) (h2 : 0 < b) (h3 : b < 2147483648) : iI a - iI a / iI b * iI b = iI (a % b) := by
  rw [iI_div h0 h1 h2 h3, iI_mul, iI_sub]
  congr 1
  have := Int.mul_ediv_add_emod a b
  rw [Int.mul_comm] at this
  omega
theorem iI_ne0 {y : Int} (h2 : 0 < y) (h3 : y < 2147483648) : ¬ iI y = 0 := by
  rw [← iI_0, iI_eq (by omega) h3 (by omega) (by omega)]
  omega
theorem A_idiv {x y : Int} (hd : decode cc pc = .ok (.idiv, 1)) (h0 : 0 ≤ x) (h1 : x < 2147483648) (h2 : 0 < y) (h3 : y < 2147483648) (k : AW G d own cc mL ret (pc + 1) ls (.int (iI (x / y)) :: st) σ K) : AW G d own cc mL ret pc ls (.int (iI y) :: .int (iI x) :: st) σ K :=
  AW.go (fun hx hb k => lv_idiv hx hb hd (iI_ne0 h2 h3) (by rw [iI_div h0 h1 h2 h3]; exact k)) k
theorem A_irem {x y : Int} (hd : decode cc pc = .ok (.irem, 1)) (h0 : 0 ≤ x) (h1 : x < 2147483648) (h2 : 0 < y) (h3 : y < 2147483648) (k : AW G d own cc mL ret (pc + 1) ls (.int (iI (x % y)) :: st) σ K) : AW G d own cc mL ret pc ls (.int (iI y) :: .int (iI x) :: st) σ K :=
  AW.go (fun hx hb k => lv_irem hx hb hd (iI_ne0 h2 h3) (by rw [iI_rem h0 h1 h2 h3]; exact k)) k
theorem A_ineg {x : Int} (hd : decode cc pc = .ok (.ineg, 1)) (k : AW G d own cc mL ret (pc + 1) ls (.int (iI (-x)) :: st) σ K) : AW G d own cc mL ret pc ls (.int (iI x) :: st) σ K :=
  AW.go (fun hx hb k => lv_ineg hx hb hd (by rw [iI_neg]; exact k)) k
theorem A_ishl {x y : Int} (z : Int) (hd : decode cc pc = .ok (.ishl, 1)) (hz : iI x <<< (iI y &&& 31) = iI z) (k : AW G d own cc mL ret (pc + 1) ls (.int (iI z) :: st) σ K) : AW G d own cc mL ret pc ls (.int (iI y) :: .int (iI x) :: st) σ K :=
  AW.go (fun hx hb k => lv_ishl hx hb hd (by rw [hz]; exact k)) k
theorem A_ishr {x y : Int} (z : Int) (hd : decode cc pc = .ok (.ishr, 1)) (hz : iI x >>> (iI y &&& 31) = iI z) (k : AW G d own cc mL ret (pc + 1) ls (.int (iI z) :: st) σ K) : AW G d own cc mL ret pc ls (.int (iI y) :: .int (iI x) :: st) σ K :=
  AW.go (fun hx hb k => lv_ishr hx hb hd (by rw [hz]; exact k)) k
theorem A_iushr {x y : Int} (z : Int) (hd : decode cc pc = .ok (.iushr, 1)) (hz : ((iI x).toUInt32 >>> ((iI y).toUInt32 &&& Int32.toUInt32 31)).toInt32 = iI z) (k : AW G d own cc mL ret (pc + 1) ls (.int (iI z) :: st) σ K) : AW G d own cc mL ret pc ls (.int (iI y) :: .int (iI x) :: st) σ K :=
  AW.go (fun hx hb k => lv_iushr hx hb hd hz k) k
theorem A_lushr {x : Int64} {y : Int} (z : Int64) (hd : decode cc pc = .ok (.lushr, 1)) (hz : (x.toUInt64 >>> ((iI y).toInt64.toUInt64 &&& Int64.toUInt64 63)).toInt64 = z) (k : AW G d own cc mL ret (pc + 1) ls (.long z :: st) σ K) : AW G d own cc mL ret pc ls (.int (iI y) :: .long x :: st) σ K :=
  AW.go (fun hx hb k => lv_lushr hx hb hd hz k) k
theorem A_lshl {x : Int64} {y : Int} (z : Int64) (hd : decode cc pc = .ok (.lshl, 1)) (hz : x <<< ((iI y).toInt64 &&& 63) = z) (k : AW G d own cc mL ret (pc + 1) ls (.long z :: st) σ K) : AW G d own cc mL ret pc ls (.int (iI y) :: .long x :: st) σ K :=
  AW.go (fun hx hb k => lv_lshl hx hb hd hz k) k
theorem A_lshr {x : Int64} {y : Int} (z : Int64) (hd : decode cc pc = .ok (.lshr, 1)) (hz : x >>> ((iI y).toInt64 &&& 63) = z) (k : AW G d own cc mL ret (pc + 1) ls (.long z :: st) σ K) : AW G d own cc mL ret pc ls (.int (iI y) :: .long x :: st) σ K :=
  AW.go (fun hx hb k => lv_lshr hx hb hd hz k) k
theorem A_i2l {x : Int} (hd : decode cc pc = .ok (.i2l, 1)) (k : AW G d own cc mL ret (pc + 1) ls (.long (iI x).toInt64 :: st) σ K) : AW G d own cc mL ret pc ls (.int (iI x) :: st) σ K :=
  AW.go (fun hx hb k => lv_i2l hx hb hd rfl k) k
theorem A_l2i {x : Int64} (hd : decode cc pc = .ok (.l2i, 1)) (k : AW G d own cc mL ret (pc + 1) ls (.int (iI x.toInt32.toInt) :: st) σ K) : AW G d own cc mL ret pc ls (.long x :: st) σ K :=
  AW.go (fun hx hb k => lv_l2i hx hb hd (iI_of _).symm k) k
theorem A_i2b {x : Int} (hd : decode cc pc = .ok (.i2b, 1)) (k : AW G d own cc mL ret (pc + 1) ls (.int (iI (iI x).toInt8.toInt32.toInt) :: st) σ K) : AW G d own cc mL ret pc ls (.int (iI x) :: st) σ K :=
  AW.go (fun hx hb k => lv_i2b hx hb hd (iI_of _).symm k) k
theorem A_i2s {x : Int} (hd : decode cc pc = .ok (.i2s, 1)) (k : AW G d own cc mL ret (pc + 1) ls (.int (iI (iI x).toInt16.toInt32.toInt) :: st) σ K) : AW G d own cc mL ret pc ls (.int (iI x) :: st) σ K :=
  AW.go (fun hx hb k => lv_i2s hx hb hd (iI_of _).symm k) k
theorem A_i2c {x : Int} (z : Int) (hd : decode cc pc = .ok (.i2c, 1)) (hz : ((iI x).toUInt32 % 65536).toInt32 = iI z) (k : AW G d own cc mL ret (pc + 1) ls (.int (iI z) :: st) σ K) : AW G d own cc mL ret pc ls (.int (iI x) :: st) σ K :=
  AW.go (fun hx hb k => lv_i2c hx hb hd hz k) k
def lcm (x y : Int64) : Int := if x > y then 1 else if x = y then 0 else -1
theorem lcm_eq (x y : Int64) : lg_cmp x y = iI (lcm x y) := by
  unfold lg_cmp lcm
  by_cases h : x > y
  · rw [if_pos h, if_pos h]; decide
  · rw [if_neg h, if_neg h]
    by_cases h2 : x = y
    · rw [if_pos h2, if_pos h2]; decide
    · rw [if_neg h2, if_neg h2]; decide
theorem A_lcmp {x y : Int64} (hd : decode cc pc = .ok (.lcmp, 1)) (k : AW G d own cc mL ret (pc + 1) ls (.int (iI (lcm x y)) :: st) σ K) : AW G d own cc mL ret pc ls (.long y :: .long x :: st) σ K :=
  AW.go (fun hx hb k => W.lcmp hx hb hd (by rw [lcm_eq]; exact k)) k
theorem A_dup {v : Value} (hd : decode cc pc = .ok (.dup, 1)) (h1 : v.category = 1) (k : AW G d own cc mL ret (pc + 1) ls (v :: v :: st) σ K) : AW G d own cc mL ret pc ls (v :: st) σ K :=
  AW.go (fun hx hb k => lv_dup hx hb hd h1 k) k
theorem A_pop {v : Value} (hd : decode cc pc = .ok (.pop, 1)) (h1 : v.category = 1) (k : AW G d own cc mL ret (pc + 1) ls st σ K) : AW G d own cc mL ret pc ls (v :: st) σ K :=
  AW.go (fun hx hb k => lv_pop hx hb hd h1 k) k
theorem A_dup_x1 {v w : Value} (hd : decode cc pc = .ok (.dup_x1, 1)) (h1 : v.category = 1) (h2 : w.category = 1) (k : AW G d own cc mL ret (pc + 1) ls (v :: w :: v :: st) σ K) : AW G d own cc mL ret pc ls (v :: w :: st) σ K :=
  AW.go (fun hx hb k => lv_dup_x1 hx hb hd h1 h2 k) k
theorem A_dup2 {v w : Value} (hd : decode cc pc = .ok (.dup2, 1)) (h1 : v.category = 1) (h2 : w.category = 1) (k : AW G d own cc mL ret (pc + 1) ls (v :: w :: v :: w :: st) σ K) : AW G d own cc mL ret pc ls (v :: w :: st) σ K :=
  AW.go (fun hx hb k => lv_dup2_11 hx hb hd h1 h2 k) k
theorem A_goto {off : Int} (tgt : Nat) (hd : decode cc pc = .ok (.goto off, 3)) (ht : (pc : Int) + off = (tgt : Int)) (k : AW G d own cc mL ret tgt ls st σ K) : AW G d own cc mL ret pc ls st σ K :=
  AW.go (fun hx hb k => lv_goto hx hb hd ht k) k
theorem A_iload {i : Nat} {x : Int} (hd : decode cc pc = .ok (.iload i, 2)) (hl : lk ls i = some (.int (iI x))) (k : AW G d own cc mL ret (pc + 2) ls (.int (iI x) :: st) σ K) : AW G d own cc mL ret pc ls st σ K :=
  fun p e s m args below meth c H locs la hC hP hS hL => lv_iload hC.1 hC.2.1 hd (lk_at hL hl) (k p e s m args below meth c H locs la hC hP hS hL)
theorem A_iload_n {j : Fin 4} {i : Nat} {x : Int} (hd : decode cc pc = .ok (.iload_n j, 1)) (hi : (j : Nat) = i) (hl : lk ls i = some (.int (iI x))) (k : AW G d own cc mL ret (pc + 1) ls (.int (iI x) :: st) σ K) : AW G d own cc mL ret pc ls st σ K :=
  fun p e s m args below meth c H locs la hC hP hS hL => lv_iload_n hC.1 hC.2.1 hd hi (lk_at hL hl) (k p e s m args below meth c H locs la hC hP hS hL)
theorem A_lload {i : Nat} {x : Int64} (hd : decode cc pc = .ok (.lload i, 2)) (hl : lk ls i = some (.long x)) (k : AW G d own cc mL ret (pc + 2) ls (.long x :: st) σ K) : AW G d own cc mL ret pc ls st σ K :=
  fun p e s m args below meth c H locs la hC hP hS hL => lv_lload hC.1 hC.2.1 hd (lk_at hL hl) (k p e s m args below meth c H locs la hC hP hS hL)
theorem A_lload_n {j : Fin 4} {i : Nat} {x : Int64} (hd : decode cc pc = .ok (.lload_n j, 1)) (hi : (j : Nat) = i) (hl : lk ls i = some (.long x)) (k : AW G d own cc mL ret (pc + 1) ls (.long x :: st) σ K) : AW G d own cc mL ret pc ls st σ K :=
  fun p e s m args below meth c H locs la hC hP hS hL => lv_lload_n hC.1 hC.2.1 hd hi (lk_at hL hl) (k p e s m args below meth c H locs la hC hP hS hL)
theorem A_aload {i : Nat} {x : Nat} (hd : decode cc pc = .ok (.aload i, 2)) (hl : lk ls i = some (.ref x)) (k : AW G d own cc mL ret (pc + 2) ls (.ref x :: st) σ K) : AW G d own cc mL ret pc ls st σ K :=
  fun p e s m args below meth c H locs la hC hP hS hL => lv_aload hC.1 hC.2.1 hd (lk_at hL hl) (k p e s m args below meth c H locs la hC hP hS hL)
theorem A_aload_n {j : Fin 4} {i : Nat} {x : Nat} (hd : decode cc pc = .ok (.aload_n j, 1)) (hi : (j : Nat) = i) (hl : lk ls i = some (.ref x)) (k : AW G d own cc mL ret (pc + 1) ls (.ref x :: st) σ K) : AW G d own cc mL ret pc ls st σ K :=
  fun p e s m args below meth c H locs la hC hP hS hL => lv_aload_n hC.1 hC.2.1 hd hi (lk_at hL hl) (k p e s m args below meth c H locs la hC hP hS hL)
theorem A_istore {i : Nat} {x : Int32} (hd : decode cc pc = .ok (.istore i, 2)) (hn : i < mL) (k : AW G d own cc mL ret (pc + 2) (sf ls i (.int x)) st σ K) : AW G d own cc mL ret pc ls (.int x :: st) σ K :=
  fun p e s m args below meth c H locs la hC hP hS hL => lv_istore hC.1 hC.2.1 hd hL hn rfl (fun la hL => k p e s m args below meth c H locs la hC hP hS hL)
theorem A_istore_n {j : Fin 4} {i : Nat} {x : Int32} (hd : decode cc pc = .ok (.istore_n j, 1)) (hi : (j : Nat) = i) (hn : i < mL) (k : AW G d own cc mL ret (pc + 1) (sf ls i (.int x)) st σ K) : AW G d own cc mL ret pc ls (.int x :: st) σ K :=
  fun p e s m args below meth c H locs la hC hP hS hL => lv_istore_n hC.1 hC.2.1 hd hi hL hn rfl (fun la hL => k p e s m args below meth c H locs la hC hP hS hL)
theorem A_lstore {i : Nat} {x : Int64} (hd : decode cc pc = .ok (.lstore i, 2)) (hn : i + 1 < mL) (k : AW G d own cc mL ret (pc + 2) (sl ls i (.long x)) st σ K) : AW G d own cc mL ret pc ls (.long x :: st) σ K :=
  fun p e s m args below meth c H locs la hC hP hS hL => lv_lstore hC.1 hC.2.1 hd hL hn rfl (fun la hL => k p e s m args below meth c H locs la hC hP hS hL)
theorem A_lstore_n {j : Fin 4} {i : Nat} {x : Int64} (hd : decode cc pc = .ok (.lstore_n j, 1)) (hi : (j : Nat) = i) (hn : i + 1 < mL) (k : AW G d own cc mL ret (pc + 1) (sl ls i (.long x)) st σ K) : AW G d own cc mL ret pc ls (.long x :: st) σ K :=
  fun p e s m args below meth c H locs la hC hP hS hL => lv_lstore_n hC.1 hC.2.1 hd hi hL hn rfl (fun la hL => k p e s m args below meth c H locs la hC hP hS hL)
theorem A_astore {i : Nat} {x : Nat} (hd : decode cc pc = .ok (.astore i, 2)) (hn : i < mL) (k : AW G d own cc mL ret (pc + 2) (sf ls i (.ref x)) st σ K) : AW G d own cc mL ret pc ls (.ref x :: st) σ K :=
  fun p e s m args below meth c H locs la hC hP hS hL => lv_astore hC.1 hC.2.1 hd hL hn rfl (fun la hL => k p e s m args below meth c H locs la hC hP hS hL)
theorem A_astore_n {j : Fin 4} {i : Nat} {x : Nat} (hd : decode cc pc = .ok (.astore_n j, 1)) (hi : (j : Nat) = i) (hn : i < mL) (k : AW G d own cc mL ret (pc + 1) (sf ls i (.ref x)) st σ K) : AW G d own cc mL ret pc ls (.ref x :: st) σ K :=
  fun p e s m args below meth c H locs la hC hP hS hL => lv_astore_n hC.1 hC.2.1 hd hi hL hn rfl (fun la hL => k p e s m args below meth c H locs la hC hP hS hL)
theorem A_iinc {i : Nat} {n : Int} {x : Int} (hd : decode cc pc = .ok (.iinc i n, 3)) (hl : lk ls i = some (.int (iI x))) (hn : i < mL) (k : AW G d own cc mL ret (pc + 3) (sf ls i (.int (iI (x + n)))) st σ K) : AW G d own cc mL ret pc ls st σ K := by
  intro p e s m args below meth c H locs la hC hP hS hL
  obtain ⟨j, hj⟩ := List.getElem?_of_mem (lk_mem hl)
  exact lv_iinc hC.1 hC.2.1 hd hL hj (iI_add x n) hn rfl (fun la hL => k p e s m args below meth c H locs la hC hP hS hL)
theorem A_if_eq {x : Int} {off : Int} (tgt : Nat) (hd : decode cc pc = .ok (.ifCond .eq off, 3)) (ht : (pc : Int) + off = (tgt : Int)) (x1 : -2147483648 ≤ x) (x2 : x < 2147483648) (kt : x = 0 → AW G d own cc mL ret tgt ls st σ K) (kf : x ≠ 0 → AW G d own cc mL ret (pc + 3) ls st σ K) : AW G d own cc mL ret pc ls (.int (iI x) :: st) σ K :=
  fun p e s m args below meth c H locs la hC hP hS hL => lv_if_eq hC.1 hC.2.1 hd ht (fun h => kt (by rw [← iI_0] at h; exact (iI_eq x1 x2 (by omega) (by omega)).mp h) p e s m args below meth c H locs la hC hP hS hL) (fun h => kf (fun q => h (by rw [← iI_0]; exact (iI_eq x1 x2 (by omega) (by omega)).mpr q)) p e s m args below meth c H locs la hC hP hS hL)
theorem A_icmp_eq {x y : Int} {off : Int} (tgt : Nat) (hd : decode cc pc = .ok (.if_icmp .eq off, 3)) (ht : (pc : Int) + off = (tgt : Int)) (x1 : -2147483648 ≤ x) (x2 : x < 2147483648) (y1 : -2147483648 ≤ y) (y2 : y < 2147483648) (kt : x = y → AW G d own cc mL ret tgt ls st σ K) (kf : x ≠ y → AW G d own cc mL ret (pc + 3) ls st σ K) : AW G d own cc mL ret pc ls (.int (iI y) :: .int (iI x) :: st) σ K :=
  fun p e s m args below meth c H locs la hC hP hS hL => lv_icmp_eq hC.1 hC.2.1 hd ht (fun h => kt (by exact (iI_eq x1 x2 y1 y2).mp h) p e s m args below meth c H locs la hC hP hS hL) (fun h => kf (fun q => h (by exact (iI_eq x1 x2 y1 y2).mpr q)) p e s m args below meth c H locs la hC hP hS hL)
theorem A_if_ne {x : Int} {off : Int} (tgt : Nat) (hd : decode cc pc = .ok (.ifCond .ne off, 3)) (ht : (pc : Int) + off = (tgt : Int)) (x1 : -2147483648 ≤ x) (x2 : x < 2147483648) (kt : x ≠ 0 → AW G d own cc mL ret tgt ls st σ K) (kf : x = 0 → AW G d own cc mL ret (pc + 3) ls st σ K) : AW G d own cc mL ret pc ls (.int (iI x) :: st) σ K :=
  fun p e s m args below meth c H locs la hC hP hS hL => lv_if_ne hC.1 hC.2.1 hd ht (fun h => kt (fun q => h (by rw [← iI_0]; exact (iI_eq x1 x2 (by omega) (by omega)).mpr q)) p e s m args below meth c H locs la hC hP hS hL) (fun h => kf (by rw [← iI_0] at h; exact (iI_eq x1 x2 (by omega) (by omega)).mp h) p e s m args below meth c H locs la hC hP hS hL)
theorem A_icmp_ne {x y : Int} {off : Int} (tgt : Nat) (hd : decode cc pc = .ok (.if_icmp .ne off, 3)) (ht : (pc : Int) + off = (tgt : Int)) (x1 : -2147483648 ≤ x) (x2 : x < 2147483648) (y1 : -2147483648 ≤ y) (y2 : y < 2147483648) (kt : x ≠ y → AW G d own cc mL ret tgt ls st σ K) (kf : x = y → AW G d own cc mL ret (pc + 3) ls st σ K) : AW G d own cc mL ret pc ls (.int (iI y) :: .int (iI x) :: st) σ K :=
  fun p e s m args below meth c H locs la hC hP hS hL => lv_icmp_ne hC.1 hC.2.1 hd ht (fun h => kt (fun q => h (by exact (iI_eq x1 x2 y1 y2).mpr q)) p e s m args below meth c H locs la hC hP hS hL) (fun h => kf (by exact (iI_eq x1 x2 y1 y2).mp h) p e s m args below meth c H locs la hC hP hS hL)
theorem A_if_lt {x : Int} {off : Int} (tgt : Nat) (hd : decode cc pc = .ok (.ifCond .lt off, 3)) (ht : (pc : Int) + off = (tgt : Int)) (x1 : -2147483648 ≤ x) (x2 : x < 2147483648) (kt : x < 0 → AW G d own cc mL ret tgt ls st σ K) (kf : 0 ≤ x → AW G d own cc mL ret (pc + 3) ls st σ K) : AW G d own cc mL ret pc ls (.int (iI x) :: st) σ K :=
  fun p e s m args below meth c H locs la hC hP hS hL => lv_if_lt hC.1 hC.2.1 hd ht (fun h => kt (by rw [← iI_0] at h; exact (iI_lt x1 x2 (by omega) (by omega)).mp h) p e s m args below meth c H locs la hC hP hS hL) (fun h => kf (Int.not_lt.mp (fun q => h (by rw [← iI_0]; exact (iI_lt x1 x2 (by omega) (by omega)).mpr q))) p e s m args below meth c H locs la hC hP hS hL)
theorem A_icmp_lt {x y : Int} {off : Int} (tgt : Nat) (hd : decode cc pc = .ok (.if_icmp .lt off, 3)) (ht : (pc : Int) + off = (tgt : Int)) (x1 : -2147483648 ≤ x) (x2 : x < 2147483648) (y1 : -2147483648 ≤ y) (y2 : y < 2147483648) (kt : x < y → AW G d own cc mL ret tgt ls st σ K) (kf : y ≤ x → AW G d own cc mL ret (pc + 3) ls st σ K) : AW G d own cc mL ret pc ls (.int (iI y) :: .int (iI x) :: st) σ K :=
  fun p e s m args below meth c H locs la hC hP hS hL => lv_icmp_lt hC.1 hC.2.1 hd ht (fun h => kt (by exact (iI_lt x1 x2 y1 y2).mp h) p e s m args below meth c H locs la hC hP hS hL) (fun h => kf (Int.not_lt.mp (fun q => h (by exact (iI_lt x1 x2 y1 y2).mpr q))) p e s m args below meth c H locs la hC hP hS hL)
theorem A_if_ge {x : Int} {off : Int} (tgt : Nat) (hd : decode cc pc = .ok (.ifCond .ge off, 3)) (ht : (pc : Int) + off = (tgt : Int)) (x1 : -2147483648 ≤ x) (x2 : x < 2147483648) (kt : 0 ≤ x → AW G d own cc mL ret tgt ls st σ K) (kf : x < 0 → AW G d own cc mL ret (pc + 3) ls st σ K) : AW G d own cc mL ret pc ls (.int (iI x) :: st) σ K :=
  fun p e s m args below meth c H locs la hC hP hS hL => lv_if_ge hC.1 hC.2.1 hd ht (fun h => kt (by rw [← iI_0] at h; exact (iI_le (by omega) (by omega) x1 x2).mp h) p e s m args below meth c H locs la hC hP hS hL) (fun h => kf (Int.not_le.mp (fun q => h (by rw [← iI_0]; exact (iI_le (by omega) (by omega) x1 x2).mpr q))) p e s m args below meth c H locs la hC hP hS hL)
theorem A_icmp_ge {x y : Int} {off : Int} (tgt : Nat) (hd : decode cc pc = .ok (.if_icmp .ge off, 3)) (ht : (pc : Int) + off = (tgt : Int)) (x1 : -2147483648 ≤ x) (x2 : x < 2147483648) (y1 : -2147483648 ≤ y) (y2 : y < 2147483648) (kt : y ≤ x → AW G d own cc mL ret tgt ls st σ K) (kf : x < y → AW G d own cc mL ret (pc + 3) ls st σ K) : AW G d own cc mL ret pc ls (.int (iI y) :: .int (iI x) :: st) σ K :=
  fun p e s m args below meth c H locs la hC hP hS hL => lv_icmp_ge hC.1 hC.2.1 hd ht (fun h => kt (by exact (iI_le y1 y2 x1 x2).mp h) p e s m args below meth c H locs la hC hP hS hL) (fun h => kf (Int.not_le.mp (fun q => h (by exact (iI_le y1 y2 x1 x2).mpr q))) p e s m args below meth c H locs la hC hP hS hL)
theorem A_if_gt {x : Int} {off : Int} (tgt : Nat) (hd : decode cc pc = .ok (.ifCond .gt off, 3)) (ht : (pc : Int) + off = (tgt : Int)) (x1 : -2147483648 ≤ x) (x2 : x < 2147483648) (kt : 0 < x → AW G d own cc mL ret tgt ls st σ K) (kf : x ≤ 0 → AW G d own cc mL ret (pc + 3) ls st σ K) : AW G d own cc mL ret pc ls (.int (iI x) :: st) σ K :=
  fun p e s m args below meth c H locs la hC hP hS hL => lv_if_gt hC.1 hC.2.1 hd ht (fun h => kt (by rw [← iI_0] at h; exact (iI_lt (by omega) (by omega) x1 x2).mp h) p e s m args below meth c H locs la hC hP hS hL) (fun h => kf (Int.not_lt.mp (fun q => h (by rw [← iI_0]; exact (iI_lt (by omega) (by omega) x1 x2).mpr q))) p e s m args below meth c H locs la hC hP hS hL)
theorem A_icmp_gt {x y : Int} {off : Int} (tgt : Nat) (hd : decode cc pc = .ok (.if_icmp .gt off, 3)) (ht : (pc : Int) + off = (tgt : Int)) (x1 : -2147483648 ≤ x) (x2 : x < 2147483648) (y1 : -2147483648 ≤ y) (y2 : y < 2147483648) (kt : y < x → AW G d own cc mL ret tgt ls st σ K) (kf : x ≤ y → AW G d own cc mL ret (pc + 3) ls st σ K) : AW G d own cc mL ret pc ls (.int (iI y) :: .int (iI x) :: st) σ K :=
  fun p e s m args below meth c H locs la hC hP hS hL => lv_icmp_gt hC.1 hC.2.1 hd ht (fun h => kt (by exact (iI_lt y1 y2 x1 x2).mp h) p e s m args below meth c H locs la hC hP hS hL) (fun h => kf (Int.not_lt.mp (fun q => h (by exact (iI_lt y1 y2 x1 x2).mpr q))) p e s m args below meth c H locs la hC hP hS hL)
theorem A_if_le {x : Int} {off : Int} (tgt : Nat) (hd : decode cc pc = .ok (.ifCond .le off, 3)) (ht : (pc : Int) + off = (tgt : Int)) (x1 : -2147483648 ≤ x) (x2 : x < 2147483648) (kt : x ≤ 0 → AW G d own cc mL ret tgt ls st σ K) (kf : 0 < x → AW G d own cc mL ret (pc + 3) ls st σ K) : AW G d own cc mL ret pc ls (.int (iI x) :: st) σ K :=
  fun p e s m args below meth c H locs la hC hP hS hL => lv_if_le hC.1 hC.2.1 hd ht (fun h => kt (by rw [← iI_0] at h; exact (iI_le x1 x2 (by omega) (by omega)).mp h) p e s m args below meth c H locs la hC hP hS hL) (fun h => kf (Int.not_le.mp (fun q => h (by rw [← iI_0]; exact (iI_le x1 x2 (by omega) (by omega)).mpr q))) p e s m args below meth c H locs la hC hP hS hL)
theorem A_icmp_le {x y : Int} {off : Int} (tgt : Nat) (hd : decode cc pc = .ok (.if_icmp .le off, 3)) (ht : (pc : Int) + off = (tgt : Int)) (x1 : -2147483648 ≤ x) (x2 : x < 2147483648) (y1 : -2147483648 ≤ y) (y2 : y < 2147483648) (kt : x ≤ y → AW G d own cc mL ret tgt ls st σ K) (kf : y < x → AW G d own cc mL ret (pc + 3) ls st σ K) : AW G d own cc mL ret pc ls (.int (iI y) :: .int (iI x) :: st) σ K :=
  fun p e s m args below meth c H locs la hC hP hS hL => lv_icmp_le hC.1 hC.2.1 hd ht (fun h => kt (by exact (iI_le x1 x2 y1 y2).mp h) p e s m args below meth c H locs la hC hP hS hL) (fun h => kf (Int.not_le.mp (fun q => h (by exact (iI_le x1 x2 y1 y2).mpr q))) p e s m args below meth c H locs la hC hP hS hL)
/-- a switch: the road of each key, in their order, and the rest's -/
def SwP (P : Nat → Prop) (x : Int) : List (Int × Nat) → Nat → Prop
  | [], t => P t
  | (a, t) :: r, z => (x = a → P t) ∧ (x ≠ a → SwP P x r z)
def swT (x : Int) : List (Int × Nat) → Nat → Nat
  | [], t => t
  | (a, t) :: r, z => if x = a then t else swT x r z
theorem SwP.get {P : Nat → Prop} {x : Int} : ∀ {l : List (Int × Nat)} {z : Nat}, SwP P x l z → P (swT x l z)
  | [], _, h => h
  | (a, t) :: r, z, h => by
    unfold swT
    by_cases e : x = a
    · rw [if_pos e]; exact h.1 e
    · rw [if_neg e]; exact (h.2 e).get
def tsO (lo hi dflt : Int) (offs : List Int) (x : Int) : Int := if x < lo ∨ hi < x then dflt else offs.getD (x - lo).toNat 0
/-- a table's targets are those of a list of keys -/
def tsOk (pc : Nat) (lo : Int) : List Int → List (Int × Nat) → Bool
  | [], [] => true
  | f :: fs, (a, t) :: r => decide (a = lo) && decide ((pc : Int) + f = (t : Int)) && tsOk pc (lo + 1) fs r
  | _, _ => false
theorem tsOk_swT {pc : Nat} {x : Int} {z : Nat} : ∀ {fs : List Int} {l : List (Int × Nat)} {lo : Int}, tsOk pc lo fs l = true →
    ((x < lo ∨ lo + fs.length ≤ x) → swT x l z = z) ∧ (lo ≤ x → ∀ f, fs[(x - lo).toNat]? = some f → (pc : Int) + f = (swT x l z : Int))
  | [], [], lo, h => ⟨fun _ => rfl, fun _ f hf => by simp at hf⟩
  | [], _ :: _, lo, h => by simp [tsOk] at h
  | _ :: _, [], lo, h => by simp [tsOk] at h
  | f :: fs, (a, t) :: r, lo, h => by
    simp only [tsOk, Bool.and_eq_true, decide_eq_true_eq] at h
    obtain ⟨⟨h1, h2⟩, h3⟩ := h
    obtain ⟨i1, i2⟩ := tsOk_swT (x := x) (z := z) h3
    unfold swT
    by_cases e : x = a
    · rw [if_pos e]
      refine ⟨fun q => ?_, fun _ g hg => ?_⟩
      · exfalso
        rw [e, h1] at q
        simp only [List.length_cons] at q
        omega
      · have e0 : (x - lo).toNat = 0 := by rw [e, h1]; omega
        rw [e0] at hg
        simp only [List.getElem?_cons_zero, Option.some.injEq] at hg
        rw [← hg]; exact h2
    · rw [if_neg e]
      have hne : x ≠ lo := fun q => e (by rw [h1]; exact q)
      refine ⟨fun q => i1 ?_, fun hlo g hg => i2 (by omega) g ?_⟩
      · simp only [List.length_cons] at q
        omega
      · have e1 : (x - lo).toNat = (x - (lo + 1)).toNat + 1 := by omega
        rw [e1, List.getElem?_cons_succ] at hg
        exact hg
theorem A_tsw {x : Int} {dflt lo hi : Int} {offs : Array Int} {len : Nat} (l : List (Int × Nat)) (z : Nat) (hd : decode cc pc = .ok (.tableswitch dflt lo hi offs, len)) (h1 : tsOk pc lo offs.toList l = true) (h2 : (pc : Int) + dflt = (z : Int)) (h3 : hi + 1 = lo + offs.toList.length) (x1 : -2147483648 ≤ x) (x2 : x < 2147483648)
    (k : SwP (fun t => AW G d own cc mL ret t ls st σ K) x l z) : AW G d own cc mL ret pc ls (.int (iI x) :: st) σ K := by
  have kk := k.get
  obtain ⟨i1, i2⟩ := tsOk_swT (x := x) (z := z) h1
  intro p e s m args below meth c H locs la hC hP hS hL
  have hx := iI_t x1 x2
  by_cases h : x < lo ∨ hi < x
  · have e1 := i1 (by rcases h with h | h; exact Or.inl h; exact Or.inr (by omega))
    rw [e1] at kk
    exact lv_tableOut hC.1 hC.2.1 hd (by rw [hx]; exact h) h2 (kk p e s m args below meth c H locs la hC hP hS hL)
  · have hl : (x - lo).toNat < offs.toList.length := by omega
    have ho : offs[(x - lo).toNat]? = some (offs.toList[(x - lo).toNat]) := by
      rw [← Array.getElem?_toList, List.getElem?_eq_getElem hl]
    exact lv_tableIn hC.1 hC.2.1 hd (by rw [hx]; omega) (by rw [hx]; omega) (by rw [hx]; exact ho) (i2 (by omega) _ (List.getElem?_eq_getElem hl)) (kk p e s m args below meth c H locs la hC hP hS hL)
/-- a lookup's targets -/
def lsOk (pc : Nat) : List (Int × Int) → List (Int × Nat) → Bool
  | [], [] => true
  | q :: fs, (a, t) :: r => decide (a = q.1) && decide ((pc : Int) + q.2 = (t : Int)) && lsOk pc fs r
  | _, _ => false
theorem lsOk_swT {pc : Nat} {x : Int} {z : Nat} {dflt : Int} (hz : (pc : Int) + dflt = (z : Int)) : ∀ {fs : List (Int × Int)} {l : List (Int × Nat)}, lsOk pc fs l = true → (pc : Int) + Op.lookupswitch.offset fs dflt x = (swT x l z : Int)
  | [], [], h => hz
  | [], _ :: _, h => by simp [lsOk] at h
  | _ :: _, [], h => by simp [lsOk] at h
  | (a, o) :: fs, (b, t) :: r, h => by
    simp only [lsOk, Bool.and_eq_true, decide_eq_true_eq] at h
    obtain ⟨⟨h1, h2⟩, h3⟩ := h
    unfold swT
    rw [Op.lookupswitch.offset_cons]
    by_cases e : x = b
    · rw [if_pos e, if_pos (by rw [e, h1])]
      exact h2
    · rw [if_neg e, if_neg (fun q => e (by rw [h1]; exact q.symm))]
      exact lsOk_swT hz h3
theorem A_lsw {x : Int} {dflt : Int} {ps : Array (Int × Int)} {len : Nat} (l : List (Int × Nat)) (z : Nat) (hd : decode cc pc = .ok (.lookupswitch dflt ps, len)) (h0 : (ps.toList.zip (ps.toList.drop 1)).all (fun (a, next) => a.1 < next.1) = true) (h1 : lsOk pc ps.toList l = true) (h2 : (pc : Int) + dflt = (z : Int)) (x1 : -2147483648 ≤ x) (x2 : x < 2147483648)
    (k : SwP (fun t => AW G d own cc mL ret t ls st σ K) x l z) : AW G d own cc mL ret pc ls (.int (iI x) :: st) σ K := by
  have kk := k.get
  have i1 := lsOk_swT (x := x) h2 h1
  intro p e s m args below meth c H locs la hC hP hS hL
  exact lv_lookup hC.1 hC.2.1 hd h0 (by rw [iI_t x1 x2]) i1 (kk p e s m args below meth c H locs la hC hP hS hL)
/-! ends -/
theorem A_iret {v : Int} (hr : ret = some .int) (hd : decode cc pc = .ok (.ireturn, 1)) (hk : K (some (.int (iI v))) σ) : AW G d own cc mL ret pc ls [.int (iI v)] σ K :=
  fun p e s m args below meth c H locs la hC hP hS hL => W.iret hC.1 hC.2.1 (hC.2.2.2.1.trans hr) (fun t ht hW => ⟨⟨_, σ, rfl, hk, by rw [ht]; exact hP⟩, hS.F ht⟩) hS.2.2 hd (hlocks := hC.2.2.2.2.1)
theorem A_zret {v : Int} {ty : FieldType} (hr : ret = some ty) (hn : narrow ty (.int (iI v)) = .int (iI v)) (hd : decode cc pc = .ok (.ireturn, 1)) (hk : K (some (.int (iI v))) σ) : AW G d own cc mL ret pc ls [.int (iI v)] σ K :=
  fun p e s m args below meth c H locs la hC hP hS hL => W.zret hC.1 hC.2.1 (hC.2.2.2.1.trans hr) hn (fun t ht hW => ⟨⟨_, σ, rfl, hk, by rw [ht]; exact hP⟩, hS.F ht⟩) hS.2.2 hd (hlocks := hC.2.2.2.2.1)
theorem A_lret {v : Int64} (hr : ret = some .long) (hd : decode cc pc = .ok (.lreturn, 1)) (hk : K (some (.long v)) σ) : AW G d own cc mL ret pc ls [.long v] σ K :=
  fun p e s m args below meth c H locs la hC hP hS hL => W.lret hC.1 hC.2.1 (hC.2.2.2.1.trans hr) (fun t ht hW => ⟨⟨_, σ, rfl, hk, by rw [ht]; exact hP⟩, hS.F ht⟩) hS.2.2 hd (hlocks := hC.2.2.2.2.1)
theorem A_vret (hr : ret = none) (hd : decode cc pc = .ok (.return_, 1)) (hk : K none σ) : AW G d own cc mL ret pc ls [] σ K :=
  fun p e s m args below meth c H locs la hC hP hS hL => W.vret hC.1 hC.2.1 (hC.2.2.2.1.trans hr) (fun t ht hW => ⟨⟨_, σ, rfl, hk, by rw [ht]; exact hP⟩, hS.F ht⟩) hS.2.2 hd (hlocks := hC.2.2.2.2.1)
/-! constants of the pool -/
theorem A_ldc {idx : Nat} {v : Int} (hc : Cond.constant own idx (iI v) ∈ lw_tbl) (hd : decode cc pc = .ok (.ldc idx, 2)) (k : AW G d own cc mL ret (pc + 2) ls (.int (iI v) :: st) σ K) : AW G d own cc mL ret pc ls st σ K :=
  fun p e s m args below meth c H locs la hC hP hS hL => lv_ldc hC.1 hC.2.1 hC.2.2.2.2.2.1 (hC.2.2.2.2.2.2.1 _ (TW_in hc rfl)) hd (k p e s m args below meth c H locs la hC hP hS hL)
theorem A_ldcw {idx : Nat} {v : Int} (hc : Cond.constant own idx (iI v) ∈ lw_tbl) (hd : decode cc pc = .ok (.ldc_w idx, 3)) (k : AW G d own cc mL ret (pc + 3) ls (.int (iI v) :: st) σ K) : AW G d own cc mL ret pc ls st σ K :=
  fun p e s m args below meth c H locs la hC hP hS hL => lv_ldcw hC.1 hC.2.1 hC.2.2.2.2.2.1 (hC.2.2.2.2.2.2.1 _ (TW_in hc rfl)) hd (k p e s m args below meth c H locs la hC hP hS hL)
theorem A_ldc2 {idx : Nat} {v : Int64} (hc : Cond.constantLong own idx v ∈ lw_tbl) (hd : decode cc pc = .ok (.ldc2_w idx, 3)) (k : AW G d own cc mL ret (pc + 3) ls (.long v :: st) σ K) : AW G d own cc mL ret pc ls st σ K :=
  fun p e s m args below meth c H locs la hC hP hS hL => lv_ldc2 hC.1 hC.2.1 hC.2.2.2.2.2.1 (hC.2.2.2.2.2.2.1 _ (TW_in hc rfl)) hd (k p e s m args below meth c H locs la hC hP hS hL)
theorem A_ldcS {idx : Nat} {tx : String} {i : Nat} (hc : (own, idx, tx, i) ∈ strR) (hd : decode cc pc = .ok (.ldc idx, 2)) (k : AW G d own cc mL ret (pc + 2) ls (.ref (gK G i) :: st) σ K) : AW G d own cc mL ret pc ls st σ K :=
  fun p e s m args below meth c H locs la hC hP hS hL => va_ldcS hC.1 hC.2.1 hC.2.2.2.2.2.1 (hC.2.2.2.2.2.2.2.2.2.2.2.2.2.2.1 _ hc) hd (k p e s m args below meth c H locs la hC hP hS hL)
end AWR
end
section
/-! PART 04: fields, arrays and calls over the store -/
theorem cls_all : ∀ q ∈ vwCl, ((u_ws q.1 q.2.1 q.2.2).all (fun w => decide (w ∈ lw_tbl) && goodWord w)) = true := by decide +kernel
theorem cls_in {ci : Nat} {q : vw_C} (h : vwCl[ci]? = some q) : ∀ w ∈ u_ws q.1 q.2.1 q.2.2, w ∈ TW := by
  intro w hw
  have h1 := List.all_eq_true.mp (cls_all q (List.mem_of_getElem? h)) w hw
  simp only [Bool.and_eq_true, decide_eq_true_eq] at h1
  exact TW_in h1.1 h1.2
/-- field k of class ci, that may be written, of type ty -/
def WrF (ci k : Nat) (ty : FieldType) : Prop := ∃ q : vw_C, vwCl[ci]? = some q ∧ (q.2.1 k).2.2.2 = false ∧ parseFieldDescriptor (q.2.1 k).2.2.1 = some ty
/-- what va_put asks of a class' fields -/
def ClF (q : vw_C) : Prop := ∃ ty0 : Nat → FieldType, (∀ k, k < q.2.2 → parseFieldDescriptor (q.2.1 k).2.2.1 = some (ty0 k)) ∧ (∀ a, a < q.2.2 → ∀ b, b < q.2.2 → a ≠ b → (q.2.1 a).2.1 ≠ (q.2.1 b).2.1)
theorem clf_RX1 : ClF (RX1, TX1, 5) := ⟨tyX1, tyX1_ok, nmX1⟩
theorem clf_RX2 : ClF (RX2, TX2, 6) := ⟨tyX2, tyX2_ok, nmX2⟩
theorem clf_RX3 : ClF (RX3, TX3, 3) := ⟨tyX3, tyX3_ok, nmX3⟩
theorem clf_RX4 : ClF (RX4, TX4, 2) := ⟨tyX4, tyX4_ok, nmX4⟩
theorem clf_RX5 : ClF (RX5, TX5, 14) := ⟨tyX5, tyX5_ok, nmX5⟩
theorem clf_RX6 : ClF (RX6, TX6, 5) := ⟨tyX6, tyX6_ok, nmX6⟩
theorem clf_RX7 : ClF (RX7, TX7, 2) := ⟨tyX7, tyX7_ok, nmX7⟩
theorem clf_RX8 : ClF (RX8, TX8, 11) := ⟨tyX8, tyX8_ok, nmX8⟩
theorem clf_RX9 : ClF (RX9, TX9, 33) := ⟨tyX9, tyX9_ok, nmX9⟩
theorem ClF_all : ∀ {ci : Nat} {q : vw_C}, vwCl[ci]? = some q → ClF q := by
  intro ci q h
  have hm : q ∈ vwCl := List.mem_of_getElem? h
  simp only [vwCl, List.mem_cons, List.not_mem_nil, or_false] at hm
  rcases hm with rfl | rfl | rfl | rfl | rfl | rfl | rfl | rfl | rfl
  · exact clf_RX1
  · exact clf_RX2
  · exact clf_RX3
  · exact clf_RX4
  · exact clf_RX5
  · exact clf_RX6
  · exact clf_RX7
  · exact clf_RX8
  · exact clf_RX9
theorem wr_0_0 : WrF 0 0 .int := ⟨_, rfl, rfl, by decide +kernel⟩
theorem wr_0_2 : WrF 0 2 .int := ⟨_, rfl, rfl, by decide +kernel⟩
theorem wr_0_3 : WrF 0 3 .int := ⟨_, rfl, rfl, by decide +kernel⟩
theorem wr_0_4 : WrF 0 4 .int := ⟨_, rfl, rfl, by decide +kernel⟩
theorem wr_1_1 : WrF 1 1 .int := ⟨_, rfl, rfl, by decide +kernel⟩
theorem wr_1_3 : WrF 1 3 .int := ⟨_, rfl, rfl, by decide +kernel⟩
theorem wr_1_4 : WrF 1 4 .int := ⟨_, rfl, rfl, by decide +kernel⟩
theorem wr_1_5 : WrF 1 5 .int := ⟨_, rfl, rfl, by decide +kernel⟩
theorem wr_2_0 : WrF 2 0 .int := ⟨_, rfl, rfl, by decide +kernel⟩
theorem wr_2_1 : WrF 2 1 .int := ⟨_, rfl, rfl, by decide +kernel⟩
theorem wr_3_0 : WrF 3 0 .int := ⟨_, rfl, rfl, by decide +kernel⟩
theorem wr_4_0 : WrF 4 0 .long := ⟨_, rfl, rfl, by decide +kernel⟩
theorem wr_4_1 : WrF 4 1 .int := ⟨_, rfl, rfl, by decide +kernel⟩
theorem wr_4_2 : WrF 4 2 .int := ⟨_, rfl, rfl, by decide +kernel⟩
theorem wr_4_3 : WrF 4 3 .int := ⟨_, rfl, rfl, by decide +kernel⟩
theorem wr_4_4 : WrF 4 4 .int := ⟨_, rfl, rfl, by decide +kernel⟩
theorem wr_4_5 : WrF 4 5 .int := ⟨_, rfl, rfl, by decide +kernel⟩
theorem wr_4_6 : WrF 4 6 .int := ⟨_, rfl, rfl, by decide +kernel⟩
theorem wr_5_0 : WrF 5 0 .int := ⟨_, rfl, rfl, by decide +kernel⟩
theorem wr_5_1 : WrF 5 1 .int := ⟨_, rfl, rfl, by decide +kernel⟩
theorem wr_5_2 : WrF 5 2 .int := ⟨_, rfl, rfl, by decide +kernel⟩
theorem wr_5_3 : WrF 5 3 .int := ⟨_, rfl, rfl, by decide +kernel⟩
theorem wr_5_4 : WrF 5 4 .int := ⟨_, rfl, rfl, by decide +kernel⟩
theorem wr_6_0 : WrF 6 0 .long := ⟨_, rfl, rfl, by decide +kernel⟩
theorem wr_7_2 : WrF 7 2 .boolean := ⟨_, rfl, rfl, by decide +kernel⟩
theorem wr_8_0 : WrF 8 0 .int := ⟨_, rfl, rfl, by decide +kernel⟩
theorem wr_8_5 : WrF 8 5 .int := ⟨_, rfl, rfl, by decide +kernel⟩
theorem wr_8_11 : WrF 8 11 .int := ⟨_, rfl, rfl, by decide +kernel⟩
theorem wr_8_15 : WrF 8 15 .int := ⟨_, rfl, rfl, by decide +kernel⟩
theorem wr_8_16 : WrF 8 16 .int := ⟨_, rfl, rfl, by decide +kernel⟩
theorem wr_8_18 : WrF 8 18 .int := ⟨_, rfl, rfl, by decide +kernel⟩
theorem wr_8_20 : WrF 8 20 .int := ⟨_, rfl, rfl, by decide +kernel⟩
theorem wr_8_23 : WrF 8 23 .boolean := ⟨_, rfl, rfl, by decide +kernel⟩
theorem wr_8_25 : WrF 8 25 .int := ⟨_, rfl, rfl, by decide +kernel⟩
theorem wr_8_29 : WrF 8 29 .int := ⟨_, rfl, rfl, by decide +kernel⟩
theorem wr_8_30 : WrF 8 30 .int := ⟨_, rfl, rfl, by decide +kernel⟩
theorem wr_8_31 : WrF 8 31 .int := ⟨_, rfl, rfl, by decide +kernel⟩
theorem wr_8_32 : WrF 8 32 .int := ⟨_, rfl, rfl, by decide +kernel⟩
theorem EN_o {G : Gl} {σ : Sg} {c : Nat} {q : Nat × List (Nat × Nat)} (h : shp c = .inl q) : EN G σ c = .inr (q.1, fvs G σ c q.2) := by unfold EN; rw [h]
theorem EN_a {G : Gl} {σ : Sg} {c : Nat} {q : Nat × Nat} (h : shp c = .inr q) : EN G σ c = .inl (gY G q.1, av G σ c q.1 q.2) := by unfold EN; rw [h]
theorem WS_o {G : Gl} {σ : Sg} {c ci : Nat} {fl : List (Nat × Nat)} (h : shp c = .inl (ci, fl)) : (WS G σ)[c]? = some (gA G c, .inr (ci, fvs G σ c fl)) := by rw [WS_at (shp_lt h), EN_o h]
theorem WS_i {G : Gl} {σ : Sg} {c n : Nat} (h : shp c = .inr (0, n)) : (WS G σ)[c]? = some (gA G c, .inl (gY G 0, n, .inl (fun j => iI (σ.1 c j)))) := by rw [WS_at (shp_lt2 h (by decide)), EN_a h]; rfl
theorem WS_l {G : Gl} {σ : Sg} {c n : Nat} (h : shp c = .inr (1, n)) : (WS G σ)[c]? = some (gA G c, .inl (gY G 1, n, .inr (.inl (σ.2 c)))) := by rw [WS_at (shp_lt2 h (by decide)), EN_a h]; rfl
theorem WS_z {G : Gl} {σ : Sg} {c n : Nat} (h : shp c = .inr (2, n)) : (WS G σ)[c]? = some (gA G c, .inl (gY G 2, n, .inl (fun j => iI (σ.1 c j)))) := by rw [WS_at (shp_lt2 h (by decide)), EN_a h]; rfl
theorem WS_q {G : Gl} {σ : Sg} {c n : Nat} (h : shp c = .inr (3, n)) : (WS G σ)[c]? = some (gA G c, .inl (gY G 3, n, .inr (.inr (.inr (.inr (fun i => some (gA G (38 + 2 * i)))))))) := by rw [WS_at (shp_lt2 h (by decide)), EN_a h]; rfl
theorem WS_putI {G : Gl} {σ : Sg} {c ci k z : Nat} {fl : List (Nat × Nat)} {v : Int} (h : shp c = .inl (ci, fl)) (hk : fl[k]? = some (0, z)) : (WS G σ).set c (gA G c, .inr (ci, (fvs G σ c fl).set k (.int (iI v)))) = WS G (uI σ c k v) := by
  refine WS_set ?_ (fun a ha => uI_ne ha) (fun a ha => rfl)
  rw [EN_o h, fvs_set (τ := uI σ c k v) hk (by simp [fv, uI]) (fun j g hj => by simp [fv, uI, hj])]
theorem WS_putL {G : Gl} {σ : Sg} {c ci k z : Nat} {fl : List (Nat × Nat)} {v : Int64} (h : shp c = .inl (ci, fl)) (hk : fl[k]? = some (1, z)) : (WS G σ).set c (gA G c, .inr (ci, (fvs G σ c fl).set k (.long v))) = WS G (uL σ c k v) := by
  refine WS_set ?_ (fun a ha => rfl) (fun a ha => uL_ne ha)
  rw [EN_o h, fvs_set (τ := uL σ c k v) hk (by simp [fv, uL]) (fun j g hj => by simp [fv, uL, hj])]
theorem WS_stI {G : Gl} {σ : Sg} {c k n : Nat} {v : Int} (h : shp c = .inr (0, n)) : (WS G σ).set c (gA G c, .inl (gY G 0, n, .inl (upd (fun j => iI (σ.1 c j)) k (iI v)))) = WS G (uI σ c k v) := by
  refine WS_set ?_ (fun a ha => uI_ne ha) (fun a ha => rfl)
  rw [EN_a h, ← uI_upd]; rfl
theorem WS_stZ {G : Gl} {σ : Sg} {c k n : Nat} {v : Int} (h : shp c = .inr (2, n)) : (WS G σ).set c (gA G c, .inl (gY G 2, n, .inl (upd (fun j => iI (σ.1 c j)) k (iI v)))) = WS G (uI σ c k v) := by
  refine WS_set ?_ (fun a ha => uI_ne ha) (fun a ha => rfl)
  rw [EN_a h, ← uI_upd]; rfl
theorem WS_stL {G : Gl} {σ : Sg} {c k n : Nat} {v : Int64} (h : shp c = .inr (1, n)) : (WS G σ).set c (gA G c, .inl (gY G 1, n, .inr (.inl (vp_updL (σ.2 c) k v)))) = WS G (uL σ c k v) := by
  refine WS_set ?_ (fun a ha => rfl) (fun a ha => uL_ne ha)
  rw [EN_a h, ← uL_upd]; rfl
section AWH
variable {G : Gl} {d : Nat} {own : String} {cc : ByteArray} {mL : Nat} {ret : Option FieldType} {pc : Nat} {ls : List (Nat × Value)} {st : List Value} {σ : Sg} {K : Option Value → Sg → Prop}
theorem Cx.hts {p : Program} {s : State} {m : MethodId} {args : Array Value} {meth : Method} {c : Code} (h : Cx G own cc mL ret p s m args meth c) : ∀ w ∈ TW, w.before args s = true := h.2.2.2.2.2.2.1
theorem Cx.hown {p : Program} {s : State} {m : MethodId} {args : Array Value} {meth : Method} {c : Code} (h : Cx G own cc mL ret p s m args meth c) : s.vm.findClass own = some m.cls := h.2.2.2.2.2.1
theorem Cx.kon {p : Program} {s : State} {m : MethodId} {args : Array Value} {meth : Method} {c : Code} (h : Cx G own cc mL ret p s m args meth c) : Kon G s s.heap := h.2.2.2.2.2.2.2
theorem A_get {idx ci k c : Nat} {fl : List (Nat × Nat)} {f : Nat × Nat} {v : Value} (hf : LkF own idx ci k) (hs : shp c = .inl (ci, fl)) (hk : fl[k]? = some f) (hv : fv G σ c k f = v) (hd : decode cc pc = .ok (.getfield idx, 3))
    (kk : AW G d own cc mL ret (pc + 3) ls (v :: st) σ K) : AW G d own cc mL ret pc ls (.ref (gA G c) :: st) σ K := by
  intro p e s m args below meth c' H locs la hC hP hS hL
  obtain ⟨⟨C, T, N⟩, h1, h2, h3⟩ := hf
  subst hv
  exact va_get (D := gD G) (ci := ci) (Ts := TW) hC.1 hC.2.1 hC.hts (cls_in h1) hC.hown hC.kon.2.1 hP c (WS_o hs) h1 k h2 (hC.hts _ (TW_in h3 rfl)) (fun _ h => h) (fvs_at hk) hd (kk p e s m args below meth c' H locs la hC hP hS hL)
theorem A_getI {idx ci k c z : Nat} {fl : List (Nat × Nat)} (hf : LkF own idx ci k) (hs : shp c = .inl (ci, fl)) (hk : fl[k]? = some (0, z)) (hd : decode cc pc = .ok (.getfield idx, 3))
    (kk : AW G d own cc mL ret (pc + 3) ls (.int (iI (σ.1 c k)) :: st) σ K) : AW G d own cc mL ret pc ls (.ref (gA G c) :: st) σ K := A_get hf hs hk rfl hd kk
theorem A_getL {idx ci k c z : Nat} {fl : List (Nat × Nat)} (hf : LkF own idx ci k) (hs : shp c = .inl (ci, fl)) (hk : fl[k]? = some (1, z)) (hd : decode cc pc = .ok (.getfield idx, 3))
    (kk : AW G d own cc mL ret (pc + 3) ls (.long (σ.2 c k) :: st) σ K) : AW G d own cc mL ret pc ls (.ref (gA G c) :: st) σ K := A_get hf hs hk rfl hd kk
theorem A_getR {idx ci k c z : Nat} {fl : List (Nat × Nat)} (hf : LkF own idx ci k) (hs : shp c = .inl (ci, fl)) (hk : fl[k]? = some (2, z)) (hd : decode cc pc = .ok (.getfield idx, 3))
    (kk : AW G d own cc mL ret (pc + 3) ls (.ref (gA G z) :: st) σ K) : AW G d own cc mL ret pc ls (.ref (gA G c) :: st) σ K := A_get hf hs hk rfl hd kk
theorem A_put {idx ci k c : Nat} {fl : List (Nat × Nat)} {f : Nat × Nat} {v : Value} {τ : Sg} {ty : FieldType} (hf : LkF own idx ci k) (hw : WrF ci k ty) (hs : shp c = .inl (ci, fl)) (hk : fl[k]? = some f) (hn : narrow ty v = v) (hfit : fits ty v = true) (hτ : (WS G σ).set c (gA G c, .inr (ci, (fvs G σ c fl).set k v)) = WS G τ) (hd : decode cc pc = .ok (.putfield idx, 3))
    (kk : AW G d own cc mL ret (pc + 3) ls st τ K) : AW G d own cc mL ret pc ls (v :: .ref (gA G c) :: st) σ K := by
  intro p e s m args below meth c' H locs la hC hP hS hL
  obtain ⟨⟨C, T, N⟩, h1, h2, h3⟩ := hf
  obtain ⟨q, g1, g2, g3⟩ := hw
  have hq : q = (C, T, N) := Option.some.inj (g1.symm.trans h1)
  subst hq
  obtain ⟨ty0, t1, t2⟩ := ClF_all h1
  refine va_put (D := gD G) (ci := ci) (Ts := TW) (ty := ty) hC.1 hC.2.1 hC.hts (cls_in h1) ty0 t1 t2 hC.hown hC.kon.2.1 hP (WS_D hC.kon.1) hS c (WS_o hs) h1 k h2 (hC.hts _ (TW_in h3 rfl)) (fun _ h => h) g2 g3 hn hfit (by rw [fvs_len]; exact (List.getElem?_eq_some_iff.mp hk).1) hd (fun H1 l1 hP1 _ hS1 => ?_)
  rw [hτ] at hP1
  exact kk p e s m args below meth c' H1 l1 la hC hP1 hS1 hL
theorem A_putI {idx ci k c z : Nat} {fl : List (Nat × Nat)} {v : Int} (hf : LkF own idx ci k) (hw : WrF ci k .int) (hs : shp c = .inl (ci, fl)) (hk : fl[k]? = some (0, z)) (hd : decode cc pc = .ok (.putfield idx, 3))
    (kk : AW G d own cc mL ret (pc + 3) ls st (uI σ c k v) K) : AW G d own cc mL ret pc ls (.int (iI v) :: .ref (gA G c) :: st) σ K := A_put hf hw hs hk rfl rfl (WS_putI hs hk) hd kk
theorem A_putZ {idx ci k c z : Nat} {fl : List (Nat × Nat)} {v : Int} (hf : LkF own idx ci k) (hw : WrF ci k .boolean) (hs : shp c = .inl (ci, fl)) (hk : fl[k]? = some (0, z)) (hn : narrow .boolean (.int (iI v)) = .int (iI v)) (hfit : fits .boolean (.int (iI v)) = true) (hd : decode cc pc = .ok (.putfield idx, 3))
    (kk : AW G d own cc mL ret (pc + 3) ls st (uI σ c k v) K) : AW G d own cc mL ret pc ls (.int (iI v) :: .ref (gA G c) :: st) σ K := A_put hf hw hs hk hn hfit (WS_putI hs hk) hd kk
theorem A_putL {idx ci k c z : Nat} {fl : List (Nat × Nat)} {v : Int64} (hf : LkF own idx ci k) (hw : WrF ci k .long) (hs : shp c = .inl (ci, fl)) (hk : fl[k]? = some (1, z)) (hd : decode cc pc = .ok (.putfield idx, 3))
    (kk : AW G d own cc mL ret (pc + 3) ls st (uL σ c k v) K) : AW G d own cc mL ret pc ls (.long v :: .ref (gA G c) :: st) σ K := A_put hf hw hs hk rfl rfl (WS_putL hs hk) hd kk
/-! arrays: the place is nI j -/
theorem A_iald {c n : Nat} {i : Int} (j : Nat) (hs : shp c = .inr (0, n)) (hi : i = (j : Int)) (hj : j < n) (hn : n < 2 ^ 31) (hd : decode cc pc = .ok (.iaload, 1))
    (kk : AW G d own cc mL ret (pc + 1) ls (.int (iI (σ.1 c j)) :: st) σ K) : AW G d own cc mL ret pc ls (.int (iI i) :: .ref (gA G c) :: st) σ K := by
  intro p e s m args below meth c' H locs la hC hP hS hL
  subst hi
  rw [iI_n]
  refine va_iald (D := gD G) hC.1 hC.2.1 hC.kon.2.1 hP c 0 (WS_i hs) rfl (vp_in_nI hj hn) hd ?_
  rw [nI_clamp (by omega)]
  exact kk p e s m args below meth c' H locs la hC hP hS hL
theorem A_zald {c n : Nat} {i : Int} (j : Nat) (hs : shp c = .inr (2, n)) (hi : i = (j : Int)) (hj : j < n) (hn : n < 2 ^ 31) (hd : decode cc pc = .ok (.baload, 1))
    (kk : AW G d own cc mL ret (pc + 1) ls (.int (iI (σ.1 c j)) :: st) σ K) : AW G d own cc mL ret pc ls (.int (iI i) :: .ref (gA G c) :: st) σ K := by
  intro p e s m args below meth c' H locs la hC hP hS hL
  subst hi
  rw [iI_n]
  refine va_zald (D := gD G) hC.1 hC.2.1 hC.kon.2.1 hP c 2 (WS_z hs) rfl (vp_in_nI hj hn) hd ?_
  rw [nI_clamp (by omega)]
  exact kk p e s m args below meth c' H locs la hC hP hS hL
theorem A_lald {c n : Nat} {i : Int} (j : Nat) (hs : shp c = .inr (1, n)) (hi : i = (j : Int)) (hj : j < n) (hn : n < 2 ^ 31) (hd : decode cc pc = .ok (.laload, 1))
    (kk : AW G d own cc mL ret (pc + 1) ls (.long (σ.2 c j) :: st) σ K) : AW G d own cc mL ret pc ls (.int (iI i) :: .ref (gA G c) :: st) σ K := by
  intro p e s m args below meth c' H locs la hC hP hS hL
  subst hi
  rw [iI_n]
  refine va_lald (D := gD G) hC.1 hC.2.1 hC.kon.2.1 hP c 1 (WS_l hs) rfl (vp_in_nI hj hn) hd ?_
  rw [nI_clamp (by omega)]
  exact kk p e s m args below meth c' H locs la hC hP hS hL
theorem A_aald {c n : Nat} {i : Int} (j : Nat) (hs : shp c = .inr (3, n)) (hi : i = (j : Int)) (hj : j < n) (hn : n < 2 ^ 31) (hd : decode cc pc = .ok (.aaload, 1))
    (kk : AW G d own cc mL ret (pc + 1) ls (.ref (gA G (38 + 2 * j)) :: st) σ K) : AW G d own cc mL ret pc ls (.int (iI i) :: .ref (gA G c) :: st) σ K := by
  intro p e s m args below meth c' H locs la hC hP hS hL
  subst hi
  rw [iI_n]
  refine va_aldq (D := gD G) hC.1 hC.2.1 hC.kon.2.1 hP c 3 (WS_q hs) rfl (vp_in_nI hj hn) hd ?_
  rw [nI_clamp (by omega)]
  exact kk p e s m args below meth c' H locs la hC hP hS hL
theorem A_iast {c n : Nat} {i x : Int} (j : Nat) (hs : shp c = .inr (0, n)) (hi : i = (j : Int)) (hj : j < n) (hn : n < 2 ^ 31) (hd : decode cc pc = .ok (.iastore, 1))
    (kk : AW G d own cc mL ret (pc + 1) ls st (uI σ c j x) K) : AW G d own cc mL ret pc ls (.int (iI x) :: .int (iI i) :: .ref (gA G c) :: st) σ K := by
  intro p e s m args below meth c' H locs la hC hP hS hL
  subst hi
  rw [iI_n]
  refine va_iast (D := gD G) hC.1 hC.2.1 hC.kon.2.1 hP (WS_D hC.kon.1) hS c 0 (WS_i hs) rfl (vp_in_nI hj hn) hd (fun H1 l1 hP1 _ hS1 => ?_)
  rw [nI_clamp (by omega), WS_stI hs] at hP1
  exact kk p e s m args below meth c' H1 l1 la hC hP1 hS1 hL
theorem A_zast {c n : Nat} {i x : Int} (j : Nat) (hs : shp c = .inr (2, n)) (hi : i = (j : Int)) (hj : j < n) (hn : n < 2 ^ 31) (hx : vp_nar .boolean (iI x) = iI x) (hd : decode cc pc = .ok (.bastore, 1))
    (kk : AW G d own cc mL ret (pc + 1) ls st (uI σ c j x) K) : AW G d own cc mL ret pc ls (.int (iI x) :: .int (iI i) :: .ref (gA G c) :: st) σ K := by
  intro p e s m args below meth c' H locs la hC hP hS hL
  subst hi
  rw [iI_n]
  refine va_zast (D := gD G) hC.1 hC.2.1 hC.kon.2.1 hP (WS_D hC.kon.1) hS c 2 (WS_z hs) rfl (vp_in_nI hj hn) hd (fun H1 l1 hP1 _ hS1 => ?_)
  rw [nI_clamp (by omega), hx, WS_stZ hs] at hP1
  exact kk p e s m args below meth c' H1 l1 la hC hP1 hS1 hL
theorem A_last {c n : Nat} {i : Int} {x : Int64} (j : Nat) (hs : shp c = .inr (1, n)) (hi : i = (j : Int)) (hj : j < n) (hn : n < 2 ^ 31) (hd : decode cc pc = .ok (.lastore, 1))
    (kk : AW G d own cc mL ret (pc + 1) ls st (uL σ c j x) K) : AW G d own cc mL ret pc ls (.long x :: .int (iI i) :: .ref (gA G c) :: st) σ K := by
  intro p e s m args below meth c' H locs la hC hP hS hL
  subst hi
  rw [iI_n]
  refine va_last (D := gD G) hC.1 hC.2.1 hC.kon.2.1 hP (WS_D hC.kon.1) hS c 1 (WS_l hs) rfl (vp_in_nI hj hn) hd (fun H1 l1 hP1 _ hS1 => ?_)
  rw [nI_clamp (by omega), WS_stL hs] at hP1
  exact kk p e s m args below meth c' H1 l1 la hC hP1 hS1 hL
theorem A_alen {c n : Nat} (hs : shp c = .inr (0, n)) (hd : decode cc pc = .ok (.arraylength, 1))
    (kk : AW G d own cc mL ret (pc + 1) ls (.int (iI (n : Int)) :: st) σ K) : AW G d own cc mL ret pc ls (.ref (gA G c) :: st) σ K := by
  intro p e s m args below meth c' H locs la hC hP hS hL
  exact va_alen (D := gD G) hC.1 hC.2.1 hC.kon.2.1 hP c 0 (WS_i hs) (ty := .int) rfl (iI_n n).symm hd (kk p e s m args below meth c' H locs la hC hP hS hL)
/-- the two static tables -/
theorem A_getsA {idx : Nat} (hf : Cond.fieldLink own idx RX8 "ABOVE" "[I" ∈ lw_tbl) (hd : decode cc pc = .ok (.getstatic idx, 3)) (kk : AW G d own cc mL ret (pc + 3) ls (.ref (gB G).1 :: st) σ K) : AW G d own cc mL ret pc ls st σ K := by
  intro p e s m args below meth c' H locs la hC hP hS hL
  exact va_gets hC.1 hC.2.1 hC.kon.2.2.1 hS hC.hown (hC.hts _ (TW_in hf rfl)) (fun _ h => h) hd (kk p e s m args below meth c' H locs la hC hP hS hL)
theorem A_getsB {idx : Nat} (hf : Cond.fieldLink own idx RX1 "BODIES" "[I" ∈ lw_tbl) (hd : decode cc pc = .ok (.getstatic idx, 3)) (kk : AW G d own cc mL ret (pc + 3) ls (.ref (gB G).2 :: st) σ K) : AW G d own cc mL ret pc ls st σ K := by
  intro p e s m args below meth c' H locs la hC hP hS hL
  exact va_gets hC.1 hC.2.1 hC.kon.2.2.2.2.1 hS hC.hown (hC.hts _ (TW_in hf rfl)) (fun _ h => h) hd (kk p e s m args below meth c' H locs la hC hP hS hL)
theorem A_taldA {i : Int} (j : Nat) (hi : i = (j : Int)) (hj : j < 7) (hd : decode cc pc = .ok (.iaload, 1)) (kk : AW G d own cc mL ret (pc + 1) ls (.int (iI (fAb.getD j 0)) :: st) σ K) : AW G d own cc mL ret pc ls (.int (iI i) :: .ref (gB G).1 :: st) σ K := by
  intro p e s m args below meth c' H locs la hC hP hS hL
  subst hi
  rw [iI_n]
  refine va_ti hC.1 hC.2.1 hC.kon.2.2.2.1 hS (vp_in_nI hj (by decide)) rfl hd ?_
  rw [nI_clamp (by omega)]
  exact kk p e s m args below meth c' H locs la hC hP hS hL
theorem A_taldB {i : Int} (j : Nat) (hi : i = (j : Int)) (hj : j < 21) (hd : decode cc pc = .ok (.iaload, 1)) (kk : AW G d own cc mL ret (pc + 1) ls (.int (iI (fBo.getD j 0)) :: st) σ K) : AW G d own cc mL ret pc ls (.int (iI i) :: .ref (gB G).2 :: st) σ K := by
  intro p e s m args below meth c' H locs la hC hP hS hL
  subst hi
  rw [iI_n]
  refine va_ti hC.1 hC.2.1 hC.kon.2.2.2.2.2.1 hS (vp_in_nI hj (by decide)) rfl hd ?_
  rw [nI_clamp (by omega)]
  exact kk p e s m args below meth c' H locs la hC hP hS hL
/-! calls -/
theorem CT.blind {As : List Value} : FrameBlind (va_Pc As (fun U => va_P (gD G) vwCl (WS G σ) U.heap ∧ Kon G U U.heap)) := by
  intro a U g mk h
  obtain ⟨h1, h2, h3⟩ := h
  exact ⟨h1, h2, h3.blind⟩
theorem A_back {p : Program} {e : Env} {R : Room} {s : State} {m : MethodId} {args a : Array Value} {below : List Frame} {meth : Method} {c : Code} {H : Heap} {locs : List Loc} {la : Array Slot} {rest st0 : List Value} {Q : State → Prop} {K1 : Option Value → Sg → Prop}
    (hr : va_Run p (gL G) e R s m args below meth c H locs 0 0 0 0 (F0 m pc la st0) rest (QK G K1 a) (AA G)) (hS : va_S (AA G) s.heap H locs)
    (kk : ∀ (v : Option Value) (τ : Sg) (H1 : Heap) (locs1 : List Loc), K1 v τ → va_P (gD G) vwCl (WS G τ) H1 → va_S (AA G) s.heap H1 locs1 → W p (gL G) e R s m args below meth c H1 locs1 0 0 Q (F0 m (pc + 3) la (v.toList ++ rest))) :
    W p (gL G) e R s m args below meth c H locs 0 0 Q (F0 m pc la st0) := by
  intro T hT X
  obtain ⟨v, st₀, t, T', L, h0, X', hL, e1, e2, ⟨⟨v', τ, hv, hp, hb⟩, hz, hk⟩, st⟩ := hr T hT X
  cases hv
  rw [h0] at hz hk
  obtain ⟨t2, a1, b1⟩ := kk v τ T'.heap (locs ++ L) hp (by rw [e1]; exact hb)
    ⟨Nat.le_trans hS.1 (by rw [e1]; exact hz), fun q h1 h2 => by rw [e1, hk q (Nat.lt_of_lt_of_le h1 hS.1) h2]; exact hS.2.1 q h1 h2, fun q hq => by
      rcases List.mem_append.mp hq with h | h
      · exact hS.2.2 q h
      · exact hL q h⟩ T' rfl X'
  exact ⟨t2, st t2 a1, b1⟩
theorem A_callS {idx n mL2 : Nat} {y : MethodName} {b : ByteArray} {ret2 : Option FieldType} {As rest : List Value} {K1 : Option Value → Sg → Prop} (hl : LkS own idx y n b mL2 ret2) (hc : CT G d y b mL2 ret2 As σ K1) (hd : decode cc pc = .ok (.invokestatic idx, 3)) (hst : st = As.reverse ++ rest) (hn : As.length = n) (hm : mL2 ≤ 80) (hr : (rest.map fun v => v.category).sum ≤ 8)
    (k : ∀ v τ, K1 v τ → AW G (d + 1) own cc mL ret (pc + 3) ls (v.toList ++ rest) τ K) : AW G (d + 1) own cc mL ret pc ls st σ K := by
  obtain ⟨⟨l1, l2, l3, l4, l5⟩, l6, l7⟩ := hl
  intro p e s m args below meth c' H locs la hC hP hS hL
  have hG : GoodIn TW (va_wsS own idx y (Cond.code y b mL2 ret2 :: TW)) := by
    intro w hw
    simp only [va_wsS, List.mem_append, List.mem_cons, List.not_mem_nil, or_false] at hw
    rcases hw with (h | h | h) | h | h
    · exact TW_good _ (h ▸ TW_in l6 rfl)
    · exact TW_good _ (h ▸ TW_in l7 rfl)
    · exact TW_good _ (h ▸ TW_in l1 rfl)
    · exact TW_good _ (h ▸ TW_in l2 rfl)
    · exact TW_good _ h
  refine A_back (K1 := K1) (va_runS (As := As) (rest := rest) ⟨hC.1, hC.2.1, hC.2.2.1, hC.hown, hC.hts⟩ hc (va_cwS n hC.hts hG rfl rfl rfl ⟨l3, l4, l5⟩ ⟨Nat.le_refl _, by show 8 + (mL2 + 11) + 100 * d ≤ 100 * (d + 1); omega⟩) ⟨CT.blind, fun U hU hW => ⟨rfl, by rw [hU]; exact hP, by rw [hU]; exact hC.kon.go hW hS.2.1⟩⟩ rfl hn hL.1 hst (lv_room hr) hd ⟨Nat.zero_le _, Nat.zero_le _⟩) hS (fun v τ H1 l1 hk hP1 hS1 => ?_)
  exact k v τ hk p e s m args below meth c' H1 l1 la hC hP1 hS1 hL
theorem A_callN {idx n mL2 : Nat} {y : MethodName} {b : ByteArray} {ret2 : Option FieldType} {As rest : List Value} {K1 : Option Value → Sg → Prop} (hl : LkB y n b mL2 ret2) (hs : Cond.static y ∈ lw_tbl) (hN : (own, idx, y) ∈ nestR) (hc : CT G d y b mL2 ret2 As σ K1) (hd : decode cc pc = .ok (.invokestatic idx, 3)) (hst : st = As.reverse ++ rest) (hn : As.length = n) (hm : mL2 ≤ 80) (hr : (rest.map fun v => v.category).sum ≤ 8)
    (k : ∀ v τ, K1 v τ → AW G (d + 1) own cc mL ret (pc + 3) ls (v.toList ++ rest) τ K) : AW G (d + 1) own cc mL ret pc ls st σ K := by
  obtain ⟨l1, l2, l3, l4, l5⟩ := hl
  intro p e s m args below meth c' H locs la hC hP hS hL
  have hG : GoodIn TW (Cond.code y b mL2 ret2 :: TW) := by
    intro w hw
    rcases List.mem_cons.mp hw with h | h
    · exact TW_good _ (h ▸ TW_in l2 rfl)
    · exact TW_good _ h
  refine A_back (K1 := K1) (va_runSN (As := As) (rest := rest) ⟨hC.1, hC.2.1, hC.2.2.1, hC.hown, hC.hts⟩ hc ⟨va_cnB (host := RX8) n hC.hts hG rfl rfl rfl (hC.kon.2.2.2.2.2.2.2.2.2.2 _ hN) (hC.hts _ (TW_in l1 rfl)) ⟨l3, l4, l5⟩ ⟨Nat.le_refl _, by show 8 + (mL2 + 11) + 100 * d ≤ 100 * (d + 1); omega⟩, hC.hts _ (TW_in hs rfl), trivial⟩ ⟨CT.blind, fun U hU hW => ⟨rfl, by rw [hU]; exact hP, by rw [hU]; exact hC.kon.go hW hS.2.1⟩⟩ rfl hn hL.1 hst (lv_room hr) hd ⟨Nat.zero_le _, Nat.zero_le _⟩) hS (fun v τ H1 l1 hk hP1 hS1 => ?_)
  exact k v τ hk p e s m args below meth c' H1 l1 la hC hP1 hS1 hL
theorem A_callV {idx n mL2 c ci : Nat} {fl : List (Nat × Nat)} {y : MethodName} {b : ByteArray} {ret2 : Option FieldType} {As rest : List Value} {K1 : Option Value → Sg → Prop} (hl : LkV own idx y n b mL2 ret2) (hs : shp c = .inl (ci, fl)) (hci : (vwCl[ci]?).map (fun q => q.1) = some y.cls) (hc : CT G d y b mL2 ret2 (.ref (gA G c) :: As) σ K1) (hd : decode cc pc = .ok (.invokevirtual idx, 3)) (hst : st = As.reverse ++ .ref (gA G c) :: rest) (hn : As.length = n) (hm : mL2 ≤ 80) (hr : (rest.map fun v => v.category).sum ≤ 8)
    (k : ∀ v τ, K1 v τ → AW G (d + 1) own cc mL ret (pc + 3) ls (v.toList ++ rest) τ K) : AW G (d + 1) own cc mL ret pc ls st σ K := by
  obtain ⟨⟨l1, l2, l3, l4, l5⟩, l6, l7, l8⟩ := hl
  intro p e s m args below meth c' H locs la hC hP hS hL
  have hG : GoodIn TW (wsV own idx y.cls y (Cond.code y b mL2 ret2 :: TW)) := by
    intro w hw
    simp only [wsV, List.mem_append, List.mem_cons, List.not_mem_nil, or_false] at hw
    rcases hw with (h | h | h | h) | h | h
    · exact TW_good _ (h ▸ TW_in l6 rfl)
    · exact TW_good _ (h ▸ TW_in l7 rfl)
    · exact TW_good _ (h ▸ TW_in l8 rfl)
    · exact TW_good _ (h ▸ TW_in l1 rfl)
    · exact TW_good _ (h ▸ TW_in l2 rfl)
    · exact TW_good _ h
  have hrc : ∃ cellB : Cell, H[gA G c]? = some cellB ∧ cellB.vm.isStatics = false ∧ s.vm.findClass y.cls = some cellB.cls := by
    cases hq : vwCl[ci]? with
    | none => rw [hq] at hci; cases hci
    | some q =>
      rw [hq] at hci
      have e1 : q.1 = y.cls := Option.some.inj hci
      rw [← e1]
      exact va_recv hC.kon.2.1 hP hq (WS_o hs)
  refine A_back (K1 := K1) (va_runV (As := As) (rest := rest) ⟨hC.1, hC.2.1, hC.2.2.1, hC.hown, hC.hts⟩ hc (cwV n hC.hts hG rfl rfl rfl ⟨rfl, l3, l4, l5⟩ ⟨Nat.le_refl _, by show 8 + (mL2 + 11) + 100 * d ≤ 100 * (d + 1); omega⟩) ⟨CT.blind, hrc, fun U hU hW => ⟨rfl, by rw [hU]; exact hP, by rw [hU]; exact hC.kon.go hW hS.2.1⟩⟩ rfl hn hL.1 hst (lv_room hr) hd ⟨Nat.zero_le _, Nat.zero_le _⟩) hS (fun v τ H1 l1 hk hP1 hS1 => ?_)
  exact k v τ hk p e s m args below meth c' H1 l1 la hC hP1 hS1 hL
/-- contracts with one answer -/
def R1 (r : Value) (τ : Sg) : Option Value → Sg → Prop := fun v τ' => v = some r ∧ τ' = τ
def R0 (τ : Sg) : Option Value → Sg → Prop := fun v τ' => v = none ∧ τ' = τ
theorem A_callS1 {idx n mL2 : Nat} {y : MethodName} {b : ByteArray} {ret2 : Option FieldType} {As rest : List Value} {r : Value} {τ : Sg} (hl : LkS own idx y n b mL2 ret2) (hc : CT G d y b mL2 ret2 As σ (R1 r τ)) (hd : decode cc pc = .ok (.invokestatic idx, 3)) (hst : st = As.reverse ++ rest) (hn : As.length = n) (hm : mL2 ≤ 80) (hr : (rest.map fun v => v.category).sum ≤ 8)
    (k : AW G (d + 1) own cc mL ret (pc + 3) ls (r :: rest) τ K) : AW G (d + 1) own cc mL ret pc ls st σ K :=
  A_callS hl hc hd hst hn hm hr (fun v τ' h => by obtain ⟨rfl, rfl⟩ := h; exact k)
theorem A_callN1 {idx n mL2 : Nat} {y : MethodName} {b : ByteArray} {ret2 : Option FieldType} {As rest : List Value} {r : Value} {τ : Sg} (hl : LkB y n b mL2 ret2) (hs : Cond.static y ∈ lw_tbl) (hN : (own, idx, y) ∈ nestR) (hc : CT G d y b mL2 ret2 As σ (R1 r τ)) (hd : decode cc pc = .ok (.invokestatic idx, 3)) (hst : st = As.reverse ++ rest) (hn : As.length = n) (hm : mL2 ≤ 80) (hr : (rest.map fun v => v.category).sum ≤ 8)
    (k : AW G (d + 1) own cc mL ret (pc + 3) ls (r :: rest) τ K) : AW G (d + 1) own cc mL ret pc ls st σ K :=
  A_callN hl hs hN hc hd hst hn hm hr (fun v τ' h => by obtain ⟨rfl, rfl⟩ := h; exact k)
theorem A_callV1 {idx n mL2 c ci : Nat} {fl : List (Nat × Nat)} {y : MethodName} {b : ByteArray} {ret2 : Option FieldType} {As rest : List Value} {r : Value} {τ : Sg} (hl : LkV own idx y n b mL2 ret2) (hs : shp c = .inl (ci, fl)) (hci : (vwCl[ci]?).map (fun q => q.1) = some y.cls) (hc : CT G d y b mL2 ret2 (.ref (gA G c) :: As) σ (R1 r τ)) (hd : decode cc pc = .ok (.invokevirtual idx, 3)) (hst : st = As.reverse ++ .ref (gA G c) :: rest) (hn : As.length = n) (hm : mL2 ≤ 80) (hr : (rest.map fun v => v.category).sum ≤ 8)
    (k : AW G (d + 1) own cc mL ret (pc + 3) ls (r :: rest) τ K) : AW G (d + 1) own cc mL ret pc ls st σ K :=
  A_callV hl hs hci hc hd hst hn hm hr (fun v τ' h => by obtain ⟨rfl, rfl⟩ := h; exact k)
theorem A_callV0 {idx n mL2 c ci : Nat} {fl : List (Nat × Nat)} {y : MethodName} {b : ByteArray} {ret2 : Option FieldType} {As rest : List Value} {τ : Sg} (hl : LkV own idx y n b mL2 ret2) (hs : shp c = .inl (ci, fl)) (hci : (vwCl[ci]?).map (fun q => q.1) = some y.cls) (hc : CT G d y b mL2 ret2 (.ref (gA G c) :: As) σ (R0 τ)) (hd : decode cc pc = .ok (.invokevirtual idx, 3)) (hst : st = As.reverse ++ .ref (gA G c) :: rest) (hn : As.length = n) (hm : mL2 ≤ 80) (hr : (rest.map fun v => v.category).sum ≤ 8)
    (k : AW G (d + 1) own cc mL ret (pc + 3) ls rest τ K) : AW G (d + 1) own cc mL ret pc ls st σ K :=
  A_callV hl hs hci hc hd hst hn hm hr (fun v τ' h => by obtain ⟨rfl, rfl⟩ := h; exact k)
end AWH
end
section
/-! PART 05: truth values, shapes at variable cells, constants -/
def bI (P : Prop) [Decidable P] : Int := if P then 1 else 0
theorem bI_t {P : Prop} [Decidable P] (h : P) : bI P = 1 := if_pos h
theorem bI_f {P : Prop} [Decidable P] (h : ¬ P) : bI P = 0 := if_neg h
theorem bI_or (P : Prop) [Decidable P] : (P ∧ bI P = 1) ∨ (¬ P ∧ bI P = 0) := by
  by_cases h : P
  · exact Or.inl ⟨h, bI_t h⟩
  · exact Or.inr ⟨h, bI_f h⟩
theorem bI_congr {P Q : Prop} [Decidable P] [Decidable Q] (h : P ↔ Q) : bI P = bI Q := by
  by_cases hq : Q
  · rw [bI_t hq, bI_t (h.mpr hq)]
  · rw [bI_f hq, bI_f (fun p => hq (h.mp p))]
theorem nar_b {P : Prop} [Decidable P] : narrow .boolean (.int (iI (bI P))) = .int (iI (bI P)) := by
  rcases bI_or P with ⟨-, h⟩ | ⟨-, h⟩ <;> rw [h] <;> rfl
theorem R1_t {P : Prop} [Decidable P] {σ : Sg} (h : P) : R1 (.int (iI (bI P))) σ (some (.int (iI 1))) σ := ⟨by rw [bI_t h], rfl⟩
theorem R1_f {P : Prop} [Decidable P] {σ : Sg} (h : ¬ P) : R1 (.int (iI (bI P))) σ (some (.int (iI 0))) σ := ⟨by rw [bI_f h], rfl⟩
theorem R1_e {a b : Int} {σ : Sg} (h : a = b) : R1 (.int (iI b)) σ (some (.int (iI a))) σ := ⟨by rw [h], rfl⟩
section AWB
variable {G : Gl} {d : Nat} {own : String} {cc : ByteArray} {mL : Nat} {ret : Option FieldType} {pc : Nat} {ls : List (Nat × Value)} {st : List Value} {σ : Sg} {K : Option Value → Sg → Prop}
theorem A_ifb_eq {P : Prop} [Decidable P] {off : Int} (tgt : Nat) (hd : decode cc pc = .ok (.ifCond .eq off, 3)) (ht : (pc : Int) + off = (tgt : Int)) (kt : ¬ P → AW G d own cc mL ret tgt ls st σ K) (kf : P → AW G d own cc mL ret (pc + 3) ls st σ K) : AW G d own cc mL ret pc ls (.int (iI (bI P)) :: st) σ K := by
  have hb := bI_or P
  refine A_if_eq tgt hd ht (by omega) (by omega) (fun h => kt (fun p => ?_)) (fun h => kf ?_)
  · rw [bI_t p] at h; cases h
  · rcases hb with ⟨h1, -⟩ | ⟨-, h1⟩
    · exact h1
    · exact absurd h1 h
theorem A_ifb_ne {P : Prop} [Decidable P] {off : Int} (tgt : Nat) (hd : decode cc pc = .ok (.ifCond .ne off, 3)) (ht : (pc : Int) + off = (tgt : Int)) (kt : P → AW G d own cc mL ret tgt ls st σ K) (kf : ¬ P → AW G d own cc mL ret (pc + 3) ls st σ K) : AW G d own cc mL ret pc ls (.int (iI (bI P)) :: st) σ K := by
  have hb := bI_or P
  refine A_if_ne tgt hd ht (by omega) (by omega) (fun h => kt ?_) (fun h => kf (fun p => ?_))
  · rcases hb with ⟨h1, -⟩ | ⟨-, h1⟩
    · exact h1
    · exact absurd h1 h
  · rw [bI_t p] at h; cases h
end AWB
/-- the towns' cells, the shelves', the ways' -/
def TC (c : Nat) : Prop := c = 14 ∨ c = 22 ∨ c = 30
def SC (c : Nat) : Prop := ∃ k, k < 8 ∧ c = 38 + 2 * k
def WC (c : Nat) : Prop := c = 8 ∨ c = 10
theorem TC14 : TC 14 := Or.inl rfl
theorem TC22 : TC 22 := Or.inr (Or.inl rfl)
theorem TC30 : TC 30 := Or.inr (Or.inr rfl)
theorem SCk {k : Nat} (h : k < 8) : SC (38 + 2 * k) := ⟨k, h, rfl⟩
theorem WC8 : WC 8 := Or.inl rfl
theorem WC10 : WC 10 := Or.inr rfl
theorem lt8 {k : Nat} (h : k < 8) : k = 0 ∨ k = 1 ∨ k = 2 ∨ k = 3 ∨ k = 4 ∨ k = 5 ∨ k = 6 ∨ k = 7 := by omega
theorem shp_T {c : Nat} (h : TC c) : shp c = .inl (4, [(1, 0), (0, 0), (0, 0), (0, 0), (0, 0), (0, 0), (0, 0), (2, c + 1), (2, c + 2), (2, c + 3), (2, c + 4), (2, c + 5), (2, c + 6), (2, c + 7)]) := by
  rcases h with rfl | rfl | rfl <;> rfl
theorem shp_S {c : Nat} (h : SC c) : shp c = .inl (2, [(0, 0), (0, 0), (2, c + 1)]) := by
  obtain ⟨k, hk, rfl⟩ := h
  rcases lt8 hk with rfl | rfl | rfl | rfl | rfl | rfl | rfl | rfl <;> rfl
theorem shp_S_elements {c : Nat} (h : SC c) : shp (c + 1) = .inr (1, 160) := by
  obtain ⟨k, hk, rfl⟩ := h
  rcases lt8 hk with rfl | rfl | rfl | rfl | rfl | rfl | rfl | rfl <;> rfl
theorem shp_W {c : Nat} (h : WC c) : shp c = .inl (6, [(1, 0), (2, c + 1)]) := by
  rcases h with rfl | rfl <;> rfl
theorem shp_W_prices {c : Nat} (h : WC c) : shp (c + 1) = .inr (0, 49) := by
  rcases h with rfl | rfl <;> rfl
theorem shp_T_paneKind {c : Nat} (h : TC c) : shp (c + 1) = .inr (0, 9) := by
  rcases h with rfl | rfl | rfl <;> rfl
theorem shp_T_paneA {c : Nat} (h : TC c) : shp (c + 2) = .inr (0, 9) := by
  rcases h with rfl | rfl | rfl <;> rfl
theorem shp_T_paneAt {c : Nat} (h : TC c) : shp (c + 3) = .inr (0, 9) := by
  rcases h with rfl | rfl | rfl <;> rfl
theorem shp_T_paneOut {c : Nat} (h : TC c) : shp (c + 4) = .inr (0, 9) := by
  rcases h with rfl | rfl | rfl <;> rfl
theorem shp_T_walkerAt {c : Nat} (h : TC c) : shp (c + 5) = .inr (0, 5) := by
  rcases h with rfl | rfl | rfl <;> rfl
theorem shp_T_walkerFaces {c : Nat} (h : TC c) : shp (c + 6) = .inr (0, 5) := by
  rcases h with rfl | rfl | rfl <;> rfl
theorem shp_T_walkerTried {c : Nat} (h : TC c) : shp (c + 7) = .inr (0, 5) := by
  rcases h with rfl | rfl | rfl <;> rfl
theorem inJ6_265 : Cond.constant RJ6 265 (iI 1431655765) ∈ lw_tbl := (show iI 1431655765 = 1431655765 from by decide) ▸ nJ6_265
theorem inJ6_266 : Cond.constant RJ6 266 (iI 858993459) ∈ lw_tbl := (show iI 858993459 = 858993459 from by decide) ▸ nJ6_266
theorem inJ6_267 : Cond.constant RJ6 267 (iI 252645135) ∈ lw_tbl := (show iI 252645135 = 252645135 from by decide) ▸ nJ6_267
theorem inX7_19 : Cond.constant RX7 19 (iI 1000000) ∈ lw_tbl := (show iI 1000000 = 1000000 from by decide) ▸ nX7_19
theorem inX5_151 : Cond.constant RX5 151 (iI 1103515245) ∈ lw_tbl := (show iI 1103515245 = 1103515245 from by decide) ▸ nX5_151
theorem inX9_244 : Cond.constant RX9 244 (iI 999999) ∈ lw_tbl := (show iI 999999 = 999999 from by decide) ▸ nX9_244
theorem inX9_285 : Cond.constant RX9 285 (iI 1103515245) ∈ lw_tbl := (show iI 1103515245 = 1103515245 from by decide) ▸ nX9_285
theorem fsX8_383 : Cond.fieldLink RX8 383 RX8 "ABOVE" "[I" ∈ lw_tbl := tb_m 356 (by decide +kernel)
theorem fsX1_51 : Cond.fieldLink RX1 51 RX1 "BODIES" "[I" ∈ lw_tbl := tb_m 916 (by decide +kernel)
theorem stX8_isKind : Cond.static yX8_isKind ∈ lw_tbl := tb_m 343 (by decide +kernel)
theorem stX8_isReach : Cond.static yX8_isReach ∈ lw_tbl := tb_m 494 (by decide +kernel)
theorem stX8_above : Cond.static yX8_above ∈ lw_tbl := tb_m 354 (by decide +kernel)
end
section
/-! PART 06: small tests of numbers -/
theorem dX0_isSquare_0 : decode cX0_isSquare 0 = .ok (.iload_n 0, 1) := by decide +kernel
theorem dX0_isSquare_1 : decode cX0_isSquare 1 = .ok (.ifCond .lt 13, 3) := by decide +kernel
theorem dX0_isSquare_4 : decode cX0_isSquare 4 = .ok (.iload_n 0, 1) := by decide +kernel
theorem dX0_isSquare_5 : decode cX0_isSquare 5 = .ok (.bipush 49, 2) := by decide +kernel
theorem dX0_isSquare_7 : decode cX0_isSquare 7 = .ok (.if_icmp .ge 7, 3) := by decide +kernel
theorem dX0_isSquare_10 : decode cX0_isSquare 10 = .ok (.iconst 1, 1) := by decide +kernel
theorem dX0_isSquare_11 : decode cX0_isSquare 11 = .ok (.goto 4, 3) := by decide +kernel
theorem dX0_isSquare_14 : decode cX0_isSquare 14 = .ok (.iconst 0, 1) := by decide +kernel
theorem dX0_isSquare_15 : decode cX0_isSquare 15 = .ok (.ireturn, 1) := by decide +kernel
set_option maxRecDepth 20000 in
theorem c_X0_isSquare {G : Gl} {d : Nat} {σ : Sg} {s : Int} (hs1 : -2147483648 ≤ s) (hs2 : s < 2147483648) : CT G d yX0_isSquare cX0_isSquare 1 (some .boolean) [.int (iI s)] σ (R1 (.int (iI (bI (0 ≤ s ∧ s < 49)))) σ) := by
  refine CT.of (by decide +kernel) (Nat.le_of_ble_eq_true rfl) ?_
  change AW G _ RX0 _ _ _ 0 [(0, .int (iI s))] [] _ _
  refine A_iload_n (pc := 0) dX0_isSquare_0 rfl rfl ?_
  refine A_if_lt (pc := 1) 14 dX0_isSquare_1 (by decide) (by omega) (by omega) (fun h1 => ?_) (fun h1 => ?_)
  · skip
    refine A_iconst (pc := 14) dX0_isSquare_14 ?_
    refine A_zret (pc := 15) rfl rfl dX0_isSquare_15 ?_
    exact R1_f (by omega)
  · skip
    refine A_iload_n (pc := 4) dX0_isSquare_4 rfl rfl ?_
    refine A_bipush (pc := 5) dX0_isSquare_5 (by decide) ?_
    refine A_icmp_ge (pc := 7) 14 dX0_isSquare_7 (by decide) (by omega) (by omega) (by omega) (by omega) (fun h7 => ?_) (fun h7 => ?_)
    · skip
      refine A_iconst (pc := 14) dX0_isSquare_14 ?_
      refine A_zret (pc := 15) rfl rfl dX0_isSquare_15 ?_
      exact R1_f (by omega)
    · skip
      refine A_iconst (pc := 10) dX0_isSquare_10 ?_
      refine A_goto (pc := 11) 15 dX0_isSquare_11 (by decide) ?_
      refine A_zret (pc := 15) rfl rfl dX0_isSquare_15 ?_
      exact R1_t (by omega)
theorem dX0_isWay_0 : decode cX0_isWay 0 = .ok (.iload_n 0, 1) := by decide +kernel
theorem dX0_isWay_1 : decode cX0_isWay 1 = .ok (.ifCond .lt 12, 3) := by decide +kernel
theorem dX0_isWay_4 : decode cX0_isWay 4 = .ok (.iload_n 0, 1) := by decide +kernel
theorem dX0_isWay_5 : decode cX0_isWay 5 = .ok (.iconst 4, 1) := by decide +kernel
theorem dX0_isWay_6 : decode cX0_isWay 6 = .ok (.if_icmp .ge 7, 3) := by decide +kernel
theorem dX0_isWay_9 : decode cX0_isWay 9 = .ok (.iconst 1, 1) := by decide +kernel
theorem dX0_isWay_10 : decode cX0_isWay 10 = .ok (.goto 4, 3) := by decide +kernel
theorem dX0_isWay_13 : decode cX0_isWay 13 = .ok (.iconst 0, 1) := by decide +kernel
theorem dX0_isWay_14 : decode cX0_isWay 14 = .ok (.ireturn, 1) := by decide +kernel
set_option maxRecDepth 20000 in
theorem c_X0_isWay {G : Gl} {d : Nat} {σ : Sg} {s : Int} (hs1 : -2147483648 ≤ s) (hs2 : s < 2147483648) : CT G d yX0_isWay cX0_isWay 1 (some .boolean) [.int (iI s)] σ (R1 (.int (iI (bI (0 ≤ s ∧ s < 4)))) σ) := by
  refine CT.of (by decide +kernel) (Nat.le_of_ble_eq_true rfl) ?_
  change AW G _ RX0 _ _ _ 0 [(0, .int (iI s))] [] _ _
  refine A_iload_n (pc := 0) dX0_isWay_0 rfl rfl ?_
  refine A_if_lt (pc := 1) 13 dX0_isWay_1 (by decide) (by omega) (by omega) (fun h1 => ?_) (fun h1 => ?_)
  · skip
    refine A_iconst (pc := 13) dX0_isWay_13 ?_
    refine A_zret (pc := 14) rfl rfl dX0_isWay_14 ?_
    exact R1_f (by omega)
  · skip
    refine A_iload_n (pc := 4) dX0_isWay_4 rfl rfl ?_
    refine A_iconst (pc := 5) dX0_isWay_5 ?_
    refine A_icmp_ge (pc := 6) 13 dX0_isWay_6 (by decide) (by omega) (by omega) (by omega) (by omega) (fun h6 => ?_) (fun h6 => ?_)
    · skip
      refine A_iconst (pc := 13) dX0_isWay_13 ?_
      refine A_zret (pc := 14) rfl rfl dX0_isWay_14 ?_
      exact R1_f (by omega)
    · skip
      refine A_iconst (pc := 9) dX0_isWay_9 ?_
      refine A_goto (pc := 10) 14 dX0_isWay_10 (by decide) ?_
      refine A_zret (pc := 14) rfl rfl dX0_isWay_14 ?_
      exact R1_t (by omega)
theorem dX0_opposite_0 : decode cX0_opposite 0 = .ok (.iconst 3, 1) := by decide +kernel
theorem dX0_opposite_1 : decode cX0_opposite 1 = .ok (.iload_n 0, 1) := by decide +kernel
theorem dX0_opposite_2 : decode cX0_opposite 2 = .ok (.isub, 1) := by decide +kernel
theorem dX0_opposite_3 : decode cX0_opposite 3 = .ok (.ireturn, 1) := by decide +kernel
set_option maxRecDepth 20000 in
theorem c_X0_opposite {G : Gl} {d : Nat} {σ : Sg} {w : Int} : CT G d yX0_opposite cX0_opposite 1 (some .int) [.int (iI w)] σ (R1 (.int (iI (3 - w))) σ) := by
  refine CT.of (by decide +kernel) (Nat.le_of_ble_eq_true rfl) ?_
  change AW G _ RX0 _ _ _ 0 [(0, .int (iI w))] [] _ _
  refine A_iconst (pc := 0) dX0_opposite_0 ?_
  refine A_iload_n (pc := 1) dX0_opposite_1 rfl rfl ?_
  refine A_isub (pc := 2) dX0_opposite_2 ?_
  refine A_iret (pc := 3) rfl dX0_opposite_3 ?_
  exact ⟨rfl, rfl⟩
theorem dX8_isShelf_0 : decode cX8_isShelf 0 = .ok (.iload_n 0, 1) := by decide +kernel
theorem dX8_isShelf_1 : decode cX8_isShelf 1 = .ok (.ifCond .lt 13, 3) := by decide +kernel
theorem dX8_isShelf_4 : decode cX8_isShelf 4 = .ok (.iload_n 0, 1) := by decide +kernel
theorem dX8_isShelf_5 : decode cX8_isShelf 5 = .ok (.bipush 8, 2) := by decide +kernel
theorem dX8_isShelf_7 : decode cX8_isShelf 7 = .ok (.if_icmp .ge 7, 3) := by decide +kernel
theorem dX8_isShelf_10 : decode cX8_isShelf 10 = .ok (.iconst 1, 1) := by decide +kernel
theorem dX8_isShelf_11 : decode cX8_isShelf 11 = .ok (.goto 4, 3) := by decide +kernel
theorem dX8_isShelf_14 : decode cX8_isShelf 14 = .ok (.iconst 0, 1) := by decide +kernel
theorem dX8_isShelf_15 : decode cX8_isShelf 15 = .ok (.ireturn, 1) := by decide +kernel
set_option maxRecDepth 20000 in
theorem c_X8_isShelf {G : Gl} {d : Nat} {σ : Sg} {s : Int} (hs1 : -2147483648 ≤ s) (hs2 : s < 2147483648) : CT G d yX8_isShelf cX8_isShelf 1 (some .boolean) [.int (iI s)] σ (R1 (.int (iI (bI (0 ≤ s ∧ s < 8)))) σ) := by
  refine CT.of (by decide +kernel) (Nat.le_of_ble_eq_true rfl) ?_
  change AW G _ RX8 _ _ _ 0 [(0, .int (iI s))] [] _ _
  refine A_iload_n (pc := 0) dX8_isShelf_0 rfl rfl ?_
  refine A_if_lt (pc := 1) 14 dX8_isShelf_1 (by decide) (by omega) (by omega) (fun h1 => ?_) (fun h1 => ?_)
  · skip
    refine A_iconst (pc := 14) dX8_isShelf_14 ?_
    refine A_zret (pc := 15) rfl rfl dX8_isShelf_15 ?_
    exact R1_f (by omega)
  · skip
    refine A_iload_n (pc := 4) dX8_isShelf_4 rfl rfl ?_
    refine A_bipush (pc := 5) dX8_isShelf_5 (by decide) ?_
    refine A_icmp_ge (pc := 7) 14 dX8_isShelf_7 (by decide) (by omega) (by omega) (by omega) (by omega) (fun h7 => ?_) (fun h7 => ?_)
    · skip
      refine A_iconst (pc := 14) dX8_isShelf_14 ?_
      refine A_zret (pc := 15) rfl rfl dX8_isShelf_15 ?_
      exact R1_f (by omega)
    · skip
      refine A_iconst (pc := 10) dX8_isShelf_10 ?_
      refine A_goto (pc := 11) 15 dX8_isShelf_11 (by decide) ?_
      refine A_zret (pc := 15) rfl rfl dX8_isShelf_15 ?_
      exact R1_t (by omega)
theorem dX8_isKind_0 : decode cX8_isKind 0 = .ok (.iload_n 0, 1) := by decide +kernel
theorem dX8_isKind_1 : decode cX8_isKind 1 = .ok (.ifCond .lt 13, 3) := by decide +kernel
theorem dX8_isKind_4 : decode cX8_isKind 4 = .ok (.iload_n 0, 1) := by decide +kernel
theorem dX8_isKind_5 : decode cX8_isKind 5 = .ok (.bipush 7, 2) := by decide +kernel
theorem dX8_isKind_7 : decode cX8_isKind 7 = .ok (.if_icmp .ge 7, 3) := by decide +kernel
theorem dX8_isKind_10 : decode cX8_isKind 10 = .ok (.iconst 1, 1) := by decide +kernel
theorem dX8_isKind_11 : decode cX8_isKind 11 = .ok (.goto 4, 3) := by decide +kernel
theorem dX8_isKind_14 : decode cX8_isKind 14 = .ok (.iconst 0, 1) := by decide +kernel
theorem dX8_isKind_15 : decode cX8_isKind 15 = .ok (.ireturn, 1) := by decide +kernel
set_option maxRecDepth 20000 in
theorem c_X8_isKind {G : Gl} {d : Nat} {σ : Sg} {s : Int} (hs1 : -2147483648 ≤ s) (hs2 : s < 2147483648) : CT G d yX8_isKind cX8_isKind 1 (some .boolean) [.int (iI s)] σ (R1 (.int (iI (bI (0 ≤ s ∧ s < 7)))) σ) := by
  refine CT.of (by decide +kernel) (Nat.le_of_ble_eq_true rfl) ?_
  change AW G _ RX8 _ _ _ 0 [(0, .int (iI s))] [] _ _
  refine A_iload_n (pc := 0) dX8_isKind_0 rfl rfl ?_
  refine A_if_lt (pc := 1) 14 dX8_isKind_1 (by decide) (by omega) (by omega) (fun h1 => ?_) (fun h1 => ?_)
  · skip
    refine A_iconst (pc := 14) dX8_isKind_14 ?_
    refine A_zret (pc := 15) rfl rfl dX8_isKind_15 ?_
    exact R1_f (by omega)
  · skip
    refine A_iload_n (pc := 4) dX8_isKind_4 rfl rfl ?_
    refine A_bipush (pc := 5) dX8_isKind_5 (by decide) ?_
    refine A_icmp_ge (pc := 7) 14 dX8_isKind_7 (by decide) (by omega) (by omega) (by omega) (by omega) (fun h7 => ?_) (fun h7 => ?_)
    · skip
      refine A_iconst (pc := 14) dX8_isKind_14 ?_
      refine A_zret (pc := 15) rfl rfl dX8_isKind_15 ?_
      exact R1_f (by omega)
    · skip
      refine A_iconst (pc := 10) dX8_isKind_10 ?_
      refine A_goto (pc := 11) 15 dX8_isKind_11 (by decide) ?_
      refine A_zret (pc := 15) rfl rfl dX8_isKind_15 ?_
      exact R1_t (by omega)
theorem dX8_isReach_0 : decode cX8_isReach 0 = .ok (.iload_n 0, 1) := by decide +kernel
theorem dX8_isReach_1 : decode cX8_isReach 1 = .ok (.iconst 1, 1) := by decide +kernel
theorem dX8_isReach_2 : decode cX8_isReach 2 = .ok (.if_icmp .lt 13, 3) := by decide +kernel
theorem dX8_isReach_5 : decode cX8_isReach 5 = .ok (.iload_n 0, 1) := by decide +kernel
theorem dX8_isReach_6 : decode cX8_isReach 6 = .ok (.bipush 6, 2) := by decide +kernel
theorem dX8_isReach_8 : decode cX8_isReach 8 = .ok (.if_icmp .gt 7, 3) := by decide +kernel
theorem dX8_isReach_11 : decode cX8_isReach 11 = .ok (.iconst 1, 1) := by decide +kernel
theorem dX8_isReach_12 : decode cX8_isReach 12 = .ok (.goto 4, 3) := by decide +kernel
theorem dX8_isReach_15 : decode cX8_isReach 15 = .ok (.iconst 0, 1) := by decide +kernel
theorem dX8_isReach_16 : decode cX8_isReach 16 = .ok (.ireturn, 1) := by decide +kernel
set_option maxRecDepth 20000 in
theorem c_X8_isReach {G : Gl} {d : Nat} {σ : Sg} {s : Int} (hs1 : -2147483648 ≤ s) (hs2 : s < 2147483648) : CT G d yX8_isReach cX8_isReach 1 (some .boolean) [.int (iI s)] σ (R1 (.int (iI (bI (1 ≤ s ∧ s ≤ 6)))) σ) := by
  refine CT.of (by decide +kernel) (Nat.le_of_ble_eq_true rfl) ?_
  change AW G _ RX8 _ _ _ 0 [(0, .int (iI s))] [] _ _
  refine A_iload_n (pc := 0) dX8_isReach_0 rfl rfl ?_
  refine A_iconst (pc := 1) dX8_isReach_1 ?_
  refine A_icmp_lt (pc := 2) 15 dX8_isReach_2 (by decide) (by omega) (by omega) (by omega) (by omega) (fun h2 => ?_) (fun h2 => ?_)
  · skip
    refine A_iconst (pc := 15) dX8_isReach_15 ?_
    refine A_zret (pc := 16) rfl rfl dX8_isReach_16 ?_
    exact R1_f (by omega)
  · skip
    refine A_iload_n (pc := 5) dX8_isReach_5 rfl rfl ?_
    refine A_bipush (pc := 6) dX8_isReach_6 (by decide) ?_
    refine A_icmp_gt (pc := 8) 15 dX8_isReach_8 (by decide) (by omega) (by omega) (by omega) (by omega) (fun h8 => ?_) (fun h8 => ?_)
    · skip
      refine A_iconst (pc := 15) dX8_isReach_15 ?_
      refine A_zret (pc := 16) rfl rfl dX8_isReach_16 ?_
      exact R1_f (by omega)
    · skip
      refine A_iconst (pc := 11) dX8_isReach_11 ?_
      refine A_goto (pc := 12) 16 dX8_isReach_12 (by decide) ?_
      refine A_zret (pc := 16) rfl rfl dX8_isReach_16 ?_
      exact R1_t (by omega)
theorem dX3_isSort_0 : decode cX3_isSort 0 = .ok (.iload_n 0, 1) := by decide +kernel
theorem dX3_isSort_1 : decode cX3_isSort 1 = .ok (.ifCond .lt 12, 3) := by decide +kernel
theorem dX3_isSort_4 : decode cX3_isSort 4 = .ok (.iload_n 0, 1) := by decide +kernel
theorem dX3_isSort_5 : decode cX3_isSort 5 = .ok (.iconst 3, 1) := by decide +kernel
theorem dX3_isSort_6 : decode cX3_isSort 6 = .ok (.if_icmp .gt 7, 3) := by decide +kernel
theorem dX3_isSort_9 : decode cX3_isSort 9 = .ok (.iconst 1, 1) := by decide +kernel
theorem dX3_isSort_10 : decode cX3_isSort 10 = .ok (.goto 4, 3) := by decide +kernel
theorem dX3_isSort_13 : decode cX3_isSort 13 = .ok (.iconst 0, 1) := by decide +kernel
theorem dX3_isSort_14 : decode cX3_isSort 14 = .ok (.ireturn, 1) := by decide +kernel
set_option maxRecDepth 20000 in
theorem c_X3_isSort {G : Gl} {d : Nat} {σ : Sg} {s : Int} (hs1 : -2147483648 ≤ s) (hs2 : s < 2147483648) : CT G d yX3_isSort cX3_isSort 1 (some .boolean) [.int (iI s)] σ (R1 (.int (iI (bI (0 ≤ s ∧ s ≤ 3)))) σ) := by
  refine CT.of (by decide +kernel) (Nat.le_of_ble_eq_true rfl) ?_
  change AW G _ RX3 _ _ _ 0 [(0, .int (iI s))] [] _ _
  refine A_iload_n (pc := 0) dX3_isSort_0 rfl rfl ?_
  refine A_if_lt (pc := 1) 13 dX3_isSort_1 (by decide) (by omega) (by omega) (fun h1 => ?_) (fun h1 => ?_)
  · skip
    refine A_iconst (pc := 13) dX3_isSort_13 ?_
    refine A_zret (pc := 14) rfl rfl dX3_isSort_14 ?_
    exact R1_f (by omega)
  · skip
    refine A_iload_n (pc := 4) dX3_isSort_4 rfl rfl ?_
    refine A_iconst (pc := 5) dX3_isSort_5 ?_
    refine A_icmp_gt (pc := 6) 13 dX3_isSort_6 (by decide) (by omega) (by omega) (by omega) (by omega) (fun h6 => ?_) (fun h6 => ?_)
    · skip
      refine A_iconst (pc := 13) dX3_isSort_13 ?_
      refine A_zret (pc := 14) rfl rfl dX3_isSort_14 ?_
      exact R1_f (by omega)
    · skip
      refine A_iconst (pc := 9) dX3_isSort_9 ?_
      refine A_goto (pc := 10) 14 dX3_isSort_10 (by decide) ?_
      refine A_zret (pc := 14) rfl rfl dX3_isSort_14 ?_
      exact R1_t (by omega)
theorem dX1_isMove_0 : decode cX1_isMove 0 = .ok (.iload_n 0, 1) := by decide +kernel
theorem dX1_isMove_1 : decode cX1_isMove 1 = .ok (.ifCond .lt 12, 3) := by decide +kernel
theorem dX1_isMove_4 : decode cX1_isMove 4 = .ok (.iload_n 0, 1) := by decide +kernel
theorem dX1_isMove_5 : decode cX1_isMove 5 = .ok (.iconst 3, 1) := by decide +kernel
theorem dX1_isMove_6 : decode cX1_isMove 6 = .ok (.if_icmp .ge 7, 3) := by decide +kernel
theorem dX1_isMove_9 : decode cX1_isMove 9 = .ok (.iconst 1, 1) := by decide +kernel
theorem dX1_isMove_10 : decode cX1_isMove 10 = .ok (.goto 4, 3) := by decide +kernel
theorem dX1_isMove_13 : decode cX1_isMove 13 = .ok (.iconst 0, 1) := by decide +kernel
theorem dX1_isMove_14 : decode cX1_isMove 14 = .ok (.ireturn, 1) := by decide +kernel
set_option maxRecDepth 20000 in
theorem c_X1_isMove {G : Gl} {d : Nat} {σ : Sg} {s : Int} (hs1 : -2147483648 ≤ s) (hs2 : s < 2147483648) : CT G d yX1_isMove cX1_isMove 1 (some .boolean) [.int (iI s)] σ (R1 (.int (iI (bI (0 ≤ s ∧ s < 3)))) σ) := by
  refine CT.of (by decide +kernel) (Nat.le_of_ble_eq_true rfl) ?_
  change AW G _ RX1 _ _ _ 0 [(0, .int (iI s))] [] _ _
  refine A_iload_n (pc := 0) dX1_isMove_0 rfl rfl ?_
  refine A_if_lt (pc := 1) 13 dX1_isMove_1 (by decide) (by omega) (by omega) (fun h1 => ?_) (fun h1 => ?_)
  · skip
    refine A_iconst (pc := 13) dX1_isMove_13 ?_
    refine A_zret (pc := 14) rfl rfl dX1_isMove_14 ?_
    exact R1_f (by omega)
  · skip
    refine A_iload_n (pc := 4) dX1_isMove_4 rfl rfl ?_
    refine A_iconst (pc := 5) dX1_isMove_5 ?_
    refine A_icmp_ge (pc := 6) 13 dX1_isMove_6 (by decide) (by omega) (by omega) (by omega) (by omega) (fun h6 => ?_) (fun h6 => ?_)
    · skip
      refine A_iconst (pc := 13) dX1_isMove_13 ?_
      refine A_zret (pc := 14) rfl rfl dX1_isMove_14 ?_
      exact R1_f (by omega)
    · skip
      refine A_iconst (pc := 9) dX1_isMove_9 ?_
      refine A_goto (pc := 10) 14 dX1_isMove_10 (by decide) ?_
      refine A_zret (pc := 14) rfl rfl dX1_isMove_14 ?_
      exact R1_t (by omega)
theorem dX9_within_0 : decode cX9_within 0 = .ok (.iload_n 0, 1) := by decide +kernel
theorem dX9_within_1 : decode cX9_within 1 = .ok (.iload_n 1, 1) := by decide +kernel
theorem dX9_within_2 : decode cX9_within 2 = .ok (.if_icmp .lt 12, 3) := by decide +kernel
theorem dX9_within_5 : decode cX9_within 5 = .ok (.iload_n 0, 1) := by decide +kernel
theorem dX9_within_6 : decode cX9_within 6 = .ok (.iload_n 2, 1) := by decide +kernel
theorem dX9_within_7 : decode cX9_within 7 = .ok (.if_icmp .gt 7, 3) := by decide +kernel
theorem dX9_within_10 : decode cX9_within 10 = .ok (.iconst 1, 1) := by decide +kernel
theorem dX9_within_11 : decode cX9_within 11 = .ok (.goto 4, 3) := by decide +kernel
theorem dX9_within_14 : decode cX9_within 14 = .ok (.iconst 0, 1) := by decide +kernel
theorem dX9_within_15 : decode cX9_within 15 = .ok (.ireturn, 1) := by decide +kernel
set_option maxRecDepth 20000 in
theorem c_X9_within {G : Gl} {d : Nat} {σ : Sg} {v : Int} (hv1 : -2147483648 ≤ v) (hv2 : v < 2147483648) {a : Int} (ha1 : -2147483648 ≤ a) (ha2 : a < 2147483648) {b : Int} (hb1 : -2147483648 ≤ b) (hb2 : b < 2147483648) : CT G d yX9_within cX9_within 3 (some .boolean) [.int (iI v), .int (iI a), .int (iI b)] σ (R1 (.int (iI (bI (a ≤ v ∧ v ≤ b)))) σ) := by
  refine CT.of (by decide +kernel) (Nat.le_of_ble_eq_true rfl) ?_
  change AW G _ RX9 _ _ _ 0 [(0, .int (iI v)), (1, .int (iI a)), (2, .int (iI b))] [] _ _
  refine A_iload_n (pc := 0) dX9_within_0 rfl rfl ?_
  refine A_iload_n (pc := 1) dX9_within_1 rfl rfl ?_
  refine A_icmp_lt (pc := 2) 14 dX9_within_2 (by decide) (by omega) (by omega) (by omega) (by omega) (fun h2 => ?_) (fun h2 => ?_)
  · skip
    refine A_iconst (pc := 14) dX9_within_14 ?_
    refine A_zret (pc := 15) rfl rfl dX9_within_15 ?_
    exact R1_f (by omega)
  · skip
    refine A_iload_n (pc := 5) dX9_within_5 rfl rfl ?_
    refine A_iload_n (pc := 6) dX9_within_6 rfl rfl ?_
    refine A_icmp_gt (pc := 7) 14 dX9_within_7 (by decide) (by omega) (by omega) (by omega) (by omega) (fun h7 => ?_) (fun h7 => ?_)
    · skip
      refine A_iconst (pc := 14) dX9_within_14 ?_
      refine A_zret (pc := 15) rfl rfl dX9_within_15 ?_
      exact R1_f (by omega)
    · skip
      refine A_iconst (pc := 10) dX9_within_10 ?_
      refine A_goto (pc := 11) 15 dX9_within_11 (by decide) ?_
      refine A_zret (pc := 15) rfl rfl dX9_within_15 ?_
      exact R1_t (by omega)
end
section
/-! PART 07: bits; sets of squares as numbers (the family wb_ is pasted from kit/laws) -/
/-! ===== lN n to 2^64: shifts, and, or, masks, one bit ===== -/
theorem wb_tb (n : Nat) : (lN n).toBitVec = BitVec.ofNat 64 n := rfl
theorem wb_inj {a b : Int64} (h : a.toBitVec = b.toBitVec) : a = b := Int64.toBitVec_inj.mp h
theorem wb_tn {n : Nat} (h : n < 2 ^ 64) : (lN n).toBitVec.toNat = n := by rw [wb_tb, BitVec.toNat_ofNat, Nat.mod_eq_of_lt h]
theorem wb_of (x : Int64) : ∃ n, n < 2 ^ 64 ∧ x = lN n := ⟨x.toBitVec.toNat, x.toBitVec.isLt, wb_inj (by rw [wb_tb]; simp)⟩
theorem wb_of32 (x : Int32) : ∃ n, n < 2 ^ 32 ∧ x = nI n := ⟨x.toBitVec.toNat, x.toBitVec.isLt, Int32.toBitVec_inj.mp (by show _ = BitVec.ofNat 32 _; simp)⟩
theorem wb_c : ∀ k, k < 64 → ((nI k).toInt64 &&& 63) = lN k := by decide +kernel
theorem wb_cu : ∀ k, k < 64 → ((nI k).toInt64.toUInt64 &&& Int64.toUInt64 63) = UInt64.ofNat k := by decide +kernel
theorem wb_sm : ∀ k, k < 64 → (BitVec.ofNat 64 k).smod 64 = BitVec.ofNat 64 k := by decide +kernel
theorem wb_pw {a b : Nat} (h : a ≤ b) : 2 ^ b = 2 ^ a * 2 ^ (b - a) := by rw [← Nat.pow_add]; congr 1; omega
theorem wb_lt2 {a b : Nat} (h : a < b) : 2 ^ a < 2 ^ b := Nat.pow_lt_pow_right (by decide) h
theorem wb_mod (n : Nat) : lN n = lN (n % 2 ^ 64) := wb_inj (by rw [wb_tb, wb_tb]; apply BitVec.eq_of_toNat_eq; rw [BitVec.toNat_ofNat, BitVec.toNat_ofNat, Nat.mod_mod])
theorem wb_shr {n k : Nat} (hn : n < 2 ^ 64) (hk : k < 64) : ((lN n).toUInt64 >>> ((nI k).toInt64.toUInt64 &&& Int64.toUInt64 63)).toInt64 = lN (n / 2 ^ k) := by
  rw [wb_cu k hk]
  apply wb_inj
  apply BitVec.eq_of_toNat_eq
  show ((lN n).toUInt64 >>> UInt64.ofNat k).toNat = (BitVec.ofNat 64 _).toNat
  have h1 : (UInt64.ofNat k).toNat = k := by
    show (BitVec.ofNat 64 k).toNat = k
    rw [BitVec.toNat_ofNat, Nat.mod_eq_of_lt (by omega)]
  have h2 : (lN n).toUInt64.toNat = n := wb_tn hn
  rw [UInt64.toNat_shiftRight, h1, h2, Nat.mod_eq_of_lt hk, Nat.shiftRight_eq_div_pow, BitVec.toNat_ofNat, Nat.mod_eq_of_lt (Nat.lt_of_le_of_lt (Nat.div_le_self _ _) hn)]
theorem wb_shl (n : Nat) {k : Nat} (hk : k < 64) : lN n <<< ((nI k).toInt64 &&& 63) = lN (n * 2 ^ k) := by
  rw [wb_c k hk]
  apply wb_inj
  rw [Int64.toBitVec_shiftLeft, wb_tb, wb_tb, wb_tb, wb_sm k hk]
  apply BitVec.eq_of_toNat_eq
  rw [BitVec.shiftLeft_eq', BitVec.toNat_shiftLeft, BitVec.toNat_ofNat, BitVec.toNat_ofNat, BitVec.toNat_ofNat, Nat.mod_eq_of_lt (show k < 2 ^ 64 by omega), Nat.shiftLeft_eq, Nat.mul_mod, Nat.mod_mod, ← Nat.mul_mod]
theorem wb_and {a b : Nat} (ha : a < 2 ^ 64) (hb : b < 2 ^ 64) : lN a &&& lN b = lN (a &&& b) := by
  apply wb_inj
  rw [Int64.toBitVec_and, wb_tb, wb_tb, wb_tb]
  apply BitVec.eq_of_toNat_eq
  rw [BitVec.toNat_and, BitVec.toNat_ofNat, BitVec.toNat_ofNat, BitVec.toNat_ofNat, Nat.mod_eq_of_lt ha, Nat.mod_eq_of_lt hb, Nat.mod_eq_of_lt (Nat.and_lt_two_pow _ hb)]
theorem wb_or {a b : Nat} (ha : a < 2 ^ 64) (hb : b < 2 ^ 64) : lN a ||| lN b = lN (a ||| b) := by
  apply wb_inj
  rw [Int64.toBitVec_or, wb_tb, wb_tb, wb_tb]
  apply BitVec.eq_of_toNat_eq
  rw [BitVec.toNat_or, BitVec.toNat_ofNat, BitVec.toNat_ofNat, BitVec.toNat_ofNat, Nat.mod_eq_of_lt ha, Nat.mod_eq_of_lt hb, Nat.mod_eq_of_lt (Nat.or_lt_two_pow ha hb)]
theorem wb_mask {n k : Nat} (hn : n < 2 ^ 64) (hk : k < 64) : lN n &&& lN (2 ^ k - 1) = lN (n % 2 ^ k) := by
  rw [wb_and hn (by have := wb_lt2 hk; omega), Nat.and_two_pow_sub_one_eq_mod]
theorem wb_a1 {n : Nat} (hn : n < 2 ^ 64) : lN n &&& 1 = lN (n % 2) := wb_mask (k := 1) hn (by decide)
theorem wb_bit {n k : Nat} (hn : n < 2 ^ 64) (hk : k < 64) : ((lN n).toUInt64 >>> ((nI k).toInt64.toUInt64 &&& Int64.toUInt64 63)).toInt64 &&& 1 = lN (n / 2 ^ k % 2) := by
  rw [wb_shr hn hk, wb_a1 (Nat.lt_of_le_of_lt (Nat.div_le_self _ _) hn)]
theorem wb_xor {q k : Nat} (hk : k < 63) (h : 2 ^ k ≤ q) (h2 : q < 2 ^ (k + 1)) : lN q ^^^ lN (2 ^ k) = lN (q - 2 ^ k) := by
  obtain ⟨r, rfl⟩ : ∃ r, q = 2 ^ k + r := ⟨q - 2 ^ k, by omega⟩
  have hr : r < 2 ^ k := by rw [Nat.pow_succ] at h2; omega
  have hx : (2 ^ k + r) ^^^ 2 ^ k = r := by
    apply Nat.eq_of_testBit_eq
    intro i
    rw [Nat.testBit_xor, Nat.testBit_two_pow]
    rcases Nat.lt_trichotomy i k with h | h | h
    · rw [Nat.testBit_two_pow_add_gt h]
      simp [show ¬ k = i by omega]
    · subst h
      rw [Nat.testBit_two_pow_add_eq]
      simp
    · have a1 : 2 ^ (k + 1) ≤ 2 ^ i := Nat.pow_le_pow_right (by decide) h
      rw [Nat.testBit_lt_two_pow (show 2 ^ k + r < 2 ^ i by omega), Nat.testBit_lt_two_pow (show r < 2 ^ i by omega)]
      simp [show ¬ k = i by omega]
  have b1 := wb_lt2 (show k + 1 < 64 by omega)
  have b2 := wb_lt2 (show k < 64 by omega)
  apply wb_inj
  rw [Int64.toBitVec_xor, wb_tb, wb_tb, wb_tb]
  apply BitVec.eq_of_toNat_eq
  rw [BitVec.toNat_xor, BitVec.toNat_ofNat, BitVec.toNat_ofNat, BitVec.toNat_ofNat, Nat.mod_eq_of_lt (by omega : 2 ^ k + r < 2 ^ 64), Nat.mod_eq_of_lt b2, hx, Nat.add_sub_cancel_left, Nat.mod_eq_of_lt (by omega)]
abbrev inS (s : Int) : Prop := 0 ≤ s ∧ s < 49
/-- a square is in a set -/
abbrev sT (h : Nat) (s : Int) : Prop := 0 ≤ s ∧ s < 49 ∧ h.testBit s.toNat = true
def sqB (s : Int) : Nat := if inS s then 2 ^ s.toNat else 0
theorem pow49 : (2 : Nat) ^ 49 = 562949953421312 := by decide
theorem pow64 : (2 : Nat) ^ 64 = 18446744073709551616 := by decide
theorem lt64 {h : Nat} (hh : h < 2 ^ 49) : h < 2 ^ 64 := by rw [pow49] at hh; rw [pow64]; omega
theorem sqB_lt (s : Int) : sqB s < 2 ^ 49 := by
  unfold sqB
  by_cases h : inS s
  · rw [if_pos h]; exact Nat.pow_lt_pow_right (by decide) (by omega)
  · rw [if_neg h]; decide
theorem or49 {a b : Nat} (ha : a < 2 ^ 49) (hb : b < 2 ^ 49) : a ||| b < 2 ^ 49 := Nat.or_lt_two_pow ha hb
theorem and49 {a b : Nat} (ha : a < 2 ^ 49) : a &&& b < 2 ^ 49 := Nat.lt_of_le_of_lt Nat.and_le_left ha
theorem tb_dec (h k : Nat) : h.testBit k = decide (h / 2 ^ k % 2 = 1) := Nat.testBit_eq_decide_div_mod_eq
theorem shr_L {h k : Nat} (hh : h < 2 ^ 49) (hk : k < 64) : ((lN h).toUInt64 >>> ((iI (k : Int)).toInt64.toUInt64 &&& Int64.toUInt64 63)).toInt64 = lN (h / 2 ^ k) := by
  rw [iI_n]; exact wb_shr (lt64 hh) hk
theorem lcm_bit {h k : Nat} (hh : h < 2 ^ 49) : lcm (lN (h / 2 ^ k) &&& 1) 0 = bI (h.testBit k = true) := by
  rw [wb_a1 (Nat.lt_of_le_of_lt (Nat.div_le_self _ _) (lt64 hh)), tb_dec]
  rcases Nat.mod_two_eq_zero_or_one (h / 2 ^ k) with e | e
  · rw [e]; decide
  · rw [e]; decide
theorem shl_L {k : Nat} (hk : k < 64) : (1 : Int64) <<< ((iI (k : Int)).toInt64 &&& 63) = lN (2 ^ k) := by
  rw [iI_n]
  have e := wb_shl 1 hk
  rw [Nat.one_mul] at e
  exact e
theorem or_L {a b : Nat} (ha : a < 2 ^ 49) (hb : b < 2 ^ 49) : lN a ||| lN b = lN (a ||| b) := wb_or (lt64 ha) (lt64 hb)
theorem and_L {a b : Nat} (ha : a < 2 ^ 49) (hb : b < 2 ^ 49) : lN a &&& lN b = lN (a &&& b) := wb_and (lt64 ha) (lt64 hb)
/-- taking a set away -/
def nB (a b : Nat) : Nat := a ^^^ (a &&& b)
theorem nB_bit (a b i : Nat) : (nB a b).testBit i = (a.testBit i && !b.testBit i) := by
  unfold nB
  rw [Nat.testBit_xor, Nat.testBit_and]
  cases a.testBit i <;> cases b.testBit i <;> rfl
theorem nB_lt {a b : Nat} (ha : a < 2 ^ 49) : nB a b < 2 ^ 49 := Nat.xor_lt_two_pow ha (and49 ha)
theorem andn_L {a b : Nat} (ha : a < 2 ^ 49) (hb : b < 2 ^ 49) : lN a &&& (lN b ^^^ (-1)) = lN (nB a b) := by
  apply wb_inj
  rw [Int64.toBitVec_and, Int64.toBitVec_xor, wb_tb, wb_tb, wb_tb]
  apply BitVec.eq_of_getLsbD_eq
  intro i hi
  rw [BitVec.getLsbD_and, BitVec.getLsbD_xor, BitVec.getLsbD_ofNat, BitVec.getLsbD_ofNat, BitVec.getLsbD_ofNat, nB_bit]
  have e : ((-1 : Int64).toBitVec).getLsbD i = true := by
    have : (-1 : Int64).toBitVec = BitVec.allOnes 64 := by decide
    rw [this, BitVec.getLsbD_allOnes]
    simpa using hi
  rw [e]
  simp [hi]
/-- the square beside -/
def bes (c w : Int) : Int := if c < 0 ∨ 49 ≤ c then -1 else if w = 0 then (if c < 7 then -1 else c - 7) else if w = 1 then (if c % 7 ≤ 0 then -1 else c - 1) else if w = 2 then (if 6 ≤ c % 7 then -1 else c + 1) else if w = 3 then (if 42 ≤ c then -1 else c + 7) else -1
theorem bes_rng (c w : Int) : -1 ≤ bes c w ∧ bes c w ≤ 48 := by
  unfold bes
  (repeat' split) <;> omega
theorem bes_out {c w : Int} (h : c < 0) : bes c w = -1 := by
  unfold bes
  rw [if_pos (Or.inl h)]
/-- the squares from one on, straight, up to a house or the edge -/
def lineG (h : Nat) (w : Int) : Nat → Int → Nat
  | 0, _ => 0
  | n + 1, a => if a < 0 ∨ sT h a then 0 else 2 ^ a.toNat ||| lineG h w n (bes a w)
theorem pow_lt49 {a : Int} (h1 : 0 ≤ a) (h2 : a < 49) : 2 ^ a.toNat < 2 ^ 49 := Nat.pow_lt_pow_right (by decide) (by omega)
theorem lineG_lt (h : Nat) (w : Int) : ∀ (n : Nat) (a : Int), a < 49 → lineG h w n a < 2 ^ 49
  | 0, _, _ => by unfold lineG; decide
  | n + 1, a, ha => by
    unfold lineG
    by_cases c : a < 0 ∨ sT h a
    · rw [if_pos c]; decide
    · rw [if_neg c]
      exact or49 (pow_lt49 (by omega) ha) (lineG_lt h w n _ (by have := bes_rng a w; omega))
/-- a square without house -/
def opB (h : Nat) (a : Int) : Nat := if inS a ∧ ¬ sT h a then 2 ^ a.toNat else 0
theorem opB_lt (h : Nat) (a : Int) : opB h a < 2 ^ 49 := by
  unfold opB
  by_cases c : inS a ∧ ¬ sT h a
  · rw [if_pos c]; exact pow_lt49 (by omega) (by omega)
  · rw [if_neg c]; decide
/-- those beside, across -/
def acrG (h : Nat) (c w : Int) : Nat → Int → Nat
  | 0, _ => 0
  | n + 1, s => (if s ≠ w ∧ s ≠ 3 - w then opB h (bes c s) else 0) ||| acrG h c w n (s + 1)
theorem acrG_lt (h : Nat) (c w : Int) : ∀ (n : Nat) (s : Int), acrG h c w n s < 2 ^ 49
  | 0, _ => by unfold acrG; decide
  | n + 1, s => by
    unfold acrG
    refine or49 ?_ (acrG_lt h c w n (s + 1))
    by_cases q : s ≠ w ∧ s ≠ 3 - w
    · rw [if_pos q]; exact opB_lt _ _
    · rw [if_neg q]; decide
def acr (h : Nat) (c w : Int) : Nat := acrG h c w 4 0
theorem acr_lt (h : Nat) (c w : Int) : acr h c w < 2 ^ 49 := acrG_lt h c w 4 0
/-- what is beside the first squares of a line L -/
def wideT (L h : Nat) (w : Int) : Nat → Int → Nat
  | 0, _ => 0
  | n + 1, a => (if sT L (bes a w) then acr h (bes a w) w else 0) ||| wideT L h w n (bes a w)
theorem wideT_lt (L h : Nat) (w : Int) : ∀ (n : Nat) (a : Int), wideT L h w n a < 2 ^ 49
  | 0, _ => by unfold wideT; decide
  | n + 1, a => by
    unfold wideT
    refine or49 ?_ (wideT_lt L h w n _)
    by_cases q : sT L (bes a w)
    · rw [if_pos q]; exact acr_lt _ _ _
    · rw [if_neg q]; decide
def lineX (h : Nat) (f w r : Int) : Nat := lineG h w r.toNat (bes f w)
theorem lineX_lt (h : Nat) (f w r : Int) : lineX h f w r < 2 ^ 49 := lineG_lt _ _ _ _ (by have := bes_rng f w; omega)
def wideX (h : Nat) (f w r : Int) : Nat := lineX h f w r ||| wideT (lineX h f w r) h w 2 f
theorem wideX_lt (h : Nat) (f w r : Int) : wideX h f w r < 2 ^ 49 := or49 (lineX_lt _ _ _ _) (wideT_lt _ _ _ _ _)
end
section
/-! PART 08: WindowsLookedOut$Grid -/
theorem dX0_has_0 : decode cX0_has 0 = .ok (.iload_n 2, 1) := by decide +kernel
theorem dX0_has_1 : decode cX0_has 1 = .ok (.ifCond .lt 23, 3) := by decide +kernel
theorem dX0_has_4 : decode cX0_has 4 = .ok (.iload_n 2, 1) := by decide +kernel
theorem dX0_has_5 : decode cX0_has 5 = .ok (.bipush 49, 2) := by decide +kernel
theorem dX0_has_7 : decode cX0_has 7 = .ok (.if_icmp .ge 17, 3) := by decide +kernel
theorem dX0_has_10 : decode cX0_has 10 = .ok (.lload_n 0, 1) := by decide +kernel
theorem dX0_has_11 : decode cX0_has 11 = .ok (.iload_n 2, 1) := by decide +kernel
theorem dX0_has_12 : decode cX0_has 12 = .ok (.lushr, 1) := by decide +kernel
theorem dX0_has_13 : decode cX0_has 13 = .ok (.lconst 1, 1) := by decide +kernel
theorem dX0_has_14 : decode cX0_has 14 = .ok (.land, 1) := by decide +kernel
theorem dX0_has_15 : decode cX0_has 15 = .ok (.lconst 0, 1) := by decide +kernel
theorem dX0_has_16 : decode cX0_has 16 = .ok (.lcmp, 1) := by decide +kernel
theorem dX0_has_17 : decode cX0_has 17 = .ok (.ifCond .eq 7, 3) := by decide +kernel
theorem dX0_has_20 : decode cX0_has 20 = .ok (.iconst 1, 1) := by decide +kernel
theorem dX0_has_21 : decode cX0_has 21 = .ok (.goto 4, 3) := by decide +kernel
theorem dX0_has_24 : decode cX0_has 24 = .ok (.iconst 0, 1) := by decide +kernel
theorem dX0_has_25 : decode cX0_has 25 = .ok (.ireturn, 1) := by decide +kernel
set_option maxRecDepth 20000 in
theorem c_X0_has {G : Gl} {d : Nat} {σ : Sg} {h : Nat} (hh : h < 2 ^ 49) {s : Int} (hs1 : -2147483648 ≤ s) (hs2 : s < 2147483648) : CT G d yX0_has cX0_has 3 (some .boolean) [.long (lN h), .int (iI s)] σ (R1 (.int (iI (bI (sT h s)))) σ) := by
  refine CT.of (by decide +kernel) (Nat.le_of_ble_eq_true rfl) ?_
  change AW G _ RX0 _ _ _ 0 [(0, .long (lN h)), (2, .int (iI s))] [] _ _
  refine A_iload_n (pc := 0) dX0_has_0 rfl rfl ?_
  refine A_if_lt (pc := 1) 24 dX0_has_1 (by decide) (by omega) (by omega) (fun h1 => ?_) (fun h1 => ?_)
  · skip
    refine A_iconst (pc := 24) dX0_has_24 ?_
    refine A_zret (pc := 25) rfl rfl dX0_has_25 ?_
    exact R1_f (by omega)
  · skip
    refine A_iload_n (pc := 4) dX0_has_4 rfl rfl ?_
    refine A_bipush (pc := 5) dX0_has_5 (by decide) ?_
    refine A_icmp_ge (pc := 7) 24 dX0_has_7 (by decide) (by omega) (by omega) (by omega) (by omega) (fun h7 => ?_) (fun h7 => ?_)
    · skip
      refine A_iconst (pc := 24) dX0_has_24 ?_
      refine A_zret (pc := 25) rfl rfl dX0_has_25 ?_
      exact R1_f (by omega)
    · skip
      refine A_lload_n (pc := 10) dX0_has_10 rfl rfl ?_
      refine A_iload_n (pc := 11) dX0_has_11 rfl rfl ?_
      obtain ⟨k, rfl⟩ := Int.eq_ofNat_of_zero_le (show 0 ≤ s by omega)
      refine A_lushr (pc := 12) (lN (h / 2 ^ k)) dX0_has_12 (shr_L hh (by omega)) ?_
      refine A_lconst (pc := 13) 1 dX0_has_13 rfl ?_
      refine A_land (pc := 14) dX0_has_14 ?_
      refine A_lconst (pc := 15) 0 dX0_has_15 rfl ?_
      refine A_lcmp (pc := 16) dX0_has_16 ?_
      rw [lcm_bit hh]
      refine A_ifb_eq (pc := 17) 24 dX0_has_17 (by decide) (fun h17 => ?_) (fun h17 => ?_)
      · skip
        refine A_iconst (pc := 24) dX0_has_24 ?_
        refine A_zret (pc := 25) rfl rfl dX0_has_25 ?_
        exact R1_f (fun q => h17 q.2.2)
      · skip
        refine A_iconst (pc := 20) dX0_has_20 ?_
        refine A_goto (pc := 21) 25 dX0_has_21 (by decide) ?_
        refine A_zret (pc := 25) rfl rfl dX0_has_25 ?_
        exact R1_t ⟨by omega, by omega, h17⟩
theorem dX0_with_0 : decode cX0_with 0 = .ok (.iload_n 2, 1) := by decide +kernel
theorem dX0_with_1 : decode cX0_with 1 = .ok (.ifCond .lt 17, 3) := by decide +kernel
theorem dX0_with_4 : decode cX0_with 4 = .ok (.iload_n 2, 1) := by decide +kernel
theorem dX0_with_5 : decode cX0_with 5 = .ok (.bipush 49, 2) := by decide +kernel
theorem dX0_with_7 : decode cX0_with 7 = .ok (.if_icmp .ge 11, 3) := by decide +kernel
theorem dX0_with_10 : decode cX0_with 10 = .ok (.lload_n 0, 1) := by decide +kernel
theorem dX0_with_11 : decode cX0_with 11 = .ok (.lconst 1, 1) := by decide +kernel
theorem dX0_with_12 : decode cX0_with 12 = .ok (.iload_n 2, 1) := by decide +kernel
theorem dX0_with_13 : decode cX0_with 13 = .ok (.lshl, 1) := by decide +kernel
theorem dX0_with_14 : decode cX0_with 14 = .ok (.lor, 1) := by decide +kernel
theorem dX0_with_15 : decode cX0_with 15 = .ok (.goto 4, 3) := by decide +kernel
theorem dX0_with_18 : decode cX0_with 18 = .ok (.lload_n 0, 1) := by decide +kernel
theorem dX0_with_19 : decode cX0_with 19 = .ok (.lreturn, 1) := by decide +kernel
set_option maxRecDepth 20000 in
theorem c_X0_with {G : Gl} {d : Nat} {σ : Sg} {h : Nat} (hh : h < 2 ^ 49) {s : Int} (hs1 : -2147483648 ≤ s) (hs2 : s < 2147483648) : CT G d yX0_with cX0_with 3 (some .long) [.long (lN h), .int (iI s)] σ (R1 (.long (lN (h ||| sqB s))) σ) := by
  refine CT.of (by decide +kernel) (Nat.le_of_ble_eq_true rfl) ?_
  change AW G _ RX0 _ _ _ 0 [(0, .long (lN h)), (2, .int (iI s))] [] _ _
  refine A_iload_n (pc := 0) dX0_with_0 rfl rfl ?_
  refine A_if_lt (pc := 1) 18 dX0_with_1 (by decide) (by omega) (by omega) (fun h1 => ?_) (fun h1 => ?_)
  · skip
    refine A_lload_n (pc := 18) dX0_with_18 rfl rfl ?_
    refine A_lret (pc := 19) rfl dX0_with_19 ?_
    exact ⟨by rw [sqB, if_neg (by omega), Nat.or_zero], rfl⟩
  · skip
    refine A_iload_n (pc := 4) dX0_with_4 rfl rfl ?_
    refine A_bipush (pc := 5) dX0_with_5 (by decide) ?_
    refine A_icmp_ge (pc := 7) 18 dX0_with_7 (by decide) (by omega) (by omega) (by omega) (by omega) (fun h7 => ?_) (fun h7 => ?_)
    · skip
      refine A_lload_n (pc := 18) dX0_with_18 rfl rfl ?_
      refine A_lret (pc := 19) rfl dX0_with_19 ?_
      exact ⟨by rw [sqB, if_neg (by omega), Nat.or_zero], rfl⟩
    · skip
      refine A_lload_n (pc := 10) dX0_with_10 rfl rfl ?_
      refine A_lconst (pc := 11) 1 dX0_with_11 rfl ?_
      refine A_iload_n (pc := 12) dX0_with_12 rfl rfl ?_
      obtain ⟨k, rfl⟩ := Int.eq_ofNat_of_zero_le (show 0 ≤ s by omega)
      refine A_lshl (pc := 13) (lN (2 ^ k)) dX0_with_13 (shl_L (by omega)) ?_
      refine A_lor (pc := 14) dX0_with_14 ?_
      refine A_goto (pc := 15) 19 dX0_with_15 (by decide) ?_
      refine A_lret (pc := 19) rfl dX0_with_19 ?_
      exact ⟨by rw [or_L hh (Nat.pow_lt_pow_right (by decide) (by omega)), sqB, if_pos (by omega)]; rfl, rfl⟩
theorem dX0_without_0 : decode cX0_without 0 = .ok (.iload_n 2, 1) := by decide +kernel
theorem dX0_without_1 : decode cX0_without 1 = .ok (.ifCond .lt 21, 3) := by decide +kernel
theorem dX0_without_4 : decode cX0_without 4 = .ok (.iload_n 2, 1) := by decide +kernel
theorem dX0_without_5 : decode cX0_without 5 = .ok (.bipush 49, 2) := by decide +kernel
theorem dX0_without_7 : decode cX0_without 7 = .ok (.if_icmp .ge 15, 3) := by decide +kernel
theorem dX0_without_10 : decode cX0_without 10 = .ok (.lload_n 0, 1) := by decide +kernel
theorem dX0_without_11 : decode cX0_without 11 = .ok (.lconst 1, 1) := by decide +kernel
theorem dX0_without_12 : decode cX0_without 12 = .ok (.iload_n 2, 1) := by decide +kernel
theorem dX0_without_13 : decode cX0_without 13 = .ok (.lshl, 1) := by decide +kernel
theorem dX0_without_14 : decode cX0_without 14 = .ok (.ldc2_w 9, 3) := by decide +kernel
theorem dX0_without_17 : decode cX0_without 17 = .ok (.lxor, 1) := by decide +kernel
theorem dX0_without_18 : decode cX0_without 18 = .ok (.land, 1) := by decide +kernel
theorem dX0_without_19 : decode cX0_without 19 = .ok (.goto 4, 3) := by decide +kernel
theorem dX0_without_22 : decode cX0_without 22 = .ok (.lload_n 0, 1) := by decide +kernel
theorem dX0_without_23 : decode cX0_without 23 = .ok (.lreturn, 1) := by decide +kernel
set_option maxRecDepth 20000 in
theorem c_X0_without {G : Gl} {d : Nat} {σ : Sg} {h : Nat} (hh : h < 2 ^ 49) {s : Int} (hs1 : -2147483648 ≤ s) (hs2 : s < 2147483648) : CT G d yX0_without cX0_without 3 (some .long) [.long (lN h), .int (iI s)] σ (R1 (.long (lN (nB h (sqB s)))) σ) := by
  refine CT.of (by decide +kernel) (Nat.le_of_ble_eq_true rfl) ?_
  change AW G _ RX0 _ _ _ 0 [(0, .long (lN h)), (2, .int (iI s))] [] _ _
  refine A_iload_n (pc := 0) dX0_without_0 rfl rfl ?_
  refine A_if_lt (pc := 1) 22 dX0_without_1 (by decide) (by omega) (by omega) (fun h1 => ?_) (fun h1 => ?_)
  · skip
    refine A_lload_n (pc := 22) dX0_without_22 rfl rfl ?_
    refine A_lret (pc := 23) rfl dX0_without_23 ?_
    exact ⟨by rw [sqB, if_neg (by omega)]; simp [nB], rfl⟩
  · skip
    refine A_iload_n (pc := 4) dX0_without_4 rfl rfl ?_
    refine A_bipush (pc := 5) dX0_without_5 (by decide) ?_
    refine A_icmp_ge (pc := 7) 22 dX0_without_7 (by decide) (by omega) (by omega) (by omega) (by omega) (fun h7 => ?_) (fun h7 => ?_)
    · skip
      refine A_lload_n (pc := 22) dX0_without_22 rfl rfl ?_
      refine A_lret (pc := 23) rfl dX0_without_23 ?_
      exact ⟨by rw [sqB, if_neg (by omega)]; simp [nB], rfl⟩
    · skip
      refine A_lload_n (pc := 10) dX0_without_10 rfl rfl ?_
      refine A_lconst (pc := 11) 1 dX0_without_11 rfl ?_
      refine A_iload_n (pc := 12) dX0_without_12 rfl rfl ?_
      obtain ⟨k, rfl⟩ := Int.eq_ofNat_of_zero_le (show 0 ≤ s by omega)
      refine A_lshl (pc := 13) (lN (2 ^ k)) dX0_without_13 (shl_L (by omega)) ?_
      refine A_ldc2 (pc := 14) nX0_9 dX0_without_14 ?_
      refine A_lxor (pc := 17) dX0_without_17 ?_
      refine A_land (pc := 18) dX0_without_18 ?_
      refine A_goto (pc := 19) 23 dX0_without_19 (by decide) ?_
      refine A_lret (pc := 23) rfl dX0_without_23 ?_
      exact ⟨by rw [andn_L hh (Nat.pow_lt_pow_right (by decide) (by omega)), sqB, if_pos (by omega)]; rfl, rfl⟩
theorem dX0_beside_0 : decode cX0_beside 0 = .ok (.iload_n 0, 1) := by decide +kernel
theorem dX0_beside_1 : decode cX0_beside 1 = .ok (.ifCond .lt 9, 3) := by decide +kernel
theorem dX0_beside_4 : decode cX0_beside 4 = .ok (.iload_n 0, 1) := by decide +kernel
theorem dX0_beside_5 : decode cX0_beside 5 = .ok (.bipush 49, 2) := by decide +kernel
theorem dX0_beside_7 : decode cX0_beside 7 = .ok (.if_icmp .lt 5, 3) := by decide +kernel
theorem dX0_beside_10 : decode cX0_beside 10 = .ok (.iconst (-1), 1) := by decide +kernel
theorem dX0_beside_11 : decode cX0_beside 11 = .ok (.ireturn, 1) := by decide +kernel
theorem dX0_beside_12 : decode cX0_beside 12 = .ok (.iload_n 1, 1) := by decide +kernel
theorem dX0_beside_13 : decode cX0_beside 13 = .ok (.tableswitch 93 0 3 #[31, 46, 61, 78], 31) := by decide +kernel
theorem dX0_beside_44 : decode cX0_beside 44 = .ok (.iload_n 0, 1) := by decide +kernel
theorem dX0_beside_45 : decode cX0_beside 45 = .ok (.bipush 7, 2) := by decide +kernel
theorem dX0_beside_47 : decode cX0_beside 47 = .ok (.if_icmp .lt 10, 3) := by decide +kernel
theorem dX0_beside_50 : decode cX0_beside 50 = .ok (.iload_n 0, 1) := by decide +kernel
theorem dX0_beside_51 : decode cX0_beside 51 = .ok (.bipush 7, 2) := by decide +kernel
theorem dX0_beside_53 : decode cX0_beside 53 = .ok (.isub, 1) := by decide +kernel
theorem dX0_beside_54 : decode cX0_beside 54 = .ok (.goto 4, 3) := by decide +kernel
theorem dX0_beside_57 : decode cX0_beside 57 = .ok (.iconst (-1), 1) := by decide +kernel
theorem dX0_beside_58 : decode cX0_beside 58 = .ok (.ireturn, 1) := by decide +kernel
theorem dX0_beside_59 : decode cX0_beside 59 = .ok (.iload_n 0, 1) := by decide +kernel
theorem dX0_beside_60 : decode cX0_beside 60 = .ok (.bipush 7, 2) := by decide +kernel
theorem dX0_beside_62 : decode cX0_beside 62 = .ok (.irem, 1) := by decide +kernel
theorem dX0_beside_63 : decode cX0_beside 63 = .ok (.ifCond .le 9, 3) := by decide +kernel
theorem dX0_beside_66 : decode cX0_beside 66 = .ok (.iload_n 0, 1) := by decide +kernel
theorem dX0_beside_67 : decode cX0_beside 67 = .ok (.iconst 1, 1) := by decide +kernel
theorem dX0_beside_68 : decode cX0_beside 68 = .ok (.isub, 1) := by decide +kernel
theorem dX0_beside_69 : decode cX0_beside 69 = .ok (.goto 4, 3) := by decide +kernel
theorem dX0_beside_72 : decode cX0_beside 72 = .ok (.iconst (-1), 1) := by decide +kernel
theorem dX0_beside_73 : decode cX0_beside 73 = .ok (.ireturn, 1) := by decide +kernel
theorem dX0_beside_74 : decode cX0_beside 74 = .ok (.iload_n 0, 1) := by decide +kernel
theorem dX0_beside_75 : decode cX0_beside 75 = .ok (.bipush 7, 2) := by decide +kernel
theorem dX0_beside_77 : decode cX0_beside 77 = .ok (.irem, 1) := by decide +kernel
theorem dX0_beside_78 : decode cX0_beside 78 = .ok (.bipush 6, 2) := by decide +kernel
theorem dX0_beside_80 : decode cX0_beside 80 = .ok (.if_icmp .ge 9, 3) := by decide +kernel
theorem dX0_beside_83 : decode cX0_beside 83 = .ok (.iload_n 0, 1) := by decide +kernel
theorem dX0_beside_84 : decode cX0_beside 84 = .ok (.iconst 1, 1) := by decide +kernel
theorem dX0_beside_85 : decode cX0_beside 85 = .ok (.iadd, 1) := by decide +kernel
theorem dX0_beside_86 : decode cX0_beside 86 = .ok (.goto 4, 3) := by decide +kernel
theorem dX0_beside_89 : decode cX0_beside 89 = .ok (.iconst (-1), 1) := by decide +kernel
theorem dX0_beside_90 : decode cX0_beside 90 = .ok (.ireturn, 1) := by decide +kernel
theorem dX0_beside_91 : decode cX0_beside 91 = .ok (.iload_n 0, 1) := by decide +kernel
theorem dX0_beside_92 : decode cX0_beside 92 = .ok (.bipush 42, 2) := by decide +kernel
theorem dX0_beside_94 : decode cX0_beside 94 = .ok (.if_icmp .ge 10, 3) := by decide +kernel
theorem dX0_beside_97 : decode cX0_beside 97 = .ok (.iload_n 0, 1) := by decide +kernel
theorem dX0_beside_98 : decode cX0_beside 98 = .ok (.bipush 7, 2) := by decide +kernel
theorem dX0_beside_100 : decode cX0_beside 100 = .ok (.iadd, 1) := by decide +kernel
theorem dX0_beside_101 : decode cX0_beside 101 = .ok (.goto 4, 3) := by decide +kernel
theorem dX0_beside_104 : decode cX0_beside 104 = .ok (.iconst (-1), 1) := by decide +kernel
theorem dX0_beside_105 : decode cX0_beside 105 = .ok (.ireturn, 1) := by decide +kernel
theorem dX0_beside_106 : decode cX0_beside 106 = .ok (.iconst (-1), 1) := by decide +kernel
theorem dX0_beside_107 : decode cX0_beside 107 = .ok (.ireturn, 1) := by decide +kernel
set_option maxRecDepth 20000 in
theorem c_X0_beside {G : Gl} {d : Nat} {σ : Sg} {c : Int} (hc1 : -2147483648 ≤ c) (hc2 : c < 2147483648) {w : Int} (hw1 : -2147483648 ≤ w) (hw2 : w < 2147483648) : CT G d yX0_beside cX0_beside 2 (some .int) [.int (iI c), .int (iI w)] σ (R1 (.int (iI (bes c w))) σ) := by
  refine CT.of (by decide +kernel) (Nat.le_of_ble_eq_true rfl) ?_
  change AW G _ RX0 _ _ _ 0 [(0, .int (iI c)), (1, .int (iI w))] [] _ _
  refine A_iload_n (pc := 0) dX0_beside_0 rfl rfl ?_
  refine A_if_lt (pc := 1) 10 dX0_beside_1 (by decide) (by omega) (by omega) (fun h1 => ?_) (fun h1 => ?_)
  · skip
    refine A_iconst (pc := 10) dX0_beside_10 ?_
    refine A_iret (pc := 11) rfl dX0_beside_11 ?_
    exact R1_e (by unfold bes; (repeat' split) <;> omega)
  · skip
    refine A_iload_n (pc := 4) dX0_beside_4 rfl rfl ?_
    refine A_bipush (pc := 5) dX0_beside_5 (by decide) ?_
    refine A_icmp_lt (pc := 7) 12 dX0_beside_7 (by decide) (by omega) (by omega) (by omega) (by omega) (fun h7 => ?_) (fun h7 => ?_)
    · skip
      refine A_iload_n (pc := 12) dX0_beside_12 rfl rfl ?_
      refine A_tsw (pc := 13) [(0, 44), (1, 59), (2, 74), (3, 91)] 106 dX0_beside_13 (by decide) (by decide) (by decide) (by omega) (by omega) ?_
      refine ⟨fun h13 => ?_, fun h13n0 => ?_⟩
      · skip
        refine A_iload_n (pc := 44) dX0_beside_44 rfl rfl ?_
        refine A_bipush (pc := 45) dX0_beside_45 (by decide) ?_
        refine A_icmp_lt (pc := 47) 57 dX0_beside_47 (by decide) (by omega) (by omega) (by omega) (by omega) (fun h47 => ?_) (fun h47 => ?_)
        · skip
          refine A_iconst (pc := 57) dX0_beside_57 ?_
          refine A_iret (pc := 58) rfl dX0_beside_58 ?_
          exact R1_e (by unfold bes; (repeat' split) <;> omega)
        · skip
          refine A_iload_n (pc := 50) dX0_beside_50 rfl rfl ?_
          refine A_bipush (pc := 51) dX0_beside_51 (by decide) ?_
          refine A_isub (pc := 53) dX0_beside_53 ?_
          refine A_goto (pc := 54) 58 dX0_beside_54 (by decide) ?_
          refine A_iret (pc := 58) rfl dX0_beside_58 ?_
          exact R1_e (by unfold bes; (repeat' split) <;> omega)
      refine ⟨fun h13 => ?_, fun h13n1 => ?_⟩
      · skip
        refine A_iload_n (pc := 59) dX0_beside_59 rfl rfl ?_
        refine A_bipush (pc := 60) dX0_beside_60 (by decide) ?_
        refine A_irem (pc := 62) dX0_beside_62 (by omega) (by omega) (by omega) (by omega) ?_
        refine A_if_le (pc := 63) 72 dX0_beside_63 (by decide) (by omega) (by omega) (fun h63 => ?_) (fun h63 => ?_)
        · skip
          refine A_iconst (pc := 72) dX0_beside_72 ?_
          refine A_iret (pc := 73) rfl dX0_beside_73 ?_
          exact R1_e (by unfold bes; (repeat' split) <;> omega)
        · skip
          refine A_iload_n (pc := 66) dX0_beside_66 rfl rfl ?_
          refine A_iconst (pc := 67) dX0_beside_67 ?_
          refine A_isub (pc := 68) dX0_beside_68 ?_
          refine A_goto (pc := 69) 73 dX0_beside_69 (by decide) ?_
          refine A_iret (pc := 73) rfl dX0_beside_73 ?_
          exact R1_e (by unfold bes; (repeat' split) <;> omega)
      refine ⟨fun h13 => ?_, fun h13n2 => ?_⟩
      · skip
        refine A_iload_n (pc := 74) dX0_beside_74 rfl rfl ?_
        refine A_bipush (pc := 75) dX0_beside_75 (by decide) ?_
        refine A_irem (pc := 77) dX0_beside_77 (by omega) (by omega) (by omega) (by omega) ?_
        refine A_bipush (pc := 78) dX0_beside_78 (by decide) ?_
        refine A_icmp_ge (pc := 80) 89 dX0_beside_80 (by decide) (by omega) (by omega) (by omega) (by omega) (fun h80 => ?_) (fun h80 => ?_)
        · skip
          refine A_iconst (pc := 89) dX0_beside_89 ?_
          refine A_iret (pc := 90) rfl dX0_beside_90 ?_
          exact R1_e (by unfold bes; (repeat' split) <;> omega)
        · skip
          refine A_iload_n (pc := 83) dX0_beside_83 rfl rfl ?_
          refine A_iconst (pc := 84) dX0_beside_84 ?_
          refine A_iadd (pc := 85) dX0_beside_85 ?_
          refine A_goto (pc := 86) 90 dX0_beside_86 (by decide) ?_
          refine A_iret (pc := 90) rfl dX0_beside_90 ?_
          exact R1_e (by unfold bes; (repeat' split) <;> omega)
      refine ⟨fun h13 => ?_, fun h13n3 => ?_⟩
      · skip
        refine A_iload_n (pc := 91) dX0_beside_91 rfl rfl ?_
        refine A_bipush (pc := 92) dX0_beside_92 (by decide) ?_
        refine A_icmp_ge (pc := 94) 104 dX0_beside_94 (by decide) (by omega) (by omega) (by omega) (by omega) (fun h94 => ?_) (fun h94 => ?_)
        · skip
          refine A_iconst (pc := 104) dX0_beside_104 ?_
          refine A_iret (pc := 105) rfl dX0_beside_105 ?_
          exact R1_e (by unfold bes; (repeat' split) <;> omega)
        · skip
          refine A_iload_n (pc := 97) dX0_beside_97 rfl rfl ?_
          refine A_bipush (pc := 98) dX0_beside_98 (by decide) ?_
          refine A_iadd (pc := 100) dX0_beside_100 ?_
          refine A_goto (pc := 101) 105 dX0_beside_101 (by decide) ?_
          refine A_iret (pc := 105) rfl dX0_beside_105 ?_
          exact R1_e (by unfold bes; (repeat' split) <;> omega)
      change AW G _ _ _ _ _ 106 _ _ _ _
      refine A_iconst (pc := 106) dX0_beside_106 ?_
      refine A_iret (pc := 107) rfl dX0_beside_107 ?_
      exact R1_e (by unfold bes; (repeat' split) <;> omega)
    · skip
      refine A_iconst (pc := 10) dX0_beside_10 ?_
      refine A_iret (pc := 11) rfl dX0_beside_11 ?_
      exact R1_e (by unfold bes; (repeat' split) <;> omega)
theorem dX0_line_0 : decode cX0_line 0 = .ok (.lconst 0, 1) := by decide +kernel
theorem dX0_line_1 : decode cX0_line 1 = .ok (.lstore 5, 2) := by decide +kernel
theorem dX0_line_3 : decode cX0_line 3 = .ok (.iload_n 2, 1) := by decide +kernel
theorem dX0_line_4 : decode cX0_line 4 = .ok (.iload_n 3, 1) := by decide +kernel
theorem dX0_line_5 : decode cX0_line 5 = .ok (.invokestatic 11, 3) := by decide +kernel
theorem dX0_line_8 : decode cX0_line 8 = .ok (.istore 7, 2) := by decide +kernel
theorem dX0_line_10 : decode cX0_line 10 = .ok (.iconst 0, 1) := by decide +kernel
theorem dX0_line_11 : decode cX0_line 11 = .ok (.istore 8, 2) := by decide +kernel
theorem dX0_line_13 : decode cX0_line 13 = .ok (.iload 8, 2) := by decide +kernel
theorem dX0_line_15 : decode cX0_line 15 = .ok (.iload 4, 2) := by decide +kernel
theorem dX0_line_17 : decode cX0_line 17 = .ok (.if_icmp .ge 41, 3) := by decide +kernel
theorem dX0_line_20 : decode cX0_line 20 = .ok (.iload 7, 2) := by decide +kernel
theorem dX0_line_22 : decode cX0_line 22 = .ok (.iconst (-1), 1) := by decide +kernel
theorem dX0_line_23 : decode cX0_line 23 = .ok (.if_icmp .eq 35, 3) := by decide +kernel
theorem dX0_line_26 : decode cX0_line 26 = .ok (.lload_n 0, 1) := by decide +kernel
theorem dX0_line_27 : decode cX0_line 27 = .ok (.iload 7, 2) := by decide +kernel
theorem dX0_line_29 : decode cX0_line 29 = .ok (.invokestatic 17, 3) := by decide +kernel
theorem dX0_line_32 : decode cX0_line 32 = .ok (.ifCond .ne 26, 3) := by decide +kernel
theorem dX0_line_35 : decode cX0_line 35 = .ok (.lload 5, 2) := by decide +kernel
theorem dX0_line_37 : decode cX0_line 37 = .ok (.iload 7, 2) := by decide +kernel
theorem dX0_line_39 : decode cX0_line 39 = .ok (.invokestatic 21, 3) := by decide +kernel
theorem dX0_line_42 : decode cX0_line 42 = .ok (.lstore 5, 2) := by decide +kernel
theorem dX0_line_44 : decode cX0_line 44 = .ok (.iload 7, 2) := by decide +kernel
theorem dX0_line_46 : decode cX0_line 46 = .ok (.iload_n 3, 1) := by decide +kernel
theorem dX0_line_47 : decode cX0_line 47 = .ok (.invokestatic 11, 3) := by decide +kernel
theorem dX0_line_50 : decode cX0_line 50 = .ok (.istore 7, 2) := by decide +kernel
theorem dX0_line_52 : decode cX0_line 52 = .ok (.iinc 8 1, 3) := by decide +kernel
theorem dX0_line_55 : decode cX0_line 55 = .ok (.goto (-42), 3) := by decide +kernel
theorem dX0_line_58 : decode cX0_line 58 = .ok (.lload 5, 2) := by decide +kernel
theorem dX0_line_60 : decode cX0_line 60 = .ok (.lreturn, 1) := by decide +kernel
set_option maxRecDepth 20000 in
theorem l_X0_line {G : Gl} {d : Nat} {σ : Sg} {K : Option Value → Sg → Prop} {h : Nat} (hh : h < 2 ^ 49) {w : Int} (hw1 : -2147483648 ≤ w) (hw2 : w < 2147483648) {r : Int} (hr1 : -2147483648 ≤ r) (hr2 : r < 2147483648) : ∀ (n : Nat) (i a : Int) (acc : Nat), 0 ≤ i → i ≤ 2147483647 → n = (r - i).toNat → -1 ≤ a → a ≤ 48 → acc < 2 ^ 49 → K (some (.long (lN (acc ||| lineG h w n a)))) σ → AW G (d + 1) RX0 cX0_line 9 (some .long) 13 [(0, .long (lN h)), (3, .int (iI w)), (4, .int (iI r)), (5, .long (lN acc)), (7, .int (iI a)), (8, .int (iI i))] [] σ K := by
  intro n
  induction n with
  | zero =>
    intro i a acc i1 i2 hn a1 a2 ha hK
    refine A_iload (pc := 13) dX0_line_13 rfl ?_
    refine A_iload (pc := 15) dX0_line_15 rfl ?_
    refine A_icmp_ge (pc := 17) 58 dX0_line_17 (by decide) (by omega) (by omega) (by omega) (by omega) (fun h17 => ?_) (fun h17 => absurd h17 (by omega))
    refine A_lload (pc := 58) dX0_line_58 rfl ?_
    refine A_lret (pc := 60) rfl dX0_line_60 ?_
    have e : acc ||| lineG h w 0 a = acc := by rw [lineG, Nat.or_zero]
    rw [e] at hK
    exact hK
  | succ n ih =>
  intro i a acc i1 i2 hn a1 a2 ha hK
  refine A_iload (pc := 13) dX0_line_13 rfl ?_
  refine A_iload (pc := 15) dX0_line_15 rfl ?_
  refine A_icmp_ge (pc := 17) 58 dX0_line_17 (by decide) (by omega) (by omega) (by omega) (by omega) (fun h17 => ?_) (fun h17 => ?_)
  · skip
    refine A_lload (pc := 58) dX0_line_58 rfl ?_
    refine A_lret (pc := 60) rfl dX0_line_60 ?_
    exfalso; omega
  · skip
    refine A_iload (pc := 20) dX0_line_20 rfl ?_
    refine A_iconst (pc := 22) dX0_line_22 ?_
    refine A_icmp_eq (pc := 23) 58 dX0_line_23 (by decide) (by omega) (by omega) (by omega) (by omega) (fun h23 => ?_) (fun h23 => ?_)
    · skip
      refine A_lload (pc := 58) dX0_line_58 rfl ?_
      refine A_lret (pc := 60) rfl dX0_line_60 ?_
      have e : acc ||| lineG h w (n + 1) a = acc := by rw [lineG, if_pos (by omega), Nat.or_zero]
      rw [e] at hK
      exact hK
    · skip
      refine A_lload_n (pc := 26) dX0_line_26 rfl rfl ?_
      refine A_iload (pc := 27) dX0_line_27 rfl ?_
      refine A_callS1 (pc := 29) kX0_17 (c_X0_has hh (by omega) (by omega)) dX0_line_29 rfl rfl (Nat.le_of_ble_eq_true rfl) (Nat.le_of_ble_eq_true rfl) ?_
      refine A_ifb_ne (pc := 32) 58 dX0_line_32 (by decide) (fun h32 => ?_) (fun h32 => ?_)
      · skip
        refine A_lload (pc := 58) dX0_line_58 rfl ?_
        refine A_lret (pc := 60) rfl dX0_line_60 ?_
        have e : acc ||| lineG h w (n + 1) a = acc := by rw [lineG, if_pos (Or.inr h32), Nat.or_zero]
        rw [e] at hK
        exact hK
      · skip
        refine A_lload (pc := 35) dX0_line_35 rfl ?_
        refine A_iload (pc := 37) dX0_line_37 rfl ?_
        refine A_callS1 (pc := 39) kX0_21 (c_X0_with ha (by omega) (by omega)) dX0_line_39 rfl rfl (Nat.le_of_ble_eq_true rfl) (Nat.le_of_ble_eq_true rfl) ?_
        refine A_lstore (pc := 42) dX0_line_42 (Nat.le_of_ble_eq_true rfl) ?_
        refine A_iload (pc := 44) dX0_line_44 rfl ?_
        refine A_iload_n (pc := 46) dX0_line_46 rfl rfl ?_
        refine A_callS1 (pc := 47) kX0_11 (c_X0_beside (by omega) (by omega) hw1 hw2) dX0_line_47 rfl rfl (Nat.le_of_ble_eq_true rfl) (Nat.le_of_ble_eq_true rfl) ?_
        refine A_istore (pc := 50) dX0_line_50 (Nat.le_of_ble_eq_true rfl) ?_
        refine A_iinc (pc := 52) dX0_line_52 rfl (Nat.le_of_ble_eq_true rfl) ?_
        refine A_goto (pc := 55) 13 dX0_line_55 (by decide) ?_
        refine A_loc (l2 := [(0, _), (3, _), (4, _), (5, _), (7, _), (8, _)]) ⟨rfl, rfl, rfl, rfl, rfl, rfl, trivial⟩ ?_
        have hb := bes_rng a w
        refine ih _ _ _ (by omega) (by omega) (by omega) hb.1 hb.2 (or49 ha (sqB_lt a)) ?_
        have e : acc ||| lineG h w (n + 1) a = (acc ||| sqB a) ||| lineG h w n (bes a w) := by
          rw [lineG, if_neg (fun q => q.elim (fun z => absurd z (by omega)) h32), sqB, if_pos (by omega), Nat.or_assoc]
        rw [e] at hK
        exact hK
set_option maxRecDepth 20000 in
theorem c_X0_line {G : Gl} {d : Nat} {σ : Sg} {h : Nat} (hh : h < 2 ^ 49) {f : Int} (hf1 : -2147483648 ≤ f) (hf2 : f < 2147483648) {w : Int} (hw1 : -2147483648 ≤ w) (hw2 : w < 2147483648) {r : Int} (hr1 : -2147483648 ≤ r) (hr2 : r < 2147483648) : CT G (d + 1) yX0_line cX0_line 9 (some .long) [.long (lN h), .int (iI f), .int (iI w), .int (iI r)] σ (R1 (.long (lN (lineX h f w r))) σ) := by
  refine CT.of (by decide +kernel) (Nat.le_of_ble_eq_true rfl) ?_
  change AW G _ RX0 _ _ _ 0 [(0, .long (lN h)), (2, .int (iI f)), (3, .int (iI w)), (4, .int (iI r))] [] _ _
  refine A_lconst (pc := 0) 0 dX0_line_0 rfl ?_
  refine A_lstore (pc := 1) dX0_line_1 (Nat.le_of_ble_eq_true rfl) ?_
  refine A_iload_n (pc := 3) dX0_line_3 rfl rfl ?_
  refine A_iload_n (pc := 4) dX0_line_4 rfl rfl ?_
  refine A_callS1 (pc := 5) kX0_11 (c_X0_beside hf1 hf2 hw1 hw2) dX0_line_5 rfl rfl (Nat.le_of_ble_eq_true rfl) (Nat.le_of_ble_eq_true rfl) ?_
  refine A_istore (pc := 8) dX0_line_8 (Nat.le_of_ble_eq_true rfl) ?_
  refine A_iconst (pc := 10) dX0_line_10 ?_
  refine A_istore (pc := 11) dX0_line_11 (Nat.le_of_ble_eq_true rfl) ?_
  refine A_loc (l2 := [(0, _), (3, _), (4, _), (5, _), (7, _), (8, _)]) ⟨rfl, rfl, rfl, rfl, rfl, rfl, trivial⟩ ?_
  have hb := bes_rng f w
  exact l_X0_line hh hw1 hw2 hr1 hr2 r.toNat 0 (bes f w) 0 (by omega) (by omega) (by omega) hb.1 hb.2 (by decide) ⟨by rw [Nat.zero_or]; rfl, rfl⟩
theorem dX0_across_0 : decode cX0_across 0 = .ok (.lconst 0, 1) := by decide +kernel
theorem dX0_across_1 : decode cX0_across 1 = .ok (.lstore 4, 2) := by decide +kernel
theorem dX0_across_3 : decode cX0_across 3 = .ok (.iconst 0, 1) := by decide +kernel
theorem dX0_across_4 : decode cX0_across 4 = .ok (.istore 6, 2) := by decide +kernel
theorem dX0_across_6 : decode cX0_across 6 = .ok (.iload 6, 2) := by decide +kernel
theorem dX0_across_8 : decode cX0_across 8 = .ok (.iconst 4, 1) := by decide +kernel
theorem dX0_across_9 : decode cX0_across 9 = .ok (.if_icmp .ge 50, 3) := by decide +kernel
theorem dX0_across_12 : decode cX0_across 12 = .ok (.iload_n 2, 1) := by decide +kernel
theorem dX0_across_13 : decode cX0_across 13 = .ok (.iload 6, 2) := by decide +kernel
theorem dX0_across_15 : decode cX0_across 15 = .ok (.invokestatic 11, 3) := by decide +kernel
theorem dX0_across_18 : decode cX0_across 18 = .ok (.istore 7, 2) := by decide +kernel
theorem dX0_across_20 : decode cX0_across 20 = .ok (.iload 6, 2) := by decide +kernel
theorem dX0_across_22 : decode cX0_across 22 = .ok (.iload_n 3, 1) := by decide +kernel
theorem dX0_across_23 : decode cX0_across 23 = .ok (.if_icmp .eq 30, 3) := by decide +kernel
theorem dX0_across_26 : decode cX0_across 26 = .ok (.iload 6, 2) := by decide +kernel
theorem dX0_across_28 : decode cX0_across 28 = .ok (.iload_n 3, 1) := by decide +kernel
theorem dX0_across_29 : decode cX0_across 29 = .ok (.invokestatic 33, 3) := by decide +kernel
theorem dX0_across_32 : decode cX0_across 32 = .ok (.if_icmp .eq 21, 3) := by decide +kernel
theorem dX0_across_35 : decode cX0_across 35 = .ok (.lload_n 0, 1) := by decide +kernel
theorem dX0_across_36 : decode cX0_across 36 = .ok (.iload 7, 2) := by decide +kernel
theorem dX0_across_38 : decode cX0_across 38 = .ok (.invokestatic 17, 3) := by decide +kernel
theorem dX0_across_41 : decode cX0_across 41 = .ok (.ifCond .ne 12, 3) := by decide +kernel
theorem dX0_across_44 : decode cX0_across 44 = .ok (.lload 4, 2) := by decide +kernel
theorem dX0_across_46 : decode cX0_across 46 = .ok (.iload 7, 2) := by decide +kernel
theorem dX0_across_48 : decode cX0_across 48 = .ok (.invokestatic 21, 3) := by decide +kernel
theorem dX0_across_51 : decode cX0_across 51 = .ok (.lstore 4, 2) := by decide +kernel
theorem dX0_across_53 : decode cX0_across 53 = .ok (.iinc 6 1, 3) := by decide +kernel
theorem dX0_across_56 : decode cX0_across 56 = .ok (.goto (-50), 3) := by decide +kernel
theorem dX0_across_59 : decode cX0_across 59 = .ok (.lload 4, 2) := by decide +kernel
theorem dX0_across_61 : decode cX0_across 61 = .ok (.lreturn, 1) := by decide +kernel
set_option maxRecDepth 20000 in
theorem l_X0_across {G : Gl} {d : Nat} {σ : Sg} {K : Option Value → Sg → Prop} {h : Nat} (hh : h < 2 ^ 49) {c w : Int} (hc1 : -2147483648 ≤ c) (hc2 : c < 2147483648) (hw1 : 0 ≤ w) (hw2 : w < 4) : ∀ (n : Nat) (s : Int) (acc : Nat), 0 ≤ s → s + n = 4 → acc < 2 ^ 49 → K (some (.long (lN (acc ||| acrG h c w n s)))) σ → AW G (d + 1) RX0 cX0_across 8 (some .long) 6 [(0, .long (lN h)), (2, .int (iI c)), (3, .int (iI w)), (4, .long (lN acc)), (6, .int (iI s))] [] σ K := by
  intro n
  induction n with
  | zero =>
    intro s acc i1 i2 ha hK
    refine A_iload (pc := 6) dX0_across_6 rfl ?_
    refine A_iconst (pc := 8) dX0_across_8 ?_
    refine A_icmp_ge (pc := 9) 59 dX0_across_9 (by decide) (by omega) (by omega) (by omega) (by omega) (fun h17 => ?_) (fun h17 => absurd h17 (by omega))
    refine A_lload (pc := 59) dX0_across_59 rfl ?_
    refine A_lret (pc := 61) rfl dX0_across_61 ?_
    have e : acc ||| acrG h c w 0 s = acc := by rw [acrG, Nat.or_zero]
    rw [e] at hK
    exact hK
  | succ n ih =>
  intro s acc i1 i2 ha hK
  have hb := bes_rng c s
  refine A_iload (pc := 6) dX0_across_6 rfl ?_
  refine A_iconst (pc := 8) dX0_across_8 ?_
  refine A_icmp_ge (pc := 9) 59 dX0_across_9 (by decide) (by omega) (by omega) (by omega) (by omega) (fun h9 => ?_) (fun h9 => ?_)
  · skip
    refine A_lload (pc := 59) dX0_across_59 rfl ?_
    refine A_lret (pc := 61) rfl dX0_across_61 ?_
    exfalso; omega
  · skip
    refine A_iload_n (pc := 12) dX0_across_12 rfl rfl ?_
    refine A_iload (pc := 13) dX0_across_13 rfl ?_
    refine A_callS1 (pc := 15) kX0_11 (c_X0_beside hc1 hc2 (by omega) (by omega)) dX0_across_15 rfl rfl (Nat.le_of_ble_eq_true rfl) (Nat.le_of_ble_eq_true rfl) ?_
    refine A_istore (pc := 18) dX0_across_18 (Nat.le_of_ble_eq_true rfl) ?_
    refine A_iload (pc := 20) dX0_across_20 rfl ?_
    refine A_iload_n (pc := 22) dX0_across_22 rfl rfl ?_
    refine A_icmp_eq (pc := 23) 53 dX0_across_23 (by decide) (by omega) (by omega) (by omega) (by omega) (fun h23 => ?_) (fun h23 => ?_)
    · skip
      refine A_iinc (pc := 53) dX0_across_53 rfl (Nat.le_of_ble_eq_true rfl) ?_
      refine A_goto (pc := 56) 6 dX0_across_56 (by decide) ?_
      refine A_loc (l2 := [(0, _), (2, _), (3, _), (4, _), (6, _)]) ⟨rfl, rfl, rfl, rfl, rfl, trivial⟩ ?_
      refine ih _ _ (by omega) (by omega) ha ?_
      have e : acc ||| acrG h c w (n + 1) s = acc ||| acrG h c w n (s + 1) := by
        rw [acrG, if_neg (by omega), Nat.zero_or]
      rw [e] at hK
      exact hK
    · skip
      refine A_iload (pc := 26) dX0_across_26 rfl ?_
      refine A_iload_n (pc := 28) dX0_across_28 rfl rfl ?_
      refine A_callS1 (pc := 29) kX0_33 (c_X0_opposite) dX0_across_29 rfl rfl (Nat.le_of_ble_eq_true rfl) (Nat.le_of_ble_eq_true rfl) ?_
      refine A_icmp_eq (pc := 32) 53 dX0_across_32 (by decide) (by omega) (by omega) (by omega) (by omega) (fun h32 => ?_) (fun h32 => ?_)
      · skip
        refine A_iinc (pc := 53) dX0_across_53 rfl (Nat.le_of_ble_eq_true rfl) ?_
        refine A_goto (pc := 56) 6 dX0_across_56 (by decide) ?_
        refine A_loc (l2 := [(0, _), (2, _), (3, _), (4, _), (6, _)]) ⟨rfl, rfl, rfl, rfl, rfl, trivial⟩ ?_
        refine ih _ _ (by omega) (by omega) ha ?_
        have e : acc ||| acrG h c w (n + 1) s = acc ||| acrG h c w n (s + 1) := by
          rw [acrG, if_neg (by omega), Nat.zero_or]
        rw [e] at hK
        exact hK
      · skip
        refine A_lload_n (pc := 35) dX0_across_35 rfl rfl ?_
        refine A_iload (pc := 36) dX0_across_36 rfl ?_
        refine A_callS1 (pc := 38) kX0_17 (c_X0_has hh (by omega) (by omega)) dX0_across_38 rfl rfl (Nat.le_of_ble_eq_true rfl) (Nat.le_of_ble_eq_true rfl) ?_
        refine A_ifb_ne (pc := 41) 53 dX0_across_41 (by decide) (fun h41 => ?_) (fun h41 => ?_)
        · skip
          refine A_iinc (pc := 53) dX0_across_53 rfl (Nat.le_of_ble_eq_true rfl) ?_
          refine A_goto (pc := 56) 6 dX0_across_56 (by decide) ?_
          refine A_loc (l2 := [(0, _), (2, _), (3, _), (4, _), (6, _)]) ⟨rfl, rfl, rfl, rfl, rfl, trivial⟩ ?_
          refine ih _ _ (by omega) (by omega) ha ?_
          have e : acc ||| acrG h c w (n + 1) s = acc ||| acrG h c w n (s + 1) := by
            rw [acrG, if_pos (by omega), opB, if_neg (fun q => q.2 h41), Nat.zero_or]
          rw [e] at hK
          exact hK
        · skip
          refine A_lload (pc := 44) dX0_across_44 rfl ?_
          refine A_iload (pc := 46) dX0_across_46 rfl ?_
          refine A_callS1 (pc := 48) kX0_21 (c_X0_with ha (by omega) (by omega)) dX0_across_48 rfl rfl (Nat.le_of_ble_eq_true rfl) (Nat.le_of_ble_eq_true rfl) ?_
          refine A_lstore (pc := 51) dX0_across_51 (Nat.le_of_ble_eq_true rfl) ?_
          refine A_iinc (pc := 53) dX0_across_53 rfl (Nat.le_of_ble_eq_true rfl) ?_
          refine A_goto (pc := 56) 6 dX0_across_56 (by decide) ?_
          refine A_loc (l2 := [(0, _), (2, _), (3, _), (4, _), (6, _)]) ⟨rfl, rfl, rfl, rfl, rfl, trivial⟩ ?_
          refine ih _ _ (by omega) (by omega) (or49 ha (sqB_lt _)) ?_
          have e : acc ||| acrG h c w (n + 1) s = acc ||| sqB (bes c s) ||| acrG h c w n (s + 1) := by
            have e2 : opB h (bes c s) = sqB (bes c s) := by
              unfold opB sqB
              by_cases q : inS (bes c s)
              · rw [if_pos q, if_pos ⟨q, h41⟩]
              · rw [if_neg q, if_neg (fun z => q z.1)]
            rw [acrG, if_pos (by omega), e2, Nat.or_assoc]
          rw [e] at hK
          exact hK
set_option maxRecDepth 20000 in
theorem c_X0_across {G : Gl} {d : Nat} {σ : Sg} {h : Nat} (hh : h < 2 ^ 49) {c w : Int} (hc1 : -2147483648 ≤ c) (hc2 : c < 2147483648) (hw1 : 0 ≤ w) (hw2 : w < 4) : CT G (d + 1) yX0_across cX0_across 8 (some .long) [.long (lN h), .int (iI c), .int (iI w)] σ (R1 (.long (lN (acr h c w))) σ) := by
  refine CT.of (by decide +kernel) (Nat.le_of_ble_eq_true rfl) ?_
  change AW G _ RX0 _ _ _ 0 [(0, .long (lN h)), (2, .int (iI c)), (3, .int (iI w))] [] _ _
  refine A_lconst (pc := 0) 0 dX0_across_0 rfl ?_
  refine A_lstore (pc := 1) dX0_across_1 (Nat.le_of_ble_eq_true rfl) ?_
  refine A_iconst (pc := 3) dX0_across_3 ?_
  refine A_istore (pc := 4) dX0_across_4 (Nat.le_of_ble_eq_true rfl) ?_
  refine A_loc (l2 := [(0, _), (2, _), (3, _), (4, _), (6, _)]) ⟨rfl, rfl, rfl, rfl, rfl, trivial⟩ ?_
  exact l_X0_across hh hc1 hc2 hw1 hw2 4 0 0 (by omega) (by omega) (by decide) ⟨by rw [Nat.zero_or]; rfl, rfl⟩
theorem dX0_wideLine_0 : decode cX0_wideLine 0 = .ok (.lload_n 0, 1) := by decide +kernel
theorem dX0_wideLine_1 : decode cX0_wideLine 1 = .ok (.iload_n 2, 1) := by decide +kernel
theorem dX0_wideLine_2 : decode cX0_wideLine 2 = .ok (.iload_n 3, 1) := by decide +kernel
theorem dX0_wideLine_3 : decode cX0_wideLine 3 = .ok (.iload 4, 2) := by decide +kernel
theorem dX0_wideLine_5 : decode cX0_wideLine 5 = .ok (.invokestatic 25, 3) := by decide +kernel
theorem dX0_wideLine_8 : decode cX0_wideLine 8 = .ok (.lstore 5, 2) := by decide +kernel
theorem dX0_wideLine_10 : decode cX0_wideLine 10 = .ok (.lload 5, 2) := by decide +kernel
theorem dX0_wideLine_12 : decode cX0_wideLine 12 = .ok (.lstore 7, 2) := by decide +kernel
theorem dX0_wideLine_14 : decode cX0_wideLine 14 = .ok (.iload_n 2, 1) := by decide +kernel
theorem dX0_wideLine_15 : decode cX0_wideLine 15 = .ok (.istore 9, 2) := by decide +kernel
theorem dX0_wideLine_17 : decode cX0_wideLine 17 = .ok (.iconst 0, 1) := by decide +kernel
theorem dX0_wideLine_18 : decode cX0_wideLine 18 = .ok (.istore 10, 2) := by decide +kernel
theorem dX0_wideLine_20 : decode cX0_wideLine 20 = .ok (.iload 10, 2) := by decide +kernel
theorem dX0_wideLine_22 : decode cX0_wideLine 22 = .ok (.iconst 2, 1) := by decide +kernel
theorem dX0_wideLine_23 : decode cX0_wideLine 23 = .ok (.if_icmp .ge 39, 3) := by decide +kernel
theorem dX0_wideLine_26 : decode cX0_wideLine 26 = .ok (.iload 9, 2) := by decide +kernel
theorem dX0_wideLine_28 : decode cX0_wideLine 28 = .ok (.iload_n 3, 1) := by decide +kernel
theorem dX0_wideLine_29 : decode cX0_wideLine 29 = .ok (.invokestatic 11, 3) := by decide +kernel
theorem dX0_wideLine_32 : decode cX0_wideLine 32 = .ok (.istore 9, 2) := by decide +kernel
theorem dX0_wideLine_34 : decode cX0_wideLine 34 = .ok (.lload 5, 2) := by decide +kernel
theorem dX0_wideLine_36 : decode cX0_wideLine 36 = .ok (.iload 9, 2) := by decide +kernel
theorem dX0_wideLine_38 : decode cX0_wideLine 38 = .ok (.invokestatic 17, 3) := by decide +kernel
theorem dX0_wideLine_41 : decode cX0_wideLine 41 = .ok (.ifCond .eq 15, 3) := by decide +kernel
theorem dX0_wideLine_44 : decode cX0_wideLine 44 = .ok (.lload 7, 2) := by decide +kernel
theorem dX0_wideLine_46 : decode cX0_wideLine 46 = .ok (.lload_n 0, 1) := by decide +kernel
theorem dX0_wideLine_47 : decode cX0_wideLine 47 = .ok (.iload 9, 2) := by decide +kernel
theorem dX0_wideLine_49 : decode cX0_wideLine 49 = .ok (.iload_n 3, 1) := by decide +kernel
theorem dX0_wideLine_50 : decode cX0_wideLine 50 = .ok (.invokestatic 29, 3) := by decide +kernel
theorem dX0_wideLine_53 : decode cX0_wideLine 53 = .ok (.lor, 1) := by decide +kernel
theorem dX0_wideLine_54 : decode cX0_wideLine 54 = .ok (.lstore 7, 2) := by decide +kernel
theorem dX0_wideLine_56 : decode cX0_wideLine 56 = .ok (.iinc 10 1, 3) := by decide +kernel
theorem dX0_wideLine_59 : decode cX0_wideLine 59 = .ok (.goto (-39), 3) := by decide +kernel
theorem dX0_wideLine_62 : decode cX0_wideLine 62 = .ok (.lload 7, 2) := by decide +kernel
theorem dX0_wideLine_64 : decode cX0_wideLine 64 = .ok (.lreturn, 1) := by decide +kernel
set_option maxRecDepth 20000 in
theorem l_X0_wideLine {G : Gl} {d : Nat} {σ : Sg} {K : Option Value → Sg → Prop} {h : Nat} (hh : h < 2 ^ 49) {L : Nat} (hL : L < 2 ^ 49) {w : Int} (hw1 : 0 ≤ w) (hw2 : w < 4) : ∀ (n : Nat) (i a : Int) (acc : Nat), 0 ≤ i → i + n = 2 → -2147483648 ≤ a → a < 2147483648 → acc < 2 ^ 49 → K (some (.long (lN (acc ||| wideT L h w n a)))) σ → AW G (d + 2) RX0 cX0_wideLine 11 (some .long) 20 [(0, .long (lN h)), (3, .int (iI w)), (5, .long (lN L)), (7, .long (lN acc)), (9, .int (iI a)), (10, .int (iI i))] [] σ K := by
  intro n
  induction n with
  | zero =>
    intro i a acc i1 i2 a1 a2 ha hK
    refine A_iload (pc := 20) dX0_wideLine_20 rfl ?_
    refine A_iconst (pc := 22) dX0_wideLine_22 ?_
    refine A_icmp_ge (pc := 23) 62 dX0_wideLine_23 (by decide) (by omega) (by omega) (by omega) (by omega) (fun h17 => ?_) (fun h17 => absurd h17 (by omega))
    refine A_lload (pc := 62) dX0_wideLine_62 rfl ?_
    refine A_lret (pc := 64) rfl dX0_wideLine_64 ?_
    have e : acc ||| wideT L h w 0 a = acc := by rw [wideT, Nat.or_zero]
    rw [e] at hK
    exact hK
  | succ n ih =>
  intro i a acc i1 i2 a1 a2 ha hK
  have hb := bes_rng a w
  refine A_iload (pc := 20) dX0_wideLine_20 rfl ?_
  refine A_iconst (pc := 22) dX0_wideLine_22 ?_
  refine A_icmp_ge (pc := 23) 62 dX0_wideLine_23 (by decide) (by omega) (by omega) (by omega) (by omega) (fun h23 => ?_) (fun h23 => ?_)
  · skip
    refine A_lload (pc := 62) dX0_wideLine_62 rfl ?_
    refine A_lret (pc := 64) rfl dX0_wideLine_64 ?_
    exfalso; omega
  · skip
    refine A_iload (pc := 26) dX0_wideLine_26 rfl ?_
    refine A_iload_n (pc := 28) dX0_wideLine_28 rfl rfl ?_
    refine A_callS1 (pc := 29) kX0_11 (c_X0_beside a1 a2 (by omega) (by omega)) dX0_wideLine_29 rfl rfl (Nat.le_of_ble_eq_true rfl) (Nat.le_of_ble_eq_true rfl) ?_
    refine A_istore (pc := 32) dX0_wideLine_32 (Nat.le_of_ble_eq_true rfl) ?_
    refine A_lload (pc := 34) dX0_wideLine_34 rfl ?_
    refine A_iload (pc := 36) dX0_wideLine_36 rfl ?_
    refine A_callS1 (pc := 38) kX0_17 (c_X0_has hL (by omega) (by omega)) dX0_wideLine_38 rfl rfl (Nat.le_of_ble_eq_true rfl) (Nat.le_of_ble_eq_true rfl) ?_
    refine A_ifb_eq (pc := 41) 56 dX0_wideLine_41 (by decide) (fun h41 => ?_) (fun h41 => ?_)
    · skip
      refine A_iinc (pc := 56) dX0_wideLine_56 rfl (Nat.le_of_ble_eq_true rfl) ?_
      refine A_goto (pc := 59) 20 dX0_wideLine_59 (by decide) ?_
      refine A_loc (l2 := [(0, _), (3, _), (5, _), (7, _), (9, _), (10, _)]) ⟨rfl, rfl, rfl, rfl, rfl, rfl, trivial⟩ ?_
      refine ih _ _ _ (by omega) (by omega) (by omega) (by omega) ha ?_
      have e : acc ||| wideT L h w (n + 1) a = acc ||| wideT L h w n (bes a w) := by
        rw [wideT, if_neg h41, Nat.zero_or]
      rw [e] at hK
      exact hK
    · skip
      refine A_lload (pc := 44) dX0_wideLine_44 rfl ?_
      refine A_lload_n (pc := 46) dX0_wideLine_46 rfl rfl ?_
      refine A_iload (pc := 47) dX0_wideLine_47 rfl ?_
      refine A_iload_n (pc := 49) dX0_wideLine_49 rfl rfl ?_
      refine A_callS1 (pc := 50) kX0_29 (c_X0_across hh (by omega) (by omega) hw1 hw2) dX0_wideLine_50 rfl rfl (Nat.le_of_ble_eq_true rfl) (Nat.le_of_ble_eq_true rfl) ?_
      refine A_lor (pc := 53) dX0_wideLine_53 ?_
      rw [or_L ha (acr_lt _ _ _)]
      refine A_lstore (pc := 54) dX0_wideLine_54 (Nat.le_of_ble_eq_true rfl) ?_
      refine A_iinc (pc := 56) dX0_wideLine_56 rfl (Nat.le_of_ble_eq_true rfl) ?_
      refine A_goto (pc := 59) 20 dX0_wideLine_59 (by decide) ?_
      refine A_loc (l2 := [(0, _), (3, _), (5, _), (7, _), (9, _), (10, _)]) ⟨rfl, rfl, rfl, rfl, rfl, rfl, trivial⟩ ?_
      refine ih _ _ _ (by omega) (by omega) (by omega) (by omega) (or49 ha (acr_lt _ _ _)) ?_
      have e : acc ||| wideT L h w (n + 1) a = acc ||| acr h (bes a w) w ||| wideT L h w n (bes a w) := by
        rw [wideT, if_pos h41, Nat.or_assoc]
      rw [e] at hK
      exact hK
set_option maxRecDepth 20000 in
theorem c_X0_wideLine {G : Gl} {d : Nat} {σ : Sg} {h : Nat} (hh : h < 2 ^ 49) {f w r : Int} (hf1 : -2147483648 ≤ f) (hf2 : f < 2147483648) (hw1 : 0 ≤ w) (hw2 : w < 4) (hr1 : -2147483648 ≤ r) (hr2 : r < 2147483648) : CT G (d + 2) yX0_wideLine cX0_wideLine 11 (some .long) [.long (lN h), .int (iI f), .int (iI w), .int (iI r)] σ (R1 (.long (lN (wideX h f w r))) σ) := by
  refine CT.of (by decide +kernel) (Nat.le_of_ble_eq_true rfl) ?_
  change AW G _ RX0 _ _ _ 0 [(0, .long (lN h)), (2, .int (iI f)), (3, .int (iI w)), (4, .int (iI r))] [] _ _
  refine A_lload_n (pc := 0) dX0_wideLine_0 rfl rfl ?_
  refine A_iload_n (pc := 1) dX0_wideLine_1 rfl rfl ?_
  refine A_iload_n (pc := 2) dX0_wideLine_2 rfl rfl ?_
  refine A_iload (pc := 3) dX0_wideLine_3 rfl ?_
  refine A_callS1 (pc := 5) kX0_25 (c_X0_line hh hf1 hf2 (by omega) (by omega) hr1 hr2) dX0_wideLine_5 rfl rfl (Nat.le_of_ble_eq_true rfl) (Nat.le_of_ble_eq_true rfl) ?_
  refine A_lstore (pc := 8) dX0_wideLine_8 (Nat.le_of_ble_eq_true rfl) ?_
  refine A_lload (pc := 10) dX0_wideLine_10 rfl ?_
  refine A_lstore (pc := 12) dX0_wideLine_12 (Nat.le_of_ble_eq_true rfl) ?_
  refine A_iload_n (pc := 14) dX0_wideLine_14 rfl rfl ?_
  refine A_istore (pc := 15) dX0_wideLine_15 (Nat.le_of_ble_eq_true rfl) ?_
  refine A_iconst (pc := 17) dX0_wideLine_17 ?_
  refine A_istore (pc := 18) dX0_wideLine_18 (Nat.le_of_ble_eq_true rfl) ?_
  refine A_loc (l2 := [(0, _), (3, _), (5, _), (7, _), (9, _), (10, _)]) ⟨rfl, rfl, rfl, rfl, rfl, rfl, trivial⟩ ?_
  exact l_X0_wideLine hh (lineX_lt _ _ _ _) hw1 hw2 2 0 f (lineX h f w r) (by omega) (by omega) hf1 hf2 (lineX_lt _ _ _ _) ⟨rfl, rfl⟩
end
section
/-! PART 09: a town as a value; what comes of it (specification, in whole numbers) -/
/-- contracts that say something of the store behind them -/
def RE (r : Option Value) (P : Sg → Prop) : Option Value → Sg → Prop := fun v τ => v = r ∧ P τ
section AWE
variable {G : Gl} {d : Nat} {own : String} {cc : ByteArray} {mL : Nat} {ret : Option FieldType} {pc : Nat} {ls : List (Nat × Value)} {st : List Value} {σ : Sg} {K : Option Value → Sg → Prop}
theorem A_callVe {idx n mL2 c ci : Nat} {fl : List (Nat × Nat)} {y : MethodName} {b : ByteArray} {ret2 : Option FieldType} {As rest : List Value} {r : Value} {P : Sg → Prop} (hl : LkV own idx y n b mL2 ret2) (hs : shp c = .inl (ci, fl)) (hci : (vwCl[ci]?).map (fun q => q.1) = some y.cls) (hc : CT G d y b mL2 ret2 (.ref (gA G c) :: As) σ (RE (some r) P)) (hd : decode cc pc = .ok (.invokevirtual idx, 3)) (hst : st = As.reverse ++ .ref (gA G c) :: rest) (hn : As.length = n) (hm : mL2 ≤ 80) (hr : (rest.map fun v => v.category).sum ≤ 8)
    (k : ∀ τ, P τ → AW G (d + 1) own cc mL ret (pc + 3) ls (r :: rest) τ K) : AW G (d + 1) own cc mL ret pc ls st σ K :=
  A_callV hl hs hci hc hd hst hn hm hr (fun v τ' h => by obtain ⟨rfl, h2⟩ := h; exact k _ h2)
theorem A_callVe0 {idx n mL2 c ci : Nat} {fl : List (Nat × Nat)} {y : MethodName} {b : ByteArray} {ret2 : Option FieldType} {As rest : List Value} {P : Sg → Prop} (hl : LkV own idx y n b mL2 ret2) (hs : shp c = .inl (ci, fl)) (hci : (vwCl[ci]?).map (fun q => q.1) = some y.cls) (hc : CT G d y b mL2 ret2 (.ref (gA G c) :: As) σ (RE none P)) (hd : decode cc pc = .ok (.invokevirtual idx, 3)) (hst : st = As.reverse ++ .ref (gA G c) :: rest) (hn : As.length = n) (hm : mL2 ≤ 80) (hr : (rest.map fun v => v.category).sum ≤ 8)
    (k : ∀ τ, P τ → AW G (d + 1) own cc mL ret (pc + 3) ls rest τ K) : AW G (d + 1) own cc mL ret pc ls st σ K :=
  A_callV hl hs hci hc hd hst hn hm hr (fun v τ' h => by obtain ⟨rfl, h2⟩ := h; exact k _ h2)
theorem A_callSe {idx n mL2 : Nat} {y : MethodName} {b : ByteArray} {ret2 : Option FieldType} {As rest : List Value} {r : Value} {P : Sg → Prop} (hl : LkS own idx y n b mL2 ret2) (hc : CT G d y b mL2 ret2 As σ (RE (some r) P)) (hd : decode cc pc = .ok (.invokestatic idx, 3)) (hst : st = As.reverse ++ rest) (hn : As.length = n) (hm : mL2 ≤ 80) (hr : (rest.map fun v => v.category).sum ≤ 8)
    (k : ∀ τ, P τ → AW G (d + 1) own cc mL ret (pc + 3) ls (r :: rest) τ K) : AW G (d + 1) own cc mL ret pc ls st σ K :=
  A_callS hl hc hd hst hn hm hr (fun v τ' h => by obtain ⟨rfl, h2⟩ := h; exact k _ h2)
theorem A_getIv {idx ci k c z : Nat} {fl : List (Nat × Nat)} {x : Int} (hf : LkF own idx ci k) (hs : shp c = .inl (ci, fl)) (hk : fl[k]? = some (0, z)) (hx : σ.1 c k = x) (hd : decode cc pc = .ok (.getfield idx, 3))
    (kk : AW G d own cc mL ret (pc + 3) ls (.int (iI x) :: st) σ K) : AW G d own cc mL ret pc ls (.ref (gA G c) :: st) σ K := A_getI hf hs hk hd (hx ▸ kk)
theorem A_getLv {idx ci k c z : Nat} {fl : List (Nat × Nat)} {x : Int64} (hf : LkF own idx ci k) (hs : shp c = .inl (ci, fl)) (hk : fl[k]? = some (1, z)) (hx : σ.2 c k = x) (hd : decode cc pc = .ok (.getfield idx, 3))
    (kk : AW G d own cc mL ret (pc + 3) ls (.long x :: st) σ K) : AW G d own cc mL ret pc ls (.ref (gA G c) :: st) σ K := A_getL hf hs hk hd (hx ▸ kk)
theorem A_ialdv {c n : Nat} {i x : Int} (j : Nat) (hs : shp c = .inr (0, n)) (hi : i = (j : Int)) (hj : j < n) (hn : n < 2 ^ 31) (hx : σ.1 c j = x) (hd : decode cc pc = .ok (.iaload, 1))
    (kk : AW G d own cc mL ret (pc + 1) ls (.int (iI x) :: st) σ K) : AW G d own cc mL ret pc ls (.int (iI i) :: .ref (gA G c) :: st) σ K := A_iald j hs hi hj hn hd (hx ▸ kk)
theorem A_zaldv {c n : Nat} {i x : Int} (j : Nat) (hs : shp c = .inr (2, n)) (hi : i = (j : Int)) (hj : j < n) (hn : n < 2 ^ 31) (hx : σ.1 c j = x) (hd : decode cc pc = .ok (.baload, 1))
    (kk : AW G d own cc mL ret (pc + 1) ls (.int (iI x) :: st) σ K) : AW G d own cc mL ret pc ls (.int (iI i) :: .ref (gA G c) :: st) σ K := A_zald j hs hi hj hn hd (hx ▸ kk)
theorem A_laldv {c n : Nat} {i : Int} {x : Int64} (j : Nat) (hs : shp c = .inr (1, n)) (hi : i = (j : Int)) (hj : j < n) (hn : n < 2 ^ 31) (hx : σ.2 c j = x) (hd : decode cc pc = .ok (.laload, 1))
    (kk : AW G d own cc mL ret (pc + 1) ls (.long x :: st) σ K) : AW G d own cc mL ret pc ls (.int (iI i) :: .ref (gA G c) :: st) σ K := A_lald j hs hi hj hn hd (hx ▸ kk)
end AWE
/-- two stores differ in the cells S alone -/
def Fr (S : Nat → Prop) (σ τ : Sg) : Prop := ∀ a, ¬ S a → τ.1 a = σ.1 a ∧ τ.2 a = σ.2 a
theorem Fr.rf {S : Nat → Prop} {σ : Sg} : Fr S σ σ := fun _ _ => ⟨rfl, rfl⟩
theorem Fr.tr {S : Nat → Prop} {σ τ υ : Sg} (h1 : Fr S σ τ) (h2 : Fr S τ υ) : Fr S σ υ := fun a ha => ⟨(h2 a ha).1.trans (h1 a ha).1, (h2 a ha).2.trans (h1 a ha).2⟩
theorem Fr.mono {S S2 : Nat → Prop} {σ τ : Sg} (h1 : Fr S σ τ) (h : ∀ a, S a → S2 a) : Fr S2 σ τ := fun a ha => h1 a (fun q => ha (h a q))
theorem Fr.uI {S : Nat → Prop} {σ τ : Sg} {c k : Nat} {v : Int} (h : Fr S σ τ) (hc : S c) : Fr S σ (uI τ c k v) := fun a ha => by
  have hne : a ≠ c := fun e => ha (e ▸ hc)
  exact ⟨(uI_ne hne).symm.trans (h a ha).1, (h a ha).2⟩
theorem Fr.uL {S : Nat → Prop} {σ τ : Sg} {c k : Nat} {v : Int64} (h : Fr S σ τ) (hc : S c) : Fr S σ (uL τ c k v) := fun a ha => by
  have hne : a ≠ c := fun e => ha (e ▸ hc)
  exact ⟨(h a ha).1, (uL_ne hne).symm.trans (h a ha).2⟩
/-- some, all in one of the next n -/
def anyR (f : Nat → Bool) : Nat → Nat → Bool
  | 0, _ => false
  | n + 1, i => f i || anyR f n (i + 1)
def orR (f : Nat → Bool) : Nat → Nat → Nat
  | 0, _ => 0
  | n + 1, i => (if f i then 2 ^ i else 0) ||| orR f n (i + 1)
def sumR (f : Nat → Int) : Nat → Nat → Int
  | 0, _ => 0
  | n + 1, i => f i + sumR f n (i + 1)
theorem anyR_congr {f g : Nat → Bool} : ∀ {n i : Nat}, (∀ k, i ≤ k → k < i + n → f k = g k) → anyR f n i = anyR g n i
  | 0, _, _ => rfl
  | n + 1, i, h => by
    unfold anyR
    rw [h i (Nat.le_refl _) (by omega), anyR_congr (fun k h1 h2 => h k (by omega) (by omega))]
theorem orR_congr {f g : Nat → Bool} : ∀ {n i : Nat}, (∀ k, i ≤ k → k < i + n → f k = g k) → orR f n i = orR g n i
  | 0, _, _ => rfl
  | n + 1, i, h => by
    unfold orR
    rw [h i (Nat.le_refl _) (by omega), orR_congr (fun k h1 h2 => h k (by omega) (by omega))]
theorem orR_lt {f : Nat → Bool} {m : Nat} : ∀ {n i : Nat}, i + n ≤ m → orR f n i < 2 ^ m
  | 0, _, _ => Nat.two_pow_pos _
  | n + 1, i, h => by
    unfold orR
    refine Nat.or_lt_two_pow ?_ (orR_lt (by omega))
    by_cases q : f i
    · rw [if_pos q]; exact Nat.pow_lt_pow_right (by decide) (by omega)
    · rw [if_neg q]; exact Nat.two_pow_pos _
theorem orR_bit {f : Nat → Bool} {k : Nat} : ∀ {n i : Nat}, (orR f n i).testBit k = (decide (i ≤ k ∧ k < i + n) && f k)
  | 0, i => by
    unfold orR
    rw [Nat.zero_testBit]
    have : ¬ (i ≤ k ∧ k < i + 0) := by omega
    rw [decide_eq_false this, Bool.false_and]
  | n + 1, i => by
    unfold orR
    rw [Nat.testBit_or, orR_bit]
    by_cases e : k = i
    · subst e
      have h1 : ¬ (k + 1 ≤ k ∧ k < k + 1 + n) := by omega
      have h2 : k ≤ k ∧ k < k + (n + 1) := by omega
      simp only [h1, h2, decide_true, decide_false, Bool.false_and, Bool.true_and, Bool.or_false, and_self]
      by_cases q : f k
      · rw [if_pos q, Nat.testBit_two_pow_self, q]
      · rw [if_neg q, Nat.zero_testBit]; simpa using q
    · have h1 : (i + 1 ≤ k ∧ k < i + 1 + n) ↔ (i ≤ k ∧ k < i + (n + 1)) := by omega
      have h3 : (if f i = true then 2 ^ i else 0).testBit k = false := by
        by_cases q : f i
        · rw [if_pos q, Nat.testBit_two_pow]; simp [Ne.symm e]
        · rw [if_neg q, Nat.zero_testBit]
      rw [h3, Bool.false_or]
      simp only [h1]
/-- a town: its houses (bits), 0 panes 1 walkers 2 reach 3 days 4 shame 5 seed; 0 kind 1 a 2 at 3 out (of panes), 4 at 5 faces 6 tried (of walkers) -/
abbrev Tw : Type := Nat × (Nat → Int) × (Nat → Nat → Int)
def OkT (τ : Tw) : Prop := τ.1 < 2 ^ 49 ∧ 0 ≤ τ.2.1 0 ∧ τ.2.1 0 ≤ 9 ∧ 0 ≤ τ.2.1 1 ∧ τ.2.1 1 ≤ 5 ∧ 1 ≤ τ.2.1 2 ∧ τ.2.1 2 ≤ 6 ∧
  (∀ p : Nat, (p : Int) < τ.2.1 0 → 0 ≤ τ.2.2 0 p ∧ τ.2.2 0 p ≤ 6 ∧ 0 ≤ τ.2.2 1 p ∧ τ.2.2 1 p ≤ 9 ∧ 0 ≤ τ.2.2 2 p ∧ τ.2.2 2 p ≤ 48 ∧ 0 ≤ τ.2.2 3 p ∧ τ.2.2 3 p ≤ 3) ∧
  (∀ w : Nat, (w : Int) < τ.2.1 1 → 0 ≤ τ.2.2 4 w ∧ τ.2.2 4 w ≤ 48 ∧ 0 ≤ τ.2.2 5 w ∧ τ.2.2 5 w ≤ 3)
/-- a town of the class, at the cell c -/
def RX (c : Nat) (τ : Tw) (σ : Sg) : Prop := σ.2 c 0 = lN τ.1 ∧ (∀ k : Nat, k < 6 → σ.1 c (k + 1) = τ.2.1 k) ∧
  (∀ j p : Nat, j < 4 → (p : Int) < τ.2.1 0 → σ.1 (c + 1 + j) p = τ.2.2 j p) ∧ (∀ j w : Nat, j < 3 → (w : Int) < τ.2.1 1 → σ.1 (c + 5 + j) w = τ.2.2 (4 + j) w)
/-- the reference's town -/
def RMt (τ : Tw) (σ : Sg) : Prop := (∀ i : Nat, i < 49 → σ.1 62 i = bI (τ.1.testBit i = true)) ∧ σ.1 54 0 = τ.2.1 0 ∧ σ.1 54 5 = τ.2.1 1 ∧ (∀ k : Nat, k < 3 → σ.1 63 k = τ.2.1 (2 + k)) ∧ σ.1 54 11 = τ.2.1 5 ∧
  (∀ j p : Nat, j < 4 → (p : Int) < τ.2.1 0 → σ.1 (55 + j) p = τ.2.2 j p) ∧ (∀ j w : Nat, j < 3 → (w : Int) < τ.2.1 1 → σ.1 (59 + j) w = τ.2.2 (4 + j) w)
theorem RX.kind {c : Nat} {τ : Tw} {σ : Sg} (h : RX c τ σ) {p : Nat} (hp : (p : Int) < τ.2.1 0) : σ.1 (c + 1) p = τ.2.2 0 p := h.2.2.1 0 p (by decide) hp
theorem RX.a {c : Nat} {τ : Tw} {σ : Sg} (h : RX c τ σ) {p : Nat} (hp : (p : Int) < τ.2.1 0) : σ.1 (c + 2) p = τ.2.2 1 p := h.2.2.1 1 p (by decide) hp
theorem RX.at {c : Nat} {τ : Tw} {σ : Sg} (h : RX c τ σ) {p : Nat} (hp : (p : Int) < τ.2.1 0) : σ.1 (c + 3) p = τ.2.2 2 p := h.2.2.1 2 p (by decide) hp
theorem RX.out {c : Nat} {τ : Tw} {σ : Sg} (h : RX c τ σ) {p : Nat} (hp : (p : Int) < τ.2.1 0) : σ.1 (c + 4) p = τ.2.2 3 p := h.2.2.1 3 p (by decide) hp
theorem RX.wat {c : Nat} {τ : Tw} {σ : Sg} (h : RX c τ σ) {p : Nat} (hp : (p : Int) < τ.2.1 1) : σ.1 (c + 5) p = τ.2.2 4 p := h.2.2.2 0 p (by decide) hp
theorem RX.wf {c : Nat} {τ : Tw} {σ : Sg} (h : RX c τ σ) {p : Nat} (hp : (p : Int) < τ.2.1 1) : σ.1 (c + 6) p = τ.2.2 5 p := h.2.2.2 1 p (by decide) hp
theorem RX.wt {c : Nat} {τ : Tw} {σ : Sg} (h : RX c τ σ) {p : Nat} (hp : (p : Int) < τ.2.1 1) : σ.1 (c + 7) p = τ.2.2 6 p := h.2.2.2 2 p (by decide) hp
theorem RMt.kind {τ : Tw} {σ : Sg} (h : RMt τ σ) {p : Nat} (hp : (p : Int) < τ.2.1 0) : σ.1 55 p = τ.2.2 0 p := h.2.2.2.2.2.1 0 p (by decide) hp
theorem RMt.a {τ : Tw} {σ : Sg} (h : RMt τ σ) {p : Nat} (hp : (p : Int) < τ.2.1 0) : σ.1 56 p = τ.2.2 1 p := h.2.2.2.2.2.1 1 p (by decide) hp
theorem RMt.at {τ : Tw} {σ : Sg} (h : RMt τ σ) {p : Nat} (hp : (p : Int) < τ.2.1 0) : σ.1 57 p = τ.2.2 2 p := h.2.2.2.2.2.1 2 p (by decide) hp
theorem RMt.out {τ : Tw} {σ : Sg} (h : RMt τ σ) {p : Nat} (hp : (p : Int) < τ.2.1 0) : σ.1 58 p = τ.2.2 3 p := h.2.2.2.2.2.1 3 p (by decide) hp
theorem RMt.wat {τ : Tw} {σ : Sg} (h : RMt τ σ) {p : Nat} (hp : (p : Int) < τ.2.1 1) : σ.1 59 p = τ.2.2 4 p := h.2.2.2.2.2.2 0 p (by decide) hp
theorem RMt.wf {τ : Tw} {σ : Sg} (h : RMt τ σ) {p : Nat} (hp : (p : Int) < τ.2.1 1) : σ.1 60 p = τ.2.2 5 p := h.2.2.2.2.2.2 1 p (by decide) hp
theorem RMt.wt {τ : Tw} {σ : Sg} (h : RMt τ σ) {p : Nat} (hp : (p : Int) < τ.2.1 1) : σ.1 61 p = τ.2.2 6 p := h.2.2.2.2.2.2 2 p (by decide) hp
/-- stores with the same town -/
theorem RX.fr {c : Nat} {τ : Tw} {σ υ : Sg} {S : Nat → Prop} (h : RX c τ σ) (hF : Fr S σ υ) (hS : ∀ a, S a → ¬ (c ≤ a ∧ a < c + 8)) : RX c τ υ := by
  have e1 : ∀ a, c ≤ a → a < c + 8 → υ.1 a = σ.1 a := fun a h1 h2 => (hF a (fun q => hS a q ⟨h1, h2⟩)).1
  refine ⟨by rw [(hF c (fun q => hS c q ⟨Nat.le_refl _, by omega⟩)).2]; exact h.1, fun k hk => by rw [e1 c (Nat.le_refl _) (by omega)]; exact h.2.1 k hk, fun j p hj hp => by rw [e1 _ (by omega) (by omega)]; exact h.2.2.1 j p hj hp, fun j p hj hp => by rw [e1 _ (by omega) (by omega)]; exact h.2.2.2 j p hj hp⟩
theorem RMt.fr {τ : Tw} {σ υ : Sg} {S : Nat → Prop} (h : RMt τ σ) (hF : Fr S σ υ) (hS : ∀ a, S a → ¬ (54 ≤ a ∧ a < 64)) : RMt τ υ := by
  have e1 : ∀ a, 54 ≤ a → a < 64 → υ.1 a = σ.1 a := fun a h1 h2 => (hF a (fun q => hS a q ⟨h1, h2⟩)).1
  obtain ⟨h1, h2, h3, h4, h5, h6, h7⟩ := h
  exact ⟨fun i hi => by rw [e1 62 (by omega) (by omega)]; exact h1 i hi, by rw [e1 54 (by omega) (by omega)]; exact h2, by rw [e1 54 (by omega) (by omega)]; exact h3, fun k hk => by rw [e1 63 (by omega) (by omega)]; exact h4 k hk, by rw [e1 54 (by omega) (by omega)]; exact h5, fun j p hj hp => by rw [e1 _ (by omega) (by omega)]; exact h6 j p hj hp, fun j p hj hp => by rw [e1 _ (by omega) (by omega)]; exact h7 j p hj hp⟩
/-- is a pane at a square; is somebody -/
def pAt (τ : Tw) (s : Int) : Bool := anyR (fun p => decide (τ.2.2 2 p = s)) (τ.2.1 0).toNat 0
def wAt (τ : Tw) (s : Int) : Bool := anyR (fun p => decide (τ.2.2 4 p = s)) (τ.2.1 1).toNat 0
/-- the walkers in a set of squares -/
def wIn (τ : Tw) (b : Nat) : Nat := orR (fun w => decide (sT b (τ.2.2 4 w))) (τ.2.1 1).toNat 0
theorem wIn_lt {τ : Tw} (h : OkT τ) (b : Nat) : wIn τ b < 32 := orR_lt (m := 5) (by obtain ⟨-, -, -, h4, h5, -⟩ := h; omega)
/-- does a pane let somebody look in from off -/
def lets (k a off : Int) : Bool := if k = 1 then false else if k = 2 then decide (off ≤ a + 1) else if k = 3 then decide (off = 1) else true
/-- the panes at a house, with a way out, that let look in -/
def opens (τ : Tw) (s w off : Int) : Nat := orR (fun p => decide (τ.2.2 2 p = s ∧ τ.2.2 3 p = w) && lets (τ.2.2 0 p) (τ.2.2 1 p) off) (τ.2.1 0).toNat 0
theorem opens_lt {τ : Tw} (h : OkT τ) (s w off : Int) : opens τ s w off < 512 := orR_lt (m := 9) (by obtain ⟨-, h2, h3, -⟩ := h; omega)
/-- the panes that somebody looks in at, with n squares to go, from a square -/
def lookG (τ : Tw) (w : Int) : Nat → Int → Int → Nat
  | 0, _, _ => 0
  | n + 1, a, off => if sT τ.1 (bes a w) then opens τ (bes a w) (3 - w) off else lookG τ w n (bes a w) (off + 1)
def look (τ : Tw) (s w : Int) : Nat := lookG τ w (τ.2.1 2).toNat s 1
theorem lookG_lt {τ : Tw} (h : OkT τ) (w : Int) : ∀ (n : Nat) (a off : Int), lookG τ w n a off < 512
  | 0, _, _ => by unfold lookG; decide
  | n + 1, a, off => by
    unfold lookG
    by_cases q : sT τ.1 (bes a w)
    · rw [if_pos q]; exact opens_lt h _ _ _
    · rw [if_neg q]; exact lookG_lt h w n _ _
theorem look_lt {τ : Tw} (h : OkT τ) (s w : Int) : look τ s w < 512 := lookG_lt h w _ _ _
/-- what a pane sees, if the houses are b -/
def seeB (τ : Tw) (b : Nat) (p : Nat) : Nat :=
  if (τ.2.2 0 p = 0 ∨ τ.2.2 0 p = 1) ∨ τ.2.2 0 p = 3 then lineX b (τ.2.2 2 p) (τ.2.2 3 p) (τ.2.1 2) else if τ.2.2 0 p = 4 then wideX b (τ.2.2 2 p) (τ.2.2 3 p) (τ.2.1 2) else if τ.2.2 0 p = 5 then wideX b (τ.2.2 2 p) (τ.2.2 3 p) (τ.2.1 2 + τ.2.2 1 p) else 0
theorem seeB_lt (τ : Tw) (b p : Nat) : seeB τ b p < 2 ^ 49 := by
  unfold seeB
  (repeat' split) <;> first | exact lineX_lt _ _ _ _ | exact wideX_lt _ _ _ _ | decide
end
section
/-! PART 10: bit counts, Math; WindowsLookedOut$Town -/
def ush (x k : Int32) : Int32 := (x.toUInt32 >>> (k.toUInt32 &&& Int32.toUInt32 31)).toInt32
def bcF (x : Int32) : Int32 :=
  let a := x - (ush x (iI 1) &&& iI 1431655765)
  let b := (a &&& iI 858993459) + (ush a (iI 2) &&& iI 858993459)
  let c := (b + ush b (iI 4)) &&& iI 252645135
  let e := c + ush c (iI 8)
  let f := e + ush e (iI 16)
  f &&& iI 63
/-- Integer.bitCount -/
def bc32 (m : Int) : Int := (bcF (iI m)).toInt
def lsh (x : Int64) (k : Int32) : Int64 := (x.toUInt64 >>> (k.toInt64.toUInt64 &&& Int64.toUInt64 63)).toInt64
def bcG (x : Int64) : Int64 :=
  let a := x - (lsh x (iI 1) &&& 6148914691236517205)
  let b := (a &&& 3689348814741910323) + (lsh a (iI 2) &&& 3689348814741910323)
  let c := (b + lsh b (iI 4)) &&& 1085102592571150095
  let e := c + lsh c (iI 8)
  let f := e + lsh e (iI 16)
  f + lsh f (iI 32)
/-- Long.bitCount -/
def bc64 (x : Int64) : Int := ((bcG x).toInt32 &&& iI 127).toInt
theorem and_rng (x : Int32) (k : Nat) (m : Int) (hk : k ≤ 30) (hm : (iI m).toBitVec.toNat = 2 ^ k - 1) : 0 ≤ (x &&& iI m).toInt ∧ (x &&& iI m).toInt < 2 ^ k := by
  rw [pk_and x k hm]
  have h1 : x.toBitVec.toNat % 2 ^ k < 2 ^ k := Nat.mod_lt _ (Nat.two_pow_pos k)
  have h2 : (2 : Nat) ^ k ≤ 2 ^ 30 := Nat.pow_le_pow_right (by decide) hk
  rw [nI_toInt (by omega)]
  refine ⟨by omega, ?_⟩
  exact_mod_cast h1
theorem bc32_rng (m : Int) : 0 ≤ bc32 m ∧ bc32 m < 64 := and_rng _ 6 63 (by decide) (by decide)
theorem bc64_rng (x : Int64) : 0 ≤ bc64 x ∧ bc64 x < 128 := and_rng _ 7 127 (by decide) (by decide)
theorem dJ6_bitCount_0f7a4_0 : decode cJ6_bitCount_0f7a4 0 = .ok (.iload_n 0, 1) := by decide +kernel
theorem dJ6_bitCount_0f7a4_1 : decode cJ6_bitCount_0f7a4 1 = .ok (.iload_n 0, 1) := by decide +kernel
theorem dJ6_bitCount_0f7a4_2 : decode cJ6_bitCount_0f7a4 2 = .ok (.iconst 1, 1) := by decide +kernel
theorem dJ6_bitCount_0f7a4_3 : decode cJ6_bitCount_0f7a4 3 = .ok (.iushr, 1) := by decide +kernel
theorem dJ6_bitCount_0f7a4_4 : decode cJ6_bitCount_0f7a4 4 = .ok (.ldc_w 265, 3) := by decide +kernel
theorem dJ6_bitCount_0f7a4_7 : decode cJ6_bitCount_0f7a4 7 = .ok (.iand, 1) := by decide +kernel
theorem dJ6_bitCount_0f7a4_8 : decode cJ6_bitCount_0f7a4 8 = .ok (.isub, 1) := by decide +kernel
theorem dJ6_bitCount_0f7a4_9 : decode cJ6_bitCount_0f7a4 9 = .ok (.istore_n 0, 1) := by decide +kernel
theorem dJ6_bitCount_0f7a4_10 : decode cJ6_bitCount_0f7a4 10 = .ok (.iload_n 0, 1) := by decide +kernel
theorem dJ6_bitCount_0f7a4_11 : decode cJ6_bitCount_0f7a4 11 = .ok (.ldc_w 266, 3) := by decide +kernel
theorem dJ6_bitCount_0f7a4_14 : decode cJ6_bitCount_0f7a4 14 = .ok (.iand, 1) := by decide +kernel
theorem dJ6_bitCount_0f7a4_15 : decode cJ6_bitCount_0f7a4 15 = .ok (.iload_n 0, 1) := by decide +kernel
theorem dJ6_bitCount_0f7a4_16 : decode cJ6_bitCount_0f7a4 16 = .ok (.iconst 2, 1) := by decide +kernel
theorem dJ6_bitCount_0f7a4_17 : decode cJ6_bitCount_0f7a4 17 = .ok (.iushr, 1) := by decide +kernel
theorem dJ6_bitCount_0f7a4_18 : decode cJ6_bitCount_0f7a4 18 = .ok (.ldc_w 266, 3) := by decide +kernel
theorem dJ6_bitCount_0f7a4_21 : decode cJ6_bitCount_0f7a4 21 = .ok (.iand, 1) := by decide +kernel
theorem dJ6_bitCount_0f7a4_22 : decode cJ6_bitCount_0f7a4 22 = .ok (.iadd, 1) := by decide +kernel
theorem dJ6_bitCount_0f7a4_23 : decode cJ6_bitCount_0f7a4 23 = .ok (.istore_n 0, 1) := by decide +kernel
theorem dJ6_bitCount_0f7a4_24 : decode cJ6_bitCount_0f7a4 24 = .ok (.iload_n 0, 1) := by decide +kernel
theorem dJ6_bitCount_0f7a4_25 : decode cJ6_bitCount_0f7a4 25 = .ok (.iload_n 0, 1) := by decide +kernel
theorem dJ6_bitCount_0f7a4_26 : decode cJ6_bitCount_0f7a4 26 = .ok (.iconst 4, 1) := by decide +kernel
theorem dJ6_bitCount_0f7a4_27 : decode cJ6_bitCount_0f7a4 27 = .ok (.iushr, 1) := by decide +kernel
theorem dJ6_bitCount_0f7a4_28 : decode cJ6_bitCount_0f7a4 28 = .ok (.iadd, 1) := by decide +kernel
theorem dJ6_bitCount_0f7a4_29 : decode cJ6_bitCount_0f7a4 29 = .ok (.ldc_w 267, 3) := by decide +kernel
theorem dJ6_bitCount_0f7a4_32 : decode cJ6_bitCount_0f7a4 32 = .ok (.iand, 1) := by decide +kernel
theorem dJ6_bitCount_0f7a4_33 : decode cJ6_bitCount_0f7a4 33 = .ok (.istore_n 0, 1) := by decide +kernel
theorem dJ6_bitCount_0f7a4_34 : decode cJ6_bitCount_0f7a4 34 = .ok (.iload_n 0, 1) := by decide +kernel
theorem dJ6_bitCount_0f7a4_35 : decode cJ6_bitCount_0f7a4 35 = .ok (.iload_n 0, 1) := by decide +kernel
theorem dJ6_bitCount_0f7a4_36 : decode cJ6_bitCount_0f7a4 36 = .ok (.bipush 8, 2) := by decide +kernel
theorem dJ6_bitCount_0f7a4_38 : decode cJ6_bitCount_0f7a4 38 = .ok (.iushr, 1) := by decide +kernel
theorem dJ6_bitCount_0f7a4_39 : decode cJ6_bitCount_0f7a4 39 = .ok (.iadd, 1) := by decide +kernel
theorem dJ6_bitCount_0f7a4_40 : decode cJ6_bitCount_0f7a4 40 = .ok (.istore_n 0, 1) := by decide +kernel
theorem dJ6_bitCount_0f7a4_41 : decode cJ6_bitCount_0f7a4 41 = .ok (.iload_n 0, 1) := by decide +kernel
theorem dJ6_bitCount_0f7a4_42 : decode cJ6_bitCount_0f7a4 42 = .ok (.iload_n 0, 1) := by decide +kernel
theorem dJ6_bitCount_0f7a4_43 : decode cJ6_bitCount_0f7a4 43 = .ok (.bipush 16, 2) := by decide +kernel
theorem dJ6_bitCount_0f7a4_45 : decode cJ6_bitCount_0f7a4 45 = .ok (.iushr, 1) := by decide +kernel
theorem dJ6_bitCount_0f7a4_46 : decode cJ6_bitCount_0f7a4 46 = .ok (.iadd, 1) := by decide +kernel
theorem dJ6_bitCount_0f7a4_47 : decode cJ6_bitCount_0f7a4 47 = .ok (.istore_n 0, 1) := by decide +kernel
theorem dJ6_bitCount_0f7a4_48 : decode cJ6_bitCount_0f7a4 48 = .ok (.iload_n 0, 1) := by decide +kernel
theorem dJ6_bitCount_0f7a4_49 : decode cJ6_bitCount_0f7a4 49 = .ok (.bipush 63, 2) := by decide +kernel
theorem dJ6_bitCount_0f7a4_51 : decode cJ6_bitCount_0f7a4 51 = .ok (.iand, 1) := by decide +kernel
theorem dJ6_bitCount_0f7a4_52 : decode cJ6_bitCount_0f7a4 52 = .ok (.ireturn, 1) := by decide +kernel
set_option maxRecDepth 20000 in
theorem c_J6_bitCount_0f7a4 {G : Gl} {d : Nat} {σ : Sg} {m : Int} : CT G d yJ6_bitCount_0f7a4 cJ6_bitCount_0f7a4 1 (some .int) [.int (iI m)] σ (R1 (.int (iI (bc32 m))) σ) := by
  refine CT.of (by decide +kernel) (Nat.le_of_ble_eq_true rfl) ?_
  change AW G _ RJ6 _ _ _ 0 [(0, .int (iI m))] [] _ _
  refine A_iload_n (pc := 0) dJ6_bitCount_0f7a4_0 rfl rfl ?_
  refine A_iload_n (pc := 1) dJ6_bitCount_0f7a4_1 rfl rfl ?_
  refine A_iconst (pc := 2) dJ6_bitCount_0f7a4_2 ?_
  refine A_iushr (pc := 3) _ dJ6_bitCount_0f7a4_3 (iI_of _).symm ?_
  refine A_ldcw (pc := 4) inJ6_265 dJ6_bitCount_0f7a4_4 ?_
  refine A_iand (pc := 7) _ dJ6_bitCount_0f7a4_7 (iI_of _).symm ?_
  refine A_isub (pc := 8) dJ6_bitCount_0f7a4_8 ?_
  refine A_istore_n (pc := 9) dJ6_bitCount_0f7a4_9 rfl (Nat.le_of_ble_eq_true rfl) ?_
  refine A_iload_n (pc := 10) dJ6_bitCount_0f7a4_10 rfl rfl ?_
  refine A_ldcw (pc := 11) inJ6_266 dJ6_bitCount_0f7a4_11 ?_
  refine A_iand (pc := 14) _ dJ6_bitCount_0f7a4_14 (iI_of _).symm ?_
  refine A_iload_n (pc := 15) dJ6_bitCount_0f7a4_15 rfl rfl ?_
  refine A_iconst (pc := 16) dJ6_bitCount_0f7a4_16 ?_
  refine A_iushr (pc := 17) _ dJ6_bitCount_0f7a4_17 (iI_of _).symm ?_
  refine A_ldcw (pc := 18) inJ6_266 dJ6_bitCount_0f7a4_18 ?_
  refine A_iand (pc := 21) _ dJ6_bitCount_0f7a4_21 (iI_of _).symm ?_
  refine A_iadd (pc := 22) dJ6_bitCount_0f7a4_22 ?_
  refine A_istore_n (pc := 23) dJ6_bitCount_0f7a4_23 rfl (Nat.le_of_ble_eq_true rfl) ?_
  refine A_iload_n (pc := 24) dJ6_bitCount_0f7a4_24 rfl rfl ?_
  refine A_iload_n (pc := 25) dJ6_bitCount_0f7a4_25 rfl rfl ?_
  refine A_iconst (pc := 26) dJ6_bitCount_0f7a4_26 ?_
  refine A_iushr (pc := 27) _ dJ6_bitCount_0f7a4_27 (iI_of _).symm ?_
  refine A_iadd (pc := 28) dJ6_bitCount_0f7a4_28 ?_
  refine A_ldcw (pc := 29) inJ6_267 dJ6_bitCount_0f7a4_29 ?_
  refine A_iand (pc := 32) _ dJ6_bitCount_0f7a4_32 (iI_of _).symm ?_
  refine A_istore_n (pc := 33) dJ6_bitCount_0f7a4_33 rfl (Nat.le_of_ble_eq_true rfl) ?_
  refine A_iload_n (pc := 34) dJ6_bitCount_0f7a4_34 rfl rfl ?_
  refine A_iload_n (pc := 35) dJ6_bitCount_0f7a4_35 rfl rfl ?_
  refine A_bipush (pc := 36) dJ6_bitCount_0f7a4_36 (by decide) ?_
  refine A_iushr (pc := 38) _ dJ6_bitCount_0f7a4_38 (iI_of _).symm ?_
  refine A_iadd (pc := 39) dJ6_bitCount_0f7a4_39 ?_
  refine A_istore_n (pc := 40) dJ6_bitCount_0f7a4_40 rfl (Nat.le_of_ble_eq_true rfl) ?_
  refine A_iload_n (pc := 41) dJ6_bitCount_0f7a4_41 rfl rfl ?_
  refine A_iload_n (pc := 42) dJ6_bitCount_0f7a4_42 rfl rfl ?_
  refine A_bipush (pc := 43) dJ6_bitCount_0f7a4_43 (by decide) ?_
  refine A_iushr (pc := 45) _ dJ6_bitCount_0f7a4_45 (iI_of _).symm ?_
  refine A_iadd (pc := 46) dJ6_bitCount_0f7a4_46 ?_
  refine A_istore_n (pc := 47) dJ6_bitCount_0f7a4_47 rfl (Nat.le_of_ble_eq_true rfl) ?_
  refine A_iload_n (pc := 48) dJ6_bitCount_0f7a4_48 rfl rfl ?_
  refine A_bipush (pc := 49) dJ6_bitCount_0f7a4_49 (by decide) ?_
  refine A_iand (pc := 51) _ dJ6_bitCount_0f7a4_51 (iI_of _).symm ?_
  refine A_iret (pc := 52) rfl dJ6_bitCount_0f7a4_52 ?_
  refine ⟨?_, rfl⟩
  simp only [bc32, bcF, ush, ← iI_add, ← iI_sub, iI_of]
theorem dJ13_bitCount_95d88_0 : decode cJ13_bitCount_95d88 0 = .ok (.lload_n 0, 1) := by decide +kernel
theorem dJ13_bitCount_95d88_1 : decode cJ13_bitCount_95d88 1 = .ok (.lload_n 0, 1) := by decide +kernel
theorem dJ13_bitCount_95d88_2 : decode cJ13_bitCount_95d88 2 = .ok (.iconst 1, 1) := by decide +kernel
theorem dJ13_bitCount_95d88_3 : decode cJ13_bitCount_95d88 3 = .ok (.lushr, 1) := by decide +kernel
theorem dJ13_bitCount_95d88_4 : decode cJ13_bitCount_95d88 4 = .ok (.ldc2_w 314, 3) := by decide +kernel
theorem dJ13_bitCount_95d88_7 : decode cJ13_bitCount_95d88 7 = .ok (.land, 1) := by decide +kernel
theorem dJ13_bitCount_95d88_8 : decode cJ13_bitCount_95d88 8 = .ok (.lsub, 1) := by decide +kernel
theorem dJ13_bitCount_95d88_9 : decode cJ13_bitCount_95d88 9 = .ok (.lstore_n 0, 1) := by decide +kernel
theorem dJ13_bitCount_95d88_10 : decode cJ13_bitCount_95d88 10 = .ok (.lload_n 0, 1) := by decide +kernel
theorem dJ13_bitCount_95d88_11 : decode cJ13_bitCount_95d88 11 = .ok (.ldc2_w 316, 3) := by decide +kernel
theorem dJ13_bitCount_95d88_14 : decode cJ13_bitCount_95d88 14 = .ok (.land, 1) := by decide +kernel
theorem dJ13_bitCount_95d88_15 : decode cJ13_bitCount_95d88 15 = .ok (.lload_n 0, 1) := by decide +kernel
theorem dJ13_bitCount_95d88_16 : decode cJ13_bitCount_95d88 16 = .ok (.iconst 2, 1) := by decide +kernel
theorem dJ13_bitCount_95d88_17 : decode cJ13_bitCount_95d88 17 = .ok (.lushr, 1) := by decide +kernel
theorem dJ13_bitCount_95d88_18 : decode cJ13_bitCount_95d88 18 = .ok (.ldc2_w 316, 3) := by decide +kernel
theorem dJ13_bitCount_95d88_21 : decode cJ13_bitCount_95d88 21 = .ok (.land, 1) := by decide +kernel
theorem dJ13_bitCount_95d88_22 : decode cJ13_bitCount_95d88 22 = .ok (.ladd, 1) := by decide +kernel
theorem dJ13_bitCount_95d88_23 : decode cJ13_bitCount_95d88 23 = .ok (.lstore_n 0, 1) := by decide +kernel
theorem dJ13_bitCount_95d88_24 : decode cJ13_bitCount_95d88 24 = .ok (.lload_n 0, 1) := by decide +kernel
theorem dJ13_bitCount_95d88_25 : decode cJ13_bitCount_95d88 25 = .ok (.lload_n 0, 1) := by decide +kernel
theorem dJ13_bitCount_95d88_26 : decode cJ13_bitCount_95d88 26 = .ok (.iconst 4, 1) := by decide +kernel
theorem dJ13_bitCount_95d88_27 : decode cJ13_bitCount_95d88 27 = .ok (.lushr, 1) := by decide +kernel
theorem dJ13_bitCount_95d88_28 : decode cJ13_bitCount_95d88 28 = .ok (.ladd, 1) := by decide +kernel
theorem dJ13_bitCount_95d88_29 : decode cJ13_bitCount_95d88 29 = .ok (.ldc2_w 318, 3) := by decide +kernel
theorem dJ13_bitCount_95d88_32 : decode cJ13_bitCount_95d88 32 = .ok (.land, 1) := by decide +kernel
theorem dJ13_bitCount_95d88_33 : decode cJ13_bitCount_95d88 33 = .ok (.lstore_n 0, 1) := by decide +kernel
theorem dJ13_bitCount_95d88_34 : decode cJ13_bitCount_95d88 34 = .ok (.lload_n 0, 1) := by decide +kernel
theorem dJ13_bitCount_95d88_35 : decode cJ13_bitCount_95d88 35 = .ok (.lload_n 0, 1) := by decide +kernel
theorem dJ13_bitCount_95d88_36 : decode cJ13_bitCount_95d88 36 = .ok (.bipush 8, 2) := by decide +kernel
theorem dJ13_bitCount_95d88_38 : decode cJ13_bitCount_95d88 38 = .ok (.lushr, 1) := by decide +kernel
theorem dJ13_bitCount_95d88_39 : decode cJ13_bitCount_95d88 39 = .ok (.ladd, 1) := by decide +kernel
theorem dJ13_bitCount_95d88_40 : decode cJ13_bitCount_95d88 40 = .ok (.lstore_n 0, 1) := by decide +kernel
theorem dJ13_bitCount_95d88_41 : decode cJ13_bitCount_95d88 41 = .ok (.lload_n 0, 1) := by decide +kernel
theorem dJ13_bitCount_95d88_42 : decode cJ13_bitCount_95d88 42 = .ok (.lload_n 0, 1) := by decide +kernel
theorem dJ13_bitCount_95d88_43 : decode cJ13_bitCount_95d88 43 = .ok (.bipush 16, 2) := by decide +kernel
theorem dJ13_bitCount_95d88_45 : decode cJ13_bitCount_95d88 45 = .ok (.lushr, 1) := by decide +kernel
theorem dJ13_bitCount_95d88_46 : decode cJ13_bitCount_95d88 46 = .ok (.ladd, 1) := by decide +kernel
theorem dJ13_bitCount_95d88_47 : decode cJ13_bitCount_95d88 47 = .ok (.lstore_n 0, 1) := by decide +kernel
theorem dJ13_bitCount_95d88_48 : decode cJ13_bitCount_95d88 48 = .ok (.lload_n 0, 1) := by decide +kernel
theorem dJ13_bitCount_95d88_49 : decode cJ13_bitCount_95d88 49 = .ok (.lload_n 0, 1) := by decide +kernel
theorem dJ13_bitCount_95d88_50 : decode cJ13_bitCount_95d88 50 = .ok (.bipush 32, 2) := by decide +kernel
theorem dJ13_bitCount_95d88_52 : decode cJ13_bitCount_95d88 52 = .ok (.lushr, 1) := by decide +kernel
theorem dJ13_bitCount_95d88_53 : decode cJ13_bitCount_95d88 53 = .ok (.ladd, 1) := by decide +kernel
theorem dJ13_bitCount_95d88_54 : decode cJ13_bitCount_95d88 54 = .ok (.lstore_n 0, 1) := by decide +kernel
theorem dJ13_bitCount_95d88_55 : decode cJ13_bitCount_95d88 55 = .ok (.lload_n 0, 1) := by decide +kernel
theorem dJ13_bitCount_95d88_56 : decode cJ13_bitCount_95d88 56 = .ok (.l2i, 1) := by decide +kernel
theorem dJ13_bitCount_95d88_57 : decode cJ13_bitCount_95d88 57 = .ok (.bipush 127, 2) := by decide +kernel
theorem dJ13_bitCount_95d88_59 : decode cJ13_bitCount_95d88 59 = .ok (.iand, 1) := by decide +kernel
theorem dJ13_bitCount_95d88_60 : decode cJ13_bitCount_95d88 60 = .ok (.ireturn, 1) := by decide +kernel
set_option maxRecDepth 20000 in
theorem c_J13_bitCount_95d88 {G : Gl} {d : Nat} {σ : Sg} {x : Int64} : CT G d yJ13_bitCount_95d88 cJ13_bitCount_95d88 2 (some .int) [.long (x)] σ (R1 (.int (iI (bc64 x))) σ) := by
  refine CT.of (by decide +kernel) (Nat.le_of_ble_eq_true rfl) ?_
  change AW G _ RJ13 _ _ _ 0 [(0, .long (x))] [] _ _
  refine A_lload_n (pc := 0) dJ13_bitCount_95d88_0 rfl rfl ?_
  refine A_lload_n (pc := 1) dJ13_bitCount_95d88_1 rfl rfl ?_
  refine A_iconst (pc := 2) dJ13_bitCount_95d88_2 ?_
  refine A_lushr (pc := 3) _ dJ13_bitCount_95d88_3 rfl ?_
  refine A_ldc2 (pc := 4) nJ13_314 dJ13_bitCount_95d88_4 ?_
  refine A_land (pc := 7) dJ13_bitCount_95d88_7 ?_
  refine A_lsub (pc := 8) dJ13_bitCount_95d88_8 ?_
  refine A_lstore_n (pc := 9) dJ13_bitCount_95d88_9 rfl (Nat.le_of_ble_eq_true rfl) ?_
  refine A_lload_n (pc := 10) dJ13_bitCount_95d88_10 rfl rfl ?_
  refine A_ldc2 (pc := 11) nJ13_316 dJ13_bitCount_95d88_11 ?_
  refine A_land (pc := 14) dJ13_bitCount_95d88_14 ?_
  refine A_lload_n (pc := 15) dJ13_bitCount_95d88_15 rfl rfl ?_
  refine A_iconst (pc := 16) dJ13_bitCount_95d88_16 ?_
  refine A_lushr (pc := 17) _ dJ13_bitCount_95d88_17 rfl ?_
  refine A_ldc2 (pc := 18) nJ13_316 dJ13_bitCount_95d88_18 ?_
  refine A_land (pc := 21) dJ13_bitCount_95d88_21 ?_
  refine A_ladd (pc := 22) dJ13_bitCount_95d88_22 ?_
  refine A_lstore_n (pc := 23) dJ13_bitCount_95d88_23 rfl (Nat.le_of_ble_eq_true rfl) ?_
  refine A_lload_n (pc := 24) dJ13_bitCount_95d88_24 rfl rfl ?_
  refine A_lload_n (pc := 25) dJ13_bitCount_95d88_25 rfl rfl ?_
  refine A_iconst (pc := 26) dJ13_bitCount_95d88_26 ?_
  refine A_lushr (pc := 27) _ dJ13_bitCount_95d88_27 rfl ?_
  refine A_ladd (pc := 28) dJ13_bitCount_95d88_28 ?_
  refine A_ldc2 (pc := 29) nJ13_318 dJ13_bitCount_95d88_29 ?_
  refine A_land (pc := 32) dJ13_bitCount_95d88_32 ?_
  refine A_lstore_n (pc := 33) dJ13_bitCount_95d88_33 rfl (Nat.le_of_ble_eq_true rfl) ?_
  refine A_lload_n (pc := 34) dJ13_bitCount_95d88_34 rfl rfl ?_
  refine A_lload_n (pc := 35) dJ13_bitCount_95d88_35 rfl rfl ?_
  refine A_bipush (pc := 36) dJ13_bitCount_95d88_36 (by decide) ?_
  refine A_lushr (pc := 38) _ dJ13_bitCount_95d88_38 rfl ?_
  refine A_ladd (pc := 39) dJ13_bitCount_95d88_39 ?_
  refine A_lstore_n (pc := 40) dJ13_bitCount_95d88_40 rfl (Nat.le_of_ble_eq_true rfl) ?_
  refine A_lload_n (pc := 41) dJ13_bitCount_95d88_41 rfl rfl ?_
  refine A_lload_n (pc := 42) dJ13_bitCount_95d88_42 rfl rfl ?_
  refine A_bipush (pc := 43) dJ13_bitCount_95d88_43 (by decide) ?_
  refine A_lushr (pc := 45) _ dJ13_bitCount_95d88_45 rfl ?_
  refine A_ladd (pc := 46) dJ13_bitCount_95d88_46 ?_
  refine A_lstore_n (pc := 47) dJ13_bitCount_95d88_47 rfl (Nat.le_of_ble_eq_true rfl) ?_
  refine A_lload_n (pc := 48) dJ13_bitCount_95d88_48 rfl rfl ?_
  refine A_lload_n (pc := 49) dJ13_bitCount_95d88_49 rfl rfl ?_
  refine A_bipush (pc := 50) dJ13_bitCount_95d88_50 (by decide) ?_
  refine A_lushr (pc := 52) _ dJ13_bitCount_95d88_52 rfl ?_
  refine A_ladd (pc := 53) dJ13_bitCount_95d88_53 ?_
  refine A_lstore_n (pc := 54) dJ13_bitCount_95d88_54 rfl (Nat.le_of_ble_eq_true rfl) ?_
  refine A_lload_n (pc := 55) dJ13_bitCount_95d88_55 rfl rfl ?_
  refine A_l2i (pc := 56) dJ13_bitCount_95d88_56 ?_
  refine A_bipush (pc := 57) dJ13_bitCount_95d88_57 (by decide) ?_
  refine A_iand (pc := 59) _ dJ13_bitCount_95d88_59 (iI_of _).symm ?_
  refine A_iret (pc := 60) rfl dJ13_bitCount_95d88_60 ?_
  refine ⟨?_, rfl⟩
  simp only [bc64, bcG, lsh, iI_of]
theorem A_mmax {G : Gl} {d : Nat} {own : String} {cc : ByteArray} {mL : Nat} {ret : Option FieldType} {pc : Nat} {ls : List (Nat × Value)} {st : List Value} {σ : Sg} {K : Option Value → Sg → Prop} {idx : Nat} {x y : Int} (hl : LkS own idx yJ9_max_7cf53 2 cJ9_max_7cf53 2 (some .int)) (x1 : -2147483648 ≤ x) (x2 : x < 2147483648) (y1 : -2147483648 ≤ y) (y2 : y < 2147483648) (hd : decode cc pc = .ok (.invokestatic idx, 3)) (hr : (st.map fun v => v.category).sum ≤ 8)
    (k : AW G (d + 1) own cc mL ret (pc + 3) ls (.int (iI (max x y)) :: st) σ K) : AW G (d + 1) own cc mL ret pc ls (.int (iI y) :: .int (iI x) :: st) σ K := by
  obtain ⟨⟨l1, l2, l3, l4, l5⟩, l6, l7⟩ := hl
  have ec : cJ9_max_7cf53 = Lib.Math.max.code := by decide +kernel
  rw [ec] at l2
  intro p e s m args below meth c' H locs la hC hP hS hL
  refine va_mmax hC.1 hC.2.1 (hC.2.2.1.trans hL.1.symm) hC.hown (hC.hts _ (TW_in l6 rfl)) (hC.hts _ (TW_in l7 rfl)) (hC.hts _ (TW_in l1 rfl)) (hC.hts _ (TW_in l2 rfl)) (by show 1 ≤ d + 1; omega) (by show _ ≤ 100 * (d + 1); omega) (Nat.zero_le _) (Nat.zero_le _) hd ?_
  have ev : (if iI x < iI y then iI y else iI x) = iI (max x y) := by
    by_cases h : x < y
    · rw [if_pos ((iI_lt x1 x2 y1 y2).mpr h)]; congr 1; omega
    · rw [if_neg (fun q => h ((iI_lt x1 x2 y1 y2).mp q))]; congr 1; omega
  rw [ev]
  exact k p e s m args below meth c' H locs la hC hP hS hL
theorem A_mmin {G : Gl} {d : Nat} {own : String} {cc : ByteArray} {mL : Nat} {ret : Option FieldType} {pc : Nat} {ls : List (Nat × Value)} {st : List Value} {σ : Sg} {K : Option Value → Sg → Prop} {idx : Nat} {x y : Int} (hl : LkS own idx yJ9_min_7cf53 2 cJ9_min_7cf53 2 (some .int)) (x1 : -2147483648 ≤ x) (x2 : x < 2147483648) (y1 : -2147483648 ≤ y) (y2 : y < 2147483648) (hd : decode cc pc = .ok (.invokestatic idx, 3)) (hr : (st.map fun v => v.category).sum ≤ 8)
    (k : AW G (d + 1) own cc mL ret (pc + 3) ls (.int (iI (min x y)) :: st) σ K) : AW G (d + 1) own cc mL ret pc ls (.int (iI y) :: .int (iI x) :: st) σ K := by
  obtain ⟨⟨l1, l2, l3, l4, l5⟩, l6, l7⟩ := hl
  have ec : cJ9_min_7cf53 = Lib.Math.min.code := by decide +kernel
  rw [ec] at l2
  intro p e s m args below meth c' H locs la hC hP hS hL
  refine va_mmin hC.1 hC.2.1 (hC.2.2.1.trans hL.1.symm) hC.hown (hC.hts _ (TW_in l6 rfl)) (hC.hts _ (TW_in l7 rfl)) (hC.hts _ (TW_in l1 rfl)) (hC.hts _ (TW_in l2 rfl)) (by show 1 ≤ d + 1; omega) (by show _ ≤ 100 * (d + 1); omega) (Nat.zero_le _) (Nat.zero_le _) hd ?_
  have ev : (if iI y < iI x then iI y else iI x) = iI (min x y) := by
    by_cases h : y < x
    · rw [if_pos ((iI_lt y1 y2 x1 x2).mpr h)]; congr 1; omega
    · rw [if_neg (fun q => h ((iI_lt y1 y2 x1 x2).mp q))]; congr 1; omega
  rw [ev]
  exact k p e s m args below meth c' H locs la hC hP hS hL
theorem dX5_isHouse_0 : decode cX5_isHouse 0 = .ok (.aload_n 0, 1) := by decide +kernel
theorem dX5_isHouse_1 : decode cX5_isHouse 1 = .ok (.getfield 9, 3) := by decide +kernel
theorem dX5_isHouse_4 : decode cX5_isHouse 4 = .ok (.iload_n 1, 1) := by decide +kernel
theorem dX5_isHouse_5 : decode cX5_isHouse 5 = .ok (.invokestatic 56, 3) := by decide +kernel
theorem dX5_isHouse_8 : decode cX5_isHouse 8 = .ok (.ireturn, 1) := by decide +kernel
set_option maxRecDepth 20000 in
theorem c_X5_isHouse {G : Gl} {d : Nat} {σ : Sg} {c : Nat} (hT : TC c) {τ : Tw} (hR : RX c τ σ) (hO : OkT τ) {s : Int} (hs1 : -2147483648 ≤ s) (hs2 : s < 2147483648) : CT G (d + 1) yX5_isHouse cX5_isHouse 2 (some .boolean) [.ref (gA G c), .int (iI s)] σ (R1 (.int (iI (bI (sT τ.1 s)))) σ) := by
  refine CT.of (by decide +kernel) (Nat.le_of_ble_eq_true rfl) ?_
  change AW G _ RX5 _ _ _ 0 [(0, .ref (gA G c)), (1, .int (iI s))] [] _ _
  have hO2 := hO
  obtain ⟨o1, o2, o3, o4, o5, o6, o7, o8, o9⟩ := hO2
  have p0 : σ.1 c 1 = τ.2.1 0 := hR.2.1 0 (by decide)
  have p1 : σ.1 c 2 = τ.2.1 1 := hR.2.1 1 (by decide)
  have p2 : σ.1 c 3 = τ.2.1 2 := hR.2.1 2 (by decide)
  have p3 : σ.1 c 4 = τ.2.1 3 := hR.2.1 3 (by decide)
  have p4 : σ.1 c 5 = τ.2.1 4 := hR.2.1 4 (by decide)
  have p5 : σ.1 c 6 = τ.2.1 5 := hR.2.1 5 (by decide)
  refine A_aload_n (pc := 0) dX5_isHouse_0 rfl rfl ?_
  refine A_getLv (pc := 1) fX5_9 (shp_T hT) rfl hR.1 dX5_isHouse_1 ?_
  refine A_iload_n (pc := 4) dX5_isHouse_4 rfl rfl ?_
  refine A_callS1 (pc := 5) kX5_56 (c_X0_has o1 hs1 hs2) dX5_isHouse_5 rfl rfl (Nat.le_of_ble_eq_true rfl) (Nat.le_of_ble_eq_true rfl) ?_
  refine A_zret (pc := 8) rfl nar_b dX5_isHouse_8 ?_
  exact ⟨rfl, rfl⟩
theorem dX5_isYard_0 : decode cX5_isYard 0 = .ok (.iload_n 1, 1) := by decide +kernel
theorem dX5_isYard_1 : decode cX5_isYard 1 = .ok (.invokestatic 62, 3) := by decide +kernel
theorem dX5_isYard_4 : decode cX5_isYard 4 = .ok (.ifCond .eq 15, 3) := by decide +kernel
theorem dX5_isYard_7 : decode cX5_isYard 7 = .ok (.aload_n 0, 1) := by decide +kernel
theorem dX5_isYard_8 : decode cX5_isYard 8 = .ok (.iload_n 1, 1) := by decide +kernel
theorem dX5_isYard_9 : decode cX5_isYard 9 = .ok (.invokevirtual 66, 3) := by decide +kernel
theorem dX5_isYard_12 : decode cX5_isYard 12 = .ok (.ifCond .ne 7, 3) := by decide +kernel
theorem dX5_isYard_15 : decode cX5_isYard 15 = .ok (.iconst 1, 1) := by decide +kernel
theorem dX5_isYard_16 : decode cX5_isYard 16 = .ok (.goto 4, 3) := by decide +kernel
theorem dX5_isYard_19 : decode cX5_isYard 19 = .ok (.iconst 0, 1) := by decide +kernel
theorem dX5_isYard_20 : decode cX5_isYard 20 = .ok (.ireturn, 1) := by decide +kernel
set_option maxRecDepth 20000 in
theorem c_X5_isYard {G : Gl} {d : Nat} {σ : Sg} {c : Nat} (hT : TC c) {τ : Tw} (hR : RX c τ σ) (hO : OkT τ) {s : Int} (hs1 : -2147483648 ≤ s) (hs2 : s < 2147483648) : CT G (d + 2) yX5_isYard cX5_isYard 2 (some .boolean) [.ref (gA G c), .int (iI s)] σ (R1 (.int (iI (bI (inS s ∧ ¬ sT τ.1 s)))) σ) := by
  refine CT.of (by decide +kernel) (Nat.le_of_ble_eq_true rfl) ?_
  change AW G _ RX5 _ _ _ 0 [(0, .ref (gA G c)), (1, .int (iI s))] [] _ _
  have hO2 := hO
  obtain ⟨o1, o2, o3, o4, o5, o6, o7, o8, o9⟩ := hO2
  have p0 : σ.1 c 1 = τ.2.1 0 := hR.2.1 0 (by decide)
  have p1 : σ.1 c 2 = τ.2.1 1 := hR.2.1 1 (by decide)
  have p2 : σ.1 c 3 = τ.2.1 2 := hR.2.1 2 (by decide)
  have p3 : σ.1 c 4 = τ.2.1 3 := hR.2.1 3 (by decide)
  have p4 : σ.1 c 5 = τ.2.1 4 := hR.2.1 4 (by decide)
  have p5 : σ.1 c 6 = τ.2.1 5 := hR.2.1 5 (by decide)
  refine A_iload_n (pc := 0) dX5_isYard_0 rfl rfl ?_
  refine A_callS1 (pc := 1) kX5_62 (c_X0_isSquare hs1 hs2) dX5_isYard_1 rfl rfl (Nat.le_of_ble_eq_true rfl) (Nat.le_of_ble_eq_true rfl) ?_
  refine A_ifb_eq (pc := 4) 19 dX5_isYard_4 (by decide) (fun h4 => ?_) (fun h4 => ?_)
  · skip
    refine A_iconst (pc := 19) dX5_isYard_19 ?_
    refine A_zret (pc := 20) rfl rfl dX5_isYard_20 ?_
    exact R1_f (fun q => h4 q.1)
  · skip
    refine A_aload_n (pc := 7) dX5_isYard_7 rfl rfl ?_
    refine A_iload_n (pc := 8) dX5_isYard_8 rfl rfl ?_
    refine A_callV1 (pc := 9) kX5_66 (shp_T hT) rfl (c_X5_isHouse hT hR hO hs1 hs2) dX5_isYard_9 rfl rfl (Nat.le_of_ble_eq_true rfl) (Nat.le_of_ble_eq_true rfl) ?_
    refine A_ifb_ne (pc := 12) 19 dX5_isYard_12 (by decide) (fun h12 => ?_) (fun h12 => ?_)
    · skip
      refine A_iconst (pc := 19) dX5_isYard_19 ?_
      refine A_zret (pc := 20) rfl rfl dX5_isYard_20 ?_
      exact R1_f (fun q => q.2 h12)
    · skip
      refine A_iconst (pc := 15) dX5_isYard_15 ?_
      refine A_goto (pc := 16) 20 dX5_isYard_16 (by decide) ?_
      refine A_zret (pc := 20) rfl rfl dX5_isYard_20 ?_
      exact R1_t ⟨h4, h12⟩
theorem dX5_isPane_0 : decode cX5_isPane 0 = .ok (.iload_n 1, 1) := by decide +kernel
theorem dX5_isPane_1 : decode cX5_isPane 1 = .ok (.ifCond .lt 21, 3) := by decide +kernel
theorem dX5_isPane_4 : decode cX5_isPane 4 = .ok (.iload_n 1, 1) := by decide +kernel
theorem dX5_isPane_5 : decode cX5_isPane 5 = .ok (.aload_n 0, 1) := by decide +kernel
theorem dX5_isPane_6 : decode cX5_isPane 6 = .ok (.getfield 15, 3) := by decide +kernel
theorem dX5_isPane_9 : decode cX5_isPane 9 = .ok (.if_icmp .ge 13, 3) := by decide +kernel
theorem dX5_isPane_12 : decode cX5_isPane 12 = .ok (.iload_n 1, 1) := by decide +kernel
theorem dX5_isPane_13 : decode cX5_isPane 13 = .ok (.bipush 9, 2) := by decide +kernel
theorem dX5_isPane_15 : decode cX5_isPane 15 = .ok (.if_icmp .ge 7, 3) := by decide +kernel
theorem dX5_isPane_18 : decode cX5_isPane 18 = .ok (.iconst 1, 1) := by decide +kernel
theorem dX5_isPane_19 : decode cX5_isPane 19 = .ok (.goto 4, 3) := by decide +kernel
theorem dX5_isPane_22 : decode cX5_isPane 22 = .ok (.iconst 0, 1) := by decide +kernel
theorem dX5_isPane_23 : decode cX5_isPane 23 = .ok (.ireturn, 1) := by decide +kernel
set_option maxRecDepth 20000 in
theorem c_X5_isPane {G : Gl} {d : Nat} {σ : Sg} {c : Nat} (hT : TC c) {τ : Tw} (hR : RX c τ σ) (hO : OkT τ) {p : Int} (hp1 : -2147483648 ≤ p) (hp2 : p < 2147483648) : CT G d yX5_isPane cX5_isPane 2 (some .boolean) [.ref (gA G c), .int (iI p)] σ (R1 (.int (iI (bI (0 ≤ p ∧ p < τ.2.1 0)))) σ) := by
  refine CT.of (by decide +kernel) (Nat.le_of_ble_eq_true rfl) ?_
  change AW G _ RX5 _ _ _ 0 [(0, .ref (gA G c)), (1, .int (iI p))] [] _ _
  have hO2 := hO
  obtain ⟨o1, o2, o3, o4, o5, o6, o7, o8, o9⟩ := hO2
  have p0 : σ.1 c 1 = τ.2.1 0 := hR.2.1 0 (by decide)
  have p1 : σ.1 c 2 = τ.2.1 1 := hR.2.1 1 (by decide)
  have p2 : σ.1 c 3 = τ.2.1 2 := hR.2.1 2 (by decide)
  have p3 : σ.1 c 4 = τ.2.1 3 := hR.2.1 3 (by decide)
  have p4 : σ.1 c 5 = τ.2.1 4 := hR.2.1 4 (by decide)
  have p5 : σ.1 c 6 = τ.2.1 5 := hR.2.1 5 (by decide)
  refine A_iload_n (pc := 0) dX5_isPane_0 rfl rfl ?_
  refine A_if_lt (pc := 1) 22 dX5_isPane_1 (by decide) (by omega) (by omega) (fun h1 => ?_) (fun h1 => ?_)
  · skip
    refine A_iconst (pc := 22) dX5_isPane_22 ?_
    refine A_zret (pc := 23) rfl rfl dX5_isPane_23 ?_
    exact R1_f (by omega)
  · skip
    refine A_iload_n (pc := 4) dX5_isPane_4 rfl rfl ?_
    refine A_aload_n (pc := 5) dX5_isPane_5 rfl rfl ?_
    refine A_getIv (pc := 6) fX5_15 (shp_T hT) rfl p0 dX5_isPane_6 ?_
    refine A_icmp_ge (pc := 9) 22 dX5_isPane_9 (by decide) (by omega) (by omega) (by omega) (by omega) (fun h9 => ?_) (fun h9 => ?_)
    · skip
      refine A_iconst (pc := 22) dX5_isPane_22 ?_
      refine A_zret (pc := 23) rfl rfl dX5_isPane_23 ?_
      exact R1_f (by omega)
    · skip
      refine A_iload_n (pc := 12) dX5_isPane_12 rfl rfl ?_
      refine A_bipush (pc := 13) dX5_isPane_13 (by decide) ?_
      refine A_icmp_ge (pc := 15) 22 dX5_isPane_15 (by decide) (by omega) (by omega) (by omega) (by omega) (fun h15 => ?_) (fun h15 => ?_)
      · skip
        refine A_iconst (pc := 22) dX5_isPane_22 ?_
        refine A_zret (pc := 23) rfl rfl dX5_isPane_23 ?_
        exact R1_f (by omega)
      · skip
        refine A_iconst (pc := 18) dX5_isPane_18 ?_
        refine A_goto (pc := 19) 23 dX5_isPane_19 (by decide) ?_
        refine A_zret (pc := 23) rfl rfl dX5_isPane_23 ?_
        exact R1_t (by omega)
theorem dX5_isWalker_0 : decode cX5_isWalker 0 = .ok (.iload_n 1, 1) := by decide +kernel
theorem dX5_isWalker_1 : decode cX5_isWalker 1 = .ok (.ifCond .lt 20, 3) := by decide +kernel
theorem dX5_isWalker_4 : decode cX5_isWalker 4 = .ok (.iload_n 1, 1) := by decide +kernel
theorem dX5_isWalker_5 : decode cX5_isWalker 5 = .ok (.aload_n 0, 1) := by decide +kernel
theorem dX5_isWalker_6 : decode cX5_isWalker 6 = .ok (.getfield 19, 3) := by decide +kernel
theorem dX5_isWalker_9 : decode cX5_isWalker 9 = .ok (.if_icmp .ge 12, 3) := by decide +kernel
theorem dX5_isWalker_12 : decode cX5_isWalker 12 = .ok (.iload_n 1, 1) := by decide +kernel
theorem dX5_isWalker_13 : decode cX5_isWalker 13 = .ok (.iconst 5, 1) := by decide +kernel
theorem dX5_isWalker_14 : decode cX5_isWalker 14 = .ok (.if_icmp .ge 7, 3) := by decide +kernel
theorem dX5_isWalker_17 : decode cX5_isWalker 17 = .ok (.iconst 1, 1) := by decide +kernel
theorem dX5_isWalker_18 : decode cX5_isWalker 18 = .ok (.goto 4, 3) := by decide +kernel
theorem dX5_isWalker_21 : decode cX5_isWalker 21 = .ok (.iconst 0, 1) := by decide +kernel
theorem dX5_isWalker_22 : decode cX5_isWalker 22 = .ok (.ireturn, 1) := by decide +kernel
set_option maxRecDepth 20000 in
theorem c_X5_isWalker {G : Gl} {d : Nat} {σ : Sg} {c : Nat} (hT : TC c) {τ : Tw} (hR : RX c τ σ) (hO : OkT τ) {w : Int} (hw1 : -2147483648 ≤ w) (hw2 : w < 2147483648) : CT G d yX5_isWalker cX5_isWalker 2 (some .boolean) [.ref (gA G c), .int (iI w)] σ (R1 (.int (iI (bI (0 ≤ w ∧ w < τ.2.1 1)))) σ) := by
  refine CT.of (by decide +kernel) (Nat.le_of_ble_eq_true rfl) ?_
  change AW G _ RX5 _ _ _ 0 [(0, .ref (gA G c)), (1, .int (iI w))] [] _ _
  have hO2 := hO
  obtain ⟨o1, o2, o3, o4, o5, o6, o7, o8, o9⟩ := hO2
  have p0 : σ.1 c 1 = τ.2.1 0 := hR.2.1 0 (by decide)
  have p1 : σ.1 c 2 = τ.2.1 1 := hR.2.1 1 (by decide)
  have p2 : σ.1 c 3 = τ.2.1 2 := hR.2.1 2 (by decide)
  have p3 : σ.1 c 4 = τ.2.1 3 := hR.2.1 3 (by decide)
  have p4 : σ.1 c 5 = τ.2.1 4 := hR.2.1 4 (by decide)
  have p5 : σ.1 c 6 = τ.2.1 5 := hR.2.1 5 (by decide)
  refine A_iload_n (pc := 0) dX5_isWalker_0 rfl rfl ?_
  refine A_if_lt (pc := 1) 21 dX5_isWalker_1 (by decide) (by omega) (by omega) (fun h1 => ?_) (fun h1 => ?_)
  · skip
    refine A_iconst (pc := 21) dX5_isWalker_21 ?_
    refine A_zret (pc := 22) rfl rfl dX5_isWalker_22 ?_
    exact R1_f (by omega)
  · skip
    refine A_iload_n (pc := 4) dX5_isWalker_4 rfl rfl ?_
    refine A_aload_n (pc := 5) dX5_isWalker_5 rfl rfl ?_
    refine A_getIv (pc := 6) fX5_19 (shp_T hT) rfl p1 dX5_isWalker_6 ?_
    refine A_icmp_ge (pc := 9) 21 dX5_isWalker_9 (by decide) (by omega) (by omega) (by omega) (by omega) (fun h9 => ?_) (fun h9 => ?_)
    · skip
      refine A_iconst (pc := 21) dX5_isWalker_21 ?_
      refine A_zret (pc := 22) rfl rfl dX5_isWalker_22 ?_
      exact R1_f (by omega)
    · skip
      refine A_iload_n (pc := 12) dX5_isWalker_12 rfl rfl ?_
      refine A_iconst (pc := 13) dX5_isWalker_13 ?_
      refine A_icmp_ge (pc := 14) 21 dX5_isWalker_14 (by decide) (by omega) (by omega) (by omega) (by omega) (fun h14 => ?_) (fun h14 => ?_)
      · skip
        refine A_iconst (pc := 21) dX5_isWalker_21 ?_
        refine A_zret (pc := 22) rfl rfl dX5_isWalker_22 ?_
        exact R1_f (by omega)
      · skip
        refine A_iconst (pc := 17) dX5_isWalker_17 ?_
        refine A_goto (pc := 18) 22 dX5_isWalker_18 (by decide) ?_
        refine A_zret (pc := 22) rfl rfl dX5_isWalker_22 ?_
        exact R1_t (by omega)
theorem dX5_hasRoomForPane_0 : decode cX5_hasRoomForPane 0 = .ok (.aload_n 0, 1) := by decide +kernel
theorem dX5_hasRoomForPane_1 : decode cX5_hasRoomForPane 1 = .ok (.getfield 15, 3) := by decide +kernel
theorem dX5_hasRoomForPane_4 : decode cX5_hasRoomForPane 4 = .ok (.bipush 9, 2) := by decide +kernel
theorem dX5_hasRoomForPane_6 : decode cX5_hasRoomForPane 6 = .ok (.if_icmp .ge 7, 3) := by decide +kernel
theorem dX5_hasRoomForPane_9 : decode cX5_hasRoomForPane 9 = .ok (.iconst 1, 1) := by decide +kernel
theorem dX5_hasRoomForPane_10 : decode cX5_hasRoomForPane 10 = .ok (.goto 4, 3) := by decide +kernel
theorem dX5_hasRoomForPane_13 : decode cX5_hasRoomForPane 13 = .ok (.iconst 0, 1) := by decide +kernel
theorem dX5_hasRoomForPane_14 : decode cX5_hasRoomForPane 14 = .ok (.ireturn, 1) := by decide +kernel
set_option maxRecDepth 20000 in
theorem c_X5_hasRoomForPane {G : Gl} {d : Nat} {σ : Sg} {c : Nat} (hT : TC c) {τ : Tw} (hR : RX c τ σ) (hO : OkT τ)  : CT G d yX5_hasRoomForPane cX5_hasRoomForPane 1 (some .boolean) [.ref (gA G c)] σ (R1 (.int (iI (bI (τ.2.1 0 < 9)))) σ) := by
  refine CT.of (by decide +kernel) (Nat.le_of_ble_eq_true rfl) ?_
  change AW G _ RX5 _ _ _ 0 [(0, .ref (gA G c))] [] _ _
  have hO2 := hO
  obtain ⟨o1, o2, o3, o4, o5, o6, o7, o8, o9⟩ := hO2
  have p0 : σ.1 c 1 = τ.2.1 0 := hR.2.1 0 (by decide)
  have p1 : σ.1 c 2 = τ.2.1 1 := hR.2.1 1 (by decide)
  have p2 : σ.1 c 3 = τ.2.1 2 := hR.2.1 2 (by decide)
  have p3 : σ.1 c 4 = τ.2.1 3 := hR.2.1 3 (by decide)
  have p4 : σ.1 c 5 = τ.2.1 4 := hR.2.1 4 (by decide)
  have p5 : σ.1 c 6 = τ.2.1 5 := hR.2.1 5 (by decide)
  refine A_aload_n (pc := 0) dX5_hasRoomForPane_0 rfl rfl ?_
  refine A_getIv (pc := 1) fX5_15 (shp_T hT) rfl p0 dX5_hasRoomForPane_1 ?_
  refine A_bipush (pc := 4) dX5_hasRoomForPane_4 (by decide) ?_
  refine A_icmp_ge (pc := 6) 13 dX5_hasRoomForPane_6 (by decide) (by omega) (by omega) (by omega) (by omega) (fun h6 => ?_) (fun h6 => ?_)
  · skip
    refine A_iconst (pc := 13) dX5_hasRoomForPane_13 ?_
    refine A_zret (pc := 14) rfl rfl dX5_hasRoomForPane_14 ?_
    exact R1_f (by omega)
  · skip
    refine A_iconst (pc := 9) dX5_hasRoomForPane_9 ?_
    refine A_goto (pc := 10) 14 dX5_hasRoomForPane_10 (by decide) ?_
    refine A_zret (pc := 14) rfl rfl dX5_hasRoomForPane_14 ?_
    exact R1_t (by omega)
theorem dX5_hasRoomForWalker_0 : decode cX5_hasRoomForWalker 0 = .ok (.aload_n 0, 1) := by decide +kernel
theorem dX5_hasRoomForWalker_1 : decode cX5_hasRoomForWalker 1 = .ok (.getfield 19, 3) := by decide +kernel
theorem dX5_hasRoomForWalker_4 : decode cX5_hasRoomForWalker 4 = .ok (.iconst 5, 1) := by decide +kernel
theorem dX5_hasRoomForWalker_5 : decode cX5_hasRoomForWalker 5 = .ok (.if_icmp .ge 7, 3) := by decide +kernel
theorem dX5_hasRoomForWalker_8 : decode cX5_hasRoomForWalker 8 = .ok (.iconst 1, 1) := by decide +kernel
theorem dX5_hasRoomForWalker_9 : decode cX5_hasRoomForWalker 9 = .ok (.goto 4, 3) := by decide +kernel
theorem dX5_hasRoomForWalker_12 : decode cX5_hasRoomForWalker 12 = .ok (.iconst 0, 1) := by decide +kernel
theorem dX5_hasRoomForWalker_13 : decode cX5_hasRoomForWalker 13 = .ok (.ireturn, 1) := by decide +kernel
set_option maxRecDepth 20000 in
theorem c_X5_hasRoomForWalker {G : Gl} {d : Nat} {σ : Sg} {c : Nat} (hT : TC c) {τ : Tw} (hR : RX c τ σ) (hO : OkT τ)  : CT G d yX5_hasRoomForWalker cX5_hasRoomForWalker 1 (some .boolean) [.ref (gA G c)] σ (R1 (.int (iI (bI (τ.2.1 1 < 5)))) σ) := by
  refine CT.of (by decide +kernel) (Nat.le_of_ble_eq_true rfl) ?_
  change AW G _ RX5 _ _ _ 0 [(0, .ref (gA G c))] [] _ _
  have hO2 := hO
  obtain ⟨o1, o2, o3, o4, o5, o6, o7, o8, o9⟩ := hO2
  have p0 : σ.1 c 1 = τ.2.1 0 := hR.2.1 0 (by decide)
  have p1 : σ.1 c 2 = τ.2.1 1 := hR.2.1 1 (by decide)
  have p2 : σ.1 c 3 = τ.2.1 2 := hR.2.1 2 (by decide)
  have p3 : σ.1 c 4 = τ.2.1 3 := hR.2.1 3 (by decide)
  have p4 : σ.1 c 5 = τ.2.1 4 := hR.2.1 4 (by decide)
  have p5 : σ.1 c 6 = τ.2.1 5 := hR.2.1 5 (by decide)
  refine A_aload_n (pc := 0) dX5_hasRoomForWalker_0 rfl rfl ?_
  refine A_getIv (pc := 1) fX5_19 (shp_T hT) rfl p1 dX5_hasRoomForWalker_1 ?_
  refine A_iconst (pc := 4) dX5_hasRoomForWalker_4 ?_
  refine A_icmp_ge (pc := 5) 12 dX5_hasRoomForWalker_5 (by decide) (by omega) (by omega) (by omega) (by omega) (fun h5 => ?_) (fun h5 => ?_)
  · skip
    refine A_iconst (pc := 12) dX5_hasRoomForWalker_12 ?_
    refine A_zret (pc := 13) rfl rfl dX5_hasRoomForWalker_13 ?_
    exact R1_f (by omega)
  · skip
    refine A_iconst (pc := 8) dX5_hasRoomForWalker_8 ?_
    refine A_goto (pc := 9) 13 dX5_hasRoomForWalker_9 (by decide) ?_
    refine A_zret (pc := 13) rfl rfl dX5_hasRoomForWalker_13 ?_
    exact R1_t (by omega)
theorem dX5_kindOf_0 : decode cX5_kindOf 0 = .ok (.aload_n 0, 1) := by decide +kernel
theorem dX5_kindOf_1 : decode cX5_kindOf 1 = .ok (.iload_n 1, 1) := by decide +kernel
theorem dX5_kindOf_2 : decode cX5_kindOf 2 = .ok (.invokevirtual 76, 3) := by decide +kernel
theorem dX5_kindOf_5 : decode cX5_kindOf 5 = .ok (.ifCond .eq 12, 3) := by decide +kernel
theorem dX5_kindOf_8 : decode cX5_kindOf 8 = .ok (.aload_n 0, 1) := by decide +kernel
theorem dX5_kindOf_9 : decode cX5_kindOf 9 = .ok (.getfield 34, 3) := by decide +kernel
theorem dX5_kindOf_12 : decode cX5_kindOf 12 = .ok (.iload_n 1, 1) := by decide +kernel
theorem dX5_kindOf_13 : decode cX5_kindOf 13 = .ok (.iaload, 1) := by decide +kernel
theorem dX5_kindOf_14 : decode cX5_kindOf 14 = .ok (.goto 4, 3) := by decide +kernel
theorem dX5_kindOf_17 : decode cX5_kindOf 17 = .ok (.iconst (-1), 1) := by decide +kernel
theorem dX5_kindOf_18 : decode cX5_kindOf 18 = .ok (.ireturn, 1) := by decide +kernel
set_option maxRecDepth 20000 in
theorem c_X5_kindOf {G : Gl} {d : Nat} {σ : Sg} {c : Nat} (hT : TC c) {τ : Tw} (hR : RX c τ σ) (hO : OkT τ) {p : Nat} (hp : (p : Int) < 2147483648) : CT G (d + 1) yX5_kindOf cX5_kindOf 2 (some .int) [.ref (gA G c), .int (iI (p : Int))] σ (R1 (.int (iI (if (p : Int) < τ.2.1 0 then τ.2.2 0 p else -1))) σ) := by
  refine CT.of (by decide +kernel) (Nat.le_of_ble_eq_true rfl) ?_
  change AW G _ RX5 _ _ _ 0 [(0, .ref (gA G c)), (1, .int (iI (p : Int)))] [] _ _
  have hO2 := hO
  obtain ⟨o1, o2, o3, o4, o5, o6, o7, o8, o9⟩ := hO2
  have p0 : σ.1 c 1 = τ.2.1 0 := hR.2.1 0 (by decide)
  have p1 : σ.1 c 2 = τ.2.1 1 := hR.2.1 1 (by decide)
  have p2 : σ.1 c 3 = τ.2.1 2 := hR.2.1 2 (by decide)
  have p3 : σ.1 c 4 = τ.2.1 3 := hR.2.1 3 (by decide)
  have p4 : σ.1 c 5 = τ.2.1 4 := hR.2.1 4 (by decide)
  have p5 : σ.1 c 6 = τ.2.1 5 := hR.2.1 5 (by decide)
  refine A_aload_n (pc := 0) dX5_kindOf_0 rfl rfl ?_
  refine A_iload_n (pc := 1) dX5_kindOf_1 rfl rfl ?_
  refine A_callV1 (pc := 2) kX5_76 (shp_T hT) rfl (c_X5_isPane hT hR hO (by omega) (by omega)) dX5_kindOf_2 rfl rfl (Nat.le_of_ble_eq_true rfl) (Nat.le_of_ble_eq_true rfl) ?_
  refine A_ifb_eq (pc := 5) 17 dX5_kindOf_5 (by decide) (fun h5 => ?_) (fun h5 => ?_)
  · skip
    refine A_iconst (pc := 17) dX5_kindOf_17 ?_
    refine A_iret (pc := 18) rfl dX5_kindOf_18 ?_
    exact R1_e (by rw [if_neg (by omega)])
  · skip
    refine A_aload_n (pc := 8) dX5_kindOf_8 rfl rfl ?_
    refine A_getR (pc := 9) fX5_34 (shp_T hT) rfl dX5_kindOf_9 ?_
    refine A_iload_n (pc := 12) dX5_kindOf_12 rfl rfl ?_
    refine A_ialdv (pc := 13) _ (shp_T_paneKind hT) rfl (by omega) (Nat.le_of_ble_eq_true rfl) (hR.kind (by omega)) dX5_kindOf_13 ?_
    refine A_goto (pc := 14) 18 dX5_kindOf_14 (by decide) ?_
    refine A_iret (pc := 18) rfl dX5_kindOf_18 ?_
    exact R1_e (by rw [if_pos (by omega)])
theorem dX5_aOf_0 : decode cX5_aOf 0 = .ok (.aload_n 0, 1) := by decide +kernel
theorem dX5_aOf_1 : decode cX5_aOf 1 = .ok (.iload_n 1, 1) := by decide +kernel
theorem dX5_aOf_2 : decode cX5_aOf 2 = .ok (.invokevirtual 76, 3) := by decide +kernel
theorem dX5_aOf_5 : decode cX5_aOf 5 = .ok (.ifCond .eq 12, 3) := by decide +kernel
theorem dX5_aOf_8 : decode cX5_aOf 8 = .ok (.aload_n 0, 1) := by decide +kernel
theorem dX5_aOf_9 : decode cX5_aOf 9 = .ok (.getfield 38, 3) := by decide +kernel
theorem dX5_aOf_12 : decode cX5_aOf 12 = .ok (.iload_n 1, 1) := by decide +kernel
theorem dX5_aOf_13 : decode cX5_aOf 13 = .ok (.iaload, 1) := by decide +kernel
theorem dX5_aOf_14 : decode cX5_aOf 14 = .ok (.goto 4, 3) := by decide +kernel
theorem dX5_aOf_17 : decode cX5_aOf 17 = .ok (.iconst 0, 1) := by decide +kernel
theorem dX5_aOf_18 : decode cX5_aOf 18 = .ok (.ireturn, 1) := by decide +kernel
set_option maxRecDepth 20000 in
theorem c_X5_aOf {G : Gl} {d : Nat} {σ : Sg} {c : Nat} (hT : TC c) {τ : Tw} (hR : RX c τ σ) (hO : OkT τ) {p : Nat} (hp : (p : Int) < 2147483648) : CT G (d + 1) yX5_aOf cX5_aOf 2 (some .int) [.ref (gA G c), .int (iI (p : Int))] σ (R1 (.int (iI (if (p : Int) < τ.2.1 0 then τ.2.2 1 p else 0))) σ) := by
  refine CT.of (by decide +kernel) (Nat.le_of_ble_eq_true rfl) ?_
  change AW G _ RX5 _ _ _ 0 [(0, .ref (gA G c)), (1, .int (iI (p : Int)))] [] _ _
  have hO2 := hO
  obtain ⟨o1, o2, o3, o4, o5, o6, o7, o8, o9⟩ := hO2
  have p0 : σ.1 c 1 = τ.2.1 0 := hR.2.1 0 (by decide)
  have p1 : σ.1 c 2 = τ.2.1 1 := hR.2.1 1 (by decide)
  have p2 : σ.1 c 3 = τ.2.1 2 := hR.2.1 2 (by decide)
  have p3 : σ.1 c 4 = τ.2.1 3 := hR.2.1 3 (by decide)
  have p4 : σ.1 c 5 = τ.2.1 4 := hR.2.1 4 (by decide)
  have p5 : σ.1 c 6 = τ.2.1 5 := hR.2.1 5 (by decide)
  refine A_aload_n (pc := 0) dX5_aOf_0 rfl rfl ?_
  refine A_iload_n (pc := 1) dX5_aOf_1 rfl rfl ?_
  refine A_callV1 (pc := 2) kX5_76 (shp_T hT) rfl (c_X5_isPane hT hR hO (by omega) (by omega)) dX5_aOf_2 rfl rfl (Nat.le_of_ble_eq_true rfl) (Nat.le_of_ble_eq_true rfl) ?_
  refine A_ifb_eq (pc := 5) 17 dX5_aOf_5 (by decide) (fun h5 => ?_) (fun h5 => ?_)
  · skip
    refine A_iconst (pc := 17) dX5_aOf_17 ?_
    refine A_iret (pc := 18) rfl dX5_aOf_18 ?_
    exact R1_e (by rw [if_neg (by omega)])
  · skip
    refine A_aload_n (pc := 8) dX5_aOf_8 rfl rfl ?_
    refine A_getR (pc := 9) fX5_38 (shp_T hT) rfl dX5_aOf_9 ?_
    refine A_iload_n (pc := 12) dX5_aOf_12 rfl rfl ?_
    refine A_ialdv (pc := 13) _ (shp_T_paneA hT) rfl (by omega) (Nat.le_of_ble_eq_true rfl) (hR.a (by omega)) dX5_aOf_13 ?_
    refine A_goto (pc := 14) 18 dX5_aOf_14 (by decide) ?_
    refine A_iret (pc := 18) rfl dX5_aOf_18 ?_
    exact R1_e (by rw [if_pos (by omega)])
theorem dX5_atOf_0 : decode cX5_atOf 0 = .ok (.aload_n 0, 1) := by decide +kernel
theorem dX5_atOf_1 : decode cX5_atOf 1 = .ok (.iload_n 1, 1) := by decide +kernel
theorem dX5_atOf_2 : decode cX5_atOf 2 = .ok (.invokevirtual 76, 3) := by decide +kernel
theorem dX5_atOf_5 : decode cX5_atOf 5 = .ok (.ifCond .eq 12, 3) := by decide +kernel
theorem dX5_atOf_8 : decode cX5_atOf 8 = .ok (.aload_n 0, 1) := by decide +kernel
theorem dX5_atOf_9 : decode cX5_atOf 9 = .ok (.getfield 41, 3) := by decide +kernel
theorem dX5_atOf_12 : decode cX5_atOf 12 = .ok (.iload_n 1, 1) := by decide +kernel
theorem dX5_atOf_13 : decode cX5_atOf 13 = .ok (.iaload, 1) := by decide +kernel
theorem dX5_atOf_14 : decode cX5_atOf 14 = .ok (.goto 4, 3) := by decide +kernel
theorem dX5_atOf_17 : decode cX5_atOf 17 = .ok (.iconst (-1), 1) := by decide +kernel
theorem dX5_atOf_18 : decode cX5_atOf 18 = .ok (.ireturn, 1) := by decide +kernel
set_option maxRecDepth 20000 in
theorem c_X5_atOf {G : Gl} {d : Nat} {σ : Sg} {c : Nat} (hT : TC c) {τ : Tw} (hR : RX c τ σ) (hO : OkT τ) {p : Nat} (hp : (p : Int) < 2147483648) : CT G (d + 1) yX5_atOf cX5_atOf 2 (some .int) [.ref (gA G c), .int (iI (p : Int))] σ (R1 (.int (iI (if (p : Int) < τ.2.1 0 then τ.2.2 2 p else -1))) σ) := by
  refine CT.of (by decide +kernel) (Nat.le_of_ble_eq_true rfl) ?_
  change AW G _ RX5 _ _ _ 0 [(0, .ref (gA G c)), (1, .int (iI (p : Int)))] [] _ _
  have hO2 := hO
  obtain ⟨o1, o2, o3, o4, o5, o6, o7, o8, o9⟩ := hO2
  have p0 : σ.1 c 1 = τ.2.1 0 := hR.2.1 0 (by decide)
  have p1 : σ.1 c 2 = τ.2.1 1 := hR.2.1 1 (by decide)
  have p2 : σ.1 c 3 = τ.2.1 2 := hR.2.1 2 (by decide)
  have p3 : σ.1 c 4 = τ.2.1 3 := hR.2.1 3 (by decide)
  have p4 : σ.1 c 5 = τ.2.1 4 := hR.2.1 4 (by decide)
  have p5 : σ.1 c 6 = τ.2.1 5 := hR.2.1 5 (by decide)
  refine A_aload_n (pc := 0) dX5_atOf_0 rfl rfl ?_
  refine A_iload_n (pc := 1) dX5_atOf_1 rfl rfl ?_
  refine A_callV1 (pc := 2) kX5_76 (shp_T hT) rfl (c_X5_isPane hT hR hO (by omega) (by omega)) dX5_atOf_2 rfl rfl (Nat.le_of_ble_eq_true rfl) (Nat.le_of_ble_eq_true rfl) ?_
  refine A_ifb_eq (pc := 5) 17 dX5_atOf_5 (by decide) (fun h5 => ?_) (fun h5 => ?_)
  · skip
    refine A_iconst (pc := 17) dX5_atOf_17 ?_
    refine A_iret (pc := 18) rfl dX5_atOf_18 ?_
    exact R1_e (by rw [if_neg (by omega)])
  · skip
    refine A_aload_n (pc := 8) dX5_atOf_8 rfl rfl ?_
    refine A_getR (pc := 9) fX5_41 (shp_T hT) rfl dX5_atOf_9 ?_
    refine A_iload_n (pc := 12) dX5_atOf_12 rfl rfl ?_
    refine A_ialdv (pc := 13) _ (shp_T_paneAt hT) rfl (by omega) (Nat.le_of_ble_eq_true rfl) (hR.at (by omega)) dX5_atOf_13 ?_
    refine A_goto (pc := 14) 18 dX5_atOf_14 (by decide) ?_
    refine A_iret (pc := 18) rfl dX5_atOf_18 ?_
    exact R1_e (by rw [if_pos (by omega)])
theorem dX5_outOf_0 : decode cX5_outOf 0 = .ok (.aload_n 0, 1) := by decide +kernel
theorem dX5_outOf_1 : decode cX5_outOf 1 = .ok (.iload_n 1, 1) := by decide +kernel
theorem dX5_outOf_2 : decode cX5_outOf 2 = .ok (.invokevirtual 76, 3) := by decide +kernel
theorem dX5_outOf_5 : decode cX5_outOf 5 = .ok (.ifCond .eq 12, 3) := by decide +kernel
theorem dX5_outOf_8 : decode cX5_outOf 8 = .ok (.aload_n 0, 1) := by decide +kernel
theorem dX5_outOf_9 : decode cX5_outOf 9 = .ok (.getfield 44, 3) := by decide +kernel
theorem dX5_outOf_12 : decode cX5_outOf 12 = .ok (.iload_n 1, 1) := by decide +kernel
theorem dX5_outOf_13 : decode cX5_outOf 13 = .ok (.iaload, 1) := by decide +kernel
theorem dX5_outOf_14 : decode cX5_outOf 14 = .ok (.goto 4, 3) := by decide +kernel
theorem dX5_outOf_17 : decode cX5_outOf 17 = .ok (.iconst (-1), 1) := by decide +kernel
theorem dX5_outOf_18 : decode cX5_outOf 18 = .ok (.ireturn, 1) := by decide +kernel
set_option maxRecDepth 20000 in
theorem c_X5_outOf {G : Gl} {d : Nat} {σ : Sg} {c : Nat} (hT : TC c) {τ : Tw} (hR : RX c τ σ) (hO : OkT τ) {p : Nat} (hp : (p : Int) < 2147483648) : CT G (d + 1) yX5_outOf cX5_outOf 2 (some .int) [.ref (gA G c), .int (iI (p : Int))] σ (R1 (.int (iI (if (p : Int) < τ.2.1 0 then τ.2.2 3 p else -1))) σ) := by
  refine CT.of (by decide +kernel) (Nat.le_of_ble_eq_true rfl) ?_
  change AW G _ RX5 _ _ _ 0 [(0, .ref (gA G c)), (1, .int (iI (p : Int)))] [] _ _
  have hO2 := hO
  obtain ⟨o1, o2, o3, o4, o5, o6, o7, o8, o9⟩ := hO2
  have p0 : σ.1 c 1 = τ.2.1 0 := hR.2.1 0 (by decide)
  have p1 : σ.1 c 2 = τ.2.1 1 := hR.2.1 1 (by decide)
  have p2 : σ.1 c 3 = τ.2.1 2 := hR.2.1 2 (by decide)
  have p3 : σ.1 c 4 = τ.2.1 3 := hR.2.1 3 (by decide)
  have p4 : σ.1 c 5 = τ.2.1 4 := hR.2.1 4 (by decide)
  have p5 : σ.1 c 6 = τ.2.1 5 := hR.2.1 5 (by decide)
  refine A_aload_n (pc := 0) dX5_outOf_0 rfl rfl ?_
  refine A_iload_n (pc := 1) dX5_outOf_1 rfl rfl ?_
  refine A_callV1 (pc := 2) kX5_76 (shp_T hT) rfl (c_X5_isPane hT hR hO (by omega) (by omega)) dX5_outOf_2 rfl rfl (Nat.le_of_ble_eq_true rfl) (Nat.le_of_ble_eq_true rfl) ?_
  refine A_ifb_eq (pc := 5) 17 dX5_outOf_5 (by decide) (fun h5 => ?_) (fun h5 => ?_)
  · skip
    refine A_iconst (pc := 17) dX5_outOf_17 ?_
    refine A_iret (pc := 18) rfl dX5_outOf_18 ?_
    exact R1_e (by rw [if_neg (by omega)])
  · skip
    refine A_aload_n (pc := 8) dX5_outOf_8 rfl rfl ?_
    refine A_getR (pc := 9) fX5_44 (shp_T hT) rfl dX5_outOf_9 ?_
    refine A_iload_n (pc := 12) dX5_outOf_12 rfl rfl ?_
    refine A_ialdv (pc := 13) _ (shp_T_paneOut hT) rfl (by omega) (Nat.le_of_ble_eq_true rfl) (hR.out (by omega)) dX5_outOf_13 ?_
    refine A_goto (pc := 14) 18 dX5_outOf_14 (by decide) ?_
    refine A_iret (pc := 18) rfl dX5_outOf_18 ?_
    exact R1_e (by rw [if_pos (by omega)])
theorem dX5_whereIs_0 : decode cX5_whereIs 0 = .ok (.aload_n 0, 1) := by decide +kernel
theorem dX5_whereIs_1 : decode cX5_whereIs 1 = .ok (.iload_n 1, 1) := by decide +kernel
theorem dX5_whereIs_2 : decode cX5_whereIs 2 = .ok (.invokevirtual 79, 3) := by decide +kernel
theorem dX5_whereIs_5 : decode cX5_whereIs 5 = .ok (.ifCond .eq 12, 3) := by decide +kernel
theorem dX5_whereIs_8 : decode cX5_whereIs 8 = .ok (.aload_n 0, 1) := by decide +kernel
theorem dX5_whereIs_9 : decode cX5_whereIs 9 = .ok (.getfield 47, 3) := by decide +kernel
theorem dX5_whereIs_12 : decode cX5_whereIs 12 = .ok (.iload_n 1, 1) := by decide +kernel
theorem dX5_whereIs_13 : decode cX5_whereIs 13 = .ok (.iaload, 1) := by decide +kernel
theorem dX5_whereIs_14 : decode cX5_whereIs 14 = .ok (.goto 4, 3) := by decide +kernel
theorem dX5_whereIs_17 : decode cX5_whereIs 17 = .ok (.iconst (-1), 1) := by decide +kernel
theorem dX5_whereIs_18 : decode cX5_whereIs 18 = .ok (.ireturn, 1) := by decide +kernel
set_option maxRecDepth 20000 in
theorem c_X5_whereIs {G : Gl} {d : Nat} {σ : Sg} {c : Nat} (hT : TC c) {τ : Tw} (hR : RX c τ σ) (hO : OkT τ) {p : Nat} (hp : (p : Int) < 2147483648) : CT G (d + 1) yX5_whereIs cX5_whereIs 2 (some .int) [.ref (gA G c), .int (iI (p : Int))] σ (R1 (.int (iI (if (p : Int) < τ.2.1 1 then τ.2.2 4 p else -1))) σ) := by
  refine CT.of (by decide +kernel) (Nat.le_of_ble_eq_true rfl) ?_
  change AW G _ RX5 _ _ _ 0 [(0, .ref (gA G c)), (1, .int (iI (p : Int)))] [] _ _
  have hO2 := hO
  obtain ⟨o1, o2, o3, o4, o5, o6, o7, o8, o9⟩ := hO2
  have p0 : σ.1 c 1 = τ.2.1 0 := hR.2.1 0 (by decide)
  have p1 : σ.1 c 2 = τ.2.1 1 := hR.2.1 1 (by decide)
  have p2 : σ.1 c 3 = τ.2.1 2 := hR.2.1 2 (by decide)
  have p3 : σ.1 c 4 = τ.2.1 3 := hR.2.1 3 (by decide)
  have p4 : σ.1 c 5 = τ.2.1 4 := hR.2.1 4 (by decide)
  have p5 : σ.1 c 6 = τ.2.1 5 := hR.2.1 5 (by decide)
  refine A_aload_n (pc := 0) dX5_whereIs_0 rfl rfl ?_
  refine A_iload_n (pc := 1) dX5_whereIs_1 rfl rfl ?_
  refine A_callV1 (pc := 2) kX5_79 (shp_T hT) rfl (c_X5_isWalker hT hR hO (by omega) (by omega)) dX5_whereIs_2 rfl rfl (Nat.le_of_ble_eq_true rfl) (Nat.le_of_ble_eq_true rfl) ?_
  refine A_ifb_eq (pc := 5) 17 dX5_whereIs_5 (by decide) (fun h5 => ?_) (fun h5 => ?_)
  · skip
    refine A_iconst (pc := 17) dX5_whereIs_17 ?_
    refine A_iret (pc := 18) rfl dX5_whereIs_18 ?_
    exact R1_e (by rw [if_neg (by omega)])
  · skip
    refine A_aload_n (pc := 8) dX5_whereIs_8 rfl rfl ?_
    refine A_getR (pc := 9) fX5_47 (shp_T hT) rfl dX5_whereIs_9 ?_
    refine A_iload_n (pc := 12) dX5_whereIs_12 rfl rfl ?_
    refine A_ialdv (pc := 13) _ (shp_T_walkerAt hT) rfl (by omega) (Nat.le_of_ble_eq_true rfl) (hR.wat (by omega)) dX5_whereIs_13 ?_
    refine A_goto (pc := 14) 18 dX5_whereIs_14 (by decide) ?_
    refine A_iret (pc := 18) rfl dX5_whereIs_18 ?_
    exact R1_e (by rw [if_pos (by omega)])
theorem dX5_facedBy_0 : decode cX5_facedBy 0 = .ok (.aload_n 0, 1) := by decide +kernel
theorem dX5_facedBy_1 : decode cX5_facedBy 1 = .ok (.iload_n 1, 1) := by decide +kernel
theorem dX5_facedBy_2 : decode cX5_facedBy 2 = .ok (.invokevirtual 79, 3) := by decide +kernel
theorem dX5_facedBy_5 : decode cX5_facedBy 5 = .ok (.ifCond .eq 12, 3) := by decide +kernel
theorem dX5_facedBy_8 : decode cX5_facedBy 8 = .ok (.aload_n 0, 1) := by decide +kernel
theorem dX5_facedBy_9 : decode cX5_facedBy 9 = .ok (.getfield 50, 3) := by decide +kernel
theorem dX5_facedBy_12 : decode cX5_facedBy 12 = .ok (.iload_n 1, 1) := by decide +kernel
theorem dX5_facedBy_13 : decode cX5_facedBy 13 = .ok (.iaload, 1) := by decide +kernel
theorem dX5_facedBy_14 : decode cX5_facedBy 14 = .ok (.goto 4, 3) := by decide +kernel
theorem dX5_facedBy_17 : decode cX5_facedBy 17 = .ok (.iconst (-1), 1) := by decide +kernel
theorem dX5_facedBy_18 : decode cX5_facedBy 18 = .ok (.ireturn, 1) := by decide +kernel
set_option maxRecDepth 20000 in
theorem c_X5_facedBy {G : Gl} {d : Nat} {σ : Sg} {c : Nat} (hT : TC c) {τ : Tw} (hR : RX c τ σ) (hO : OkT τ) {p : Nat} (hp : (p : Int) < 2147483648) : CT G (d + 1) yX5_facedBy cX5_facedBy 2 (some .int) [.ref (gA G c), .int (iI (p : Int))] σ (R1 (.int (iI (if (p : Int) < τ.2.1 1 then τ.2.2 5 p else -1))) σ) := by
  refine CT.of (by decide +kernel) (Nat.le_of_ble_eq_true rfl) ?_
  change AW G _ RX5 _ _ _ 0 [(0, .ref (gA G c)), (1, .int (iI (p : Int)))] [] _ _
  have hO2 := hO
  obtain ⟨o1, o2, o3, o4, o5, o6, o7, o8, o9⟩ := hO2
  have p0 : σ.1 c 1 = τ.2.1 0 := hR.2.1 0 (by decide)
  have p1 : σ.1 c 2 = τ.2.1 1 := hR.2.1 1 (by decide)
  have p2 : σ.1 c 3 = τ.2.1 2 := hR.2.1 2 (by decide)
  have p3 : σ.1 c 4 = τ.2.1 3 := hR.2.1 3 (by decide)
  have p4 : σ.1 c 5 = τ.2.1 4 := hR.2.1 4 (by decide)
  have p5 : σ.1 c 6 = τ.2.1 5 := hR.2.1 5 (by decide)
  refine A_aload_n (pc := 0) dX5_facedBy_0 rfl rfl ?_
  refine A_iload_n (pc := 1) dX5_facedBy_1 rfl rfl ?_
  refine A_callV1 (pc := 2) kX5_79 (shp_T hT) rfl (c_X5_isWalker hT hR hO (by omega) (by omega)) dX5_facedBy_2 rfl rfl (Nat.le_of_ble_eq_true rfl) (Nat.le_of_ble_eq_true rfl) ?_
  refine A_ifb_eq (pc := 5) 17 dX5_facedBy_5 (by decide) (fun h5 => ?_) (fun h5 => ?_)
  · skip
    refine A_iconst (pc := 17) dX5_facedBy_17 ?_
    refine A_iret (pc := 18) rfl dX5_facedBy_18 ?_
    exact R1_e (by rw [if_neg (by omega)])
  · skip
    refine A_aload_n (pc := 8) dX5_facedBy_8 rfl rfl ?_
    refine A_getR (pc := 9) fX5_50 (shp_T hT) rfl dX5_facedBy_9 ?_
    refine A_iload_n (pc := 12) dX5_facedBy_12 rfl rfl ?_
    refine A_ialdv (pc := 13) _ (shp_T_walkerFaces hT) rfl (by omega) (Nat.le_of_ble_eq_true rfl) (hR.wf (by omega)) dX5_facedBy_13 ?_
    refine A_goto (pc := 14) 18 dX5_facedBy_14 (by decide) ?_
    refine A_iret (pc := 18) rfl dX5_facedBy_18 ?_
    exact R1_e (by rw [if_pos (by omega)])
theorem dX5_triedOf_0 : decode cX5_triedOf 0 = .ok (.aload_n 0, 1) := by decide +kernel
theorem dX5_triedOf_1 : decode cX5_triedOf 1 = .ok (.iload_n 1, 1) := by decide +kernel
theorem dX5_triedOf_2 : decode cX5_triedOf 2 = .ok (.invokevirtual 79, 3) := by decide +kernel
theorem dX5_triedOf_5 : decode cX5_triedOf 5 = .ok (.ifCond .eq 12, 3) := by decide +kernel
theorem dX5_triedOf_8 : decode cX5_triedOf 8 = .ok (.aload_n 0, 1) := by decide +kernel
theorem dX5_triedOf_9 : decode cX5_triedOf 9 = .ok (.getfield 53, 3) := by decide +kernel
theorem dX5_triedOf_12 : decode cX5_triedOf 12 = .ok (.iload_n 1, 1) := by decide +kernel
theorem dX5_triedOf_13 : decode cX5_triedOf 13 = .ok (.iaload, 1) := by decide +kernel
theorem dX5_triedOf_14 : decode cX5_triedOf 14 = .ok (.goto 4, 3) := by decide +kernel
theorem dX5_triedOf_17 : decode cX5_triedOf 17 = .ok (.iconst 0, 1) := by decide +kernel
theorem dX5_triedOf_18 : decode cX5_triedOf 18 = .ok (.ireturn, 1) := by decide +kernel
set_option maxRecDepth 20000 in
theorem c_X5_triedOf {G : Gl} {d : Nat} {σ : Sg} {c : Nat} (hT : TC c) {τ : Tw} (hR : RX c τ σ) (hO : OkT τ) {p : Nat} (hp : (p : Int) < 2147483648) : CT G (d + 1) yX5_triedOf cX5_triedOf 2 (some .int) [.ref (gA G c), .int (iI (p : Int))] σ (R1 (.int (iI (if (p : Int) < τ.2.1 1 then τ.2.2 6 p else 0))) σ) := by
  refine CT.of (by decide +kernel) (Nat.le_of_ble_eq_true rfl) ?_
  change AW G _ RX5 _ _ _ 0 [(0, .ref (gA G c)), (1, .int (iI (p : Int)))] [] _ _
  have hO2 := hO
  obtain ⟨o1, o2, o3, o4, o5, o6, o7, o8, o9⟩ := hO2
  have p0 : σ.1 c 1 = τ.2.1 0 := hR.2.1 0 (by decide)
  have p1 : σ.1 c 2 = τ.2.1 1 := hR.2.1 1 (by decide)
  have p2 : σ.1 c 3 = τ.2.1 2 := hR.2.1 2 (by decide)
  have p3 : σ.1 c 4 = τ.2.1 3 := hR.2.1 3 (by decide)
  have p4 : σ.1 c 5 = τ.2.1 4 := hR.2.1 4 (by decide)
  have p5 : σ.1 c 6 = τ.2.1 5 := hR.2.1 5 (by decide)
  refine A_aload_n (pc := 0) dX5_triedOf_0 rfl rfl ?_
  refine A_iload_n (pc := 1) dX5_triedOf_1 rfl rfl ?_
  refine A_callV1 (pc := 2) kX5_79 (shp_T hT) rfl (c_X5_isWalker hT hR hO (by omega) (by omega)) dX5_triedOf_2 rfl rfl (Nat.le_of_ble_eq_true rfl) (Nat.le_of_ble_eq_true rfl) ?_
  refine A_ifb_eq (pc := 5) 17 dX5_triedOf_5 (by decide) (fun h5 => ?_) (fun h5 => ?_)
  · skip
    refine A_iconst (pc := 17) dX5_triedOf_17 ?_
    refine A_iret (pc := 18) rfl dX5_triedOf_18 ?_
    exact R1_e (by rw [if_neg (by omega)])
  · skip
    refine A_aload_n (pc := 8) dX5_triedOf_8 rfl rfl ?_
    refine A_getR (pc := 9) fX5_53 (shp_T hT) rfl dX5_triedOf_9 ?_
    refine A_iload_n (pc := 12) dX5_triedOf_12 rfl rfl ?_
    refine A_ialdv (pc := 13) _ (shp_T_walkerTried hT) rfl (by omega) (Nat.le_of_ble_eq_true rfl) (hR.wt (by omega)) dX5_triedOf_13 ?_
    refine A_goto (pc := 14) 18 dX5_triedOf_14 (by decide) ?_
    refine A_iret (pc := 18) rfl dX5_triedOf_18 ?_
    exact R1_e (by rw [if_pos (by omega)])
theorem dX5_isPaneAt_0 : decode cX5_isPaneAt 0 = .ok (.iconst 0, 1) := by decide +kernel
theorem dX5_isPaneAt_1 : decode cX5_isPaneAt 1 = .ok (.istore_n 2, 1) := by decide +kernel
theorem dX5_isPaneAt_2 : decode cX5_isPaneAt 2 = .ok (.iload_n 2, 1) := by decide +kernel
theorem dX5_isPaneAt_3 : decode cX5_isPaneAt 3 = .ok (.aload_n 0, 1) := by decide +kernel
theorem dX5_isPaneAt_4 : decode cX5_isPaneAt 4 = .ok (.getfield 15, 3) := by decide +kernel
theorem dX5_isPaneAt_7 : decode cX5_isPaneAt 7 = .ok (.if_icmp .ge 27, 3) := by decide +kernel
theorem dX5_isPaneAt_10 : decode cX5_isPaneAt 10 = .ok (.iload_n 2, 1) := by decide +kernel
theorem dX5_isPaneAt_11 : decode cX5_isPaneAt 11 = .ok (.bipush 9, 2) := by decide +kernel
theorem dX5_isPaneAt_13 : decode cX5_isPaneAt 13 = .ok (.if_icmp .ge 21, 3) := by decide +kernel
theorem dX5_isPaneAt_16 : decode cX5_isPaneAt 16 = .ok (.aload_n 0, 1) := by decide +kernel
theorem dX5_isPaneAt_17 : decode cX5_isPaneAt 17 = .ok (.getfield 41, 3) := by decide +kernel
theorem dX5_isPaneAt_20 : decode cX5_isPaneAt 20 = .ok (.iload_n 2, 1) := by decide +kernel
theorem dX5_isPaneAt_21 : decode cX5_isPaneAt 21 = .ok (.iaload, 1) := by decide +kernel
theorem dX5_isPaneAt_22 : decode cX5_isPaneAt 22 = .ok (.iload_n 1, 1) := by decide +kernel
theorem dX5_isPaneAt_23 : decode cX5_isPaneAt 23 = .ok (.if_icmp .ne 5, 3) := by decide +kernel
theorem dX5_isPaneAt_26 : decode cX5_isPaneAt 26 = .ok (.iconst 1, 1) := by decide +kernel
theorem dX5_isPaneAt_27 : decode cX5_isPaneAt 27 = .ok (.ireturn, 1) := by decide +kernel
theorem dX5_isPaneAt_28 : decode cX5_isPaneAt 28 = .ok (.iinc 2 1, 3) := by decide +kernel
theorem dX5_isPaneAt_31 : decode cX5_isPaneAt 31 = .ok (.goto (-29), 3) := by decide +kernel
theorem dX5_isPaneAt_34 : decode cX5_isPaneAt 34 = .ok (.iconst 0, 1) := by decide +kernel
theorem dX5_isPaneAt_35 : decode cX5_isPaneAt 35 = .ok (.ireturn, 1) := by decide +kernel
set_option maxRecDepth 20000 in
theorem l_X5_isPaneAt {G : Gl} {d : Nat} {σ : Sg} {K : Option Value → Sg → Prop} {c : Nat} (hT : TC c) {τ : Tw} (hR : RX c τ σ) (hO : OkT τ) {s : Int} (hs1 : -2147483648 ≤ s) (hs2 : s < 2147483648) : ∀ (n i : Nat), (i : Int) + n = τ.2.1 0 → K (some (.int (iI (bI (anyR (fun p => decide (τ.2.2 2 p = s)) n i = true))))) σ → AW G d RX5 cX5_isPaneAt 3 (some .boolean) 2 [(0, .ref (gA G c)), (1, .int (iI s)), (2, .int (iI (i : Int)))] [] σ K := by
  intro n
  induction n using Nat.strongRecOn
  rename_i n ih
  intro i hn hK
  have hO2 := hO
  obtain ⟨o1, o2, o3, o4, o5, o6, o7, o8, o9⟩ := hO2
  have p0 : σ.1 c 1 = τ.2.1 0 := hR.2.1 0 (by decide)
  have p1 : σ.1 c 2 = τ.2.1 1 := hR.2.1 1 (by decide)
  have p2 : σ.1 c 3 = τ.2.1 2 := hR.2.1 2 (by decide)
  have p3 : σ.1 c 4 = τ.2.1 3 := hR.2.1 3 (by decide)
  have p4 : σ.1 c 5 = τ.2.1 4 := hR.2.1 4 (by decide)
  have p5 : σ.1 c 6 = τ.2.1 5 := hR.2.1 5 (by decide)
  refine A_iload_n (pc := 2) dX5_isPaneAt_2 rfl rfl ?_
  refine A_aload_n (pc := 3) dX5_isPaneAt_3 rfl rfl ?_
  refine A_getIv (pc := 4) fX5_15 (shp_T hT) rfl p0 dX5_isPaneAt_4 ?_
  refine A_icmp_ge (pc := 7) 34 dX5_isPaneAt_7 (by decide) (by omega) (by omega) (by omega) (by omega) (fun h7 => ?_) (fun h7 => ?_)
  · skip
    refine A_iconst (pc := 34) dX5_isPaneAt_34 ?_
    refine A_zret (pc := 35) rfl rfl dX5_isPaneAt_35 ?_
    have hn0 : n = 0 := by omega
    subst hn0
    rw [anyR, bI_f (by decide)] at hK
    exact hK
  · skip
    refine A_iload_n (pc := 10) dX5_isPaneAt_10 rfl rfl ?_
    refine A_bipush (pc := 11) dX5_isPaneAt_11 (by decide) ?_
    refine A_icmp_ge (pc := 13) 34 dX5_isPaneAt_13 (by decide) (by omega) (by omega) (by omega) (by omega) (fun h13 => ?_) (fun h13 => ?_)
    · skip
      refine A_iconst (pc := 34) dX5_isPaneAt_34 ?_
      refine A_zret (pc := 35) rfl rfl dX5_isPaneAt_35 ?_
      exfalso; omega
    · skip
      refine A_aload_n (pc := 16) dX5_isPaneAt_16 rfl rfl ?_
      refine A_getR (pc := 17) fX5_41 (shp_T hT) rfl dX5_isPaneAt_17 ?_
      refine A_iload_n (pc := 20) dX5_isPaneAt_20 rfl rfl ?_
      refine A_ialdv (pc := 21) _ (shp_T_paneAt hT) rfl (by omega) (Nat.le_of_ble_eq_true rfl) (hR.at (by omega)) dX5_isPaneAt_21 ?_
      refine A_iload_n (pc := 22) dX5_isPaneAt_22 rfl rfl ?_
      refine A_icmp_ne (pc := 23) 28 dX5_isPaneAt_23 (by decide) (by have := o8 i (by omega); omega) (by have := o8 i (by omega); omega) hs1 hs2 (fun h23 => ?_) (fun h23 => ?_)
      · skip
        refine A_iinc (pc := 28) dX5_isPaneAt_28 rfl (Nat.le_of_ble_eq_true rfl) ?_
        refine A_goto (pc := 31) 2 dX5_isPaneAt_31 (by decide) ?_
        obtain ⟨m, rfl⟩ : ∃ m, n = m + 1 := ⟨n - 1, by omega⟩
        refine A_loc (l2 := [(0, _), (1, _), (2, _)]) ⟨rfl, rfl, rfl, trivial⟩ ?_
        refine ih m (by omega) (i + 1) (by omega) ?_
        rw [anyR, decide_eq_false h23, Bool.false_or] at hK
        exact hK
      · skip
        refine A_iconst (pc := 26) dX5_isPaneAt_26 ?_
        refine A_zret (pc := 27) rfl rfl dX5_isPaneAt_27 ?_
        obtain ⟨m, rfl⟩ : ∃ m, n = m + 1 := ⟨n - 1, by omega⟩
        rw [anyR, decide_eq_true h23, Bool.true_or, bI_t rfl] at hK
        exact hK
set_option maxRecDepth 20000 in
theorem c_X5_isPaneAt {G : Gl} {d : Nat} {σ : Sg} {c : Nat} (hT : TC c) {τ : Tw} (hR : RX c τ σ) (hO : OkT τ) {s : Int} (hs1 : -2147483648 ≤ s) (hs2 : s < 2147483648) : CT G d yX5_isPaneAt cX5_isPaneAt 3 (some .boolean) [.ref (gA G c), .int (iI s)] σ (R1 (.int (iI (bI (pAt τ s = true)))) σ) := by
  refine CT.of (by decide +kernel) (Nat.le_of_ble_eq_true rfl) ?_
  change AW G _ RX5 _ _ _ 0 [(0, .ref (gA G c)), (1, .int (iI s))] [] _ _
  have hO2 := hO
  obtain ⟨o1, o2, o3, o4, o5, o6, o7, o8, o9⟩ := hO2
  have p0 : σ.1 c 1 = τ.2.1 0 := hR.2.1 0 (by decide)
  have p1 : σ.1 c 2 = τ.2.1 1 := hR.2.1 1 (by decide)
  have p2 : σ.1 c 3 = τ.2.1 2 := hR.2.1 2 (by decide)
  have p3 : σ.1 c 4 = τ.2.1 3 := hR.2.1 3 (by decide)
  have p4 : σ.1 c 5 = τ.2.1 4 := hR.2.1 4 (by decide)
  have p5 : σ.1 c 6 = τ.2.1 5 := hR.2.1 5 (by decide)
  refine A_iconst (pc := 0) dX5_isPaneAt_0 ?_
  refine A_istore_n (pc := 1) dX5_isPaneAt_1 rfl (Nat.le_of_ble_eq_true rfl) ?_
  refine A_loc (l2 := [(0, _), (1, _), (2, _)]) ⟨rfl, rfl, rfl, trivial⟩ ?_
  exact l_X5_isPaneAt hT hR hO hs1 hs2 (τ.2.1 0).toNat 0 (by omega) ⟨rfl, rfl⟩
theorem dX5_isSomebodyAt_0 : decode cX5_isSomebodyAt 0 = .ok (.iconst 0, 1) := by decide +kernel
theorem dX5_isSomebodyAt_1 : decode cX5_isSomebodyAt 1 = .ok (.istore_n 2, 1) := by decide +kernel
theorem dX5_isSomebodyAt_2 : decode cX5_isSomebodyAt 2 = .ok (.iload_n 2, 1) := by decide +kernel
theorem dX5_isSomebodyAt_3 : decode cX5_isSomebodyAt 3 = .ok (.aload_n 0, 1) := by decide +kernel
theorem dX5_isSomebodyAt_4 : decode cX5_isSomebodyAt 4 = .ok (.getfield 19, 3) := by decide +kernel
theorem dX5_isSomebodyAt_7 : decode cX5_isSomebodyAt 7 = .ok (.if_icmp .ge 26, 3) := by decide +kernel
theorem dX5_isSomebodyAt_10 : decode cX5_isSomebodyAt 10 = .ok (.iload_n 2, 1) := by decide +kernel
theorem dX5_isSomebodyAt_11 : decode cX5_isSomebodyAt 11 = .ok (.iconst 5, 1) := by decide +kernel
theorem dX5_isSomebodyAt_12 : decode cX5_isSomebodyAt 12 = .ok (.if_icmp .ge 21, 3) := by decide +kernel
theorem dX5_isSomebodyAt_15 : decode cX5_isSomebodyAt 15 = .ok (.aload_n 0, 1) := by decide +kernel
theorem dX5_isSomebodyAt_16 : decode cX5_isSomebodyAt 16 = .ok (.getfield 47, 3) := by decide +kernel
theorem dX5_isSomebodyAt_19 : decode cX5_isSomebodyAt 19 = .ok (.iload_n 2, 1) := by decide +kernel
theorem dX5_isSomebodyAt_20 : decode cX5_isSomebodyAt 20 = .ok (.iaload, 1) := by decide +kernel
theorem dX5_isSomebodyAt_21 : decode cX5_isSomebodyAt 21 = .ok (.iload_n 1, 1) := by decide +kernel
theorem dX5_isSomebodyAt_22 : decode cX5_isSomebodyAt 22 = .ok (.if_icmp .ne 5, 3) := by decide +kernel
theorem dX5_isSomebodyAt_25 : decode cX5_isSomebodyAt 25 = .ok (.iconst 1, 1) := by decide +kernel
theorem dX5_isSomebodyAt_26 : decode cX5_isSomebodyAt 26 = .ok (.ireturn, 1) := by decide +kernel
theorem dX5_isSomebodyAt_27 : decode cX5_isSomebodyAt 27 = .ok (.iinc 2 1, 3) := by decide +kernel
theorem dX5_isSomebodyAt_30 : decode cX5_isSomebodyAt 30 = .ok (.goto (-28), 3) := by decide +kernel
theorem dX5_isSomebodyAt_33 : decode cX5_isSomebodyAt 33 = .ok (.iconst 0, 1) := by decide +kernel
theorem dX5_isSomebodyAt_34 : decode cX5_isSomebodyAt 34 = .ok (.ireturn, 1) := by decide +kernel
set_option maxRecDepth 20000 in
theorem l_X5_isSomebodyAt {G : Gl} {d : Nat} {σ : Sg} {K : Option Value → Sg → Prop} {c : Nat} (hT : TC c) {τ : Tw} (hR : RX c τ σ) (hO : OkT τ) {s : Int} (hs1 : -2147483648 ≤ s) (hs2 : s < 2147483648) : ∀ (n i : Nat), (i : Int) + n = τ.2.1 1 → K (some (.int (iI (bI (anyR (fun p => decide (τ.2.2 4 p = s)) n i = true))))) σ → AW G d RX5 cX5_isSomebodyAt 3 (some .boolean) 2 [(0, .ref (gA G c)), (1, .int (iI s)), (2, .int (iI (i : Int)))] [] σ K := by
  intro n
  induction n using Nat.strongRecOn
  rename_i n ih
  intro i hn hK
  have hO2 := hO
  obtain ⟨o1, o2, o3, o4, o5, o6, o7, o8, o9⟩ := hO2
  have p0 : σ.1 c 1 = τ.2.1 0 := hR.2.1 0 (by decide)
  have p1 : σ.1 c 2 = τ.2.1 1 := hR.2.1 1 (by decide)
  have p2 : σ.1 c 3 = τ.2.1 2 := hR.2.1 2 (by decide)
  have p3 : σ.1 c 4 = τ.2.1 3 := hR.2.1 3 (by decide)
  have p4 : σ.1 c 5 = τ.2.1 4 := hR.2.1 4 (by decide)
  have p5 : σ.1 c 6 = τ.2.1 5 := hR.2.1 5 (by decide)
  refine A_iload_n (pc := 2) dX5_isSomebodyAt_2 rfl rfl ?_
  refine A_aload_n (pc := 3) dX5_isSomebodyAt_3 rfl rfl ?_
  refine A_getIv (pc := 4) fX5_19 (shp_T hT) rfl p1 dX5_isSomebodyAt_4 ?_
  refine A_icmp_ge (pc := 7) 33 dX5_isSomebodyAt_7 (by decide) (by omega) (by omega) (by omega) (by omega) (fun h7 => ?_) (fun h7 => ?_)
  · skip
    refine A_iconst (pc := 33) dX5_isSomebodyAt_33 ?_
    refine A_zret (pc := 34) rfl rfl dX5_isSomebodyAt_34 ?_
    have hn0 : n = 0 := by omega
    subst hn0
    rw [anyR, bI_f (by decide)] at hK
    exact hK
  · skip
    refine A_iload_n (pc := 10) dX5_isSomebodyAt_10 rfl rfl ?_
    refine A_iconst (pc := 11) dX5_isSomebodyAt_11 ?_
    refine A_icmp_ge (pc := 12) 33 dX5_isSomebodyAt_12 (by decide) (by omega) (by omega) (by omega) (by omega) (fun h12 => ?_) (fun h12 => ?_)
    · skip
      refine A_iconst (pc := 33) dX5_isSomebodyAt_33 ?_
      refine A_zret (pc := 34) rfl rfl dX5_isSomebodyAt_34 ?_
      exfalso; omega
    · skip
      refine A_aload_n (pc := 15) dX5_isSomebodyAt_15 rfl rfl ?_
      refine A_getR (pc := 16) fX5_47 (shp_T hT) rfl dX5_isSomebodyAt_16 ?_
      refine A_iload_n (pc := 19) dX5_isSomebodyAt_19 rfl rfl ?_
      refine A_ialdv (pc := 20) _ (shp_T_walkerAt hT) rfl (by omega) (Nat.le_of_ble_eq_true rfl) (hR.wat (by omega)) dX5_isSomebodyAt_20 ?_
      refine A_iload_n (pc := 21) dX5_isSomebodyAt_21 rfl rfl ?_
      refine A_icmp_ne (pc := 22) 27 dX5_isSomebodyAt_22 (by decide) (by have := o9 i (by omega); omega) (by have := o9 i (by omega); omega) hs1 hs2 (fun h22 => ?_) (fun h22 => ?_)
      · skip
        refine A_iinc (pc := 27) dX5_isSomebodyAt_27 rfl (Nat.le_of_ble_eq_true rfl) ?_
        refine A_goto (pc := 30) 2 dX5_isSomebodyAt_30 (by decide) ?_
        obtain ⟨m, rfl⟩ : ∃ m, n = m + 1 := ⟨n - 1, by omega⟩
        refine A_loc (l2 := [(0, _), (1, _), (2, _)]) ⟨rfl, rfl, rfl, trivial⟩ ?_
        refine ih m (by omega) (i + 1) (by omega) ?_
        rw [anyR, decide_eq_false h22, Bool.false_or] at hK
        exact hK
      · skip
        refine A_iconst (pc := 25) dX5_isSomebodyAt_25 ?_
        refine A_zret (pc := 26) rfl rfl dX5_isSomebodyAt_26 ?_
        obtain ⟨m, rfl⟩ : ∃ m, n = m + 1 := ⟨n - 1, by omega⟩
        rw [anyR, decide_eq_true h22, Bool.true_or, bI_t rfl] at hK
        exact hK
set_option maxRecDepth 20000 in
theorem c_X5_isSomebodyAt {G : Gl} {d : Nat} {σ : Sg} {c : Nat} (hT : TC c) {τ : Tw} (hR : RX c τ σ) (hO : OkT τ) {s : Int} (hs1 : -2147483648 ≤ s) (hs2 : s < 2147483648) : CT G d yX5_isSomebodyAt cX5_isSomebodyAt 3 (some .boolean) [.ref (gA G c), .int (iI s)] σ (R1 (.int (iI (bI (wAt τ s = true)))) σ) := by
  refine CT.of (by decide +kernel) (Nat.le_of_ble_eq_true rfl) ?_
  change AW G _ RX5 _ _ _ 0 [(0, .ref (gA G c)), (1, .int (iI s))] [] _ _
  have hO2 := hO
  obtain ⟨o1, o2, o3, o4, o5, o6, o7, o8, o9⟩ := hO2
  have p0 : σ.1 c 1 = τ.2.1 0 := hR.2.1 0 (by decide)
  have p1 : σ.1 c 2 = τ.2.1 1 := hR.2.1 1 (by decide)
  have p2 : σ.1 c 3 = τ.2.1 2 := hR.2.1 2 (by decide)
  have p3 : σ.1 c 4 = τ.2.1 3 := hR.2.1 3 (by decide)
  have p4 : σ.1 c 5 = τ.2.1 4 := hR.2.1 4 (by decide)
  have p5 : σ.1 c 6 = τ.2.1 5 := hR.2.1 5 (by decide)
  refine A_iconst (pc := 0) dX5_isSomebodyAt_0 ?_
  refine A_istore_n (pc := 1) dX5_isSomebodyAt_1 rfl (Nat.le_of_ble_eq_true rfl) ?_
  refine A_loc (l2 := [(0, _), (1, _), (2, _)]) ⟨rfl, rfl, rfl, trivial⟩ ?_
  exact l_X5_isSomebodyAt hT hR hO hs1 hs2 (τ.2.1 1).toNat 0 (by omega) ⟨rfl, rfl⟩
end
section
/-! PART 11: changes of a town; int masks; WindowsLookedOut$Town, second half (s_l, fa_or, fa_and are pasted from kit/laws) -/
theorem s_l : ∀ n, n < 32 → ((nI n &&& 31).toBitVec.smod 32).toNat = n := by decide +kernel
theorem fa_or (a b : Nat) : nI a ||| nI b = nI (a ||| b) := by
  apply Int32.toBitVec_inj.1
  show BitVec.ofNat 32 a ||| BitVec.ofNat 32 b = BitVec.ofNat 32 (a ||| b)
  apply BitVec.eq_of_getLsbD_eq
  intro i hi
  simp [hi]
theorem fa_and (a b : Nat) : nI a &&& nI b = nI (a &&& b) := by
  apply Int32.toBitVec_inj.1
  show BitVec.ofNat 32 a &&& BitVec.ofNat 32 b = BitVec.ofNat 32 (a &&& b)
  apply BitVec.eq_of_getLsbD_eq
  intro i hi
  simp [hi]
theorem or_I (a b : Nat) : iI (a : Int) ||| iI (b : Int) = iI ((a ||| b : Nat) : Int) := by rw [iI_n, iI_n, iI_n, fa_or]
theorem and_I (a b : Nat) : iI (a : Int) &&& iI (b : Int) = iI ((a &&& b : Nat) : Int) := by rw [iI_n, iI_n, iI_n, fa_and]
theorem shl_I {k : Nat} (hk : k < 32) : iI 1 <<< (iI (k : Int) &&& 31) = iI ((2 ^ k : Nat) : Int) := by
  have h := pk_shlN (n := 1) (nI k &&& 31) k (s_l k hk) (by rw [Nat.one_mul]; exact Nat.pow_lt_pow_right (by decide) hk)
  rw [iI_n, iI_n, show iI 1 = nI 1 from iI_n 1, h, Nat.one_mul]
def TS (c : Nat) : Nat → Prop := fun a => c ≤ a ∧ a < c + 8
def tH (τ : Tw) (h : Nat) : Tw := (h, τ.2)
def tS (τ : Tw) (k : Nat) (v : Int) : Tw := (τ.1, fun i => if i = k then v else τ.2.1 i, τ.2.2)
def tA (τ : Tw) (j p : Nat) (v : Int) : Tw := (τ.1, τ.2.1, fun a b => if a = j ∧ b = p then v else τ.2.2 a b)
theorem RX.setH {c : Nat} {τ : Tw} {σ : Sg} (h : RX c τ σ) (b : Nat) : RX c (tH τ b) (uL σ c 0 (lN b)) := by
  refine ⟨by simp [uL, tH], h.2.1, h.2.2.1, h.2.2.2⟩
theorem RX.setS {c : Nat} {τ : Tw} {σ : Sg} (h : RX c τ σ) {k : Nat} (v : Int) (h1 : 2 ≤ k) : RX c (tS τ k v) (uI σ c (k + 1) v) := by
  have n0 : (tS τ k v).2.1 0 = τ.2.1 0 := if_neg (by omega)
  have n1 : (tS τ k v).2.1 1 = τ.2.1 1 := if_neg (by omega)
  refine ⟨h.1, fun i hi => ?_, fun j p hj hp => ?_, fun j p hj hp => ?_⟩
  · rw [uI_at]
    by_cases e : i = k
    · rw [if_pos ⟨rfl, by omega⟩]; exact (if_pos e).symm
    · rw [if_neg (by omega), h.2.1 i hi]; exact (if_neg e).symm
  · rw [uI_at, if_neg (by omega)]; rw [n0] at hp; exact h.2.2.1 j p hj hp
  · rw [uI_at, if_neg (by omega)]; rw [n1] at hp; exact h.2.2.2 j p hj hp
theorem RX.setA {c : Nat} {τ : Tw} {σ : Sg} (h : RX c τ σ) (j p : Nat) (v : Int) (hj : j < 7) : RX c (tA τ j p v) (uI σ (c + 1 + j) p v) := by
  refine ⟨h.1, fun i hi => ?_, fun i q hi hq => ?_, fun i q hi hq => ?_⟩
  · rw [uI_at, if_neg (by omega)]; exact h.2.1 i hi
  · rw [uI_at]
    show _ = (if i = j ∧ q = p then v else τ.2.2 i q)
    by_cases e : i = j ∧ q = p
    · rw [if_pos e, if_pos (by omega)]
    · rw [if_neg e, if_neg (by omega)]; exact h.2.2.1 i q hi hq
  · rw [uI_at]
    show _ = (if 4 + i = j ∧ q = p then v else τ.2.2 (4 + i) q)
    by_cases e : 4 + i = j ∧ q = p
    · rw [if_pos e, if_pos (by omega)]
    · rw [if_neg e, if_neg (by omega)]; exact h.2.2.2 i q hi hq
theorem RX.inc0 {c : Nat} {τ : Tw} {σ : Sg} (h : RX c τ σ) {n : Nat} (hn : τ.2.1 0 = n) (hA : ∀ j, j < 4 → σ.1 (c + 1 + j) n = τ.2.2 j n) : RX c (tS τ 0 (n + 1)) (uI σ c 1 (n + 1)) := by
  refine ⟨h.1, fun i hi => ?_, fun j p hj hp => ?_, fun j p hj hp => ?_⟩
  · rw [uI_at]
    by_cases e : i = 0
    · rw [if_pos ⟨rfl, by omega⟩]; exact (if_pos e).symm
    · rw [if_neg (by omega), h.2.1 i hi]; exact (if_neg e).symm
  · rw [uI_at, if_neg (by omega)]
    have hp2 : (p : Int) < n + 1 := hp
    by_cases e : p = n
    · rw [e]; exact hA j hj
    · exact h.2.2.1 j p hj (by omega)
  · rw [uI_at, if_neg (by omega)]; exact h.2.2.2 j p hj hp
theorem RX.inc1 {c : Nat} {τ : Tw} {σ : Sg} (h : RX c τ σ) {n : Nat} (hn : τ.2.1 1 = n) (hA : ∀ j, j < 3 → σ.1 (c + 5 + j) n = τ.2.2 (4 + j) n) : RX c (tS τ 1 (n + 1)) (uI σ c 2 (n + 1)) := by
  refine ⟨h.1, fun i hi => ?_, fun j p hj hp => ?_, fun j p hj hp => ?_⟩
  · rw [uI_at]
    by_cases e : i = 1
    · rw [if_pos ⟨rfl, by omega⟩]; exact (if_pos e).symm
    · rw [if_neg (by omega), h.2.1 i hi]; exact (if_neg e).symm
  · rw [uI_at, if_neg (by omega)]; exact h.2.2.1 j p hj hp
  · rw [uI_at, if_neg (by omega)]
    have hp2 : (p : Int) < n + 1 := hp
    by_cases e : p = n
    · rw [e]; exact hA j hj
    · exact h.2.2.2 j p hj (by omega)
/-- a pane more, a walker more, a walker put, put to shame -/
def addP (τ : Tw) (k a s w : Int) : Tw := tS (tA (tA (tA (tA τ 0 (τ.2.1 0).toNat k) 1 (τ.2.1 0).toNat a) 2 (τ.2.1 0).toNat s) 3 (τ.2.1 0).toNat w) 0 (τ.2.1 0 + 1)
def addW (τ : Tw) (s w : Int) : Tw := tS (tA (tA (tA τ 4 (τ.2.1 1).toNat s) 5 (τ.2.1 1).toNat w) 6 (τ.2.1 1).toNat 0) 1 (τ.2.1 1 + 1)
def plc (τ : Tw) (p : Nat) (s w : Int) : Tw := tA (tA τ 4 p s) 5 p w
def bea (τ : Tw) (p : Nat) (m : Int) : Tw := if 0 < m then tA (tS τ 4 (τ.2.1 4 + m)) 6 p (τ.2.2 6 p + 1) else tS τ 4 (τ.2.1 4 + m)
theorem shpTA {c j n : Nat} (h : TC c) (hj : j < 4 ∧ n = 9 ∨ 4 ≤ j ∧ j < 7 ∧ n = 5) : shp (c + 1 + j) = .inr (0, n) := by
  have hh : j = 0 ∨ j = 1 ∨ j = 2 ∨ j = 3 ∨ j = 4 ∨ j = 5 ∨ j = 6 := by omega
  rcases h with rfl | rfl | rfl <;> rcases hh with rfl | rfl | rfl | rfl | rfl | rfl | rfl <;> (have : n = 9 ∨ n = 5 := by omega) <;> (first | (have e : n = 9 := by omega); subst e; rfl | (have e : n = 5 := by omega); subst e; rfl)
theorem dX5_letsIn_0 : decode cX5_letsIn 0 = .ok (.iload_n 0, 1) := by decide +kernel
theorem dX5_letsIn_1 : decode cX5_letsIn 1 = .ok (.tableswitch 53 1 3 #[27, 40, 29], 27) := by decide +kernel
theorem dX5_letsIn_28 : decode cX5_letsIn 28 = .ok (.iconst 0, 1) := by decide +kernel
theorem dX5_letsIn_29 : decode cX5_letsIn 29 = .ok (.ireturn, 1) := by decide +kernel
theorem dX5_letsIn_30 : decode cX5_letsIn 30 = .ok (.iload_n 2, 1) := by decide +kernel
theorem dX5_letsIn_31 : decode cX5_letsIn 31 = .ok (.iconst 1, 1) := by decide +kernel
theorem dX5_letsIn_32 : decode cX5_letsIn 32 = .ok (.if_icmp .ne 7, 3) := by decide +kernel
theorem dX5_letsIn_35 : decode cX5_letsIn 35 = .ok (.iconst 1, 1) := by decide +kernel
theorem dX5_letsIn_36 : decode cX5_letsIn 36 = .ok (.goto 4, 3) := by decide +kernel
theorem dX5_letsIn_39 : decode cX5_letsIn 39 = .ok (.iconst 0, 1) := by decide +kernel
theorem dX5_letsIn_40 : decode cX5_letsIn 40 = .ok (.ireturn, 1) := by decide +kernel
theorem dX5_letsIn_41 : decode cX5_letsIn 41 = .ok (.iload_n 2, 1) := by decide +kernel
theorem dX5_letsIn_42 : decode cX5_letsIn 42 = .ok (.iload_n 1, 1) := by decide +kernel
theorem dX5_letsIn_43 : decode cX5_letsIn 43 = .ok (.iconst 1, 1) := by decide +kernel
theorem dX5_letsIn_44 : decode cX5_letsIn 44 = .ok (.iadd, 1) := by decide +kernel
theorem dX5_letsIn_45 : decode cX5_letsIn 45 = .ok (.if_icmp .gt 7, 3) := by decide +kernel
theorem dX5_letsIn_48 : decode cX5_letsIn 48 = .ok (.iconst 1, 1) := by decide +kernel
theorem dX5_letsIn_49 : decode cX5_letsIn 49 = .ok (.goto 4, 3) := by decide +kernel
theorem dX5_letsIn_52 : decode cX5_letsIn 52 = .ok (.iconst 0, 1) := by decide +kernel
theorem dX5_letsIn_53 : decode cX5_letsIn 53 = .ok (.ireturn, 1) := by decide +kernel
theorem dX5_letsIn_54 : decode cX5_letsIn 54 = .ok (.iconst 1, 1) := by decide +kernel
theorem dX5_letsIn_55 : decode cX5_letsIn 55 = .ok (.ireturn, 1) := by decide +kernel
set_option maxRecDepth 20000 in
theorem c_X5_letsIn {G : Gl} {d : Nat} {σ : Sg} {k a off : Int} (k1 : -2147483648 ≤ k) (k2 : k < 2147483648) (a1 : 0 ≤ a) (a2 : a ≤ 9) (f1 : -2147483648 ≤ off) (f2 : off < 2147483648) : CT G d yX5_letsIn cX5_letsIn 3 (some .boolean) [.int (iI k), .int (iI a), .int (iI off)] σ (R1 (.int (iI (bI (lets k a off = true)))) σ) := by
  refine CT.of (by decide +kernel) (Nat.le_of_ble_eq_true rfl) ?_
  change AW G _ RX5 _ _ _ 0 [(0, .int (iI k)), (1, .int (iI a)), (2, .int (iI off))] [] _ _
  refine A_iload_n (pc := 0) dX5_letsIn_0 rfl rfl ?_
  refine A_tsw (pc := 1) [(1, 28), (2, 41), (3, 30)] 54 dX5_letsIn_1 (by decide) (by decide) (by decide) (by omega) (by omega) ?_
  refine ⟨fun h1 => ?_, fun h1n1 => ?_⟩
  · skip
    refine A_iconst (pc := 28) dX5_letsIn_28 ?_
    refine A_zret (pc := 29) rfl rfl dX5_letsIn_29 ?_
    exact R1_f (by unfold lets; (repeat' split) <;> first | omega | (simp; done) | (simp; omega))
  refine ⟨fun h1 => ?_, fun h1n2 => ?_⟩
  · skip
    refine A_iload_n (pc := 41) dX5_letsIn_41 rfl rfl ?_
    refine A_iload_n (pc := 42) dX5_letsIn_42 rfl rfl ?_
    refine A_iconst (pc := 43) dX5_letsIn_43 ?_
    refine A_iadd (pc := 44) dX5_letsIn_44 ?_
    refine A_icmp_gt (pc := 45) 52 dX5_letsIn_45 (by decide) (by omega) (by omega) (by omega) (by omega) (fun h45 => ?_) (fun h45 => ?_)
    · skip
      refine A_iconst (pc := 52) dX5_letsIn_52 ?_
      refine A_zret (pc := 53) rfl rfl dX5_letsIn_53 ?_
      exact R1_f (by unfold lets; (repeat' split) <;> first | omega | (simp; done) | (simp; omega))
    · skip
      refine A_iconst (pc := 48) dX5_letsIn_48 ?_
      refine A_goto (pc := 49) 53 dX5_letsIn_49 (by decide) ?_
      refine A_zret (pc := 53) rfl rfl dX5_letsIn_53 ?_
      exact R1_t (by unfold lets; (repeat' split) <;> first | omega | (simp; done) | (simp; omega))
  refine ⟨fun h1 => ?_, fun h1n3 => ?_⟩
  · skip
    refine A_iload_n (pc := 30) dX5_letsIn_30 rfl rfl ?_
    refine A_iconst (pc := 31) dX5_letsIn_31 ?_
    refine A_icmp_ne (pc := 32) 39 dX5_letsIn_32 (by decide) (by omega) (by omega) (by omega) (by omega) (fun h32 => ?_) (fun h32 => ?_)
    · skip
      refine A_iconst (pc := 39) dX5_letsIn_39 ?_
      refine A_zret (pc := 40) rfl rfl dX5_letsIn_40 ?_
      exact R1_f (by unfold lets; (repeat' split) <;> first | omega | (simp; done) | (simp; omega))
    · skip
      refine A_iconst (pc := 35) dX5_letsIn_35 ?_
      refine A_goto (pc := 36) 40 dX5_letsIn_36 (by decide) ?_
      refine A_zret (pc := 40) rfl rfl dX5_letsIn_40 ?_
      exact R1_t (by unfold lets; (repeat' split) <;> first | omega | (simp; done) | (simp; omega))
  change AW G _ _ _ _ _ 54 _ _ _ _
  refine A_iconst (pc := 54) dX5_letsIn_54 ?_
  refine A_zret (pc := 55) rfl rfl dX5_letsIn_55 ?_
  exact R1_t (by unfold lets; (repeat' split) <;> first | omega | (simp; done) | (simp; omega))
theorem dX5_openTo_0 : decode cX5_openTo 0 = .ok (.iconst 0, 1) := by decide +kernel
theorem dX5_openTo_1 : decode cX5_openTo 1 = .ok (.istore 4, 2) := by decide +kernel
theorem dX5_openTo_3 : decode cX5_openTo 3 = .ok (.iconst 0, 1) := by decide +kernel
theorem dX5_openTo_4 : decode cX5_openTo 4 = .ok (.istore 5, 2) := by decide +kernel
theorem dX5_openTo_6 : decode cX5_openTo 6 = .ok (.iload 5, 2) := by decide +kernel
theorem dX5_openTo_8 : decode cX5_openTo 8 = .ok (.aload_n 0, 1) := by decide +kernel
theorem dX5_openTo_9 : decode cX5_openTo 9 = .ok (.getfield 15, 3) := by decide +kernel
theorem dX5_openTo_12 : decode cX5_openTo 12 = .ok (.if_icmp .ge 68, 3) := by decide +kernel
theorem dX5_openTo_15 : decode cX5_openTo 15 = .ok (.iload 5, 2) := by decide +kernel
theorem dX5_openTo_17 : decode cX5_openTo 17 = .ok (.bipush 9, 2) := by decide +kernel
theorem dX5_openTo_19 : decode cX5_openTo 19 = .ok (.if_icmp .ge 61, 3) := by decide +kernel
theorem dX5_openTo_22 : decode cX5_openTo 22 = .ok (.aload_n 0, 1) := by decide +kernel
theorem dX5_openTo_23 : decode cX5_openTo 23 = .ok (.getfield 41, 3) := by decide +kernel
theorem dX5_openTo_26 : decode cX5_openTo 26 = .ok (.iload 5, 2) := by decide +kernel
theorem dX5_openTo_28 : decode cX5_openTo 28 = .ok (.iaload, 1) := by decide +kernel
theorem dX5_openTo_29 : decode cX5_openTo 29 = .ok (.iload_n 1, 1) := by decide +kernel
theorem dX5_openTo_30 : decode cX5_openTo 30 = .ok (.if_icmp .ne 44, 3) := by decide +kernel
theorem dX5_openTo_33 : decode cX5_openTo 33 = .ok (.aload_n 0, 1) := by decide +kernel
theorem dX5_openTo_34 : decode cX5_openTo 34 = .ok (.getfield 44, 3) := by decide +kernel
theorem dX5_openTo_37 : decode cX5_openTo 37 = .ok (.iload 5, 2) := by decide +kernel
theorem dX5_openTo_39 : decode cX5_openTo 39 = .ok (.iaload, 1) := by decide +kernel
theorem dX5_openTo_40 : decode cX5_openTo 40 = .ok (.iload_n 2, 1) := by decide +kernel
theorem dX5_openTo_41 : decode cX5_openTo 41 = .ok (.if_icmp .ne 33, 3) := by decide +kernel
theorem dX5_openTo_44 : decode cX5_openTo 44 = .ok (.aload_n 0, 1) := by decide +kernel
theorem dX5_openTo_45 : decode cX5_openTo 45 = .ok (.getfield 34, 3) := by decide +kernel
theorem dX5_openTo_48 : decode cX5_openTo 48 = .ok (.iload 5, 2) := by decide +kernel
theorem dX5_openTo_50 : decode cX5_openTo 50 = .ok (.iaload, 1) := by decide +kernel
theorem dX5_openTo_51 : decode cX5_openTo 51 = .ok (.aload_n 0, 1) := by decide +kernel
theorem dX5_openTo_52 : decode cX5_openTo 52 = .ok (.getfield 38, 3) := by decide +kernel
theorem dX5_openTo_55 : decode cX5_openTo 55 = .ok (.iload 5, 2) := by decide +kernel
theorem dX5_openTo_57 : decode cX5_openTo 57 = .ok (.iaload, 1) := by decide +kernel
theorem dX5_openTo_58 : decode cX5_openTo 58 = .ok (.iload_n 3, 1) := by decide +kernel
theorem dX5_openTo_59 : decode cX5_openTo 59 = .ok (.invokestatic 130, 3) := by decide +kernel
theorem dX5_openTo_62 : decode cX5_openTo 62 = .ok (.ifCond .eq 12, 3) := by decide +kernel
theorem dX5_openTo_65 : decode cX5_openTo 65 = .ok (.iload 4, 2) := by decide +kernel
theorem dX5_openTo_67 : decode cX5_openTo 67 = .ok (.iconst 1, 1) := by decide +kernel
theorem dX5_openTo_68 : decode cX5_openTo 68 = .ok (.iload 5, 2) := by decide +kernel
theorem dX5_openTo_70 : decode cX5_openTo 70 = .ok (.ishl, 1) := by decide +kernel
theorem dX5_openTo_71 : decode cX5_openTo 71 = .ok (.ior, 1) := by decide +kernel
theorem dX5_openTo_72 : decode cX5_openTo 72 = .ok (.istore 4, 2) := by decide +kernel
theorem dX5_openTo_74 : decode cX5_openTo 74 = .ok (.iinc 5 1, 3) := by decide +kernel
theorem dX5_openTo_77 : decode cX5_openTo 77 = .ok (.goto (-71), 3) := by decide +kernel
theorem dX5_openTo_80 : decode cX5_openTo 80 = .ok (.iload 4, 2) := by decide +kernel
theorem dX5_openTo_82 : decode cX5_openTo 82 = .ok (.ireturn, 1) := by decide +kernel
set_option maxRecDepth 20000 in
theorem l_X5_openTo {G : Gl} {d : Nat} {σ : Sg} {K : Option Value → Sg → Prop} {c : Nat} (hT : TC c) {τ : Tw} (hR : RX c τ σ) (hO : OkT τ) {s : Int} (hs1 : -2147483648 ≤ s) (hs2 : s < 2147483648) {w : Int} (hw1 : -2147483648 ≤ w) (hw2 : w < 2147483648) {off : Int} (hoff1 : -2147483648 ≤ off) (hoff2 : off < 2147483648) : ∀ (n i acc : Nat), (i : Int) + n = τ.2.1 0 → K (some (.int (iI ((acc ||| orR (fun p => decide (τ.2.2 2 p = s ∧ τ.2.2 3 p = w) && lets (τ.2.2 0 p) (τ.2.2 1 p) off) n i : Nat) : Int)))) σ → AW G (d + 1) RX5 cX5_openTo 6 (some .int) 6 [(0, .ref (gA G c)), (1, .int (iI s)), (2, .int (iI w)), (3, .int (iI off)), (4, .int (iI (acc : Int))), (5, .int (iI (i : Int)))] [] σ K := by
  intro n
  induction n using Nat.strongRecOn
  rename_i n ih
  intro i acc hn hK
  have hO2 := hO
  obtain ⟨o1, o2, o3, o4, o5, o6, o7, o8, o9⟩ := hO2
  have p0 : σ.1 c 1 = τ.2.1 0 := hR.2.1 0 (by decide)
  have p1 : σ.1 c 2 = τ.2.1 1 := hR.2.1 1 (by decide)
  have p2 : σ.1 c 3 = τ.2.1 2 := hR.2.1 2 (by decide)
  have p3 : σ.1 c 4 = τ.2.1 3 := hR.2.1 3 (by decide)
  have p4 : σ.1 c 5 = τ.2.1 4 := hR.2.1 4 (by decide)
  have p5 : σ.1 c 6 = τ.2.1 5 := hR.2.1 5 (by decide)
  refine A_iload (pc := 6) dX5_openTo_6 rfl ?_
  refine A_aload_n (pc := 8) dX5_openTo_8 rfl rfl ?_
  refine A_getIv (pc := 9) fX5_15 (shp_T hT) rfl p0 dX5_openTo_9 ?_
  refine A_icmp_ge (pc := 12) 80 dX5_openTo_12 (by decide) (by omega) (by omega) (by omega) (by omega) (fun h12 => ?_) (fun h12 => ?_)
  · skip
    refine A_iload (pc := 80) dX5_openTo_80 rfl ?_
    refine A_iret (pc := 82) rfl dX5_openTo_82 ?_
    have hn0 : n = 0 := by omega
    subst hn0
    rw [orR, Nat.or_zero] at hK
    exact hK
  · skip
    refine A_iload (pc := 15) dX5_openTo_15 rfl ?_
    refine A_bipush (pc := 17) dX5_openTo_17 (by decide) ?_
    refine A_icmp_ge (pc := 19) 80 dX5_openTo_19 (by decide) (by omega) (by omega) (by omega) (by omega) (fun h19 => ?_) (fun h19 => ?_)
    · skip
      refine A_iload (pc := 80) dX5_openTo_80 rfl ?_
      refine A_iret (pc := 82) rfl dX5_openTo_82 ?_
      exfalso; omega
    · skip
      have q8 := o8 i (by omega)
      refine A_aload_n (pc := 22) dX5_openTo_22 rfl rfl ?_
      refine A_getR (pc := 23) fX5_41 (shp_T hT) rfl dX5_openTo_23 ?_
      refine A_iload (pc := 26) dX5_openTo_26 rfl ?_
      refine A_ialdv (pc := 28) _ (shp_T_paneAt hT) rfl (by omega) (Nat.le_of_ble_eq_true rfl) (hR.at (by omega)) dX5_openTo_28 ?_
      refine A_iload_n (pc := 29) dX5_openTo_29 rfl rfl ?_
      refine A_icmp_ne (pc := 30) 74 dX5_openTo_30 (by decide) (by omega) (by omega) (by omega) (by omega) (fun h30 => ?_) (fun h30 => ?_)
      · skip
        refine A_iinc (pc := 74) dX5_openTo_74 rfl (Nat.le_of_ble_eq_true rfl) ?_
        refine A_goto (pc := 77) 6 dX5_openTo_77 (by decide) ?_
        obtain ⟨m, rfl⟩ : ∃ m, n = m + 1 := ⟨n - 1, by omega⟩
        refine A_loc (l2 := [(0, _), (1, _), (2, _), (3, _), (4, _), (5, _)]) ⟨rfl, rfl, rfl, rfl, rfl, rfl, trivial⟩ ?_
        refine ih m (by omega) (i + 1) acc (by omega) ?_
        rw [orR, if_neg (by intro q; simp only [Bool.and_eq_true, decide_eq_true_eq] at q; exact h30 q.1.1), Nat.zero_or] at hK
        exact hK
      · skip
        refine A_aload_n (pc := 33) dX5_openTo_33 rfl rfl ?_
        refine A_getR (pc := 34) fX5_44 (shp_T hT) rfl dX5_openTo_34 ?_
        refine A_iload (pc := 37) dX5_openTo_37 rfl ?_
        refine A_ialdv (pc := 39) _ (shp_T_paneOut hT) rfl (by omega) (Nat.le_of_ble_eq_true rfl) (hR.out (by omega)) dX5_openTo_39 ?_
        refine A_iload_n (pc := 40) dX5_openTo_40 rfl rfl ?_
        refine A_icmp_ne (pc := 41) 74 dX5_openTo_41 (by decide) (by omega) (by omega) (by omega) (by omega) (fun h41 => ?_) (fun h41 => ?_)
        · skip
          refine A_iinc (pc := 74) dX5_openTo_74 rfl (Nat.le_of_ble_eq_true rfl) ?_
          refine A_goto (pc := 77) 6 dX5_openTo_77 (by decide) ?_
          obtain ⟨m, rfl⟩ : ∃ m, n = m + 1 := ⟨n - 1, by omega⟩
          refine A_loc (l2 := [(0, _), (1, _), (2, _), (3, _), (4, _), (5, _)]) ⟨rfl, rfl, rfl, rfl, rfl, rfl, trivial⟩ ?_
          refine ih m (by omega) (i + 1) acc (by omega) ?_
          rw [orR, if_neg (by intro q; simp only [Bool.and_eq_true, decide_eq_true_eq] at q; exact h41 q.1.2), Nat.zero_or] at hK
          exact hK
        · skip
          refine A_aload_n (pc := 44) dX5_openTo_44 rfl rfl ?_
          refine A_getR (pc := 45) fX5_34 (shp_T hT) rfl dX5_openTo_45 ?_
          refine A_iload (pc := 48) dX5_openTo_48 rfl ?_
          refine A_ialdv (pc := 50) _ (shp_T_paneKind hT) rfl (by omega) (Nat.le_of_ble_eq_true rfl) (hR.kind (by omega)) dX5_openTo_50 ?_
          refine A_aload_n (pc := 51) dX5_openTo_51 rfl rfl ?_
          refine A_getR (pc := 52) fX5_38 (shp_T hT) rfl dX5_openTo_52 ?_
          refine A_iload (pc := 55) dX5_openTo_55 rfl ?_
          refine A_ialdv (pc := 57) _ (shp_T_paneA hT) rfl (by omega) (Nat.le_of_ble_eq_true rfl) (hR.a (by omega)) dX5_openTo_57 ?_
          refine A_iload_n (pc := 58) dX5_openTo_58 rfl rfl ?_
          refine A_callS1 (pc := 59) kX5_130 (c_X5_letsIn (by omega) (by omega) (by omega) (by omega) hoff1 hoff2) dX5_openTo_59 rfl rfl (Nat.le_of_ble_eq_true rfl) (Nat.le_of_ble_eq_true rfl) ?_
          refine A_ifb_eq (pc := 62) 74 dX5_openTo_62 (by decide) (fun h62 => ?_) (fun h62 => ?_)
          · skip
            refine A_iinc (pc := 74) dX5_openTo_74 rfl (Nat.le_of_ble_eq_true rfl) ?_
            refine A_goto (pc := 77) 6 dX5_openTo_77 (by decide) ?_
            obtain ⟨m, rfl⟩ : ∃ m, n = m + 1 := ⟨n - 1, by omega⟩
            refine A_loc (l2 := [(0, _), (1, _), (2, _), (3, _), (4, _), (5, _)]) ⟨rfl, rfl, rfl, rfl, rfl, rfl, trivial⟩ ?_
            refine ih m (by omega) (i + 1) acc (by omega) ?_
            rw [orR, if_neg (by intro q; simp only [Bool.and_eq_true, decide_eq_true_eq] at q; exact h62 q.2), Nat.zero_or] at hK
            exact hK
          · skip
            refine A_iload (pc := 65) dX5_openTo_65 rfl ?_
            refine A_iconst (pc := 67) dX5_openTo_67 ?_
            refine A_iload (pc := 68) dX5_openTo_68 rfl ?_
            refine A_ishl (pc := 70) ((2 ^ i : Nat) : Int) dX5_openTo_70 (shl_I (by omega)) ?_
            refine A_ior (pc := 71) ((acc ||| 2 ^ i : Nat) : Int) dX5_openTo_71 (or_I acc (2 ^ i)) ?_
            refine A_istore (pc := 72) dX5_openTo_72 (Nat.le_of_ble_eq_true rfl) ?_
            refine A_iinc (pc := 74) dX5_openTo_74 rfl (Nat.le_of_ble_eq_true rfl) ?_
            refine A_goto (pc := 77) 6 dX5_openTo_77 (by decide) ?_
            obtain ⟨m, rfl⟩ : ∃ m, n = m + 1 := ⟨n - 1, by omega⟩
            refine A_loc (l2 := [(0, _), (1, _), (2, _), (3, _), (4, _), (5, _)]) ⟨rfl, rfl, rfl, rfl, rfl, rfl, trivial⟩ ?_
            refine ih m (by omega) (i + 1) (acc ||| 2 ^ i) (by omega) ?_
            rw [orR, if_pos (by simp only [Bool.and_eq_true, decide_eq_true_eq]; exact ⟨⟨h30, h41⟩, h62⟩), ← Nat.or_assoc] at hK
            exact hK
set_option maxRecDepth 20000 in
theorem c_X5_openTo {G : Gl} {d : Nat} {σ : Sg} {c : Nat} (hT : TC c) {τ : Tw} (hR : RX c τ σ) (hO : OkT τ) {s : Int} (hs1 : -2147483648 ≤ s) (hs2 : s < 2147483648) {w : Int} (hw1 : -2147483648 ≤ w) (hw2 : w < 2147483648) {off : Int} (hoff1 : -2147483648 ≤ off) (hoff2 : off < 2147483648) : CT G (d + 1) yX5_openTo cX5_openTo 6 (some .int) [.ref (gA G c), .int (iI s), .int (iI w), .int (iI off)] σ (R1 (.int (iI ((opens τ s w off : Nat) : Int))) σ) := by
  refine CT.of (by decide +kernel) (Nat.le_of_ble_eq_true rfl) ?_
  change AW G _ RX5 _ _ _ 0 [(0, .ref (gA G c)), (1, .int (iI s)), (2, .int (iI w)), (3, .int (iI off))] [] _ _
  have hO2 := hO
  obtain ⟨o1, o2, o3, o4, o5, o6, o7, o8, o9⟩ := hO2
  have p0 : σ.1 c 1 = τ.2.1 0 := hR.2.1 0 (by decide)
  have p1 : σ.1 c 2 = τ.2.1 1 := hR.2.1 1 (by decide)
  have p2 : σ.1 c 3 = τ.2.1 2 := hR.2.1 2 (by decide)
  have p3 : σ.1 c 4 = τ.2.1 3 := hR.2.1 3 (by decide)
  have p4 : σ.1 c 5 = τ.2.1 4 := hR.2.1 4 (by decide)
  have p5 : σ.1 c 6 = τ.2.1 5 := hR.2.1 5 (by decide)
  refine A_iconst (pc := 0) dX5_openTo_0 ?_
  refine A_istore (pc := 1) dX5_openTo_1 (Nat.le_of_ble_eq_true rfl) ?_
  refine A_iconst (pc := 3) dX5_openTo_3 ?_
  refine A_istore (pc := 4) dX5_openTo_4 (Nat.le_of_ble_eq_true rfl) ?_
  refine A_loc (l2 := [(0, _), (1, _), (2, _), (3, _), (4, _), (5, _)]) ⟨rfl, rfl, rfl, rfl, rfl, rfl, trivial⟩ ?_
  exact l_X5_openTo hT hR hO hs1 hs2 hw1 hw2 hoff1 hoff2 (τ.2.1 0).toNat 0 0 (by omega) ⟨by rw [Nat.zero_or]; rfl, rfl⟩
theorem dX5_walkersIn_0 : decode cX5_walkersIn 0 = .ok (.iconst 0, 1) := by decide +kernel
theorem dX5_walkersIn_1 : decode cX5_walkersIn 1 = .ok (.istore_n 3, 1) := by decide +kernel
theorem dX5_walkersIn_2 : decode cX5_walkersIn 2 = .ok (.iconst 0, 1) := by decide +kernel
theorem dX5_walkersIn_3 : decode cX5_walkersIn 3 = .ok (.istore 4, 2) := by decide +kernel
theorem dX5_walkersIn_5 : decode cX5_walkersIn 5 = .ok (.iload 4, 2) := by decide +kernel
theorem dX5_walkersIn_7 : decode cX5_walkersIn 7 = .ok (.aload_n 0, 1) := by decide +kernel
theorem dX5_walkersIn_8 : decode cX5_walkersIn 8 = .ok (.getfield 19, 3) := by decide +kernel
theorem dX5_walkersIn_11 : decode cX5_walkersIn 11 = .ok (.if_icmp .ge 36, 3) := by decide +kernel
theorem dX5_walkersIn_14 : decode cX5_walkersIn 14 = .ok (.iload 4, 2) := by decide +kernel
theorem dX5_walkersIn_16 : decode cX5_walkersIn 16 = .ok (.iconst 5, 1) := by decide +kernel
theorem dX5_walkersIn_17 : decode cX5_walkersIn 17 = .ok (.if_icmp .ge 30, 3) := by decide +kernel
theorem dX5_walkersIn_20 : decode cX5_walkersIn 20 = .ok (.lload_n 1, 1) := by decide +kernel
theorem dX5_walkersIn_21 : decode cX5_walkersIn 21 = .ok (.aload_n 0, 1) := by decide +kernel
theorem dX5_walkersIn_22 : decode cX5_walkersIn 22 = .ok (.getfield 47, 3) := by decide +kernel
theorem dX5_walkersIn_25 : decode cX5_walkersIn 25 = .ok (.iload 4, 2) := by decide +kernel
theorem dX5_walkersIn_27 : decode cX5_walkersIn 27 = .ok (.iaload, 1) := by decide +kernel
theorem dX5_walkersIn_28 : decode cX5_walkersIn 28 = .ok (.invokestatic 56, 3) := by decide +kernel
theorem dX5_walkersIn_31 : decode cX5_walkersIn 31 = .ok (.ifCond .eq 10, 3) := by decide +kernel
theorem dX5_walkersIn_34 : decode cX5_walkersIn 34 = .ok (.iload_n 3, 1) := by decide +kernel
theorem dX5_walkersIn_35 : decode cX5_walkersIn 35 = .ok (.iconst 1, 1) := by decide +kernel
theorem dX5_walkersIn_36 : decode cX5_walkersIn 36 = .ok (.iload 4, 2) := by decide +kernel
theorem dX5_walkersIn_38 : decode cX5_walkersIn 38 = .ok (.ishl, 1) := by decide +kernel
theorem dX5_walkersIn_39 : decode cX5_walkersIn 39 = .ok (.ior, 1) := by decide +kernel
theorem dX5_walkersIn_40 : decode cX5_walkersIn 40 = .ok (.istore_n 3, 1) := by decide +kernel
theorem dX5_walkersIn_41 : decode cX5_walkersIn 41 = .ok (.iinc 4 1, 3) := by decide +kernel
theorem dX5_walkersIn_44 : decode cX5_walkersIn 44 = .ok (.goto (-39), 3) := by decide +kernel
theorem dX5_walkersIn_47 : decode cX5_walkersIn 47 = .ok (.iload_n 3, 1) := by decide +kernel
theorem dX5_walkersIn_48 : decode cX5_walkersIn 48 = .ok (.ireturn, 1) := by decide +kernel
set_option maxRecDepth 20000 in
theorem l_X5_walkersIn {G : Gl} {d : Nat} {σ : Sg} {K : Option Value → Sg → Prop} {c : Nat} (hT : TC c) {τ : Tw} (hR : RX c τ σ) (hO : OkT τ) {b : Nat} (hb : b < 2 ^ 49) : ∀ (n i acc : Nat), (i : Int) + n = τ.2.1 1 → K (some (.int (iI ((acc ||| orR (fun w => decide (sT b (τ.2.2 4 w))) n i : Nat) : Int)))) σ → AW G (d + 1) RX5 cX5_walkersIn 5 (some .int) 5 [(0, .ref (gA G c)), (1, .long (lN b)), (3, .int (iI (acc : Int))), (4, .int (iI (i : Int)))] [] σ K := by
  intro n
  induction n using Nat.strongRecOn
  rename_i n ih
  intro i acc hn hK
  have hO2 := hO
  obtain ⟨o1, o2, o3, o4, o5, o6, o7, o8, o9⟩ := hO2
  have p0 : σ.1 c 1 = τ.2.1 0 := hR.2.1 0 (by decide)
  have p1 : σ.1 c 2 = τ.2.1 1 := hR.2.1 1 (by decide)
  have p2 : σ.1 c 3 = τ.2.1 2 := hR.2.1 2 (by decide)
  have p3 : σ.1 c 4 = τ.2.1 3 := hR.2.1 3 (by decide)
  have p4 : σ.1 c 5 = τ.2.1 4 := hR.2.1 4 (by decide)
  have p5 : σ.1 c 6 = τ.2.1 5 := hR.2.1 5 (by decide)
  refine A_iload (pc := 5) dX5_walkersIn_5 rfl ?_
  refine A_aload_n (pc := 7) dX5_walkersIn_7 rfl rfl ?_
  refine A_getIv (pc := 8) fX5_19 (shp_T hT) rfl p1 dX5_walkersIn_8 ?_
  refine A_icmp_ge (pc := 11) 47 dX5_walkersIn_11 (by decide) (by omega) (by omega) (by omega) (by omega) (fun h11 => ?_) (fun h11 => ?_)
  · skip
    refine A_iload_n (pc := 47) dX5_walkersIn_47 rfl rfl ?_
    refine A_iret (pc := 48) rfl dX5_walkersIn_48 ?_
    have hn0 : n = 0 := by omega
    subst hn0
    rw [orR, Nat.or_zero] at hK
    exact hK
  · skip
    refine A_iload (pc := 14) dX5_walkersIn_14 rfl ?_
    refine A_iconst (pc := 16) dX5_walkersIn_16 ?_
    refine A_icmp_ge (pc := 17) 47 dX5_walkersIn_17 (by decide) (by omega) (by omega) (by omega) (by omega) (fun h17 => ?_) (fun h17 => ?_)
    · skip
      refine A_iload_n (pc := 47) dX5_walkersIn_47 rfl rfl ?_
      refine A_iret (pc := 48) rfl dX5_walkersIn_48 ?_
      exfalso; omega
    · skip
      have q9 := o9 i (by omega)
      refine A_lload_n (pc := 20) dX5_walkersIn_20 rfl rfl ?_
      refine A_aload_n (pc := 21) dX5_walkersIn_21 rfl rfl ?_
      refine A_getR (pc := 22) fX5_47 (shp_T hT) rfl dX5_walkersIn_22 ?_
      refine A_iload (pc := 25) dX5_walkersIn_25 rfl ?_
      refine A_ialdv (pc := 27) _ (shp_T_walkerAt hT) rfl (by omega) (Nat.le_of_ble_eq_true rfl) (hR.wat (by omega)) dX5_walkersIn_27 ?_
      refine A_callS1 (pc := 28) kX5_56 (c_X0_has hb (by omega) (by omega)) dX5_walkersIn_28 rfl rfl (Nat.le_of_ble_eq_true rfl) (Nat.le_of_ble_eq_true rfl) ?_
      refine A_ifb_eq (pc := 31) 41 dX5_walkersIn_31 (by decide) (fun h31 => ?_) (fun h31 => ?_)
      · skip
        refine A_iinc (pc := 41) dX5_walkersIn_41 rfl (Nat.le_of_ble_eq_true rfl) ?_
        refine A_goto (pc := 44) 5 dX5_walkersIn_44 (by decide) ?_
        obtain ⟨m, rfl⟩ : ∃ m, n = m + 1 := ⟨n - 1, by omega⟩
        refine A_loc (l2 := [(0, _), (1, _), (3, _), (4, _)]) ⟨rfl, rfl, rfl, rfl, trivial⟩ ?_
        refine ih m (by omega) (i + 1) acc (by omega) ?_
        rw [orR, if_neg (by intro q; simp only [decide_eq_true_eq] at q; exact h31 q), Nat.zero_or] at hK
        exact hK
      · skip
        refine A_iload_n (pc := 34) dX5_walkersIn_34 rfl rfl ?_
        refine A_iconst (pc := 35) dX5_walkersIn_35 ?_
        refine A_iload (pc := 36) dX5_walkersIn_36 rfl ?_
        refine A_ishl (pc := 38) ((2 ^ i : Nat) : Int) dX5_walkersIn_38 (shl_I (by omega)) ?_
        refine A_ior (pc := 39) ((acc ||| 2 ^ i : Nat) : Int) dX5_walkersIn_39 (or_I acc (2 ^ i)) ?_
        refine A_istore_n (pc := 40) dX5_walkersIn_40 rfl (Nat.le_of_ble_eq_true rfl) ?_
        refine A_iinc (pc := 41) dX5_walkersIn_41 rfl (Nat.le_of_ble_eq_true rfl) ?_
        refine A_goto (pc := 44) 5 dX5_walkersIn_44 (by decide) ?_
        obtain ⟨m, rfl⟩ : ∃ m, n = m + 1 := ⟨n - 1, by omega⟩
        refine A_loc (l2 := [(0, _), (1, _), (3, _), (4, _)]) ⟨rfl, rfl, rfl, rfl, trivial⟩ ?_
        refine ih m (by omega) (i + 1) (acc ||| 2 ^ i) (by omega) ?_
        rw [orR, if_pos (by simp only [decide_eq_true_eq]; exact h31), ← Nat.or_assoc] at hK
        exact hK
set_option maxRecDepth 20000 in
theorem c_X5_walkersIn {G : Gl} {d : Nat} {σ : Sg} {c : Nat} (hT : TC c) {τ : Tw} (hR : RX c τ σ) (hO : OkT τ) {b : Nat} (hb : b < 2 ^ 49) : CT G (d + 1) yX5_walkersIn cX5_walkersIn 5 (some .int) [.ref (gA G c), .long (lN b)] σ (R1 (.int (iI ((wIn τ b : Nat) : Int))) σ) := by
  refine CT.of (by decide +kernel) (Nat.le_of_ble_eq_true rfl) ?_
  change AW G _ RX5 _ _ _ 0 [(0, .ref (gA G c)), (1, .long (lN b))] [] _ _
  have hO2 := hO
  obtain ⟨o1, o2, o3, o4, o5, o6, o7, o8, o9⟩ := hO2
  have p0 : σ.1 c 1 = τ.2.1 0 := hR.2.1 0 (by decide)
  have p1 : σ.1 c 2 = τ.2.1 1 := hR.2.1 1 (by decide)
  have p2 : σ.1 c 3 = τ.2.1 2 := hR.2.1 2 (by decide)
  have p3 : σ.1 c 4 = τ.2.1 3 := hR.2.1 3 (by decide)
  have p4 : σ.1 c 5 = τ.2.1 4 := hR.2.1 4 (by decide)
  have p5 : σ.1 c 6 = τ.2.1 5 := hR.2.1 5 (by decide)
  refine A_iconst (pc := 0) dX5_walkersIn_0 ?_
  refine A_istore_n (pc := 1) dX5_walkersIn_1 rfl (Nat.le_of_ble_eq_true rfl) ?_
  refine A_iconst (pc := 2) dX5_walkersIn_2 ?_
  refine A_istore (pc := 3) dX5_walkersIn_3 (Nat.le_of_ble_eq_true rfl) ?_
  refine A_loc (l2 := [(0, _), (1, _), (3, _), (4, _)]) ⟨rfl, rfl, rfl, rfl, trivial⟩ ?_
  exact l_X5_walkersIn hT hR hO hb (τ.2.1 1).toNat 0 0 (by omega) ⟨by rw [Nat.zero_or]; rfl, rfl⟩
theorem dX5_lookedInFrom_0 : decode cX5_lookedInFrom 0 = .ok (.iload_n 1, 1) := by decide +kernel
theorem dX5_lookedInFrom_1 : decode cX5_lookedInFrom 1 = .ok (.istore_n 3, 1) := by decide +kernel
theorem dX5_lookedInFrom_2 : decode cX5_lookedInFrom 2 = .ok (.iconst 1, 1) := by decide +kernel
theorem dX5_lookedInFrom_3 : decode cX5_lookedInFrom 3 = .ok (.istore 4, 2) := by decide +kernel
theorem dX5_lookedInFrom_5 : decode cX5_lookedInFrom 5 = .ok (.iload 4, 2) := by decide +kernel
theorem dX5_lookedInFrom_7 : decode cX5_lookedInFrom 7 = .ok (.aload_n 0, 1) := by decide +kernel
theorem dX5_lookedInFrom_8 : decode cX5_lookedInFrom 8 = .ok (.getfield 22, 3) := by decide +kernel
theorem dX5_lookedInFrom_11 : decode cX5_lookedInFrom 11 = .ok (.if_icmp .gt 35, 3) := by decide +kernel
theorem dX5_lookedInFrom_14 : decode cX5_lookedInFrom 14 = .ok (.iload_n 3, 1) := by decide +kernel
theorem dX5_lookedInFrom_15 : decode cX5_lookedInFrom 15 = .ok (.iload_n 2, 1) := by decide +kernel
theorem dX5_lookedInFrom_16 : decode cX5_lookedInFrom 16 = .ok (.invokestatic 120, 3) := by decide +kernel
theorem dX5_lookedInFrom_19 : decode cX5_lookedInFrom 19 = .ok (.istore_n 3, 1) := by decide +kernel
theorem dX5_lookedInFrom_20 : decode cX5_lookedInFrom 20 = .ok (.aload_n 0, 1) := by decide +kernel
theorem dX5_lookedInFrom_21 : decode cX5_lookedInFrom 21 = .ok (.iload_n 3, 1) := by decide +kernel
theorem dX5_lookedInFrom_22 : decode cX5_lookedInFrom 22 = .ok (.invokevirtual 66, 3) := by decide +kernel
theorem dX5_lookedInFrom_25 : decode cX5_lookedInFrom 25 = .ok (.ifCond .eq 15, 3) := by decide +kernel
theorem dX5_lookedInFrom_28 : decode cX5_lookedInFrom 28 = .ok (.aload_n 0, 1) := by decide +kernel
theorem dX5_lookedInFrom_29 : decode cX5_lookedInFrom 29 = .ok (.iload_n 3, 1) := by decide +kernel
theorem dX5_lookedInFrom_30 : decode cX5_lookedInFrom 30 = .ok (.iload_n 2, 1) := by decide +kernel
theorem dX5_lookedInFrom_31 : decode cX5_lookedInFrom 31 = .ok (.invokestatic 123, 3) := by decide +kernel
theorem dX5_lookedInFrom_34 : decode cX5_lookedInFrom 34 = .ok (.iload 4, 2) := by decide +kernel
theorem dX5_lookedInFrom_36 : decode cX5_lookedInFrom 36 = .ok (.invokevirtual 126, 3) := by decide +kernel
theorem dX5_lookedInFrom_39 : decode cX5_lookedInFrom 39 = .ok (.ireturn, 1) := by decide +kernel
theorem dX5_lookedInFrom_40 : decode cX5_lookedInFrom 40 = .ok (.iinc 4 1, 3) := by decide +kernel
theorem dX5_lookedInFrom_43 : decode cX5_lookedInFrom 43 = .ok (.goto (-38), 3) := by decide +kernel
theorem dX5_lookedInFrom_46 : decode cX5_lookedInFrom 46 = .ok (.iconst 0, 1) := by decide +kernel
theorem dX5_lookedInFrom_47 : decode cX5_lookedInFrom 47 = .ok (.ireturn, 1) := by decide +kernel
set_option maxRecDepth 20000 in
theorem l_X5_lookedInFrom {G : Gl} {d : Nat} {σ : Sg} {K : Option Value → Sg → Prop} {c : Nat} (hT : TC c) {τ : Tw} (hR : RX c τ σ) (hO : OkT τ) {w : Int} (w1 : 0 ≤ w) (w2 : w < 4) : ∀ (n : Nat) (a off : Int), 1 ≤ off → off + n = τ.2.1 2 + 1 → -2147483648 ≤ a → a < 2147483648 → K (some (.int (iI ((lookG τ w n a off : Nat) : Int)))) σ → AW G (d + 2) RX5 cX5_lookedInFrom 5 (some .int) 5 [(0, .ref (gA G c)), (2, .int (iI w)), (3, .int (iI a)), (4, .int (iI off))] [] σ K := by
  intro n
  induction n using Nat.strongRecOn
  rename_i n ih
  intro a off f1 hn a1 a2 hK
  have hO2 := hO
  obtain ⟨o1, o2, o3, o4, o5, o6, o7, o8, o9⟩ := hO2
  have p0 : σ.1 c 1 = τ.2.1 0 := hR.2.1 0 (by decide)
  have p1 : σ.1 c 2 = τ.2.1 1 := hR.2.1 1 (by decide)
  have p2 : σ.1 c 3 = τ.2.1 2 := hR.2.1 2 (by decide)
  have p3 : σ.1 c 4 = τ.2.1 3 := hR.2.1 3 (by decide)
  have p4 : σ.1 c 5 = τ.2.1 4 := hR.2.1 4 (by decide)
  have p5 : σ.1 c 6 = τ.2.1 5 := hR.2.1 5 (by decide)
  refine A_iload (pc := 5) dX5_lookedInFrom_5 rfl ?_
  refine A_aload_n (pc := 7) dX5_lookedInFrom_7 rfl rfl ?_
  refine A_getIv (pc := 8) fX5_22 (shp_T hT) rfl p2 dX5_lookedInFrom_8 ?_
  refine A_icmp_gt (pc := 11) 46 dX5_lookedInFrom_11 (by decide) (by omega) (by omega) (by omega) (by omega) (fun h11 => ?_) (fun h11 => ?_)
  · skip
    refine A_iconst (pc := 46) dX5_lookedInFrom_46 ?_
    refine A_iret (pc := 47) rfl dX5_lookedInFrom_47 ?_
    have hn0 : n = 0 := by omega
    subst hn0
    rw [lookG] at hK
    exact hK
  · skip
    have hb := bes_rng a w
    obtain ⟨m, rfl⟩ : ∃ m, n = m + 1 := ⟨n - 1, by omega⟩
    refine A_iload_n (pc := 14) dX5_lookedInFrom_14 rfl rfl ?_
    refine A_iload_n (pc := 15) dX5_lookedInFrom_15 rfl rfl ?_
    refine A_callS1 (pc := 16) kX5_120 (c_X0_beside a1 a2 (by omega) (by omega)) dX5_lookedInFrom_16 rfl rfl (Nat.le_of_ble_eq_true rfl) (Nat.le_of_ble_eq_true rfl) ?_
    refine A_istore_n (pc := 19) dX5_lookedInFrom_19 rfl (Nat.le_of_ble_eq_true rfl) ?_
    refine A_aload_n (pc := 20) dX5_lookedInFrom_20 rfl rfl ?_
    refine A_iload_n (pc := 21) dX5_lookedInFrom_21 rfl rfl ?_
    refine A_callV1 (pc := 22) kX5_66 (shp_T hT) rfl (c_X5_isHouse hT hR hO (by omega) (by omega)) dX5_lookedInFrom_22 rfl rfl (Nat.le_of_ble_eq_true rfl) (Nat.le_of_ble_eq_true rfl) ?_
    refine A_ifb_eq (pc := 25) 40 dX5_lookedInFrom_25 (by decide) (fun h25 => ?_) (fun h25 => ?_)
    · skip
      refine A_iinc (pc := 40) dX5_lookedInFrom_40 rfl (Nat.le_of_ble_eq_true rfl) ?_
      refine A_goto (pc := 43) 5 dX5_lookedInFrom_43 (by decide) ?_
      refine A_loc (l2 := [(0, _), (2, _), (3, _), (4, _)]) ⟨rfl, rfl, rfl, rfl, trivial⟩ ?_
      refine ih m (by omega) (bes a w) (off + 1) (by omega) (by omega) (by omega) (by omega) ?_
      rw [lookG, if_neg h25] at hK
      exact hK
    · skip
      refine A_aload_n (pc := 28) dX5_lookedInFrom_28 rfl rfl ?_
      refine A_iload_n (pc := 29) dX5_lookedInFrom_29 rfl rfl ?_
      refine A_iload_n (pc := 30) dX5_lookedInFrom_30 rfl rfl ?_
      refine A_callS1 (pc := 31) kX5_123 (c_X0_opposite) dX5_lookedInFrom_31 rfl rfl (Nat.le_of_ble_eq_true rfl) (Nat.le_of_ble_eq_true rfl) ?_
      refine A_iload (pc := 34) dX5_lookedInFrom_34 rfl ?_
      refine A_callV1 (pc := 36) kX5_126 (shp_T hT) rfl (c_X5_openTo hT hR hO (by omega) (by omega) (by omega) (by omega) (by omega) (by omega)) dX5_lookedInFrom_36 rfl rfl (Nat.le_of_ble_eq_true rfl) (Nat.le_of_ble_eq_true rfl) ?_
      refine A_iret (pc := 39) rfl dX5_lookedInFrom_39 ?_
      rw [lookG, if_pos h25] at hK
      exact hK
set_option maxRecDepth 20000 in
theorem c_X5_lookedInFrom {G : Gl} {d : Nat} {σ : Sg} {c : Nat} (hT : TC c) {τ : Tw} (hR : RX c τ σ) (hO : OkT τ) {s w : Int} (hs1 : -2147483648 ≤ s) (hs2 : s < 2147483648) (w1 : 0 ≤ w) (w2 : w < 4) : CT G (d + 2) yX5_lookedInFrom cX5_lookedInFrom 5 (some .int) [.ref (gA G c), .int (iI s), .int (iI w)] σ (R1 (.int (iI ((look τ s w : Nat) : Int))) σ) := by
  refine CT.of (by decide +kernel) (Nat.le_of_ble_eq_true rfl) ?_
  change AW G _ RX5 _ _ _ 0 [(0, .ref (gA G c)), (1, .int (iI s)), (2, .int (iI w))] [] _ _
  have hO2 := hO
  obtain ⟨o1, o2, o3, o4, o5, o6, o7, o8, o9⟩ := hO2
  have p0 : σ.1 c 1 = τ.2.1 0 := hR.2.1 0 (by decide)
  have p1 : σ.1 c 2 = τ.2.1 1 := hR.2.1 1 (by decide)
  have p2 : σ.1 c 3 = τ.2.1 2 := hR.2.1 2 (by decide)
  have p3 : σ.1 c 4 = τ.2.1 3 := hR.2.1 3 (by decide)
  have p4 : σ.1 c 5 = τ.2.1 4 := hR.2.1 4 (by decide)
  have p5 : σ.1 c 6 = τ.2.1 5 := hR.2.1 5 (by decide)
  refine A_iload_n (pc := 0) dX5_lookedInFrom_0 rfl rfl ?_
  refine A_istore_n (pc := 1) dX5_lookedInFrom_1 rfl (Nat.le_of_ble_eq_true rfl) ?_
  refine A_iconst (pc := 2) dX5_lookedInFrom_2 ?_
  refine A_istore (pc := 3) dX5_lookedInFrom_3 (Nat.le_of_ble_eq_true rfl) ?_
  refine A_loc (l2 := [(0, _), (2, _), (3, _), (4, _)]) ⟨rfl, rfl, rfl, rfl, trivial⟩ ?_
  exact l_X5_lookedInFrom hT hR hO w1 w2 (τ.2.1 2).toNat s 1 (by omega) (by omega) hs1 hs2 ⟨rfl, rfl⟩
def sham (τ : Tw) (s w : Int) : Int := bc32 (look τ s w : Nat)
theorem sham_rng (τ : Tw) (s w : Int) : 0 ≤ sham τ s w ∧ sham τ s w < 64 := bc32_rng _
theorem dX5_shameFrom_0 : decode cX5_shameFrom 0 = .ok (.aload_n 0, 1) := by decide +kernel
theorem dX5_shameFrom_1 : decode cX5_shameFrom 1 = .ok (.iload_n 1, 1) := by decide +kernel
theorem dX5_shameFrom_2 : decode cX5_shameFrom 2 = .ok (.iload_n 2, 1) := by decide +kernel
theorem dX5_shameFrom_3 : decode cX5_shameFrom 3 = .ok (.invokevirtual 111, 3) := by decide +kernel
theorem dX5_shameFrom_6 : decode cX5_shameFrom 6 = .ok (.invokestatic 115, 3) := by decide +kernel
theorem dX5_shameFrom_9 : decode cX5_shameFrom 9 = .ok (.ireturn, 1) := by decide +kernel
set_option maxRecDepth 20000 in
theorem c_X5_shameFrom {G : Gl} {d : Nat} {σ : Sg} {c : Nat} (hT : TC c) {τ : Tw} (hR : RX c τ σ) (hO : OkT τ) {s w : Int} (hs1 : -2147483648 ≤ s) (hs2 : s < 2147483648) (w1 : 0 ≤ w) (w2 : w < 4) : CT G (d + 3) yX5_shameFrom cX5_shameFrom 3 (some .int) [.ref (gA G c), .int (iI s), .int (iI w)] σ (R1 (.int (iI (sham τ s w))) σ) := by
  refine CT.of (by decide +kernel) (Nat.le_of_ble_eq_true rfl) ?_
  change AW G _ RX5 _ _ _ 0 [(0, .ref (gA G c)), (1, .int (iI s)), (2, .int (iI w))] [] _ _
  have hO2 := hO
  obtain ⟨o1, o2, o3, o4, o5, o6, o7, o8, o9⟩ := hO2
  have p0 : σ.1 c 1 = τ.2.1 0 := hR.2.1 0 (by decide)
  have p1 : σ.1 c 2 = τ.2.1 1 := hR.2.1 1 (by decide)
  have p2 : σ.1 c 3 = τ.2.1 2 := hR.2.1 2 (by decide)
  have p3 : σ.1 c 4 = τ.2.1 3 := hR.2.1 3 (by decide)
  have p4 : σ.1 c 5 = τ.2.1 4 := hR.2.1 4 (by decide)
  have p5 : σ.1 c 6 = τ.2.1 5 := hR.2.1 5 (by decide)
  refine A_aload_n (pc := 0) dX5_shameFrom_0 rfl rfl ?_
  refine A_iload_n (pc := 1) dX5_shameFrom_1 rfl rfl ?_
  refine A_iload_n (pc := 2) dX5_shameFrom_2 rfl rfl ?_
  refine A_callV1 (pc := 3) kX5_111 (shp_T hT) rfl (c_X5_lookedInFrom hT hR hO hs1 hs2 w1 w2) dX5_shameFrom_3 rfl rfl (Nat.le_of_ble_eq_true rfl) (Nat.le_of_ble_eq_true rfl) ?_
  refine A_callS1 (pc := 6) kX5_115 (c_J6_bitCount_0f7a4) dX5_shameFrom_6 rfl rfl (Nat.le_of_ble_eq_true rfl) (Nat.le_of_ble_eq_true rfl) ?_
  refine A_iret (pc := 9) rfl dX5_shameFrom_9 ?_
  exact ⟨rfl, rfl⟩
theorem dX5_lookedInBy_0 : decode cX5_lookedInBy 0 = .ok (.aload_n 0, 1) := by decide +kernel
theorem dX5_lookedInBy_1 : decode cX5_lookedInBy 1 = .ok (.aload_n 0, 1) := by decide +kernel
theorem dX5_lookedInBy_2 : decode cX5_lookedInBy 2 = .ok (.iload_n 1, 1) := by decide +kernel
theorem dX5_lookedInBy_3 : decode cX5_lookedInBy 3 = .ok (.invokevirtual 105, 3) := by decide +kernel
theorem dX5_lookedInBy_6 : decode cX5_lookedInBy 6 = .ok (.aload_n 0, 1) := by decide +kernel
theorem dX5_lookedInBy_7 : decode cX5_lookedInBy 7 = .ok (.iload_n 1, 1) := by decide +kernel
theorem dX5_lookedInBy_8 : decode cX5_lookedInBy 8 = .ok (.invokevirtual 108, 3) := by decide +kernel
theorem dX5_lookedInBy_11 : decode cX5_lookedInBy 11 = .ok (.invokevirtual 111, 3) := by decide +kernel
theorem dX5_lookedInBy_14 : decode cX5_lookedInBy 14 = .ok (.ireturn, 1) := by decide +kernel
set_option maxRecDepth 20000 in
theorem c_X5_lookedInBy {G : Gl} {d : Nat} {σ : Sg} {c : Nat} (hT : TC c) {τ : Tw} (hR : RX c τ σ) (hO : OkT τ) {p : Nat} (hp : (p : Int) < τ.2.1 1) : CT G (d + 3) yX5_lookedInBy cX5_lookedInBy 2 (some .int) [.ref (gA G c), .int (iI (p : Int))] σ (R1 (.int (iI ((look τ (τ.2.2 4 p) (τ.2.2 5 p) : Nat) : Int))) σ) := by
  refine CT.of (by decide +kernel) (Nat.le_of_ble_eq_true rfl) ?_
  change AW G _ RX5 _ _ _ 0 [(0, .ref (gA G c)), (1, .int (iI (p : Int)))] [] _ _
  have hO2 := hO
  obtain ⟨o1, o2, o3, o4, o5, o6, o7, o8, o9⟩ := hO2
  have p0 : σ.1 c 1 = τ.2.1 0 := hR.2.1 0 (by decide)
  have p1 : σ.1 c 2 = τ.2.1 1 := hR.2.1 1 (by decide)
  have p2 : σ.1 c 3 = τ.2.1 2 := hR.2.1 2 (by decide)
  have p3 : σ.1 c 4 = τ.2.1 3 := hR.2.1 3 (by decide)
  have p4 : σ.1 c 5 = τ.2.1 4 := hR.2.1 4 (by decide)
  have p5 : σ.1 c 6 = τ.2.1 5 := hR.2.1 5 (by decide)
  have q9 := o9 p hp
  refine A_aload_n (pc := 0) dX5_lookedInBy_0 rfl rfl ?_
  refine A_aload_n (pc := 1) dX5_lookedInBy_1 rfl rfl ?_
  refine A_iload_n (pc := 2) dX5_lookedInBy_2 rfl rfl ?_
  refine A_callV1 (pc := 3) kX5_105 (shp_T hT) rfl (c_X5_whereIs hT hR hO (by omega)) dX5_lookedInBy_3 rfl rfl (Nat.le_of_ble_eq_true rfl) (Nat.le_of_ble_eq_true rfl) ?_
  rw [if_pos hp]
  refine A_aload_n (pc := 6) dX5_lookedInBy_6 rfl rfl ?_
  refine A_iload_n (pc := 7) dX5_lookedInBy_7 rfl rfl ?_
  refine A_callV1 (pc := 8) kX5_108 (shp_T hT) rfl (c_X5_facedBy hT hR hO (by omega)) dX5_lookedInBy_8 rfl rfl (Nat.le_of_ble_eq_true rfl) (Nat.le_of_ble_eq_true rfl) ?_
  rw [if_pos hp]
  refine A_callV1 (pc := 11) kX5_111 (shp_T hT) rfl (c_X5_lookedInFrom hT hR hO (by omega) (by omega) (by omega) (by omega)) dX5_lookedInBy_11 rfl rfl (Nat.le_of_ble_eq_true rfl) (Nat.le_of_ble_eq_true rfl) ?_
  refine A_iret (pc := 14) rfl dX5_lookedInBy_14 ?_
  exact ⟨rfl, rfl⟩
theorem dX5_sightAmong_0 : decode cX5_sightAmong 0 = .ok (.aload_n 0, 1) := by decide +kernel
theorem dX5_sightAmong_1 : decode cX5_sightAmong 1 = .ok (.iload_n 3, 1) := by decide +kernel
theorem dX5_sightAmong_2 : decode cX5_sightAmong 2 = .ok (.invokevirtual 85, 3) := by decide +kernel
theorem dX5_sightAmong_5 : decode cX5_sightAmong 5 = .ok (.istore 4, 2) := by decide +kernel
theorem dX5_sightAmong_7 : decode cX5_sightAmong 7 = .ok (.aload_n 0, 1) := by decide +kernel
theorem dX5_sightAmong_8 : decode cX5_sightAmong 8 = .ok (.iload_n 3, 1) := by decide +kernel
theorem dX5_sightAmong_9 : decode cX5_sightAmong 9 = .ok (.invokevirtual 89, 3) := by decide +kernel
theorem dX5_sightAmong_12 : decode cX5_sightAmong 12 = .ok (.istore 5, 2) := by decide +kernel
theorem dX5_sightAmong_14 : decode cX5_sightAmong 14 = .ok (.aload_n 0, 1) := by decide +kernel
theorem dX5_sightAmong_15 : decode cX5_sightAmong 15 = .ok (.iload_n 3, 1) := by decide +kernel
theorem dX5_sightAmong_16 : decode cX5_sightAmong 16 = .ok (.invokevirtual 92, 3) := by decide +kernel
theorem dX5_sightAmong_19 : decode cX5_sightAmong 19 = .ok (.tableswitch 82 0 5 #[37, 37, 82, 37, 50, 63], 37) := by decide +kernel
theorem dX5_sightAmong_56 : decode cX5_sightAmong 56 = .ok (.lload_n 1, 1) := by decide +kernel
theorem dX5_sightAmong_57 : decode cX5_sightAmong 57 = .ok (.iload 4, 2) := by decide +kernel
theorem dX5_sightAmong_59 : decode cX5_sightAmong 59 = .ok (.iload 5, 2) := by decide +kernel
theorem dX5_sightAmong_61 : decode cX5_sightAmong 61 = .ok (.aload_n 0, 1) := by decide +kernel
theorem dX5_sightAmong_62 : decode cX5_sightAmong 62 = .ok (.getfield 22, 3) := by decide +kernel
theorem dX5_sightAmong_65 : decode cX5_sightAmong 65 = .ok (.invokestatic 95, 3) := by decide +kernel
theorem dX5_sightAmong_68 : decode cX5_sightAmong 68 = .ok (.lreturn, 1) := by decide +kernel
theorem dX5_sightAmong_69 : decode cX5_sightAmong 69 = .ok (.lload_n 1, 1) := by decide +kernel
theorem dX5_sightAmong_70 : decode cX5_sightAmong 70 = .ok (.iload 4, 2) := by decide +kernel
theorem dX5_sightAmong_72 : decode cX5_sightAmong 72 = .ok (.iload 5, 2) := by decide +kernel
theorem dX5_sightAmong_74 : decode cX5_sightAmong 74 = .ok (.aload_n 0, 1) := by decide +kernel
theorem dX5_sightAmong_75 : decode cX5_sightAmong 75 = .ok (.getfield 22, 3) := by decide +kernel
theorem dX5_sightAmong_78 : decode cX5_sightAmong 78 = .ok (.invokestatic 99, 3) := by decide +kernel
theorem dX5_sightAmong_81 : decode cX5_sightAmong 81 = .ok (.lreturn, 1) := by decide +kernel
theorem dX5_sightAmong_82 : decode cX5_sightAmong 82 = .ok (.lload_n 1, 1) := by decide +kernel
theorem dX5_sightAmong_83 : decode cX5_sightAmong 83 = .ok (.iload 4, 2) := by decide +kernel
theorem dX5_sightAmong_85 : decode cX5_sightAmong 85 = .ok (.iload 5, 2) := by decide +kernel
theorem dX5_sightAmong_87 : decode cX5_sightAmong 87 = .ok (.aload_n 0, 1) := by decide +kernel
theorem dX5_sightAmong_88 : decode cX5_sightAmong 88 = .ok (.getfield 22, 3) := by decide +kernel
theorem dX5_sightAmong_91 : decode cX5_sightAmong 91 = .ok (.aload_n 0, 1) := by decide +kernel
theorem dX5_sightAmong_92 : decode cX5_sightAmong 92 = .ok (.iload_n 3, 1) := by decide +kernel
theorem dX5_sightAmong_93 : decode cX5_sightAmong 93 = .ok (.invokevirtual 102, 3) := by decide +kernel
theorem dX5_sightAmong_96 : decode cX5_sightAmong 96 = .ok (.iadd, 1) := by decide +kernel
theorem dX5_sightAmong_97 : decode cX5_sightAmong 97 = .ok (.invokestatic 99, 3) := by decide +kernel
theorem dX5_sightAmong_100 : decode cX5_sightAmong 100 = .ok (.lreturn, 1) := by decide +kernel
theorem dX5_sightAmong_101 : decode cX5_sightAmong 101 = .ok (.lconst 0, 1) := by decide +kernel
theorem dX5_sightAmong_102 : decode cX5_sightAmong 102 = .ok (.lreturn, 1) := by decide +kernel
set_option maxRecDepth 20000 in
theorem c_X5_sightAmong {G : Gl} {d : Nat} {σ : Sg} {c : Nat} (hT : TC c) {τ : Tw} (hR : RX c τ σ) (hO : OkT τ) {b : Nat} (hb : b < 2 ^ 49) {p : Nat} (hp : (p : Int) < τ.2.1 0) : CT G (d + 3) yX5_sightAmong cX5_sightAmong 6 (some .long) [.ref (gA G c), .long (lN b), .int (iI (p : Int))] σ (R1 (.long (lN (seeB τ b p))) σ) := by
  refine CT.of (by decide +kernel) (Nat.le_of_ble_eq_true rfl) ?_
  change AW G _ RX5 _ _ _ 0 [(0, .ref (gA G c)), (1, .long (lN b)), (3, .int (iI (p : Int)))] [] _ _
  have hO2 := hO
  obtain ⟨o1, o2, o3, o4, o5, o6, o7, o8, o9⟩ := hO2
  have p0 : σ.1 c 1 = τ.2.1 0 := hR.2.1 0 (by decide)
  have p1 : σ.1 c 2 = τ.2.1 1 := hR.2.1 1 (by decide)
  have p2 : σ.1 c 3 = τ.2.1 2 := hR.2.1 2 (by decide)
  have p3 : σ.1 c 4 = τ.2.1 3 := hR.2.1 3 (by decide)
  have p4 : σ.1 c 5 = τ.2.1 4 := hR.2.1 4 (by decide)
  have p5 : σ.1 c 6 = τ.2.1 5 := hR.2.1 5 (by decide)
  have q8 := o8 p hp
  refine A_aload_n (pc := 0) dX5_sightAmong_0 rfl rfl ?_
  refine A_iload_n (pc := 1) dX5_sightAmong_1 rfl rfl ?_
  refine A_callV1 (pc := 2) kX5_85 (shp_T hT) rfl (c_X5_atOf hT hR hO (by omega)) dX5_sightAmong_2 rfl rfl (Nat.le_of_ble_eq_true rfl) (Nat.le_of_ble_eq_true rfl) ?_
  rw [if_pos hp]
  refine A_istore (pc := 5) dX5_sightAmong_5 (Nat.le_of_ble_eq_true rfl) ?_
  refine A_aload_n (pc := 7) dX5_sightAmong_7 rfl rfl ?_
  refine A_iload_n (pc := 8) dX5_sightAmong_8 rfl rfl ?_
  refine A_callV1 (pc := 9) kX5_89 (shp_T hT) rfl (c_X5_outOf hT hR hO (by omega)) dX5_sightAmong_9 rfl rfl (Nat.le_of_ble_eq_true rfl) (Nat.le_of_ble_eq_true rfl) ?_
  rw [if_pos hp]
  refine A_istore (pc := 12) dX5_sightAmong_12 (Nat.le_of_ble_eq_true rfl) ?_
  refine A_aload_n (pc := 14) dX5_sightAmong_14 rfl rfl ?_
  refine A_iload_n (pc := 15) dX5_sightAmong_15 rfl rfl ?_
  refine A_callV1 (pc := 16) kX5_92 (shp_T hT) rfl (c_X5_kindOf hT hR hO (by omega)) dX5_sightAmong_16 rfl rfl (Nat.le_of_ble_eq_true rfl) (Nat.le_of_ble_eq_true rfl) ?_
  rw [if_pos hp]
  refine A_tsw (pc := 19) [(0, 56), (1, 56), (2, 101), (3, 56), (4, 69), (5, 82)] 101 dX5_sightAmong_19 (by decide) (by decide) (by decide) (by omega) (by omega) ?_
  refine ⟨fun h19 => ?_, fun h19n0 => ?_⟩
  · skip
    refine A_lload_n (pc := 56) dX5_sightAmong_56 rfl rfl ?_
    refine A_iload (pc := 57) dX5_sightAmong_57 rfl ?_
    refine A_iload (pc := 59) dX5_sightAmong_59 rfl ?_
    refine A_aload_n (pc := 61) dX5_sightAmong_61 rfl rfl ?_
    refine A_getIv (pc := 62) fX5_22 (shp_T hT) rfl p2 dX5_sightAmong_62 ?_
    refine A_callS1 (pc := 65) kX5_95 (c_X0_line hb (by omega) (by omega) (by omega) (by omega) (by omega) (by omega)) dX5_sightAmong_65 rfl rfl (Nat.le_of_ble_eq_true rfl) (Nat.le_of_ble_eq_true rfl) ?_
    refine A_lret (pc := 68) rfl dX5_sightAmong_68 ?_
    exact ⟨by rw [seeB, if_pos (by omega)], rfl⟩
  refine ⟨fun h19 => ?_, fun h19n1 => ?_⟩
  · skip
    refine A_lload_n (pc := 56) dX5_sightAmong_56 rfl rfl ?_
    refine A_iload (pc := 57) dX5_sightAmong_57 rfl ?_
    refine A_iload (pc := 59) dX5_sightAmong_59 rfl ?_
    refine A_aload_n (pc := 61) dX5_sightAmong_61 rfl rfl ?_
    refine A_getIv (pc := 62) fX5_22 (shp_T hT) rfl p2 dX5_sightAmong_62 ?_
    refine A_callS1 (pc := 65) kX5_95 (c_X0_line hb (by omega) (by omega) (by omega) (by omega) (by omega) (by omega)) dX5_sightAmong_65 rfl rfl (Nat.le_of_ble_eq_true rfl) (Nat.le_of_ble_eq_true rfl) ?_
    refine A_lret (pc := 68) rfl dX5_sightAmong_68 ?_
    exact ⟨by rw [seeB, if_pos (by omega)], rfl⟩
  refine ⟨fun h19 => ?_, fun h19n2 => ?_⟩
  · skip
    refine A_lconst (pc := 101) 0 dX5_sightAmong_101 rfl ?_
    refine A_lret (pc := 102) rfl dX5_sightAmong_102 ?_
    exact ⟨by rw [seeB, if_neg (by omega), if_neg (by omega), if_neg (by omega)]; rfl, rfl⟩
  refine ⟨fun h19 => ?_, fun h19n3 => ?_⟩
  · skip
    refine A_lload_n (pc := 56) dX5_sightAmong_56 rfl rfl ?_
    refine A_iload (pc := 57) dX5_sightAmong_57 rfl ?_
    refine A_iload (pc := 59) dX5_sightAmong_59 rfl ?_
    refine A_aload_n (pc := 61) dX5_sightAmong_61 rfl rfl ?_
    refine A_getIv (pc := 62) fX5_22 (shp_T hT) rfl p2 dX5_sightAmong_62 ?_
    refine A_callS1 (pc := 65) kX5_95 (c_X0_line hb (by omega) (by omega) (by omega) (by omega) (by omega) (by omega)) dX5_sightAmong_65 rfl rfl (Nat.le_of_ble_eq_true rfl) (Nat.le_of_ble_eq_true rfl) ?_
    refine A_lret (pc := 68) rfl dX5_sightAmong_68 ?_
    exact ⟨by rw [seeB, if_pos (by omega)], rfl⟩
  refine ⟨fun h19 => ?_, fun h19n4 => ?_⟩
  · skip
    refine A_lload_n (pc := 69) dX5_sightAmong_69 rfl rfl ?_
    refine A_iload (pc := 70) dX5_sightAmong_70 rfl ?_
    refine A_iload (pc := 72) dX5_sightAmong_72 rfl ?_
    refine A_aload_n (pc := 74) dX5_sightAmong_74 rfl rfl ?_
    refine A_getIv (pc := 75) fX5_22 (shp_T hT) rfl p2 dX5_sightAmong_75 ?_
    refine A_callS1 (pc := 78) kX5_99 (c_X0_wideLine hb (by omega) (by omega) (by omega) (by omega) (by omega) (by omega)) dX5_sightAmong_78 rfl rfl (Nat.le_of_ble_eq_true rfl) (Nat.le_of_ble_eq_true rfl) ?_
    refine A_lret (pc := 81) rfl dX5_sightAmong_81 ?_
    exact ⟨by rw [seeB, if_neg (by omega), if_pos (by omega)], rfl⟩
  refine ⟨fun h19 => ?_, fun h19n5 => ?_⟩
  · skip
    refine A_lload_n (pc := 82) dX5_sightAmong_82 rfl rfl ?_
    refine A_iload (pc := 83) dX5_sightAmong_83 rfl ?_
    refine A_iload (pc := 85) dX5_sightAmong_85 rfl ?_
    refine A_aload_n (pc := 87) dX5_sightAmong_87 rfl rfl ?_
    refine A_getIv (pc := 88) fX5_22 (shp_T hT) rfl p2 dX5_sightAmong_88 ?_
    refine A_aload_n (pc := 91) dX5_sightAmong_91 rfl rfl ?_
    refine A_iload_n (pc := 92) dX5_sightAmong_92 rfl rfl ?_
    refine A_callV1 (pc := 93) kX5_102 (shp_T hT) rfl (c_X5_aOf hT hR hO (by omega)) dX5_sightAmong_93 rfl rfl (Nat.le_of_ble_eq_true rfl) (Nat.le_of_ble_eq_true rfl) ?_
    rw [if_pos hp]
    refine A_iadd (pc := 96) dX5_sightAmong_96 ?_
    refine A_callS1 (pc := 97) kX5_99 (c_X0_wideLine hb (by omega) (by omega) (by omega) (by omega) (by omega) (by omega)) dX5_sightAmong_97 rfl rfl (Nat.le_of_ble_eq_true rfl) (Nat.le_of_ble_eq_true rfl) ?_
    refine A_lret (pc := 100) rfl dX5_sightAmong_100 ?_
    exact ⟨by rw [seeB, if_neg (by omega), if_neg (by omega), if_pos (by omega)], rfl⟩
  change AW G _ _ _ _ _ 101 _ _ _ _
  refine A_lconst (pc := 101) 0 dX5_sightAmong_101 rfl ?_
  refine A_lret (pc := 102) rfl dX5_sightAmong_102 ?_
  exact ⟨by rw [seeB, if_neg (by omega), if_neg (by omega), if_neg (by omega)]; rfl, rfl⟩
set_option maxRecDepth 20000 in
theorem c_X5_sightAmong0 {G : Gl} {d : Nat} {σ : Sg} {c : Nat} (hT : TC c) {τ : Tw} (hR : RX c τ σ) (hO : OkT τ) {b : Nat} {p : Nat} (hp : τ.2.1 0 ≤ (p : Int)) (hp2 : (p : Int) < 100) : CT G (d + 3) yX5_sightAmong cX5_sightAmong 6 (some .long) [.ref (gA G c), .long (lN b), .int (iI (p : Int))] σ (R1 (.long (lN 0)) σ) := by
  refine CT.of (by decide +kernel) (Nat.le_of_ble_eq_true rfl) ?_
  change AW G _ RX5 _ _ _ 0 [(0, .ref (gA G c)), (1, .long (lN b)), (3, .int (iI (p : Int)))] [] _ _
  have hO2 := hO
  obtain ⟨o1, o2, o3, o4, o5, o6, o7, o8, o9⟩ := hO2
  have p0 : σ.1 c 1 = τ.2.1 0 := hR.2.1 0 (by decide)
  have p1 : σ.1 c 2 = τ.2.1 1 := hR.2.1 1 (by decide)
  have p2 : σ.1 c 3 = τ.2.1 2 := hR.2.1 2 (by decide)
  have p3 : σ.1 c 4 = τ.2.1 3 := hR.2.1 3 (by decide)
  have p4 : σ.1 c 5 = τ.2.1 4 := hR.2.1 4 (by decide)
  have p5 : σ.1 c 6 = τ.2.1 5 := hR.2.1 5 (by decide)
  refine A_aload_n (pc := 0) dX5_sightAmong_0 rfl rfl ?_
  refine A_iload_n (pc := 1) dX5_sightAmong_1 rfl rfl ?_
  refine A_callV1 (pc := 2) kX5_85 (shp_T hT) rfl (c_X5_atOf hT hR hO (by omega)) dX5_sightAmong_2 rfl rfl (Nat.le_of_ble_eq_true rfl) (Nat.le_of_ble_eq_true rfl) ?_
  rw [if_neg (by omega)]
  refine A_istore (pc := 5) dX5_sightAmong_5 (Nat.le_of_ble_eq_true rfl) ?_
  refine A_aload_n (pc := 7) dX5_sightAmong_7 rfl rfl ?_
  refine A_iload_n (pc := 8) dX5_sightAmong_8 rfl rfl ?_
  refine A_callV1 (pc := 9) kX5_89 (shp_T hT) rfl (c_X5_outOf hT hR hO (by omega)) dX5_sightAmong_9 rfl rfl (Nat.le_of_ble_eq_true rfl) (Nat.le_of_ble_eq_true rfl) ?_
  rw [if_neg (by omega)]
  refine A_istore (pc := 12) dX5_sightAmong_12 (Nat.le_of_ble_eq_true rfl) ?_
  refine A_aload_n (pc := 14) dX5_sightAmong_14 rfl rfl ?_
  refine A_iload_n (pc := 15) dX5_sightAmong_15 rfl rfl ?_
  refine A_callV1 (pc := 16) kX5_92 (shp_T hT) rfl (c_X5_kindOf hT hR hO (by omega)) dX5_sightAmong_16 rfl rfl (Nat.le_of_ble_eq_true rfl) (Nat.le_of_ble_eq_true rfl) ?_
  rw [if_neg (by omega)]
  refine A_tsw (pc := 19) [(0, 56), (1, 56), (2, 101), (3, 56), (4, 69), (5, 82)] 101 dX5_sightAmong_19 (by decide) (by decide) (by decide) (by omega) (by omega) ?_
  refine ⟨fun h19 => ?_, fun h19n0 => ?_⟩
  · skip
    exact absurd h19 (by decide)
  refine ⟨fun h19 => ?_, fun h19n1 => ?_⟩
  · skip
    exact absurd h19 (by decide)
  refine ⟨fun h19 => ?_, fun h19n2 => ?_⟩
  · skip
    refine A_lconst (pc := 101) 0 dX5_sightAmong_101 rfl ?_
    refine A_lret (pc := 102) rfl dX5_sightAmong_102 ?_
    exact ⟨rfl, rfl⟩
  refine ⟨fun h19 => ?_, fun h19n3 => ?_⟩
  · skip
    exact absurd h19 (by decide)
  refine ⟨fun h19 => ?_, fun h19n4 => ?_⟩
  · skip
    exact absurd h19 (by decide)
  refine ⟨fun h19 => ?_, fun h19n5 => ?_⟩
  · skip
    exact absurd h19 (by decide)
  change AW G _ _ _ _ _ 101 _ _ _ _
  refine A_lconst (pc := 101) 0 dX5_sightAmong_101 rfl ?_
  refine A_lret (pc := 102) rfl dX5_sightAmong_102 ?_
  exact ⟨rfl, rfl⟩
theorem dX5_sightOf_0 : decode cX5_sightOf 0 = .ok (.aload_n 0, 1) := by decide +kernel
theorem dX5_sightOf_1 : decode cX5_sightOf 1 = .ok (.aload_n 0, 1) := by decide +kernel
theorem dX5_sightOf_2 : decode cX5_sightOf 2 = .ok (.getfield 9, 3) := by decide +kernel
theorem dX5_sightOf_5 : decode cX5_sightOf 5 = .ok (.iload_n 1, 1) := by decide +kernel
theorem dX5_sightOf_6 : decode cX5_sightOf 6 = .ok (.invokevirtual 82, 3) := by decide +kernel
theorem dX5_sightOf_9 : decode cX5_sightOf 9 = .ok (.lreturn, 1) := by decide +kernel
set_option maxRecDepth 20000 in
theorem c_X5_sightOf {G : Gl} {d : Nat} {σ : Sg} {c : Nat} (hT : TC c) {τ : Tw} (hR : RX c τ σ) (hO : OkT τ) {p : Nat} (hp : (p : Int) < τ.2.1 0) : CT G (d + 4) yX5_sightOf cX5_sightOf 2 (some .long) [.ref (gA G c), .int (iI (p : Int))] σ (R1 (.long (lN (seeB τ τ.1 p))) σ) := by
  refine CT.of (by decide +kernel) (Nat.le_of_ble_eq_true rfl) ?_
  change AW G _ RX5 _ _ _ 0 [(0, .ref (gA G c)), (1, .int (iI (p : Int)))] [] _ _
  have hO2 := hO
  obtain ⟨o1, o2, o3, o4, o5, o6, o7, o8, o9⟩ := hO2
  have p0 : σ.1 c 1 = τ.2.1 0 := hR.2.1 0 (by decide)
  have p1 : σ.1 c 2 = τ.2.1 1 := hR.2.1 1 (by decide)
  have p2 : σ.1 c 3 = τ.2.1 2 := hR.2.1 2 (by decide)
  have p3 : σ.1 c 4 = τ.2.1 3 := hR.2.1 3 (by decide)
  have p4 : σ.1 c 5 = τ.2.1 4 := hR.2.1 4 (by decide)
  have p5 : σ.1 c 6 = τ.2.1 5 := hR.2.1 5 (by decide)
  refine A_aload_n (pc := 0) dX5_sightOf_0 rfl rfl ?_
  refine A_aload_n (pc := 1) dX5_sightOf_1 rfl rfl ?_
  refine A_getLv (pc := 2) fX5_9 (shp_T hT) rfl hR.1 dX5_sightOf_2 ?_
  refine A_iload_n (pc := 5) dX5_sightOf_5 rfl rfl ?_
  refine A_callV1 (pc := 6) kX5_82 (shp_T hT) rfl (c_X5_sightAmong hT hR hO o1 hp) dX5_sightOf_6 rfl rfl (Nat.le_of_ble_eq_true rfl) (Nat.le_of_ble_eq_true rfl) ?_
  refine A_lret (pc := 9) rfl dX5_sightOf_9 ?_
  exact ⟨rfl, rfl⟩
theorem dX5_allPanes_0 : decode cX5_allPanes 0 = .ok (.iconst 1, 1) := by decide +kernel
theorem dX5_allPanes_1 : decode cX5_allPanes 1 = .ok (.aload_n 0, 1) := by decide +kernel
theorem dX5_allPanes_2 : decode cX5_allPanes 2 = .ok (.getfield 15, 3) := by decide +kernel
theorem dX5_allPanes_5 : decode cX5_allPanes 5 = .ok (.ishl, 1) := by decide +kernel
theorem dX5_allPanes_6 : decode cX5_allPanes 6 = .ok (.iconst 1, 1) := by decide +kernel
theorem dX5_allPanes_7 : decode cX5_allPanes 7 = .ok (.isub, 1) := by decide +kernel
theorem dX5_allPanes_8 : decode cX5_allPanes 8 = .ok (.ireturn, 1) := by decide +kernel
set_option maxRecDepth 20000 in
theorem c_X5_allPanes {G : Gl} {d : Nat} {σ : Sg} {c : Nat} (hT : TC c) {τ : Tw} (hR : RX c τ σ) (hO : OkT τ)  : CT G d yX5_allPanes cX5_allPanes 1 (some .int) [.ref (gA G c)] σ (R1 (.int (iI (((2 ^ (τ.2.1 0).toNat : Nat) : Int) - 1))) σ) := by
  refine CT.of (by decide +kernel) (Nat.le_of_ble_eq_true rfl) ?_
  change AW G _ RX5 _ _ _ 0 [(0, .ref (gA G c))] [] _ _
  have hO2 := hO
  obtain ⟨o1, o2, o3, o4, o5, o6, o7, o8, o9⟩ := hO2
  have p0 : σ.1 c 1 = τ.2.1 0 := hR.2.1 0 (by decide)
  have p1 : σ.1 c 2 = τ.2.1 1 := hR.2.1 1 (by decide)
  have p2 : σ.1 c 3 = τ.2.1 2 := hR.2.1 2 (by decide)
  have p3 : σ.1 c 4 = τ.2.1 3 := hR.2.1 3 (by decide)
  have p4 : σ.1 c 5 = τ.2.1 4 := hR.2.1 4 (by decide)
  have p5 : σ.1 c 6 = τ.2.1 5 := hR.2.1 5 (by decide)
  obtain ⟨k, hk⟩ := Int.eq_ofNat_of_zero_le o2
  rw [hk] at p0
  have e : (τ.2.1 0).toNat = k := by omega
  rw [e]
  refine A_iconst (pc := 0) dX5_allPanes_0 ?_
  refine A_aload_n (pc := 1) dX5_allPanes_1 rfl rfl ?_
  refine A_getIv (pc := 2) fX5_15 (shp_T hT) rfl p0 dX5_allPanes_2 ?_
  refine A_ishl (pc := 5) ((2 ^ k : Nat) : Int) dX5_allPanes_5 (shl_I (by omega)) ?_
  refine A_iconst (pc := 6) dX5_allPanes_6 ?_
  refine A_isub (pc := 7) dX5_allPanes_7 ?_
  refine A_iret (pc := 8) rfl dX5_allPanes_8 ?_
  exact ⟨rfl, rfl⟩
end
section
/-! PART 12: WindowsLookedOut$Town: what changes it -/
theorem TSm {c : Nat} (j : Nat) (h : j < 8) : TS c (c + j) := ⟨by omega, by omega⟩
theorem OkT.setS {τ : Tw} (h : OkT τ) {k : Nat} (v : Int) (hk : 3 ≤ k) : OkT (tS τ k v) := by
  obtain ⟨h1, h2, h3, h4, h5, h6, h7, h8, h9⟩ := h
  have e : ∀ i, i < 3 → (tS τ k v).2.1 i = τ.2.1 i := fun i hi => if_neg (by omega)
  refine ⟨h1, ?_, ?_, ?_, ?_, ?_, ?_, ?_, ?_⟩
  · rw [e 0 (by omega)]; exact h2
  · rw [e 0 (by omega)]; exact h3
  · rw [e 1 (by omega)]; exact h4
  · rw [e 1 (by omega)]; exact h5
  · rw [e 2 (by omega)]; exact h6
  · rw [e 2 (by omega)]; exact h7
  · rw [e 0 (by omega)]; exact h8
  · rw [e 1 (by omega)]; exact h9
theorem OkT.setA6 {τ : Tw} (h : OkT τ) (p : Nat) (v : Int) : OkT (tA τ 6 p v) := by
  obtain ⟨h1, h2, h3, h4, h5, h6, h7, h8, h9⟩ := h
  refine ⟨h1, h2, h3, h4, h5, h6, h7, fun q hq => ?_, fun q hq => ?_⟩
  · have e : ∀ j, j < 6 → (tA τ 6 p v).2.2 j q = τ.2.2 j q := fun j hj => if_neg (by omega)
    rw [e 0 (by omega), e 1 (by omega), e 2 (by omega), e 3 (by omega)]; exact h8 q hq
  · have e : ∀ j, j < 6 → (tA τ 6 p v).2.2 j q = τ.2.2 j q := fun j hj => if_neg (by omega)
    rw [e 4 (by omega), e 5 (by omega)]; exact h9 q hq
theorem OkT.okPlc {τ : Tw} (h : OkT τ) {p : Nat} {s w : Int} (s1 : 0 ≤ s) (s2 : s ≤ 48) (w1 : 0 ≤ w) (w2 : w ≤ 3) : OkT (plc τ p s w) := by
  obtain ⟨h1, h2, h3, h4, h5, h6, h7, h8, h9⟩ := h
  refine ⟨h1, h2, h3, h4, h5, h6, h7, fun q hq => ?_, fun q hq => ?_⟩
  · have e : ∀ j, j < 4 → (plc τ p s w).2.2 j q = τ.2.2 j q := fun j hj => by
      show (if j = 5 ∧ q = p then w else if j = 4 ∧ q = p then s else τ.2.2 j q) = _
      rw [if_neg (by omega), if_neg (by omega)]
    have e0 := e 0 (by omega); have e1 := e 1 (by omega); have e2 := e 2 (by omega); have e3 := e 3 (by omega)
    have := h8 q hq
    rw [e0, e1, e2, e3]; exact this
  · have e4 : (plc τ p s w).2.2 4 q = if q = p then s else τ.2.2 4 q := by
      show (if 4 = 5 ∧ q = p then w else if 4 = 4 ∧ q = p then s else τ.2.2 4 q) = _
      rw [if_neg (by omega)]
      by_cases e : q = p
      · rw [if_pos ⟨rfl, e⟩, if_pos e]
      · rw [if_neg (fun z => e z.2), if_neg e]
    have e5 : (plc τ p s w).2.2 5 q = if q = p then w else τ.2.2 5 q := by
      show (if 5 = 5 ∧ q = p then w else if 5 = 4 ∧ q = p then s else τ.2.2 5 q) = _
      by_cases e : q = p
      · rw [if_pos ⟨rfl, e⟩, if_pos e]
      · rw [if_neg (fun z => e z.2), if_neg e, if_neg (by omega)]
    have := h9 q hq
    rw [e4, e5]
    by_cases e : q = p
    · rw [if_pos e, if_pos e]; omega
    · rw [if_neg e, if_neg e]; omega
theorem OkT.okBea {τ : Tw} (h : OkT τ) (p : Nat) (m : Int) : OkT (bea τ p m) := by
  have e : bea τ p m = if 0 < m then tA (tS τ 4 (τ.2.1 4 + m)) 6 p (τ.2.2 6 p + 1) else tS τ 4 (τ.2.1 4 + m) := rfl
  rw [e]
  by_cases q : 0 < m
  · rw [if_pos q]; exact (h.setS _ (by decide)).setA6 _ _
  · rw [if_neg q]; exact h.setS _ (by decide)
/-- a draw -/
def dseed (s : Int) : Int := s * 1103515245 + 12345
def dval (s : Int) : Int := (dseed s % 4294967296 / 65536) % 4
theorem dval_rng (s : Int) : 0 ≤ dval s ∧ dval s ≤ 3 := by unfold dval; omega
theorem ushr16 (x : Int) : ((iI x).toUInt32 >>> ((iI 16).toUInt32 &&& Int32.toUInt32 31)).toInt32 = iI (x % 4294967296 / 65536) := by
  have h1 := pk_ushr (iI x) (iI 16) 16 (by decide)
  have h2 : (iI x).toBitVec.toNat = (x % 4294967296).toNat := by
    show (BitVec.ofInt 32 x).toNat = _
    rw [BitVec.toNat_ofInt]
    rfl
  apply Int32.toBitVec_inj.mp
  apply BitVec.eq_of_toNat_eq
  rw [h1, h2]
  show _ = (BitVec.ofInt 32 _).toNat
  rw [BitVec.toNat_ofInt]
  show _ = ((x % 4294967296 / 65536) % ((2 ^ 32 : Nat) : Int)).toNat
  have e : (2 : Nat) ^ 16 = 65536 := by decide
  rw [e]
  have e2 : ((2 ^ 32 : Nat) : Int) = 4294967296 := by decide
  rw [e2]
  omega
/-- a walker's step by draw; all their steps; all their shame; a day -/
def stpW (τ : Tw) (w : Nat) : Tw :=
  plc (tS τ 5 (dseed (τ.2.1 5))) w (if inS (bes (τ.2.2 4 w) (dval (τ.2.1 5))) ∧ ¬ sT τ.1 (bes (τ.2.2 4 w) (dval (τ.2.1 5))) then bes (τ.2.2 4 w) (dval (τ.2.1 5)) else τ.2.2 4 w) (dval (τ.2.1 5))
def stpG : Nat → Nat → Tw → Tw
  | 0, _, τ => τ
  | n + 1, i, τ => stpG n (i + 1) (stpW τ i)
def beaG : Nat → Nat → Tw → Tw
  | 0, _, τ => τ
  | n + 1, i, τ => beaG n (i + 1) (bea τ i (sham τ (τ.2.2 4 i) (τ.2.2 5 i)))
def day (τ : Tw) : Tw := beaG (τ.2.1 1).toNat 0 (stpG (τ.2.1 1).toNat 0 (tS τ 3 (τ.2.1 3 + 1)))
theorem OkT.okStp {τ : Tw} (h : OkT τ) {w : Nat} (hw : (w : Int) < τ.2.1 1) : OkT (stpW τ w) := by
  have h9 := h.2.2.2.2.2.2.2.2 w hw
  have hd := dval_rng (τ.2.1 5)
  have hb := bes_rng (τ.2.2 4 w) (dval (τ.2.1 5))
  refine (h.setS _ (by decide)).okPlc ?_ ?_ hd.1 hd.2
  · by_cases q : inS (bes (τ.2.2 4 w) (dval (τ.2.1 5))) ∧ ¬ sT τ.1 (bes (τ.2.2 4 w) (dval (τ.2.1 5)))
    · rw [if_pos q]; exact q.1.1
    · rw [if_neg q]; exact h9.1
  · by_cases q : inS (bes (τ.2.2 4 w) (dval (τ.2.1 5))) ∧ ¬ sT τ.1 (bes (τ.2.2 4 w) (dval (τ.2.1 5)))
    · rw [if_pos q]; omega
    · rw [if_neg q]; exact h9.2.1
theorem stpW_nw (τ : Tw) (w : Nat) : (stpW τ w).2.1 1 = τ.2.1 1 := rfl
theorem bea_nw (τ : Tw) (w : Nat) (m : Int) : (bea τ w m).2.1 1 = τ.2.1 1 := by
  unfold bea
  by_cases q : 0 < m
  · rw [if_pos q]; rfl
  · rw [if_neg q]; rfl
theorem OkT.okStpG : ∀ (n i : Nat) (τ : Tw), OkT τ → (i : Int) + n = τ.2.1 1 → OkT (stpG n i τ) ∧ (stpG n i τ).2.1 1 = τ.2.1 1
  | 0, _, _, h, _ => ⟨h, rfl⟩
  | n + 1, i, τ, h, hn => OkT.okStpG n (i + 1) _ (h.okStp (by omega)) (by rw [stpW_nw]; omega)
theorem OkT.okBeaG : ∀ (n i : Nat) (τ : Tw), OkT τ → OkT (beaG n i τ)
  | 0, _, _, h => h
  | n + 1, i, τ, h => OkT.okBeaG n (i + 1) _ (h.okBea _ _)
theorem OkT.okDay {τ : Tw} (h : OkT τ) : OkT (day τ) := by
  have h1 := OkT.okStpG (τ.2.1 1).toNat 0 (tS τ 3 (τ.2.1 3 + 1)) (h.setS _ (by decide)) (by have := h.2.2.2.1; show _ = τ.2.1 1; omega)
  exact OkT.okBeaG _ _ _ h1.1
theorem dX5_triedTogether_0 : decode cX5_triedTogether 0 = .ok (.iconst 0, 1) := by decide +kernel
theorem dX5_triedTogether_1 : decode cX5_triedTogether 1 = .ok (.istore_n 1, 1) := by decide +kernel
theorem dX5_triedTogether_2 : decode cX5_triedTogether 2 = .ok (.iconst 0, 1) := by decide +kernel
theorem dX5_triedTogether_3 : decode cX5_triedTogether 3 = .ok (.istore_n 2, 1) := by decide +kernel
theorem dX5_triedTogether_4 : decode cX5_triedTogether 4 = .ok (.iload_n 2, 1) := by decide +kernel
theorem dX5_triedTogether_5 : decode cX5_triedTogether 5 = .ok (.aload_n 0, 1) := by decide +kernel
theorem dX5_triedTogether_6 : decode cX5_triedTogether 6 = .ok (.getfield 19, 3) := by decide +kernel
theorem dX5_triedTogether_9 : decode cX5_triedTogether 9 = .ok (.if_icmp .ge 23, 3) := by decide +kernel
theorem dX5_triedTogether_12 : decode cX5_triedTogether 12 = .ok (.iload_n 2, 1) := by decide +kernel
theorem dX5_triedTogether_13 : decode cX5_triedTogether 13 = .ok (.iconst 5, 1) := by decide +kernel
theorem dX5_triedTogether_14 : decode cX5_triedTogether 14 = .ok (.if_icmp .ge 18, 3) := by decide +kernel
theorem dX5_triedTogether_17 : decode cX5_triedTogether 17 = .ok (.iload_n 1, 1) := by decide +kernel
theorem dX5_triedTogether_18 : decode cX5_triedTogether 18 = .ok (.aload_n 0, 1) := by decide +kernel
theorem dX5_triedTogether_19 : decode cX5_triedTogether 19 = .ok (.getfield 53, 3) := by decide +kernel
theorem dX5_triedTogether_22 : decode cX5_triedTogether 22 = .ok (.iload_n 2, 1) := by decide +kernel
theorem dX5_triedTogether_23 : decode cX5_triedTogether 23 = .ok (.iaload, 1) := by decide +kernel
theorem dX5_triedTogether_24 : decode cX5_triedTogether 24 = .ok (.iadd, 1) := by decide +kernel
theorem dX5_triedTogether_25 : decode cX5_triedTogether 25 = .ok (.istore_n 1, 1) := by decide +kernel
theorem dX5_triedTogether_26 : decode cX5_triedTogether 26 = .ok (.iinc 2 1, 3) := by decide +kernel
theorem dX5_triedTogether_29 : decode cX5_triedTogether 29 = .ok (.goto (-25), 3) := by decide +kernel
theorem dX5_triedTogether_32 : decode cX5_triedTogether 32 = .ok (.iload_n 1, 1) := by decide +kernel
theorem dX5_triedTogether_33 : decode cX5_triedTogether 33 = .ok (.ireturn, 1) := by decide +kernel
set_option maxRecDepth 20000 in
theorem l_X5_triedTogether {G : Gl} {d : Nat} {σ : Sg} {K : Option Value → Sg → Prop} {c : Nat} (hT : TC c) {τ : Tw} (hR : RX c τ σ) (hO : OkT τ) : ∀ (n i : Nat) (acc : Int), (i : Int) + n = τ.2.1 1 → K (some (.int (iI (acc + sumR (fun w => τ.2.2 6 w) n i)))) σ → AW G d RX5 cX5_triedTogether 3 (some .int) 4 [(0, .ref (gA G c)), (1, .int (iI acc)), (2, .int (iI (i : Int)))] [] σ K := by
  intro n
  induction n using Nat.strongRecOn
  rename_i n ih
  intro i acc hn hK
  have hO2 := hO
  obtain ⟨o1, o2, o3, o4, o5, o6, o7, o8, o9⟩ := hO2
  have p0 : σ.1 c 1 = τ.2.1 0 := hR.2.1 0 (by decide)
  have p1 : σ.1 c 2 = τ.2.1 1 := hR.2.1 1 (by decide)
  have p2 : σ.1 c 3 = τ.2.1 2 := hR.2.1 2 (by decide)
  have p3 : σ.1 c 4 = τ.2.1 3 := hR.2.1 3 (by decide)
  have p4 : σ.1 c 5 = τ.2.1 4 := hR.2.1 4 (by decide)
  have p5 : σ.1 c 6 = τ.2.1 5 := hR.2.1 5 (by decide)
  refine A_iload_n (pc := 4) dX5_triedTogether_4 rfl rfl ?_
  refine A_aload_n (pc := 5) dX5_triedTogether_5 rfl rfl ?_
  refine A_getIv (pc := 6) fX5_19 (shp_T hT) rfl p1 dX5_triedTogether_6 ?_
  refine A_icmp_ge (pc := 9) 32 dX5_triedTogether_9 (by decide) (by omega) (by omega) (by omega) (by omega) (fun h9 => ?_) (fun h9 => ?_)
  · skip
    refine A_iload_n (pc := 32) dX5_triedTogether_32 rfl rfl ?_
    refine A_iret (pc := 33) rfl dX5_triedTogether_33 ?_
    have hn0 : n = 0 := by omega
    subst hn0
    rw [sumR, Int.add_zero] at hK
    exact hK
  · skip
    refine A_iload_n (pc := 12) dX5_triedTogether_12 rfl rfl ?_
    refine A_iconst (pc := 13) dX5_triedTogether_13 ?_
    refine A_icmp_ge (pc := 14) 32 dX5_triedTogether_14 (by decide) (by omega) (by omega) (by omega) (by omega) (fun h14 => ?_) (fun h14 => ?_)
    · skip
      refine A_iload_n (pc := 32) dX5_triedTogether_32 rfl rfl ?_
      refine A_iret (pc := 33) rfl dX5_triedTogether_33 ?_
      exfalso; omega
    · skip
      refine A_iload_n (pc := 17) dX5_triedTogether_17 rfl rfl ?_
      refine A_aload_n (pc := 18) dX5_triedTogether_18 rfl rfl ?_
      refine A_getR (pc := 19) fX5_53 (shp_T hT) rfl dX5_triedTogether_19 ?_
      refine A_iload_n (pc := 22) dX5_triedTogether_22 rfl rfl ?_
      refine A_ialdv (pc := 23) _ (shp_T_walkerTried hT) rfl (by omega) (Nat.le_of_ble_eq_true rfl) (hR.wt (by omega)) dX5_triedTogether_23 ?_
      refine A_iadd (pc := 24) dX5_triedTogether_24 ?_
      refine A_istore_n (pc := 25) dX5_triedTogether_25 rfl (Nat.le_of_ble_eq_true rfl) ?_
      refine A_iinc (pc := 26) dX5_triedTogether_26 rfl (Nat.le_of_ble_eq_true rfl) ?_
      refine A_goto (pc := 29) 4 dX5_triedTogether_29 (by decide) ?_
      obtain ⟨m, rfl⟩ : ∃ m, n = m + 1 := ⟨n - 1, by omega⟩
      refine A_loc (l2 := [(0, _), (1, _), (2, _)]) ⟨rfl, rfl, rfl, trivial⟩ ?_
      refine ih m (by omega) (i + 1) _ (by omega) ?_
      rw [sumR, ← Int.add_assoc] at hK
      exact hK
set_option maxRecDepth 20000 in
theorem c_X5_triedTogether {G : Gl} {d : Nat} {σ : Sg} {c : Nat} (hT : TC c) {τ : Tw} (hR : RX c τ σ) (hO : OkT τ)  : CT G d yX5_triedTogether cX5_triedTogether 3 (some .int) [.ref (gA G c)] σ (R1 (.int (iI (sumR (fun w => τ.2.2 6 w) (τ.2.1 1).toNat 0))) σ) := by
  refine CT.of (by decide +kernel) (Nat.le_of_ble_eq_true rfl) ?_
  change AW G _ RX5 _ _ _ 0 [(0, .ref (gA G c))] [] _ _
  have hO2 := hO
  obtain ⟨o1, o2, o3, o4, o5, o6, o7, o8, o9⟩ := hO2
  have p0 : σ.1 c 1 = τ.2.1 0 := hR.2.1 0 (by decide)
  have p1 : σ.1 c 2 = τ.2.1 1 := hR.2.1 1 (by decide)
  have p2 : σ.1 c 3 = τ.2.1 2 := hR.2.1 2 (by decide)
  have p3 : σ.1 c 4 = τ.2.1 3 := hR.2.1 3 (by decide)
  have p4 : σ.1 c 5 = τ.2.1 4 := hR.2.1 4 (by decide)
  have p5 : σ.1 c 6 = τ.2.1 5 := hR.2.1 5 (by decide)
  refine A_iconst (pc := 0) dX5_triedTogether_0 ?_
  refine A_istore_n (pc := 1) dX5_triedTogether_1 rfl (Nat.le_of_ble_eq_true rfl) ?_
  refine A_iconst (pc := 2) dX5_triedTogether_2 ?_
  refine A_istore_n (pc := 3) dX5_triedTogether_3 rfl (Nat.le_of_ble_eq_true rfl) ?_
  refine A_loc (l2 := [(0, _), (1, _), (2, _)]) ⟨rfl, rfl, rfl, trivial⟩ ?_
  exact l_X5_triedTogether hT hR hO (τ.2.1 1).toNat 0 0 (by omega) ⟨by rw [Int.zero_add], rfl⟩
theorem dX5_addPane_0 : decode cX5_addPane 0 = .ok (.aload_n 0, 1) := by decide +kernel
theorem dX5_addPane_1 : decode cX5_addPane 1 = .ok (.getfield 15, 3) := by decide +kernel
theorem dX5_addPane_4 : decode cX5_addPane 4 = .ok (.istore 5, 2) := by decide +kernel
theorem dX5_addPane_6 : decode cX5_addPane 6 = .ok (.iload 5, 2) := by decide +kernel
theorem dX5_addPane_8 : decode cX5_addPane 8 = .ok (.ifCond .lt 10, 3) := by decide +kernel
theorem dX5_addPane_11 : decode cX5_addPane 11 = .ok (.iload 5, 2) := by decide +kernel
theorem dX5_addPane_13 : decode cX5_addPane 13 = .ok (.bipush 9, 2) := by decide +kernel
theorem dX5_addPane_15 : decode cX5_addPane 15 = .ok (.if_icmp .lt 5, 3) := by decide +kernel
theorem dX5_addPane_18 : decode cX5_addPane 18 = .ok (.iconst (-1), 1) := by decide +kernel
theorem dX5_addPane_19 : decode cX5_addPane 19 = .ok (.ireturn, 1) := by decide +kernel
theorem dX5_addPane_20 : decode cX5_addPane 20 = .ok (.aload_n 0, 1) := by decide +kernel
theorem dX5_addPane_21 : decode cX5_addPane 21 = .ok (.getfield 34, 3) := by decide +kernel
theorem dX5_addPane_24 : decode cX5_addPane 24 = .ok (.iload 5, 2) := by decide +kernel
theorem dX5_addPane_26 : decode cX5_addPane 26 = .ok (.iload_n 1, 1) := by decide +kernel
theorem dX5_addPane_27 : decode cX5_addPane 27 = .ok (.iastore, 1) := by decide +kernel
theorem dX5_addPane_28 : decode cX5_addPane 28 = .ok (.aload_n 0, 1) := by decide +kernel
theorem dX5_addPane_29 : decode cX5_addPane 29 = .ok (.getfield 38, 3) := by decide +kernel
theorem dX5_addPane_32 : decode cX5_addPane 32 = .ok (.iload 5, 2) := by decide +kernel
theorem dX5_addPane_34 : decode cX5_addPane 34 = .ok (.iload_n 2, 1) := by decide +kernel
theorem dX5_addPane_35 : decode cX5_addPane 35 = .ok (.iastore, 1) := by decide +kernel
theorem dX5_addPane_36 : decode cX5_addPane 36 = .ok (.aload_n 0, 1) := by decide +kernel
theorem dX5_addPane_37 : decode cX5_addPane 37 = .ok (.getfield 41, 3) := by decide +kernel
theorem dX5_addPane_40 : decode cX5_addPane 40 = .ok (.iload 5, 2) := by decide +kernel
theorem dX5_addPane_42 : decode cX5_addPane 42 = .ok (.iload_n 3, 1) := by decide +kernel
theorem dX5_addPane_43 : decode cX5_addPane 43 = .ok (.iastore, 1) := by decide +kernel
theorem dX5_addPane_44 : decode cX5_addPane 44 = .ok (.aload_n 0, 1) := by decide +kernel
theorem dX5_addPane_45 : decode cX5_addPane 45 = .ok (.getfield 44, 3) := by decide +kernel
theorem dX5_addPane_48 : decode cX5_addPane 48 = .ok (.iload 5, 2) := by decide +kernel
theorem dX5_addPane_50 : decode cX5_addPane 50 = .ok (.iload 4, 2) := by decide +kernel
theorem dX5_addPane_52 : decode cX5_addPane 52 = .ok (.iastore, 1) := by decide +kernel
theorem dX5_addPane_53 : decode cX5_addPane 53 = .ok (.aload_n 0, 1) := by decide +kernel
theorem dX5_addPane_54 : decode cX5_addPane 54 = .ok (.dup, 1) := by decide +kernel
theorem dX5_addPane_55 : decode cX5_addPane 55 = .ok (.getfield 15, 3) := by decide +kernel
theorem dX5_addPane_58 : decode cX5_addPane 58 = .ok (.iconst 1, 1) := by decide +kernel
theorem dX5_addPane_59 : decode cX5_addPane 59 = .ok (.iadd, 1) := by decide +kernel
theorem dX5_addPane_60 : decode cX5_addPane 60 = .ok (.putfield 15, 3) := by decide +kernel
theorem dX5_addPane_63 : decode cX5_addPane 63 = .ok (.iload 5, 2) := by decide +kernel
theorem dX5_addPane_65 : decode cX5_addPane 65 = .ok (.ireturn, 1) := by decide +kernel
set_option maxRecDepth 20000 in
theorem c_X5_addPane {G : Gl} {d : Nat} {σ : Sg} {c : Nat} (hT : TC c) {τ : Tw} (hR : RX c τ σ) (hO : OkT τ) (hp : τ.2.1 0 < 9) {k a s w : Int} : CT G d yX5_addPane cX5_addPane 6 (some .int) [.ref (gA G c), .int (iI k), .int (iI a), .int (iI s), .int (iI w)] σ (RE (some (.int (iI (τ.2.1 0)))) (fun υ => RX c (addP τ k a s w) υ ∧ Fr (TS c) σ υ)) := by
  refine CT.of (by decide +kernel) (Nat.le_of_ble_eq_true rfl) ?_
  change AW G _ RX5 _ _ _ 0 [(0, .ref (gA G c)), (1, .int (iI k)), (2, .int (iI a)), (3, .int (iI s)), (4, .int (iI w))] [] _ _
  have hO2 := hO
  obtain ⟨o1, o2, o3, o4, o5, o6, o7, o8, o9⟩ := hO2
  have p0 : σ.1 c 1 = τ.2.1 0 := hR.2.1 0 (by decide)
  have p1 : σ.1 c 2 = τ.2.1 1 := hR.2.1 1 (by decide)
  have p2 : σ.1 c 3 = τ.2.1 2 := hR.2.1 2 (by decide)
  have p3 : σ.1 c 4 = τ.2.1 3 := hR.2.1 3 (by decide)
  have p4 : σ.1 c 5 = τ.2.1 4 := hR.2.1 4 (by decide)
  have p5 : σ.1 c 6 = τ.2.1 5 := hR.2.1 5 (by decide)
  obtain ⟨n, hn⟩ := Int.eq_ofNat_of_zero_le o2
  rw [hn] at p0 hp
  have e : (τ.2.1 0).toNat = n := by omega
  refine A_aload_n (pc := 0) dX5_addPane_0 rfl rfl ?_
  refine A_getIv (pc := 1) fX5_15 (shp_T hT) rfl p0 dX5_addPane_1 ?_
  refine A_istore (pc := 4) dX5_addPane_4 (Nat.le_of_ble_eq_true rfl) ?_
  refine A_iload (pc := 6) dX5_addPane_6 rfl ?_
  refine A_if_lt (pc := 8) 18 dX5_addPane_8 (by decide) (by omega) (by omega) (fun h8 => ?_) (fun h8 => ?_)
  · skip
    refine A_iconst (pc := 18) dX5_addPane_18 ?_
    refine A_iret (pc := 19) rfl dX5_addPane_19 ?_
    exfalso; omega
  · skip
    refine A_iload (pc := 11) dX5_addPane_11 rfl ?_
    refine A_bipush (pc := 13) dX5_addPane_13 (by decide) ?_
    refine A_icmp_lt (pc := 15) 20 dX5_addPane_15 (by decide) (by omega) (by omega) (by omega) (by omega) (fun h15 => ?_) (fun h15 => ?_)
    · skip
      refine A_aload_n (pc := 20) dX5_addPane_20 rfl rfl ?_
      refine A_getR (pc := 21) fX5_34 (shp_T hT) rfl dX5_addPane_21 ?_
      refine A_iload (pc := 24) dX5_addPane_24 rfl ?_
      refine A_iload_n (pc := 26) dX5_addPane_26 rfl rfl ?_
      refine A_iast (pc := 27) n (shp_T_paneKind hT) rfl (by omega) (Nat.le_of_ble_eq_true rfl) dX5_addPane_27 ?_
      refine A_aload_n (pc := 28) dX5_addPane_28 rfl rfl ?_
      refine A_getR (pc := 29) fX5_38 (shp_T hT) rfl dX5_addPane_29 ?_
      refine A_iload (pc := 32) dX5_addPane_32 rfl ?_
      refine A_iload_n (pc := 34) dX5_addPane_34 rfl rfl ?_
      refine A_iast (pc := 35) n (shp_T_paneA hT) rfl (by omega) (Nat.le_of_ble_eq_true rfl) dX5_addPane_35 ?_
      refine A_aload_n (pc := 36) dX5_addPane_36 rfl rfl ?_
      refine A_getR (pc := 37) fX5_41 (shp_T hT) rfl dX5_addPane_37 ?_
      refine A_iload (pc := 40) dX5_addPane_40 rfl ?_
      refine A_iload_n (pc := 42) dX5_addPane_42 rfl rfl ?_
      refine A_iast (pc := 43) n (shp_T_paneAt hT) rfl (by omega) (Nat.le_of_ble_eq_true rfl) dX5_addPane_43 ?_
      refine A_aload_n (pc := 44) dX5_addPane_44 rfl rfl ?_
      refine A_getR (pc := 45) fX5_44 (shp_T hT) rfl dX5_addPane_45 ?_
      refine A_iload (pc := 48) dX5_addPane_48 rfl ?_
      refine A_iload (pc := 50) dX5_addPane_50 rfl ?_
      refine A_iast (pc := 52) n (shp_T_paneOut hT) rfl (by omega) (Nat.le_of_ble_eq_true rfl) dX5_addPane_52 ?_
      refine A_aload_n (pc := 53) dX5_addPane_53 rfl rfl ?_
      refine A_dup (pc := 54) dX5_addPane_54 rfl ?_
      refine A_getIv (pc := 55) fX5_15 (shp_T hT) rfl (show _ = (n : Int) from by rw [uI_at, if_neg (by omega)]; rw [uI_at, if_neg (by omega)]; rw [uI_at, if_neg (by omega)]; rw [uI_at, if_neg (by omega)]; exact p0) dX5_addPane_55 ?_
      refine A_iconst (pc := 58) dX5_addPane_58 ?_
      refine A_iadd (pc := 59) dX5_addPane_59 ?_
      refine A_putI (pc := 60) fX5_15 wr_4_1 (shp_T hT) rfl dX5_addPane_60 ?_
      refine A_iload (pc := 63) dX5_addPane_63 rfl ?_
      refine A_iret (pc := 65) rfl dX5_addPane_65 ?_
      refine ⟨by rw [hn], ?_, ((((Fr.rf.uI (TSm 1 (by decide))).uI (TSm 2 (by decide))).uI (TSm 3 (by decide))).uI (TSm 4 (by decide))).uI (TSm 0 (by decide))⟩
      have q := (((hR.setA 0 n k (by decide)).setA 1 n a (by decide)).setA 2 n s (by decide)).setA 3 n w (by decide)
      have q2 := q.inc0 (n := n) hn (fun j hj => by
        have hh : j = 0 ∨ j = 1 ∨ j = 2 ∨ j = 3 := by omega
        rcases hh with rfl | rfl | rfl | rfl <;> simp [uI_at, tA])
      rw [addP, e, hn]
      exact q2
    · skip
      refine A_iconst (pc := 18) dX5_addPane_18 ?_
      refine A_iret (pc := 19) rfl dX5_addPane_19 ?_
      exfalso; omega
theorem dX5_addWalker_0 : decode cX5_addWalker 0 = .ok (.aload_n 0, 1) := by decide +kernel
theorem dX5_addWalker_1 : decode cX5_addWalker 1 = .ok (.getfield 19, 3) := by decide +kernel
theorem dX5_addWalker_4 : decode cX5_addWalker 4 = .ok (.istore_n 3, 1) := by decide +kernel
theorem dX5_addWalker_5 : decode cX5_addWalker 5 = .ok (.iload_n 3, 1) := by decide +kernel
theorem dX5_addWalker_6 : decode cX5_addWalker 6 = .ok (.ifCond .lt 8, 3) := by decide +kernel
theorem dX5_addWalker_9 : decode cX5_addWalker 9 = .ok (.iload_n 3, 1) := by decide +kernel
theorem dX5_addWalker_10 : decode cX5_addWalker 10 = .ok (.iconst 5, 1) := by decide +kernel
theorem dX5_addWalker_11 : decode cX5_addWalker 11 = .ok (.if_icmp .lt 5, 3) := by decide +kernel
theorem dX5_addWalker_14 : decode cX5_addWalker 14 = .ok (.iconst (-1), 1) := by decide +kernel
theorem dX5_addWalker_15 : decode cX5_addWalker 15 = .ok (.ireturn, 1) := by decide +kernel
theorem dX5_addWalker_16 : decode cX5_addWalker 16 = .ok (.aload_n 0, 1) := by decide +kernel
theorem dX5_addWalker_17 : decode cX5_addWalker 17 = .ok (.getfield 47, 3) := by decide +kernel
theorem dX5_addWalker_20 : decode cX5_addWalker 20 = .ok (.iload_n 3, 1) := by decide +kernel
theorem dX5_addWalker_21 : decode cX5_addWalker 21 = .ok (.iload_n 1, 1) := by decide +kernel
theorem dX5_addWalker_22 : decode cX5_addWalker 22 = .ok (.iastore, 1) := by decide +kernel
theorem dX5_addWalker_23 : decode cX5_addWalker 23 = .ok (.aload_n 0, 1) := by decide +kernel
theorem dX5_addWalker_24 : decode cX5_addWalker 24 = .ok (.getfield 50, 3) := by decide +kernel
theorem dX5_addWalker_27 : decode cX5_addWalker 27 = .ok (.iload_n 3, 1) := by decide +kernel
theorem dX5_addWalker_28 : decode cX5_addWalker 28 = .ok (.iload_n 2, 1) := by decide +kernel
theorem dX5_addWalker_29 : decode cX5_addWalker 29 = .ok (.iastore, 1) := by decide +kernel
theorem dX5_addWalker_30 : decode cX5_addWalker 30 = .ok (.aload_n 0, 1) := by decide +kernel
theorem dX5_addWalker_31 : decode cX5_addWalker 31 = .ok (.getfield 53, 3) := by decide +kernel
theorem dX5_addWalker_34 : decode cX5_addWalker 34 = .ok (.iload_n 3, 1) := by decide +kernel
theorem dX5_addWalker_35 : decode cX5_addWalker 35 = .ok (.iconst 0, 1) := by decide +kernel
theorem dX5_addWalker_36 : decode cX5_addWalker 36 = .ok (.iastore, 1) := by decide +kernel
theorem dX5_addWalker_37 : decode cX5_addWalker 37 = .ok (.aload_n 0, 1) := by decide +kernel
theorem dX5_addWalker_38 : decode cX5_addWalker 38 = .ok (.dup, 1) := by decide +kernel
theorem dX5_addWalker_39 : decode cX5_addWalker 39 = .ok (.getfield 19, 3) := by decide +kernel
theorem dX5_addWalker_42 : decode cX5_addWalker 42 = .ok (.iconst 1, 1) := by decide +kernel
theorem dX5_addWalker_43 : decode cX5_addWalker 43 = .ok (.iadd, 1) := by decide +kernel
theorem dX5_addWalker_44 : decode cX5_addWalker 44 = .ok (.putfield 19, 3) := by decide +kernel
theorem dX5_addWalker_47 : decode cX5_addWalker 47 = .ok (.iload_n 3, 1) := by decide +kernel
theorem dX5_addWalker_48 : decode cX5_addWalker 48 = .ok (.ireturn, 1) := by decide +kernel
set_option maxRecDepth 20000 in
theorem c_X5_addWalker {G : Gl} {d : Nat} {σ : Sg} {c : Nat} (hT : TC c) {τ : Tw} (hR : RX c τ σ) (hO : OkT τ) (hp : τ.2.1 1 < 5) {s w : Int} : CT G d yX5_addWalker cX5_addWalker 4 (some .int) [.ref (gA G c), .int (iI s), .int (iI w)] σ (RE (some (.int (iI (τ.2.1 1)))) (fun υ => RX c (addW τ s w) υ ∧ Fr (TS c) σ υ)) := by
  refine CT.of (by decide +kernel) (Nat.le_of_ble_eq_true rfl) ?_
  change AW G _ RX5 _ _ _ 0 [(0, .ref (gA G c)), (1, .int (iI s)), (2, .int (iI w))] [] _ _
  have hO2 := hO
  obtain ⟨o1, o2, o3, o4, o5, o6, o7, o8, o9⟩ := hO2
  have p0 : σ.1 c 1 = τ.2.1 0 := hR.2.1 0 (by decide)
  have p1 : σ.1 c 2 = τ.2.1 1 := hR.2.1 1 (by decide)
  have p2 : σ.1 c 3 = τ.2.1 2 := hR.2.1 2 (by decide)
  have p3 : σ.1 c 4 = τ.2.1 3 := hR.2.1 3 (by decide)
  have p4 : σ.1 c 5 = τ.2.1 4 := hR.2.1 4 (by decide)
  have p5 : σ.1 c 6 = τ.2.1 5 := hR.2.1 5 (by decide)
  obtain ⟨n, hn⟩ := Int.eq_ofNat_of_zero_le o4
  rw [hn] at p1 hp
  have e : (τ.2.1 1).toNat = n := by omega
  refine A_aload_n (pc := 0) dX5_addWalker_0 rfl rfl ?_
  refine A_getIv (pc := 1) fX5_19 (shp_T hT) rfl p1 dX5_addWalker_1 ?_
  refine A_istore_n (pc := 4) dX5_addWalker_4 rfl (Nat.le_of_ble_eq_true rfl) ?_
  refine A_iload_n (pc := 5) dX5_addWalker_5 rfl rfl ?_
  refine A_if_lt (pc := 6) 14 dX5_addWalker_6 (by decide) (by omega) (by omega) (fun h6 => ?_) (fun h6 => ?_)
  · skip
    refine A_iconst (pc := 14) dX5_addWalker_14 ?_
    refine A_iret (pc := 15) rfl dX5_addWalker_15 ?_
    exfalso; omega
  · skip
    refine A_iload_n (pc := 9) dX5_addWalker_9 rfl rfl ?_
    refine A_iconst (pc := 10) dX5_addWalker_10 ?_
    refine A_icmp_lt (pc := 11) 16 dX5_addWalker_11 (by decide) (by omega) (by omega) (by omega) (by omega) (fun h11 => ?_) (fun h11 => ?_)
    · skip
      refine A_aload_n (pc := 16) dX5_addWalker_16 rfl rfl ?_
      refine A_getR (pc := 17) fX5_47 (shp_T hT) rfl dX5_addWalker_17 ?_
      refine A_iload_n (pc := 20) dX5_addWalker_20 rfl rfl ?_
      refine A_iload_n (pc := 21) dX5_addWalker_21 rfl rfl ?_
      refine A_iast (pc := 22) n (shp_T_walkerAt hT) rfl (by omega) (Nat.le_of_ble_eq_true rfl) dX5_addWalker_22 ?_
      refine A_aload_n (pc := 23) dX5_addWalker_23 rfl rfl ?_
      refine A_getR (pc := 24) fX5_50 (shp_T hT) rfl dX5_addWalker_24 ?_
      refine A_iload_n (pc := 27) dX5_addWalker_27 rfl rfl ?_
      refine A_iload_n (pc := 28) dX5_addWalker_28 rfl rfl ?_
      refine A_iast (pc := 29) n (shp_T_walkerFaces hT) rfl (by omega) (Nat.le_of_ble_eq_true rfl) dX5_addWalker_29 ?_
      refine A_aload_n (pc := 30) dX5_addWalker_30 rfl rfl ?_
      refine A_getR (pc := 31) fX5_53 (shp_T hT) rfl dX5_addWalker_31 ?_
      refine A_iload_n (pc := 34) dX5_addWalker_34 rfl rfl ?_
      refine A_iconst (pc := 35) dX5_addWalker_35 ?_
      refine A_iast (pc := 36) n (shp_T_walkerTried hT) rfl (by omega) (Nat.le_of_ble_eq_true rfl) dX5_addWalker_36 ?_
      refine A_aload_n (pc := 37) dX5_addWalker_37 rfl rfl ?_
      refine A_dup (pc := 38) dX5_addWalker_38 rfl ?_
      refine A_getIv (pc := 39) fX5_19 (shp_T hT) rfl (show _ = (n : Int) from by rw [uI_at, if_neg (by omega)]; rw [uI_at, if_neg (by omega)]; rw [uI_at, if_neg (by omega)]; exact p1) dX5_addWalker_39 ?_
      refine A_iconst (pc := 42) dX5_addWalker_42 ?_
      refine A_iadd (pc := 43) dX5_addWalker_43 ?_
      refine A_putI (pc := 44) fX5_19 wr_4_2 (shp_T hT) rfl dX5_addWalker_44 ?_
      refine A_iload_n (pc := 47) dX5_addWalker_47 rfl rfl ?_
      refine A_iret (pc := 48) rfl dX5_addWalker_48 ?_
      refine ⟨by rw [hn], ?_, (((Fr.rf.uI (TSm 5 (by decide))).uI (TSm 6 (by decide))).uI (TSm 7 (by decide))).uI (TSm 0 (by decide))⟩
      have q := ((hR.setA 4 n s (by decide)).setA 5 n w (by decide)).setA 6 n 0 (by decide)
      have q2 := q.inc1 (n := n) hn (fun j hj => by
        have hh : j = 0 ∨ j = 1 ∨ j = 2 := by omega
        rcases hh with rfl | rfl | rfl <;> simp [uI_at, tA])
      rw [addW, e, hn]
      exact q2
    · skip
      refine A_iconst (pc := 14) dX5_addWalker_14 ?_
      refine A_iret (pc := 15) rfl dX5_addWalker_15 ?_
      exfalso; omega
theorem dX5_place_0 : decode cX5_place 0 = .ok (.aload_n 0, 1) := by decide +kernel
theorem dX5_place_1 : decode cX5_place 1 = .ok (.iload_n 1, 1) := by decide +kernel
theorem dX5_place_2 : decode cX5_place 2 = .ok (.invokevirtual 79, 3) := by decide +kernel
theorem dX5_place_5 : decode cX5_place 5 = .ok (.ifCond .eq 17, 3) := by decide +kernel
theorem dX5_place_8 : decode cX5_place 8 = .ok (.aload_n 0, 1) := by decide +kernel
theorem dX5_place_9 : decode cX5_place 9 = .ok (.getfield 47, 3) := by decide +kernel
theorem dX5_place_12 : decode cX5_place 12 = .ok (.iload_n 1, 1) := by decide +kernel
theorem dX5_place_13 : decode cX5_place 13 = .ok (.iload_n 2, 1) := by decide +kernel
theorem dX5_place_14 : decode cX5_place 14 = .ok (.iastore, 1) := by decide +kernel
theorem dX5_place_15 : decode cX5_place 15 = .ok (.aload_n 0, 1) := by decide +kernel
theorem dX5_place_16 : decode cX5_place 16 = .ok (.getfield 50, 3) := by decide +kernel
theorem dX5_place_19 : decode cX5_place 19 = .ok (.iload_n 1, 1) := by decide +kernel
theorem dX5_place_20 : decode cX5_place 20 = .ok (.iload_n 3, 1) := by decide +kernel
theorem dX5_place_21 : decode cX5_place 21 = .ok (.iastore, 1) := by decide +kernel
theorem dX5_place_22 : decode cX5_place 22 = .ok (.return_, 1) := by decide +kernel
set_option maxRecDepth 20000 in
theorem c_X5_place {G : Gl} {d : Nat} {σ : Sg} {c : Nat} (hT : TC c) {τ : Tw} (hR : RX c τ σ) (hO : OkT τ) {p : Nat} (hp : (p : Int) < τ.2.1 1) {s w : Int} : CT G (d + 1) yX5_place cX5_place 4 none [.ref (gA G c), .int (iI (p : Int)), .int (iI s), .int (iI w)] σ (RE none (fun υ => RX c (plc τ p s w) υ ∧ Fr (TS c) σ υ)) := by
  refine CT.of (by decide +kernel) (Nat.le_of_ble_eq_true rfl) ?_
  change AW G _ RX5 _ _ _ 0 [(0, .ref (gA G c)), (1, .int (iI (p : Int))), (2, .int (iI s)), (3, .int (iI w))] [] _ _
  have hO2 := hO
  obtain ⟨o1, o2, o3, o4, o5, o6, o7, o8, o9⟩ := hO2
  have p0 : σ.1 c 1 = τ.2.1 0 := hR.2.1 0 (by decide)
  have p1 : σ.1 c 2 = τ.2.1 1 := hR.2.1 1 (by decide)
  have p2 : σ.1 c 3 = τ.2.1 2 := hR.2.1 2 (by decide)
  have p3 : σ.1 c 4 = τ.2.1 3 := hR.2.1 3 (by decide)
  have p4 : σ.1 c 5 = τ.2.1 4 := hR.2.1 4 (by decide)
  have p5 : σ.1 c 6 = τ.2.1 5 := hR.2.1 5 (by decide)
  refine A_aload_n (pc := 0) dX5_place_0 rfl rfl ?_
  refine A_iload_n (pc := 1) dX5_place_1 rfl rfl ?_
  refine A_callV1 (pc := 2) kX5_79 (shp_T hT) rfl (c_X5_isWalker hT hR hO (by omega) (by omega)) dX5_place_2 rfl rfl (Nat.le_of_ble_eq_true rfl) (Nat.le_of_ble_eq_true rfl) ?_
  refine A_ifb_eq (pc := 5) 22 dX5_place_5 (by decide) (fun h5 => ?_) (fun h5 => ?_)
  · skip
    refine A_vret (pc := 22) rfl dX5_place_22 ?_
    exfalso; omega
  · skip
    refine A_aload_n (pc := 8) dX5_place_8 rfl rfl ?_
    refine A_getR (pc := 9) fX5_47 (shp_T hT) rfl dX5_place_9 ?_
    refine A_iload_n (pc := 12) dX5_place_12 rfl rfl ?_
    refine A_iload_n (pc := 13) dX5_place_13 rfl rfl ?_
    refine A_iast (pc := 14) _ (shp_T_walkerAt hT) rfl (by omega) (Nat.le_of_ble_eq_true rfl) dX5_place_14 ?_
    refine A_aload_n (pc := 15) dX5_place_15 rfl rfl ?_
    refine A_getR (pc := 16) fX5_50 (shp_T hT) rfl dX5_place_16 ?_
    refine A_iload_n (pc := 19) dX5_place_19 rfl rfl ?_
    refine A_iload_n (pc := 20) dX5_place_20 rfl rfl ?_
    refine A_iast (pc := 21) _ (shp_T_walkerFaces hT) rfl (by omega) (Nat.le_of_ble_eq_true rfl) dX5_place_21 ?_
    refine A_vret (pc := 22) rfl dX5_place_22 ?_
    exact ⟨rfl, (hR.setA 4 p s (by decide)).setA 5 p w (by decide), (Fr.rf.uI (TSm 5 (by decide))).uI (TSm 6 (by decide))⟩
theorem dX5_build_0 : decode cX5_build 0 = .ok (.aload_n 0, 1) := by decide +kernel
theorem dX5_build_1 : decode cX5_build 1 = .ok (.iload_n 2, 1) := by decide +kernel
theorem dX5_build_2 : decode cX5_build 2 = .ok (.ifCond .eq 14, 3) := by decide +kernel
theorem dX5_build_5 : decode cX5_build 5 = .ok (.aload_n 0, 1) := by decide +kernel
theorem dX5_build_6 : decode cX5_build 6 = .ok (.getfield 9, 3) := by decide +kernel
theorem dX5_build_9 : decode cX5_build 9 = .ok (.iload_n 1, 1) := by decide +kernel
theorem dX5_build_10 : decode cX5_build 10 = .ok (.invokestatic 69, 3) := by decide +kernel
theorem dX5_build_13 : decode cX5_build 13 = .ok (.goto 11, 3) := by decide +kernel
theorem dX5_build_16 : decode cX5_build 16 = .ok (.aload_n 0, 1) := by decide +kernel
theorem dX5_build_17 : decode cX5_build 17 = .ok (.getfield 9, 3) := by decide +kernel
theorem dX5_build_20 : decode cX5_build 20 = .ok (.iload_n 1, 1) := by decide +kernel
theorem dX5_build_21 : decode cX5_build 21 = .ok (.invokestatic 73, 3) := by decide +kernel
theorem dX5_build_24 : decode cX5_build 24 = .ok (.putfield 9, 3) := by decide +kernel
theorem dX5_build_27 : decode cX5_build 27 = .ok (.return_, 1) := by decide +kernel
set_option maxRecDepth 20000 in
theorem c_X5_build {G : Gl} {d : Nat} {σ : Sg} {c : Nat} (hT : TC c) {τ : Tw} (hR : RX c τ σ) (hO : OkT τ) {s : Int} (hs1 : -2147483648 ≤ s) (hs2 : s < 2147483648) {b : Bool} : CT G (d + 1) yX5_build cX5_build 3 none [.ref (gA G c), .int (iI s), .int (iI (bI (b = true)))] σ (RE none (fun υ => RX c (tH τ (if b = true then τ.1 ||| sqB s else nB τ.1 (sqB s))) υ ∧ Fr (TS c) σ υ)) := by
  refine CT.of (by decide +kernel) (Nat.le_of_ble_eq_true rfl) ?_
  change AW G _ RX5 _ _ _ 0 [(0, .ref (gA G c)), (1, .int (iI s)), (2, .int (iI (bI (b = true))))] [] _ _
  have hO2 := hO
  obtain ⟨o1, o2, o3, o4, o5, o6, o7, o8, o9⟩ := hO2
  have p0 : σ.1 c 1 = τ.2.1 0 := hR.2.1 0 (by decide)
  have p1 : σ.1 c 2 = τ.2.1 1 := hR.2.1 1 (by decide)
  have p2 : σ.1 c 3 = τ.2.1 2 := hR.2.1 2 (by decide)
  have p3 : σ.1 c 4 = τ.2.1 3 := hR.2.1 3 (by decide)
  have p4 : σ.1 c 5 = τ.2.1 4 := hR.2.1 4 (by decide)
  have p5 : σ.1 c 6 = τ.2.1 5 := hR.2.1 5 (by decide)
  refine A_aload_n (pc := 0) dX5_build_0 rfl rfl ?_
  refine A_iload_n (pc := 1) dX5_build_1 rfl rfl ?_
  refine A_ifb_eq (pc := 2) 16 dX5_build_2 (by decide) (fun h2 => ?_) (fun h2 => ?_)
  · skip
    refine A_aload_n (pc := 16) dX5_build_16 rfl rfl ?_
    refine A_getLv (pc := 17) fX5_9 (shp_T hT) rfl hR.1 dX5_build_17 ?_
    refine A_iload_n (pc := 20) dX5_build_20 rfl rfl ?_
    refine A_callS1 (pc := 21) kX5_73 (c_X0_without o1 hs1 hs2) dX5_build_21 rfl rfl (Nat.le_of_ble_eq_true rfl) (Nat.le_of_ble_eq_true rfl) ?_
    refine A_putL (pc := 24) fX5_9 wr_4_0 (shp_T hT) rfl dX5_build_24 ?_
    refine A_vret (pc := 27) rfl dX5_build_27 ?_
    exact ⟨rfl, by rw [if_neg h2]; exact hR.setH _, Fr.rf.uL (TSm 0 (by decide))⟩
  · skip
    refine A_aload_n (pc := 5) dX5_build_5 rfl rfl ?_
    refine A_getLv (pc := 6) fX5_9 (shp_T hT) rfl hR.1 dX5_build_6 ?_
    refine A_iload_n (pc := 9) dX5_build_9 rfl rfl ?_
    refine A_callS1 (pc := 10) kX5_69 (c_X0_with o1 hs1 hs2) dX5_build_10 rfl rfl (Nat.le_of_ble_eq_true rfl) (Nat.le_of_ble_eq_true rfl) ?_
    refine A_goto (pc := 13) 24 dX5_build_13 (by decide) ?_
    refine A_putL (pc := 24) fX5_9 wr_4_0 (shp_T hT) rfl dX5_build_24 ?_
    refine A_vret (pc := 27) rfl dX5_build_27 ?_
    exact ⟨rfl, by rw [if_pos h2]; exact hR.setH _, Fr.rf.uL (TSm 0 (by decide))⟩
theorem dX5_bear_0 : decode cX5_bear 0 = .ok (.aload_n 0, 1) := by decide +kernel
theorem dX5_bear_1 : decode cX5_bear 1 = .ok (.dup, 1) := by decide +kernel
theorem dX5_bear_2 : decode cX5_bear 2 = .ok (.getfield 28, 3) := by decide +kernel
theorem dX5_bear_5 : decode cX5_bear 5 = .ok (.iload_n 2, 1) := by decide +kernel
theorem dX5_bear_6 : decode cX5_bear 6 = .ok (.iadd, 1) := by decide +kernel
theorem dX5_bear_7 : decode cX5_bear 7 = .ok (.putfield 28, 3) := by decide +kernel
theorem dX5_bear_10 : decode cX5_bear 10 = .ok (.iload_n 2, 1) := by decide +kernel
theorem dX5_bear_11 : decode cX5_bear 11 = .ok (.ifCond .le 21, 3) := by decide +kernel
theorem dX5_bear_14 : decode cX5_bear 14 = .ok (.aload_n 0, 1) := by decide +kernel
theorem dX5_bear_15 : decode cX5_bear 15 = .ok (.iload_n 1, 1) := by decide +kernel
theorem dX5_bear_16 : decode cX5_bear 16 = .ok (.invokevirtual 79, 3) := by decide +kernel
theorem dX5_bear_19 : decode cX5_bear 19 = .ok (.ifCond .eq 13, 3) := by decide +kernel
theorem dX5_bear_22 : decode cX5_bear 22 = .ok (.aload_n 0, 1) := by decide +kernel
theorem dX5_bear_23 : decode cX5_bear 23 = .ok (.getfield 53, 3) := by decide +kernel
theorem dX5_bear_26 : decode cX5_bear 26 = .ok (.iload_n 1, 1) := by decide +kernel
theorem dX5_bear_27 : decode cX5_bear 27 = .ok (.dup2, 1) := by decide +kernel
theorem dX5_bear_28 : decode cX5_bear 28 = .ok (.iaload, 1) := by decide +kernel
theorem dX5_bear_29 : decode cX5_bear 29 = .ok (.iconst 1, 1) := by decide +kernel
theorem dX5_bear_30 : decode cX5_bear 30 = .ok (.iadd, 1) := by decide +kernel
theorem dX5_bear_31 : decode cX5_bear 31 = .ok (.iastore, 1) := by decide +kernel
theorem dX5_bear_32 : decode cX5_bear 32 = .ok (.return_, 1) := by decide +kernel
set_option maxRecDepth 20000 in
theorem c_X5_bear {G : Gl} {d : Nat} {σ : Sg} {c : Nat} (hT : TC c) {τ : Tw} (hR : RX c τ σ) (hO : OkT τ) {p : Nat} (hp : (p : Int) < τ.2.1 1) {m : Int} (m1 : 0 ≤ m) (m2 : m < 64) : CT G (d + 1) yX5_bear cX5_bear 3 none [.ref (gA G c), .int (iI (p : Int)), .int (iI m)] σ (RE none (fun υ => RX c (bea τ p m) υ ∧ Fr (TS c) σ υ)) := by
  refine CT.of (by decide +kernel) (Nat.le_of_ble_eq_true rfl) ?_
  change AW G _ RX5 _ _ _ 0 [(0, .ref (gA G c)), (1, .int (iI (p : Int))), (2, .int (iI m))] [] _ _
  have hO2 := hO
  obtain ⟨o1, o2, o3, o4, o5, o6, o7, o8, o9⟩ := hO2
  have p0 : σ.1 c 1 = τ.2.1 0 := hR.2.1 0 (by decide)
  have p1 : σ.1 c 2 = τ.2.1 1 := hR.2.1 1 (by decide)
  have p2 : σ.1 c 3 = τ.2.1 2 := hR.2.1 2 (by decide)
  have p3 : σ.1 c 4 = τ.2.1 3 := hR.2.1 3 (by decide)
  have p4 : σ.1 c 5 = τ.2.1 4 := hR.2.1 4 (by decide)
  have p5 : σ.1 c 6 = τ.2.1 5 := hR.2.1 5 (by decide)
  refine A_aload_n (pc := 0) dX5_bear_0 rfl rfl ?_
  refine A_dup (pc := 1) dX5_bear_1 rfl ?_
  refine A_getIv (pc := 2) fX5_28 (shp_T hT) rfl p4 dX5_bear_2 ?_
  refine A_iload_n (pc := 5) dX5_bear_5 rfl rfl ?_
  refine A_iadd (pc := 6) dX5_bear_6 ?_
  refine A_putI (pc := 7) fX5_28 wr_4_5 (shp_T hT) rfl dX5_bear_7 ?_
  have hR1 := hR.setS (τ.2.1 4 + m) (show 2 ≤ 4 by decide)
  have hO1 := hO.setS (τ.2.1 4 + m) (show 3 ≤ 4 by decide)
  refine A_iload_n (pc := 10) dX5_bear_10 rfl rfl ?_
  refine A_if_le (pc := 11) 32 dX5_bear_11 (by decide) (by omega) (by omega) (fun h11 => ?_) (fun h11 => ?_)
  · skip
    refine A_vret (pc := 32) rfl dX5_bear_32 ?_
    exact ⟨rfl, by rw [bea, if_neg (by omega)]; exact hR1, Fr.rf.uI (TSm 0 (by decide))⟩
  · skip
    refine A_aload_n (pc := 14) dX5_bear_14 rfl rfl ?_
    refine A_iload_n (pc := 15) dX5_bear_15 rfl rfl ?_
    refine A_callV1 (pc := 16) kX5_79 (shp_T hT) rfl (c_X5_isWalker hT hR1 hO1 (by omega) (by omega)) dX5_bear_16 rfl rfl (Nat.le_of_ble_eq_true rfl) (Nat.le_of_ble_eq_true rfl) ?_
    refine A_ifb_eq (pc := 19) 32 dX5_bear_19 (by decide) (fun h19 => ?_) (fun h19 => ?_)
    · skip
      refine A_vret (pc := 32) rfl dX5_bear_32 ?_
      exact absurd ⟨by omega, hp⟩ h19
    · skip
      refine A_aload_n (pc := 22) dX5_bear_22 rfl rfl ?_
      refine A_getR (pc := 23) fX5_53 (shp_T hT) rfl dX5_bear_23 ?_
      refine A_iload_n (pc := 26) dX5_bear_26 rfl rfl ?_
      refine A_dup2 (pc := 27) dX5_bear_27 rfl rfl ?_
      refine A_ialdv (pc := 28) _ (shp_T_walkerTried hT) rfl (by omega) (Nat.le_of_ble_eq_true rfl) (show _ = τ.2.2 6 p from by rw [uI_at, if_neg (by omega)]; exact hR.wt hp) dX5_bear_28 ?_
      refine A_iconst (pc := 29) dX5_bear_29 ?_
      refine A_iadd (pc := 30) dX5_bear_30 ?_
      refine A_iast (pc := 31) _ (shp_T_walkerTried hT) rfl (by omega) (Nat.le_of_ble_eq_true rfl) dX5_bear_31 ?_
      refine A_vret (pc := 32) rfl dX5_bear_32 ?_
      exact ⟨rfl, by rw [bea, if_pos (by omega)]; exact hR1.setA 6 p _ (by decide), (Fr.rf.uI (TSm 0 (by decide))).uI (TSm 7 (by decide))⟩
theorem dX5_draw_0 : decode cX5_draw 0 = .ok (.aload_n 0, 1) := by decide +kernel
theorem dX5_draw_1 : decode cX5_draw 1 = .ok (.aload_n 0, 1) := by decide +kernel
theorem dX5_draw_2 : decode cX5_draw 2 = .ok (.getfield 31, 3) := by decide +kernel
theorem dX5_draw_5 : decode cX5_draw 5 = .ok (.ldc 151, 2) := by decide +kernel
theorem dX5_draw_7 : decode cX5_draw 7 = .ok (.imul, 1) := by decide +kernel
theorem dX5_draw_8 : decode cX5_draw 8 = .ok (.sipush 12345, 3) := by decide +kernel
theorem dX5_draw_11 : decode cX5_draw 11 = .ok (.iadd, 1) := by decide +kernel
theorem dX5_draw_12 : decode cX5_draw 12 = .ok (.putfield 31, 3) := by decide +kernel
theorem dX5_draw_15 : decode cX5_draw 15 = .ok (.iload_n 1, 1) := by decide +kernel
theorem dX5_draw_16 : decode cX5_draw 16 = .ok (.ifCond .le 15, 3) := by decide +kernel
theorem dX5_draw_19 : decode cX5_draw 19 = .ok (.aload_n 0, 1) := by decide +kernel
theorem dX5_draw_20 : decode cX5_draw 20 = .ok (.getfield 31, 3) := by decide +kernel
theorem dX5_draw_23 : decode cX5_draw 23 = .ok (.bipush 16, 2) := by decide +kernel
theorem dX5_draw_25 : decode cX5_draw 25 = .ok (.iushr, 1) := by decide +kernel
theorem dX5_draw_26 : decode cX5_draw 26 = .ok (.iload_n 1, 1) := by decide +kernel
theorem dX5_draw_27 : decode cX5_draw 27 = .ok (.irem, 1) := by decide +kernel
theorem dX5_draw_28 : decode cX5_draw 28 = .ok (.goto 4, 3) := by decide +kernel
theorem dX5_draw_31 : decode cX5_draw 31 = .ok (.iconst 0, 1) := by decide +kernel
theorem dX5_draw_32 : decode cX5_draw 32 = .ok (.ireturn, 1) := by decide +kernel
set_option maxRecDepth 20000 in
theorem c_X5_draw {G : Gl} {d : Nat} {σ : Sg} {c : Nat} (hT : TC c) {τ : Tw} (hR : RX c τ σ) (hO : OkT τ)  : CT G d yX5_draw cX5_draw 2 (some .int) [.ref (gA G c), .int (iI 4)] σ (RE (some (.int (iI (dval (τ.2.1 5))))) (fun υ => RX c (tS τ 5 (dseed (τ.2.1 5))) υ ∧ Fr (TS c) σ υ)) := by
  refine CT.of (by decide +kernel) (Nat.le_of_ble_eq_true rfl) ?_
  change AW G _ RX5 _ _ _ 0 [(0, .ref (gA G c)), (1, .int (iI 4))] [] _ _
  have hO2 := hO
  obtain ⟨o1, o2, o3, o4, o5, o6, o7, o8, o9⟩ := hO2
  have p0 : σ.1 c 1 = τ.2.1 0 := hR.2.1 0 (by decide)
  have p1 : σ.1 c 2 = τ.2.1 1 := hR.2.1 1 (by decide)
  have p2 : σ.1 c 3 = τ.2.1 2 := hR.2.1 2 (by decide)
  have p3 : σ.1 c 4 = τ.2.1 3 := hR.2.1 3 (by decide)
  have p4 : σ.1 c 5 = τ.2.1 4 := hR.2.1 4 (by decide)
  have p5 : σ.1 c 6 = τ.2.1 5 := hR.2.1 5 (by decide)
  refine A_aload_n (pc := 0) dX5_draw_0 rfl rfl ?_
  refine A_aload_n (pc := 1) dX5_draw_1 rfl rfl ?_
  refine A_getIv (pc := 2) fX5_31 (shp_T hT) rfl p5 dX5_draw_2 ?_
  refine A_ldc (pc := 5) inX5_151 dX5_draw_5 ?_
  refine A_imul (pc := 7) dX5_draw_7 ?_
  refine A_sipush (pc := 8) dX5_draw_8 (by decide) ?_
  refine A_iadd (pc := 11) dX5_draw_11 ?_
  refine A_putI (pc := 12) fX5_31 wr_4_6 (shp_T hT) rfl dX5_draw_12 ?_
  refine A_iload_n (pc := 15) dX5_draw_15 rfl rfl ?_
  refine A_if_le (pc := 16) 31 dX5_draw_16 (by decide) (by omega) (by omega) (fun h16 => ?_) (fun h16 => ?_)
  · skip
    refine A_iconst (pc := 31) dX5_draw_31 ?_
    refine A_iret (pc := 32) rfl dX5_draw_32 ?_
    exfalso; omega
  · skip
    refine A_aload_n (pc := 19) dX5_draw_19 rfl rfl ?_
    refine A_getIv (pc := 20) fX5_31 (shp_T hT) rfl (show _ = dseed (τ.2.1 5) from by rw [uI_at, if_pos ⟨rfl, rfl⟩]; rfl) dX5_draw_20 ?_
    refine A_bipush (pc := 23) dX5_draw_23 (by decide) ?_
    refine A_iushr (pc := 25) (dseed (τ.2.1 5) % 4294967296 / 65536) dX5_draw_25 (ushr16 _) ?_
    refine A_iload_n (pc := 26) dX5_draw_26 rfl rfl ?_
    refine A_irem (pc := 27) dX5_draw_27 (by omega) (by omega) (by omega) (by omega) ?_
    refine A_goto (pc := 28) 32 dX5_draw_28 (by decide) ?_
    refine A_iret (pc := 32) rfl dX5_draw_32 ?_
    exact ⟨rfl, hR.setS _ (by decide), Fr.rf.uI (TSm 0 (by decide))⟩
theorem dX5_liveOneDay_0 : decode cX5_liveOneDay 0 = .ok (.aload_n 0, 1) := by decide +kernel
theorem dX5_liveOneDay_1 : decode cX5_liveOneDay 1 = .ok (.dup, 1) := by decide +kernel
theorem dX5_liveOneDay_2 : decode cX5_liveOneDay 2 = .ok (.getfield 25, 3) := by decide +kernel
theorem dX5_liveOneDay_5 : decode cX5_liveOneDay 5 = .ok (.iconst 1, 1) := by decide +kernel
theorem dX5_liveOneDay_6 : decode cX5_liveOneDay 6 = .ok (.iadd, 1) := by decide +kernel
theorem dX5_liveOneDay_7 : decode cX5_liveOneDay 7 = .ok (.putfield 25, 3) := by decide +kernel
theorem dX5_liveOneDay_10 : decode cX5_liveOneDay 10 = .ok (.iconst 0, 1) := by decide +kernel
theorem dX5_liveOneDay_11 : decode cX5_liveOneDay 11 = .ok (.istore_n 1, 1) := by decide +kernel
theorem dX5_liveOneDay_12 : decode cX5_liveOneDay 12 = .ok (.iload_n 1, 1) := by decide +kernel
theorem dX5_liveOneDay_13 : decode cX5_liveOneDay 13 = .ok (.aload_n 0, 1) := by decide +kernel
theorem dX5_liveOneDay_14 : decode cX5_liveOneDay 14 = .ok (.getfield 19, 3) := by decide +kernel
theorem dX5_liveOneDay_17 : decode cX5_liveOneDay 17 = .ok (.if_icmp .ge 55, 3) := by decide +kernel
theorem dX5_liveOneDay_20 : decode cX5_liveOneDay 20 = .ok (.iload_n 1, 1) := by decide +kernel
theorem dX5_liveOneDay_21 : decode cX5_liveOneDay 21 = .ok (.iconst 5, 1) := by decide +kernel
theorem dX5_liveOneDay_22 : decode cX5_liveOneDay 22 = .ok (.if_icmp .ge 50, 3) := by decide +kernel
theorem dX5_liveOneDay_25 : decode cX5_liveOneDay 25 = .ok (.aload_n 0, 1) := by decide +kernel
theorem dX5_liveOneDay_26 : decode cX5_liveOneDay 26 = .ok (.iconst 4, 1) := by decide +kernel
theorem dX5_liveOneDay_27 : decode cX5_liveOneDay 27 = .ok (.invokevirtual 134, 3) := by decide +kernel
theorem dX5_liveOneDay_30 : decode cX5_liveOneDay 30 = .ok (.istore_n 2, 1) := by decide +kernel
theorem dX5_liveOneDay_31 : decode cX5_liveOneDay 31 = .ok (.aload_n 0, 1) := by decide +kernel
theorem dX5_liveOneDay_32 : decode cX5_liveOneDay 32 = .ok (.getfield 47, 3) := by decide +kernel
theorem dX5_liveOneDay_35 : decode cX5_liveOneDay 35 = .ok (.iload_n 1, 1) := by decide +kernel
theorem dX5_liveOneDay_36 : decode cX5_liveOneDay 36 = .ok (.iaload, 1) := by decide +kernel
theorem dX5_liveOneDay_37 : decode cX5_liveOneDay 37 = .ok (.iload_n 2, 1) := by decide +kernel
theorem dX5_liveOneDay_38 : decode cX5_liveOneDay 38 = .ok (.invokestatic 120, 3) := by decide +kernel
theorem dX5_liveOneDay_41 : decode cX5_liveOneDay 41 = .ok (.istore_n 3, 1) := by decide +kernel
theorem dX5_liveOneDay_42 : decode cX5_liveOneDay 42 = .ok (.aload_n 0, 1) := by decide +kernel
theorem dX5_liveOneDay_43 : decode cX5_liveOneDay 43 = .ok (.iload_n 1, 1) := by decide +kernel
theorem dX5_liveOneDay_44 : decode cX5_liveOneDay 44 = .ok (.aload_n 0, 1) := by decide +kernel
theorem dX5_liveOneDay_45 : decode cX5_liveOneDay 45 = .ok (.iload_n 3, 1) := by decide +kernel
theorem dX5_liveOneDay_46 : decode cX5_liveOneDay 46 = .ok (.invokevirtual 137, 3) := by decide +kernel
theorem dX5_liveOneDay_49 : decode cX5_liveOneDay 49 = .ok (.ifCond .eq 7, 3) := by decide +kernel
theorem dX5_liveOneDay_52 : decode cX5_liveOneDay 52 = .ok (.iload_n 3, 1) := by decide +kernel
theorem dX5_liveOneDay_53 : decode cX5_liveOneDay 53 = .ok (.goto 9, 3) := by decide +kernel
theorem dX5_liveOneDay_56 : decode cX5_liveOneDay 56 = .ok (.aload_n 0, 1) := by decide +kernel
theorem dX5_liveOneDay_57 : decode cX5_liveOneDay 57 = .ok (.getfield 47, 3) := by decide +kernel
theorem dX5_liveOneDay_60 : decode cX5_liveOneDay 60 = .ok (.iload_n 1, 1) := by decide +kernel
theorem dX5_liveOneDay_61 : decode cX5_liveOneDay 61 = .ok (.iaload, 1) := by decide +kernel
theorem dX5_liveOneDay_62 : decode cX5_liveOneDay 62 = .ok (.iload_n 2, 1) := by decide +kernel
theorem dX5_liveOneDay_63 : decode cX5_liveOneDay 63 = .ok (.invokevirtual 140, 3) := by decide +kernel
theorem dX5_liveOneDay_66 : decode cX5_liveOneDay 66 = .ok (.iinc 1 1, 3) := by decide +kernel
theorem dX5_liveOneDay_69 : decode cX5_liveOneDay 69 = .ok (.goto (-57), 3) := by decide +kernel
theorem dX5_liveOneDay_72 : decode cX5_liveOneDay 72 = .ok (.iconst 0, 1) := by decide +kernel
theorem dX5_liveOneDay_73 : decode cX5_liveOneDay 73 = .ok (.istore_n 1, 1) := by decide +kernel
theorem dX5_liveOneDay_74 : decode cX5_liveOneDay 74 = .ok (.iload_n 1, 1) := by decide +kernel
theorem dX5_liveOneDay_75 : decode cX5_liveOneDay 75 = .ok (.aload_n 0, 1) := by decide +kernel
theorem dX5_liveOneDay_76 : decode cX5_liveOneDay 76 = .ok (.getfield 19, 3) := by decide +kernel
theorem dX5_liveOneDay_79 : decode cX5_liveOneDay 79 = .ok (.if_icmp .ge 27, 3) := by decide +kernel
theorem dX5_liveOneDay_82 : decode cX5_liveOneDay 82 = .ok (.iload_n 1, 1) := by decide +kernel
theorem dX5_liveOneDay_83 : decode cX5_liveOneDay 83 = .ok (.iconst 5, 1) := by decide +kernel
theorem dX5_liveOneDay_84 : decode cX5_liveOneDay 84 = .ok (.if_icmp .ge 22, 3) := by decide +kernel
theorem dX5_liveOneDay_87 : decode cX5_liveOneDay 87 = .ok (.aload_n 0, 1) := by decide +kernel
theorem dX5_liveOneDay_88 : decode cX5_liveOneDay 88 = .ok (.iload_n 1, 1) := by decide +kernel
theorem dX5_liveOneDay_89 : decode cX5_liveOneDay 89 = .ok (.aload_n 0, 1) := by decide +kernel
theorem dX5_liveOneDay_90 : decode cX5_liveOneDay 90 = .ok (.iload_n 1, 1) := by decide +kernel
theorem dX5_liveOneDay_91 : decode cX5_liveOneDay 91 = .ok (.invokevirtual 144, 3) := by decide +kernel
theorem dX5_liveOneDay_94 : decode cX5_liveOneDay 94 = .ok (.invokestatic 115, 3) := by decide +kernel
theorem dX5_liveOneDay_97 : decode cX5_liveOneDay 97 = .ok (.invokevirtual 147, 3) := by decide +kernel
theorem dX5_liveOneDay_100 : decode cX5_liveOneDay 100 = .ok (.iinc 1 1, 3) := by decide +kernel
theorem dX5_liveOneDay_103 : decode cX5_liveOneDay 103 = .ok (.goto (-29), 3) := by decide +kernel
theorem dX5_liveOneDay_106 : decode cX5_liveOneDay 106 = .ok (.return_, 1) := by decide +kernel
set_option maxRecDepth 20000 in
theorem l2_X5_liveOneDay {G : Gl} {d : Nat} {σ0 : Sg} {K : Option Value → Sg → Prop} {c : Nat} (hT : TC c) : ∀ (n i : Nat) (τ : Tw) (σ : Sg), (i : Int) + n = τ.2.1 1 → RX c τ σ → OkT τ → Fr (TS c) σ0 σ → (∀ υ, RX c (beaG n i τ) υ → Fr (TS c) σ0 υ → K none υ) → AW G (d + 4) RX5 cX5_liveOneDay 4 none 74 [(0, .ref (gA G c)), (1, .int (iI (i : Int)))] [] σ K := by
  intro n
  induction n using Nat.strongRecOn
  rename_i n ih
  intro i τ σ hn hR hO hF hK
  have hO2 := hO
  obtain ⟨o1, o2, o3, o4, o5, o6, o7, o8, o9⟩ := hO2
  have p0 : σ.1 c 1 = τ.2.1 0 := hR.2.1 0 (by decide)
  have p1 : σ.1 c 2 = τ.2.1 1 := hR.2.1 1 (by decide)
  have p2 : σ.1 c 3 = τ.2.1 2 := hR.2.1 2 (by decide)
  have p3 : σ.1 c 4 = τ.2.1 3 := hR.2.1 3 (by decide)
  have p4 : σ.1 c 5 = τ.2.1 4 := hR.2.1 4 (by decide)
  have p5 : σ.1 c 6 = τ.2.1 5 := hR.2.1 5 (by decide)
  refine A_iload_n (pc := 74) dX5_liveOneDay_74 rfl rfl ?_
  refine A_aload_n (pc := 75) dX5_liveOneDay_75 rfl rfl ?_
  refine A_getIv (pc := 76) fX5_19 (shp_T hT) rfl p1 dX5_liveOneDay_76 ?_
  refine A_icmp_ge (pc := 79) 106 dX5_liveOneDay_79 (by decide) (by omega) (by omega) (by omega) (by omega) (fun h79 => ?_) (fun h79 => ?_)
  · skip
    refine A_vret (pc := 106) rfl dX5_liveOneDay_106 ?_
    have hn0 : n = 0 := by omega
    subst hn0
    exact hK σ hR hF
  · skip
    refine A_iload_n (pc := 82) dX5_liveOneDay_82 rfl rfl ?_
    refine A_iconst (pc := 83) dX5_liveOneDay_83 ?_
    refine A_icmp_ge (pc := 84) 106 dX5_liveOneDay_84 (by decide) (by omega) (by omega) (by omega) (by omega) (fun h84 => ?_) (fun h84 => ?_)
    · skip
      refine A_vret (pc := 106) rfl dX5_liveOneDay_106 ?_
      exfalso; omega
    · skip
      refine A_aload_n (pc := 87) dX5_liveOneDay_87 rfl rfl ?_
      refine A_iload_n (pc := 88) dX5_liveOneDay_88 rfl rfl ?_
      refine A_aload_n (pc := 89) dX5_liveOneDay_89 rfl rfl ?_
      refine A_iload_n (pc := 90) dX5_liveOneDay_90 rfl rfl ?_
      refine A_callV1 (pc := 91) kX5_144 (shp_T hT) rfl (c_X5_lookedInBy hT hR hO (by omega)) dX5_liveOneDay_91 rfl rfl (Nat.le_of_ble_eq_true rfl) (Nat.le_of_ble_eq_true rfl) ?_
      refine A_callS1 (pc := 94) kX5_115 (c_J6_bitCount_0f7a4) dX5_liveOneDay_94 rfl rfl (Nat.le_of_ble_eq_true rfl) (Nat.le_of_ble_eq_true rfl) ?_
      refine A_callVe0 (pc := 97) kX5_147 (shp_T hT) rfl (c_X5_bear hT hR hO (p := i) (by omega) (sham_rng τ (τ.2.2 4 i) (τ.2.2 5 i)).1 (sham_rng τ (τ.2.2 4 i) (τ.2.2 5 i)).2) dX5_liveOneDay_97 rfl rfl (Nat.le_of_ble_eq_true rfl) (Nat.le_of_ble_eq_true rfl) (fun υ hυ => ?_)
      refine A_iinc (pc := 100) dX5_liveOneDay_100 rfl (Nat.le_of_ble_eq_true rfl) ?_
      refine A_goto (pc := 103) 74 dX5_liveOneDay_103 (by decide) ?_
      obtain ⟨m, rfl⟩ : ∃ m, n = m + 1 := ⟨n - 1, by omega⟩
      refine A_loc (l2 := [(0, _), (1, _)]) ⟨rfl, rfl, trivial⟩ ?_
      refine ih m (by omega) (i + 1) _ υ (by rw [bea_nw]; omega) hυ.1 (hO.okBea _ _) (hF.tr hυ.2) ?_
      intro w h1 h2
      exact hK w h1 h2
set_option maxRecDepth 20000 in
theorem l1_X5_liveOneDay {G : Gl} {d : Nat} {σ0 : Sg} {K : Option Value → Sg → Prop} {c : Nat} (hT : TC c) : ∀ (n i : Nat) (τ : Tw) (σ : Sg), (i : Int) + n = τ.2.1 1 → RX c τ σ → OkT τ → Fr (TS c) σ0 σ → (∀ υ, RX c (stpG n i τ) υ → Fr (TS c) σ0 υ → AW G (d + 4) RX5 cX5_liveOneDay 4 none 72 [(0, .ref (gA G c))] [] υ K) → AW G (d + 4) RX5 cX5_liveOneDay 4 none 12 [(0, .ref (gA G c)), (1, .int (iI (i : Int)))] [] σ K := by
  intro n
  induction n using Nat.strongRecOn
  rename_i n ih
  intro i τ σ hn hR hO hF hK
  have hO2 := hO
  obtain ⟨o1, o2, o3, o4, o5, o6, o7, o8, o9⟩ := hO2
  have p0 : σ.1 c 1 = τ.2.1 0 := hR.2.1 0 (by decide)
  have p1 : σ.1 c 2 = τ.2.1 1 := hR.2.1 1 (by decide)
  have p2 : σ.1 c 3 = τ.2.1 2 := hR.2.1 2 (by decide)
  have p3 : σ.1 c 4 = τ.2.1 3 := hR.2.1 3 (by decide)
  have p4 : σ.1 c 5 = τ.2.1 4 := hR.2.1 4 (by decide)
  have p5 : σ.1 c 6 = τ.2.1 5 := hR.2.1 5 (by decide)
  refine A_iload_n (pc := 12) dX5_liveOneDay_12 rfl rfl ?_
  refine A_aload_n (pc := 13) dX5_liveOneDay_13 rfl rfl ?_
  refine A_getIv (pc := 14) fX5_19 (shp_T hT) rfl p1 dX5_liveOneDay_14 ?_
  refine A_icmp_ge (pc := 17) 72 dX5_liveOneDay_17 (by decide) (by omega) (by omega) (by omega) (by omega) (fun h17 => ?_) (fun h17 => ?_)
  · skip
    have hn0 : n = 0 := by omega
    subst hn0
    refine A_loc (l2 := [(0, _)]) ⟨rfl, trivial⟩ ?_
    exact hK σ hR hF
  · skip
    refine A_iload_n (pc := 20) dX5_liveOneDay_20 rfl rfl ?_
    refine A_iconst (pc := 21) dX5_liveOneDay_21 ?_
    refine A_icmp_ge (pc := 22) 72 dX5_liveOneDay_22 (by decide) (by omega) (by omega) (by omega) (by omega) (fun h22 => ?_) (fun h22 => ?_)
    · skip
      exfalso; omega
    · skip
      refine A_aload_n (pc := 25) dX5_liveOneDay_25 rfl rfl ?_
      refine A_iconst (pc := 26) dX5_liveOneDay_26 ?_
      refine A_callVe (pc := 27) kX5_134 (shp_T hT) rfl (c_X5_draw hT hR hO) dX5_liveOneDay_27 rfl rfl (Nat.le_of_ble_eq_true rfl) (Nat.le_of_ble_eq_true rfl) (fun υ hυ => ?_)
      refine A_istore_n (pc := 30) dX5_liveOneDay_30 rfl (Nat.le_of_ble_eq_true rfl) ?_
      have hR1 := hυ.1
      have hO1 := hO.setS (k := 5) (dseed (τ.2.1 5)) (by decide)
      have hd := dval_rng (τ.2.1 5)
      have q9 := o9 i (by omega)
      have hb := bes_rng (τ.2.2 4 i) (dval (τ.2.1 5))
      refine A_aload_n (pc := 31) dX5_liveOneDay_31 rfl rfl ?_
      refine A_getR (pc := 32) fX5_47 (shp_T hT) rfl dX5_liveOneDay_32 ?_
      refine A_iload_n (pc := 35) dX5_liveOneDay_35 rfl rfl ?_
      refine A_ialdv (pc := 36) _ (shp_T_walkerAt hT) rfl (by omega) (Nat.le_of_ble_eq_true rfl) (show _ = τ.2.2 4 i from hR1.wat (by show (i : Int) < τ.2.1 1; omega)) dX5_liveOneDay_36 ?_
      refine A_iload_n (pc := 37) dX5_liveOneDay_37 rfl rfl ?_
      refine A_callS1 (pc := 38) kX5_120 (c_X0_beside (by omega) (by omega) (by omega) (by omega)) dX5_liveOneDay_38 rfl rfl (Nat.le_of_ble_eq_true rfl) (Nat.le_of_ble_eq_true rfl) ?_
      refine A_istore_n (pc := 41) dX5_liveOneDay_41 rfl (Nat.le_of_ble_eq_true rfl) ?_
      refine A_aload_n (pc := 42) dX5_liveOneDay_42 rfl rfl ?_
      refine A_iload_n (pc := 43) dX5_liveOneDay_43 rfl rfl ?_
      refine A_aload_n (pc := 44) dX5_liveOneDay_44 rfl rfl ?_
      refine A_iload_n (pc := 45) dX5_liveOneDay_45 rfl rfl ?_
      refine A_callV1 (pc := 46) kX5_137 (shp_T hT) rfl (c_X5_isYard hT hR1 hO1 (by omega) (by omega)) dX5_liveOneDay_46 rfl rfl (Nat.le_of_ble_eq_true rfl) (Nat.le_of_ble_eq_true rfl) ?_
      refine A_ifb_eq (pc := 49) 56 dX5_liveOneDay_49 (by decide) (fun h49 => ?_) (fun h49 => ?_)
      · skip
        refine A_aload_n (pc := 56) dX5_liveOneDay_56 rfl rfl ?_
        refine A_getR (pc := 57) fX5_47 (shp_T hT) rfl dX5_liveOneDay_57 ?_
        refine A_iload_n (pc := 60) dX5_liveOneDay_60 rfl rfl ?_
        refine A_ialdv (pc := 61) _ (shp_T_walkerAt hT) rfl (by omega) (Nat.le_of_ble_eq_true rfl) (show _ = τ.2.2 4 i from hR1.wat (by show (i : Int) < τ.2.1 1; omega)) dX5_liveOneDay_61 ?_
        refine A_iload_n (pc := 62) dX5_liveOneDay_62 rfl rfl ?_
        refine A_callVe0 (pc := 63) kX5_140 (shp_T hT) rfl (c_X5_place hT hR1 hO1 (p := i) (by show (i : Int) < τ.2.1 1; omega)) dX5_liveOneDay_63 rfl rfl (Nat.le_of_ble_eq_true rfl) (Nat.le_of_ble_eq_true rfl) (fun χ hχ => ?_)
        refine A_iinc (pc := 66) dX5_liveOneDay_66 rfl (Nat.le_of_ble_eq_true rfl) ?_
        refine A_goto (pc := 69) 12 dX5_liveOneDay_69 (by decide) ?_
        obtain ⟨m, rfl⟩ : ∃ m, n = m + 1 := ⟨n - 1, by omega⟩
        refine A_loc (l2 := [(0, _), (1, _)]) ⟨rfl, rfl, trivial⟩ ?_
        have hW : RX c (stpW τ i) χ := by rw [stpW, if_neg (show ¬ (inS (bes (τ.2.2 4 i) (dval (τ.2.1 5))) ∧ ¬ sT τ.1 (bes (τ.2.2 4 i) (dval (τ.2.1 5)))) from h49)]; exact hχ.1
        refine ih m (by omega) (i + 1) _ χ (by rw [stpW_nw]; omega) hW (hO.okStp (by omega)) ((hF.tr hυ.2).tr hχ.2) ?_
        intro w h1 h2
        exact hK w h1 h2
      · skip
        refine A_iload_n (pc := 52) dX5_liveOneDay_52 rfl rfl ?_
        refine A_goto (pc := 53) 62 dX5_liveOneDay_53 (by decide) ?_
        refine A_iload_n (pc := 62) dX5_liveOneDay_62 rfl rfl ?_
        refine A_callVe0 (pc := 63) kX5_140 (shp_T hT) rfl (c_X5_place hT hR1 hO1 (p := i) (by show (i : Int) < τ.2.1 1; omega)) dX5_liveOneDay_63 rfl rfl (Nat.le_of_ble_eq_true rfl) (Nat.le_of_ble_eq_true rfl) (fun χ hχ => ?_)
        refine A_iinc (pc := 66) dX5_liveOneDay_66 rfl (Nat.le_of_ble_eq_true rfl) ?_
        refine A_goto (pc := 69) 12 dX5_liveOneDay_69 (by decide) ?_
        obtain ⟨m, rfl⟩ : ∃ m, n = m + 1 := ⟨n - 1, by omega⟩
        refine A_loc (l2 := [(0, _), (1, _)]) ⟨rfl, rfl, trivial⟩ ?_
        have hW : RX c (stpW τ i) χ := by rw [stpW, if_pos (show (inS (bes (τ.2.2 4 i) (dval (τ.2.1 5))) ∧ ¬ sT τ.1 (bes (τ.2.2 4 i) (dval (τ.2.1 5)))) from h49)]; exact hχ.1
        refine ih m (by omega) (i + 1) _ χ (by rw [stpW_nw]; omega) hW (hO.okStp (by omega)) ((hF.tr hυ.2).tr hχ.2) ?_
        intro w h1 h2
        exact hK w h1 h2
set_option maxRecDepth 20000 in
theorem c_X5_liveOneDay {G : Gl} {d : Nat} {σ : Sg} {c : Nat} (hT : TC c) {τ : Tw} (hR : RX c τ σ) (hO : OkT τ)  : CT G (d + 4) yX5_liveOneDay cX5_liveOneDay 4 none [.ref (gA G c)] σ (RE none (fun υ => RX c (day τ) υ ∧ Fr (TS c) σ υ)) := by
  refine CT.of (by decide +kernel) (Nat.le_of_ble_eq_true rfl) ?_
  change AW G _ RX5 _ _ _ 0 [(0, .ref (gA G c))] [] _ _
  have hO2 := hO
  obtain ⟨o1, o2, o3, o4, o5, o6, o7, o8, o9⟩ := hO2
  have p0 : σ.1 c 1 = τ.2.1 0 := hR.2.1 0 (by decide)
  have p1 : σ.1 c 2 = τ.2.1 1 := hR.2.1 1 (by decide)
  have p2 : σ.1 c 3 = τ.2.1 2 := hR.2.1 2 (by decide)
  have p3 : σ.1 c 4 = τ.2.1 3 := hR.2.1 3 (by decide)
  have p4 : σ.1 c 5 = τ.2.1 4 := hR.2.1 4 (by decide)
  have p5 : σ.1 c 6 = τ.2.1 5 := hR.2.1 5 (by decide)
  refine A_aload_n (pc := 0) dX5_liveOneDay_0 rfl rfl ?_
  refine A_dup (pc := 1) dX5_liveOneDay_1 rfl ?_
  refine A_getIv (pc := 2) fX5_25 (shp_T hT) rfl p3 dX5_liveOneDay_2 ?_
  refine A_iconst (pc := 5) dX5_liveOneDay_5 ?_
  refine A_iadd (pc := 6) dX5_liveOneDay_6 ?_
  refine A_putI (pc := 7) fX5_25 wr_4_4 (shp_T hT) rfl dX5_liveOneDay_7 ?_
  have hR1 := hR.setS (τ.2.1 3 + 1) (show 2 ≤ 3 by decide)
  have hO1 := hO.setS (τ.2.1 3 + 1) (show 3 ≤ 3 by decide)
  refine A_iconst (pc := 10) dX5_liveOneDay_10 ?_
  refine A_istore_n (pc := 11) dX5_liveOneDay_11 rfl (Nat.le_of_ble_eq_true rfl) ?_
  refine A_loc (l2 := [(0, _), (1, _)]) ⟨rfl, rfl, trivial⟩ ?_
  refine l1_X5_liveOneDay hT (τ.2.1 1).toNat 0 _ _ (by show _ = τ.2.1 1; omega) hR1 hO1 (Fr.rf.uI (TSm 0 (by decide))) ?_
  intro υ h1 h2
  refine A_iconst (pc := 72) dX5_liveOneDay_72 ?_
  refine A_istore_n (pc := 73) dX5_liveOneDay_73 rfl (Nat.le_of_ble_eq_true rfl) ?_
  refine A_loc (l2 := [(0, _), (1, _)]) ⟨rfl, rfl, trivial⟩ ?_
  have hG := OkT.okStpG (τ.2.1 1).toNat 0 _ hO1 (by show _ = τ.2.1 1; omega)
  refine l2_X5_liveOneDay hT (τ.2.1 1).toNat 0 _ υ (by rw [hG.2]; show _ = τ.2.1 1; omega) h1 hG.1 h2 ?_
  intro w h3 h4
  exact ⟨rfl, h3, h4⟩
end
section
/-! PART 13: Town.become; WindowsLookedOut$Shelf -/
/-- the town at c is that at c2 of the store σ0: the first i panes' and m walkers' numbers as yet -/
def BecI (c c2 i m : Nat) (σ0 σ : Sg) : Prop := Fr (TS c) σ0 σ ∧ σ.2 c 0 = σ0.2 c2 0 ∧ (∀ k, k < 6 → σ.1 c (k + 1) = σ0.1 c2 (k + 1)) ∧ (∀ j p, j < 4 → p < i → σ.1 (c + 1 + j) p = σ0.1 (c2 + 1 + j) p) ∧ (∀ j p, j < 3 → p < m → σ.1 (c + 5 + j) p = σ0.1 (c2 + 5 + j) p)
theorem BecI.stepP {c c2 i m : Nat} {σ0 σ : Sg} (h : BecI c c2 i m σ0 σ) : BecI c c2 (i + 1) m σ0 (uI (uI (uI (uI σ (c + 1) i (σ0.1 (c2 + 1) i)) (c + 2) i (σ0.1 (c2 + 2) i)) (c + 3) i (σ0.1 (c2 + 3) i)) (c + 4) i (σ0.1 (c2 + 4) i)) := by
  obtain ⟨h1, h2, h3, h4, h5⟩ := h
  refine ⟨(((h1.uI (TSm 1 (by decide))).uI (TSm 2 (by decide))).uI (TSm 3 (by decide))).uI (TSm 4 (by decide)), h2, fun k hk => ?_, fun j p hj hp => ?_, fun j p hj hp => ?_⟩
  · rw [uI_at, if_neg (by omega), uI_at, if_neg (by omega), uI_at, if_neg (by omega), uI_at, if_neg (by omega)]; exact h3 k hk
  · by_cases e : p = i
    · subst e
      have hh : j = 0 ∨ j = 1 ∨ j = 2 ∨ j = 3 := by omega
      rcases hh with rfl | rfl | rfl | rfl <;> simp [uI_at]
    · rw [uI_at, if_neg (by omega), uI_at, if_neg (by omega), uI_at, if_neg (by omega), uI_at, if_neg (by omega)]; exact h4 j p hj (by omega)
  · rw [uI_at, if_neg (by omega), uI_at, if_neg (by omega), uI_at, if_neg (by omega), uI_at, if_neg (by omega)]; exact h5 j p hj hp
theorem BecI.stepW {c c2 i m : Nat} {σ0 σ : Sg} (h : BecI c c2 i m σ0 σ) : BecI c c2 i (m + 1) σ0 (uI (uI (uI σ (c + 5) m (σ0.1 (c2 + 5) m)) (c + 6) m (σ0.1 (c2 + 6) m)) (c + 7) m (σ0.1 (c2 + 7) m)) := by
  obtain ⟨h1, h2, h3, h4, h5⟩ := h
  refine ⟨((h1.uI (TSm 5 (by decide))).uI (TSm 6 (by decide))).uI (TSm 7 (by decide)), h2, fun k hk => ?_, fun j p hj hp => ?_, fun j p hj hp => ?_⟩
  · rw [uI_at, if_neg (by omega), uI_at, if_neg (by omega), uI_at, if_neg (by omega)]; exact h3 k hk
  · rw [uI_at, if_neg (by omega), uI_at, if_neg (by omega), uI_at, if_neg (by omega)]; exact h4 j p hj hp
  · by_cases e : p = m
    · subst e
      have hh : j = 0 ∨ j = 1 ∨ j = 2 := by omega
      rcases hh with rfl | rfl | rfl <;> simp [uI_at]
    · rw [uI_at, if_neg (by omega), uI_at, if_neg (by omega), uI_at, if_neg (by omega)]; exact h5 j p hj (by omega)
theorem BecI.RX {c c2 : Nat} {σ0 σ : Sg} {τ : Tw} (h : BecI c c2 9 5 σ0 σ) (hR : RX c2 τ σ0) (hO : OkT τ) : RX c τ σ := by
  obtain ⟨-, h2, h3, h4, h5⟩ := h
  obtain ⟨r1, r2, r3, r4⟩ := hR
  obtain ⟨-, o2, o3, o4, o5, -⟩ := hO
  exact ⟨h2.trans r1, fun k hk => (h3 k hk).trans (r2 k hk), fun j p hj hp => (h4 j p hj (by omega)).trans (r3 j p hj hp), fun j p hj hp => (h5 j p hj (by omega)).trans (r4 j p hj hp)⟩
theorem BecI.oth {c c2 i m : Nat} {σ0 σ : Sg} (h : BecI c c2 i m σ0 σ) (hT : TC c) (hT2 : TC c2) (hne : c ≠ c2) (j p : Nat) (hj : j < 8) : σ.1 (c2 + j) p = σ0.1 (c2 + j) p := by
  have t1 : c = 14 ∨ c = 22 ∨ c = 30 := hT
  have t2 : c2 = 14 ∨ c2 = 22 ∨ c2 = 30 := hT2
  have e := (h.1 (c2 + j) (by unfold TS; omega)).1
  rw [e]
theorem dX5_become_0 : decode cX5_become 0 = .ok (.aload_n 0, 1) := by decide +kernel
theorem dX5_become_1 : decode cX5_become 1 = .ok (.aload_n 1, 1) := by decide +kernel
theorem dX5_become_2 : decode cX5_become 2 = .ok (.getfield 9, 3) := by decide +kernel
theorem dX5_become_5 : decode cX5_become 5 = .ok (.putfield 9, 3) := by decide +kernel
theorem dX5_become_8 : decode cX5_become 8 = .ok (.aload_n 0, 1) := by decide +kernel
theorem dX5_become_9 : decode cX5_become 9 = .ok (.aload_n 1, 1) := by decide +kernel
theorem dX5_become_10 : decode cX5_become 10 = .ok (.getfield 15, 3) := by decide +kernel
theorem dX5_become_13 : decode cX5_become 13 = .ok (.putfield 15, 3) := by decide +kernel
theorem dX5_become_16 : decode cX5_become 16 = .ok (.aload_n 0, 1) := by decide +kernel
theorem dX5_become_17 : decode cX5_become 17 = .ok (.aload_n 1, 1) := by decide +kernel
theorem dX5_become_18 : decode cX5_become 18 = .ok (.getfield 19, 3) := by decide +kernel
theorem dX5_become_21 : decode cX5_become 21 = .ok (.putfield 19, 3) := by decide +kernel
theorem dX5_become_24 : decode cX5_become 24 = .ok (.aload_n 0, 1) := by decide +kernel
theorem dX5_become_25 : decode cX5_become 25 = .ok (.aload_n 1, 1) := by decide +kernel
theorem dX5_become_26 : decode cX5_become 26 = .ok (.getfield 22, 3) := by decide +kernel
theorem dX5_become_29 : decode cX5_become 29 = .ok (.putfield 22, 3) := by decide +kernel
theorem dX5_become_32 : decode cX5_become 32 = .ok (.aload_n 0, 1) := by decide +kernel
theorem dX5_become_33 : decode cX5_become 33 = .ok (.aload_n 1, 1) := by decide +kernel
theorem dX5_become_34 : decode cX5_become 34 = .ok (.getfield 25, 3) := by decide +kernel
theorem dX5_become_37 : decode cX5_become 37 = .ok (.putfield 25, 3) := by decide +kernel
theorem dX5_become_40 : decode cX5_become 40 = .ok (.aload_n 0, 1) := by decide +kernel
theorem dX5_become_41 : decode cX5_become 41 = .ok (.aload_n 1, 1) := by decide +kernel
theorem dX5_become_42 : decode cX5_become 42 = .ok (.getfield 28, 3) := by decide +kernel
theorem dX5_become_45 : decode cX5_become 45 = .ok (.putfield 28, 3) := by decide +kernel
theorem dX5_become_48 : decode cX5_become 48 = .ok (.aload_n 0, 1) := by decide +kernel
theorem dX5_become_49 : decode cX5_become 49 = .ok (.aload_n 1, 1) := by decide +kernel
theorem dX5_become_50 : decode cX5_become 50 = .ok (.getfield 31, 3) := by decide +kernel
theorem dX5_become_53 : decode cX5_become 53 = .ok (.putfield 31, 3) := by decide +kernel
theorem dX5_become_56 : decode cX5_become 56 = .ok (.iconst 0, 1) := by decide +kernel
theorem dX5_become_57 : decode cX5_become 57 = .ok (.istore_n 2, 1) := by decide +kernel
theorem dX5_become_58 : decode cX5_become 58 = .ok (.iload_n 2, 1) := by decide +kernel
theorem dX5_become_59 : decode cX5_become 59 = .ok (.bipush 9, 2) := by decide +kernel
theorem dX5_become_61 : decode cX5_become 61 = .ok (.if_icmp .ge 57, 3) := by decide +kernel
theorem dX5_become_64 : decode cX5_become 64 = .ok (.aload_n 0, 1) := by decide +kernel
theorem dX5_become_65 : decode cX5_become 65 = .ok (.getfield 34, 3) := by decide +kernel
theorem dX5_become_68 : decode cX5_become 68 = .ok (.iload_n 2, 1) := by decide +kernel
theorem dX5_become_69 : decode cX5_become 69 = .ok (.aload_n 1, 1) := by decide +kernel
theorem dX5_become_70 : decode cX5_become 70 = .ok (.getfield 34, 3) := by decide +kernel
theorem dX5_become_73 : decode cX5_become 73 = .ok (.iload_n 2, 1) := by decide +kernel
theorem dX5_become_74 : decode cX5_become 74 = .ok (.iaload, 1) := by decide +kernel
theorem dX5_become_75 : decode cX5_become 75 = .ok (.iastore, 1) := by decide +kernel
theorem dX5_become_76 : decode cX5_become 76 = .ok (.aload_n 0, 1) := by decide +kernel
theorem dX5_become_77 : decode cX5_become 77 = .ok (.getfield 38, 3) := by decide +kernel
theorem dX5_become_80 : decode cX5_become 80 = .ok (.iload_n 2, 1) := by decide +kernel
theorem dX5_become_81 : decode cX5_become 81 = .ok (.aload_n 1, 1) := by decide +kernel
theorem dX5_become_82 : decode cX5_become 82 = .ok (.getfield 38, 3) := by decide +kernel
theorem dX5_become_85 : decode cX5_become 85 = .ok (.iload_n 2, 1) := by decide +kernel
theorem dX5_become_86 : decode cX5_become 86 = .ok (.iaload, 1) := by decide +kernel
theorem dX5_become_87 : decode cX5_become 87 = .ok (.iastore, 1) := by decide +kernel
theorem dX5_become_88 : decode cX5_become 88 = .ok (.aload_n 0, 1) := by decide +kernel
theorem dX5_become_89 : decode cX5_become 89 = .ok (.getfield 41, 3) := by decide +kernel
theorem dX5_become_92 : decode cX5_become 92 = .ok (.iload_n 2, 1) := by decide +kernel
theorem dX5_become_93 : decode cX5_become 93 = .ok (.aload_n 1, 1) := by decide +kernel
theorem dX5_become_94 : decode cX5_become 94 = .ok (.getfield 41, 3) := by decide +kernel
theorem dX5_become_97 : decode cX5_become 97 = .ok (.iload_n 2, 1) := by decide +kernel
theorem dX5_become_98 : decode cX5_become 98 = .ok (.iaload, 1) := by decide +kernel
theorem dX5_become_99 : decode cX5_become 99 = .ok (.iastore, 1) := by decide +kernel
theorem dX5_become_100 : decode cX5_become 100 = .ok (.aload_n 0, 1) := by decide +kernel
theorem dX5_become_101 : decode cX5_become 101 = .ok (.getfield 44, 3) := by decide +kernel
theorem dX5_become_104 : decode cX5_become 104 = .ok (.iload_n 2, 1) := by decide +kernel
theorem dX5_become_105 : decode cX5_become 105 = .ok (.aload_n 1, 1) := by decide +kernel
theorem dX5_become_106 : decode cX5_become 106 = .ok (.getfield 44, 3) := by decide +kernel
theorem dX5_become_109 : decode cX5_become 109 = .ok (.iload_n 2, 1) := by decide +kernel
theorem dX5_become_110 : decode cX5_become 110 = .ok (.iaload, 1) := by decide +kernel
theorem dX5_become_111 : decode cX5_become 111 = .ok (.iastore, 1) := by decide +kernel
theorem dX5_become_112 : decode cX5_become 112 = .ok (.iinc 2 1, 3) := by decide +kernel
theorem dX5_become_115 : decode cX5_become 115 = .ok (.goto (-57), 3) := by decide +kernel
theorem dX5_become_118 : decode cX5_become 118 = .ok (.iconst 0, 1) := by decide +kernel
theorem dX5_become_119 : decode cX5_become 119 = .ok (.istore_n 2, 1) := by decide +kernel
theorem dX5_become_120 : decode cX5_become 120 = .ok (.iload_n 2, 1) := by decide +kernel
theorem dX5_become_121 : decode cX5_become 121 = .ok (.iconst 5, 1) := by decide +kernel
theorem dX5_become_122 : decode cX5_become 122 = .ok (.if_icmp .ge 45, 3) := by decide +kernel
theorem dX5_become_125 : decode cX5_become 125 = .ok (.aload_n 0, 1) := by decide +kernel
theorem dX5_become_126 : decode cX5_become 126 = .ok (.getfield 47, 3) := by decide +kernel
theorem dX5_become_129 : decode cX5_become 129 = .ok (.iload_n 2, 1) := by decide +kernel
theorem dX5_become_130 : decode cX5_become 130 = .ok (.aload_n 1, 1) := by decide +kernel
theorem dX5_become_131 : decode cX5_become 131 = .ok (.getfield 47, 3) := by decide +kernel
theorem dX5_become_134 : decode cX5_become 134 = .ok (.iload_n 2, 1) := by decide +kernel
theorem dX5_become_135 : decode cX5_become 135 = .ok (.iaload, 1) := by decide +kernel
theorem dX5_become_136 : decode cX5_become 136 = .ok (.iastore, 1) := by decide +kernel
theorem dX5_become_137 : decode cX5_become 137 = .ok (.aload_n 0, 1) := by decide +kernel
theorem dX5_become_138 : decode cX5_become 138 = .ok (.getfield 50, 3) := by decide +kernel
theorem dX5_become_141 : decode cX5_become 141 = .ok (.iload_n 2, 1) := by decide +kernel
theorem dX5_become_142 : decode cX5_become 142 = .ok (.aload_n 1, 1) := by decide +kernel
theorem dX5_become_143 : decode cX5_become 143 = .ok (.getfield 50, 3) := by decide +kernel
theorem dX5_become_146 : decode cX5_become 146 = .ok (.iload_n 2, 1) := by decide +kernel
theorem dX5_become_147 : decode cX5_become 147 = .ok (.iaload, 1) := by decide +kernel
theorem dX5_become_148 : decode cX5_become 148 = .ok (.iastore, 1) := by decide +kernel
theorem dX5_become_149 : decode cX5_become 149 = .ok (.aload_n 0, 1) := by decide +kernel
theorem dX5_become_150 : decode cX5_become 150 = .ok (.getfield 53, 3) := by decide +kernel
theorem dX5_become_153 : decode cX5_become 153 = .ok (.iload_n 2, 1) := by decide +kernel
theorem dX5_become_154 : decode cX5_become 154 = .ok (.aload_n 1, 1) := by decide +kernel
theorem dX5_become_155 : decode cX5_become 155 = .ok (.getfield 53, 3) := by decide +kernel
theorem dX5_become_158 : decode cX5_become 158 = .ok (.iload_n 2, 1) := by decide +kernel
theorem dX5_become_159 : decode cX5_become 159 = .ok (.iaload, 1) := by decide +kernel
theorem dX5_become_160 : decode cX5_become 160 = .ok (.iastore, 1) := by decide +kernel
theorem dX5_become_161 : decode cX5_become 161 = .ok (.iinc 2 1, 3) := by decide +kernel
theorem dX5_become_164 : decode cX5_become 164 = .ok (.goto (-44), 3) := by decide +kernel
theorem dX5_become_167 : decode cX5_become 167 = .ok (.return_, 1) := by decide +kernel
set_option maxRecDepth 20000 in
theorem l2_X5_become {G : Gl} {d : Nat} {σ0 : Sg} {K : Option Value → Sg → Prop} {c c2 : Nat} (hT : TC c) (hT2 : TC c2) (hne : c ≠ c2) : ∀ (n i : Nat) (σ : Sg), i + n = 5 → BecI c c2 9 i σ0 σ → (∀ υ, BecI c c2 9 5 σ0 υ → K none υ) → AW G d RX5 cX5_become 3 none 120 [(0, .ref (gA G c)), (1, .ref (gA G c2)), (2, .int (iI (i : Int)))] [] σ K := by
  intro n
  induction n using Nat.strongRecOn
  rename_i n ih
  intro i σ hn hI hK
  have t1 : c = 14 ∨ c = 22 ∨ c = 30 := hT
  have t2 : c2 = 14 ∨ c2 = 22 ∨ c2 = 30 := hT2
  refine A_iload_n (pc := 120) dX5_become_120 rfl rfl ?_
  refine A_iconst (pc := 121) dX5_become_121 ?_
  refine A_icmp_ge (pc := 122) 167 dX5_become_122 (by decide) (by omega) (by omega) (by omega) (by omega) (fun h122 => ?_) (fun h122 => ?_)
  · skip
    refine A_vret (pc := 167) rfl dX5_become_167 ?_
    have hn0 : i = 5 := by omega
    subst hn0
    exact hK σ hI
  · skip
    refine A_aload_n (pc := 125) dX5_become_125 rfl rfl ?_
    refine A_getR (pc := 126) fX5_47 (shp_T hT) rfl dX5_become_126 ?_
    refine A_iload_n (pc := 129) dX5_become_129 rfl rfl ?_
    refine A_aload_n (pc := 130) dX5_become_130 rfl rfl ?_
    refine A_getR (pc := 131) fX5_47 (shp_T hT2) rfl dX5_become_131 ?_
    refine A_iload_n (pc := 134) dX5_become_134 rfl rfl ?_
    refine A_ialdv (pc := 135) _ (shp_T_walkerAt hT2) rfl (by omega) (Nat.le_of_ble_eq_true rfl) (show _ = σ0.1 (c2 + 5) i from by exact hI.oth hT hT2 hne 5 i (by decide)) dX5_become_135 ?_
    refine A_iast (pc := 136) _ (shp_T_walkerAt hT) rfl (by omega) (Nat.le_of_ble_eq_true rfl) dX5_become_136 ?_
    refine A_aload_n (pc := 137) dX5_become_137 rfl rfl ?_
    refine A_getR (pc := 138) fX5_50 (shp_T hT) rfl dX5_become_138 ?_
    refine A_iload_n (pc := 141) dX5_become_141 rfl rfl ?_
    refine A_aload_n (pc := 142) dX5_become_142 rfl rfl ?_
    refine A_getR (pc := 143) fX5_50 (shp_T hT2) rfl dX5_become_143 ?_
    refine A_iload_n (pc := 146) dX5_become_146 rfl rfl ?_
    refine A_ialdv (pc := 147) _ (shp_T_walkerFaces hT2) rfl (by omega) (Nat.le_of_ble_eq_true rfl) (show _ = σ0.1 (c2 + 6) i from by rw [uI_at, if_neg (by omega)]; exact hI.oth hT hT2 hne 6 i (by decide)) dX5_become_147 ?_
    refine A_iast (pc := 148) _ (shp_T_walkerFaces hT) rfl (by omega) (Nat.le_of_ble_eq_true rfl) dX5_become_148 ?_
    refine A_aload_n (pc := 149) dX5_become_149 rfl rfl ?_
    refine A_getR (pc := 150) fX5_53 (shp_T hT) rfl dX5_become_150 ?_
    refine A_iload_n (pc := 153) dX5_become_153 rfl rfl ?_
    refine A_aload_n (pc := 154) dX5_become_154 rfl rfl ?_
    refine A_getR (pc := 155) fX5_53 (shp_T hT2) rfl dX5_become_155 ?_
    refine A_iload_n (pc := 158) dX5_become_158 rfl rfl ?_
    refine A_ialdv (pc := 159) _ (shp_T_walkerTried hT2) rfl (by omega) (Nat.le_of_ble_eq_true rfl) (show _ = σ0.1 (c2 + 7) i from by rw [uI_at, if_neg (by omega)]; rw [uI_at, if_neg (by omega)]; exact hI.oth hT hT2 hne 7 i (by decide)) dX5_become_159 ?_
    refine A_iast (pc := 160) _ (shp_T_walkerTried hT) rfl (by omega) (Nat.le_of_ble_eq_true rfl) dX5_become_160 ?_
    refine A_iinc (pc := 161) dX5_become_161 rfl (Nat.le_of_ble_eq_true rfl) ?_
    refine A_goto (pc := 164) 120 dX5_become_164 (by decide) ?_
    obtain ⟨m, rfl⟩ : ∃ m, n = m + 1 := ⟨n - 1, by omega⟩
    refine A_loc (l2 := [(0, _), (1, _), (2, _)]) ⟨rfl, rfl, rfl, trivial⟩ ?_
    exact ih m (by omega) (i + 1) _ (by omega) hI.stepW hK
set_option maxRecDepth 20000 in
theorem l1_X5_become {G : Gl} {d : Nat} {σ0 : Sg} {K : Option Value → Sg → Prop} {c c2 : Nat} (hT : TC c) (hT2 : TC c2) (hne : c ≠ c2) : ∀ (n i : Nat) (σ : Sg), i + n = 9 → BecI c c2 i 0 σ0 σ → (∀ υ, BecI c c2 9 0 σ0 υ → AW G d RX5 cX5_become 3 none 118 [(0, .ref (gA G c)), (1, .ref (gA G c2))] [] υ K) → AW G d RX5 cX5_become 3 none 58 [(0, .ref (gA G c)), (1, .ref (gA G c2)), (2, .int (iI (i : Int)))] [] σ K := by
  intro n
  induction n using Nat.strongRecOn
  rename_i n ih
  intro i σ hn hI hK
  have t1 : c = 14 ∨ c = 22 ∨ c = 30 := hT
  have t2 : c2 = 14 ∨ c2 = 22 ∨ c2 = 30 := hT2
  refine A_iload_n (pc := 58) dX5_become_58 rfl rfl ?_
  refine A_bipush (pc := 59) dX5_become_59 (by decide) ?_
  refine A_icmp_ge (pc := 61) 118 dX5_become_61 (by decide) (by omega) (by omega) (by omega) (by omega) (fun h61 => ?_) (fun h61 => ?_)
  · skip
    have hn0 : i = 9 := by omega
    subst hn0
    refine A_loc (l2 := [(0, _), (1, _)]) ⟨rfl, rfl, trivial⟩ ?_
    exact hK σ hI
  · skip
    refine A_aload_n (pc := 64) dX5_become_64 rfl rfl ?_
    refine A_getR (pc := 65) fX5_34 (shp_T hT) rfl dX5_become_65 ?_
    refine A_iload_n (pc := 68) dX5_become_68 rfl rfl ?_
    refine A_aload_n (pc := 69) dX5_become_69 rfl rfl ?_
    refine A_getR (pc := 70) fX5_34 (shp_T hT2) rfl dX5_become_70 ?_
    refine A_iload_n (pc := 73) dX5_become_73 rfl rfl ?_
    refine A_ialdv (pc := 74) _ (shp_T_paneKind hT2) rfl (by omega) (Nat.le_of_ble_eq_true rfl) (show _ = σ0.1 (c2 + 1) i from by exact hI.oth hT hT2 hne 1 i (by decide)) dX5_become_74 ?_
    refine A_iast (pc := 75) _ (shp_T_paneKind hT) rfl (by omega) (Nat.le_of_ble_eq_true rfl) dX5_become_75 ?_
    refine A_aload_n (pc := 76) dX5_become_76 rfl rfl ?_
    refine A_getR (pc := 77) fX5_38 (shp_T hT) rfl dX5_become_77 ?_
    refine A_iload_n (pc := 80) dX5_become_80 rfl rfl ?_
    refine A_aload_n (pc := 81) dX5_become_81 rfl rfl ?_
    refine A_getR (pc := 82) fX5_38 (shp_T hT2) rfl dX5_become_82 ?_
    refine A_iload_n (pc := 85) dX5_become_85 rfl rfl ?_
    refine A_ialdv (pc := 86) _ (shp_T_paneA hT2) rfl (by omega) (Nat.le_of_ble_eq_true rfl) (show _ = σ0.1 (c2 + 2) i from by rw [uI_at, if_neg (by omega)]; exact hI.oth hT hT2 hne 2 i (by decide)) dX5_become_86 ?_
    refine A_iast (pc := 87) _ (shp_T_paneA hT) rfl (by omega) (Nat.le_of_ble_eq_true rfl) dX5_become_87 ?_
    refine A_aload_n (pc := 88) dX5_become_88 rfl rfl ?_
    refine A_getR (pc := 89) fX5_41 (shp_T hT) rfl dX5_become_89 ?_
    refine A_iload_n (pc := 92) dX5_become_92 rfl rfl ?_
    refine A_aload_n (pc := 93) dX5_become_93 rfl rfl ?_
    refine A_getR (pc := 94) fX5_41 (shp_T hT2) rfl dX5_become_94 ?_
    refine A_iload_n (pc := 97) dX5_become_97 rfl rfl ?_
    refine A_ialdv (pc := 98) _ (shp_T_paneAt hT2) rfl (by omega) (Nat.le_of_ble_eq_true rfl) (show _ = σ0.1 (c2 + 3) i from by rw [uI_at, if_neg (by omega)]; rw [uI_at, if_neg (by omega)]; exact hI.oth hT hT2 hne 3 i (by decide)) dX5_become_98 ?_
    refine A_iast (pc := 99) _ (shp_T_paneAt hT) rfl (by omega) (Nat.le_of_ble_eq_true rfl) dX5_become_99 ?_
    refine A_aload_n (pc := 100) dX5_become_100 rfl rfl ?_
    refine A_getR (pc := 101) fX5_44 (shp_T hT) rfl dX5_become_101 ?_
    refine A_iload_n (pc := 104) dX5_become_104 rfl rfl ?_
    refine A_aload_n (pc := 105) dX5_become_105 rfl rfl ?_
    refine A_getR (pc := 106) fX5_44 (shp_T hT2) rfl dX5_become_106 ?_
    refine A_iload_n (pc := 109) dX5_become_109 rfl rfl ?_
    refine A_ialdv (pc := 110) _ (shp_T_paneOut hT2) rfl (by omega) (Nat.le_of_ble_eq_true rfl) (show _ = σ0.1 (c2 + 4) i from by rw [uI_at, if_neg (by omega)]; rw [uI_at, if_neg (by omega)]; rw [uI_at, if_neg (by omega)]; exact hI.oth hT hT2 hne 4 i (by decide)) dX5_become_110 ?_
    refine A_iast (pc := 111) _ (shp_T_paneOut hT) rfl (by omega) (Nat.le_of_ble_eq_true rfl) dX5_become_111 ?_
    refine A_iinc (pc := 112) dX5_become_112 rfl (Nat.le_of_ble_eq_true rfl) ?_
    refine A_goto (pc := 115) 58 dX5_become_115 (by decide) ?_
    obtain ⟨m, rfl⟩ : ∃ m, n = m + 1 := ⟨n - 1, by omega⟩
    refine A_loc (l2 := [(0, _), (1, _), (2, _)]) ⟨rfl, rfl, rfl, trivial⟩ ?_
    exact ih m (by omega) (i + 1) _ (by omega) hI.stepP hK
set_option maxRecDepth 20000 in
theorem c_X5_become {G : Gl} {d : Nat} {σ : Sg} {c c2 : Nat} (hT : TC c) (hT2 : TC c2) (hne : c ≠ c2) {τ : Tw} (hR : RX c2 τ σ) (hO : OkT τ) : CT G d yX5_become cX5_become 3 none [.ref (gA G c), .ref (gA G c2)] σ (RE none (fun υ => RX c τ υ ∧ Fr (TS c) σ υ)) := by
  refine CT.of (by decide +kernel) (Nat.le_of_ble_eq_true rfl) ?_
  change AW G _ RX5 _ _ _ 0 [(0, .ref (gA G c)), (1, .ref (gA G c2))] [] _ _
  have t1 : c = 14 ∨ c = 22 ∨ c = 30 := hT
  have t2 : c2 = 14 ∨ c2 = 22 ∨ c2 = 30 := hT2
  refine A_aload_n (pc := 0) dX5_become_0 rfl rfl ?_
  refine A_aload_n (pc := 1) dX5_become_1 rfl rfl ?_
  refine A_getL (pc := 2) fX5_9 (shp_T hT2) rfl dX5_become_2 ?_
  refine A_putL (pc := 5) fX5_9 wr_4_0 (shp_T hT) rfl dX5_become_5 ?_
  refine A_aload_n (pc := 8) dX5_become_8 rfl rfl ?_
  refine A_aload_n (pc := 9) dX5_become_9 rfl rfl ?_
  refine A_getIv (pc := 10) fX5_15 (shp_T hT2) rfl (show _ = σ.1 c2 1 from rfl) dX5_become_10 ?_
  refine A_putI (pc := 13) fX5_15 wr_4_1 (shp_T hT) rfl dX5_become_13 ?_
  refine A_aload_n (pc := 16) dX5_become_16 rfl rfl ?_
  refine A_aload_n (pc := 17) dX5_become_17 rfl rfl ?_
  refine A_getIv (pc := 18) fX5_19 (shp_T hT2) rfl (show _ = σ.1 c2 2 from by rw [uI_at, if_neg (by omega)]; rfl) dX5_become_18 ?_
  refine A_putI (pc := 21) fX5_19 wr_4_2 (shp_T hT) rfl dX5_become_21 ?_
  refine A_aload_n (pc := 24) dX5_become_24 rfl rfl ?_
  refine A_aload_n (pc := 25) dX5_become_25 rfl rfl ?_
  refine A_getIv (pc := 26) fX5_22 (shp_T hT2) rfl (show _ = σ.1 c2 3 from by rw [uI_at, if_neg (by omega), uI_at, if_neg (by omega)]; rfl) dX5_become_26 ?_
  refine A_putI (pc := 29) fX5_22 wr_4_3 (shp_T hT) rfl dX5_become_29 ?_
  refine A_aload_n (pc := 32) dX5_become_32 rfl rfl ?_
  refine A_aload_n (pc := 33) dX5_become_33 rfl rfl ?_
  refine A_getIv (pc := 34) fX5_25 (shp_T hT2) rfl (show _ = σ.1 c2 4 from by rw [uI_at, if_neg (by omega), uI_at, if_neg (by omega), uI_at, if_neg (by omega)]; rfl) dX5_become_34 ?_
  refine A_putI (pc := 37) fX5_25 wr_4_4 (shp_T hT) rfl dX5_become_37 ?_
  refine A_aload_n (pc := 40) dX5_become_40 rfl rfl ?_
  refine A_aload_n (pc := 41) dX5_become_41 rfl rfl ?_
  refine A_getIv (pc := 42) fX5_28 (shp_T hT2) rfl (show _ = σ.1 c2 5 from by rw [uI_at, if_neg (by omega), uI_at, if_neg (by omega), uI_at, if_neg (by omega), uI_at, if_neg (by omega)]; rfl) dX5_become_42 ?_
  refine A_putI (pc := 45) fX5_28 wr_4_5 (shp_T hT) rfl dX5_become_45 ?_
  refine A_aload_n (pc := 48) dX5_become_48 rfl rfl ?_
  refine A_aload_n (pc := 49) dX5_become_49 rfl rfl ?_
  refine A_getIv (pc := 50) fX5_31 (shp_T hT2) rfl (show _ = σ.1 c2 6 from by rw [uI_at, if_neg (by omega), uI_at, if_neg (by omega), uI_at, if_neg (by omega), uI_at, if_neg (by omega), uI_at, if_neg (by omega)]; rfl) dX5_become_50 ?_
  refine A_putI (pc := 53) fX5_31 wr_4_6 (shp_T hT) rfl dX5_become_53 ?_
  refine A_iconst (pc := 56) dX5_become_56 ?_
  refine A_istore_n (pc := 57) dX5_become_57 rfl (Nat.le_of_ble_eq_true rfl) ?_
  refine A_loc (l2 := [(0, _), (1, _), (2, _)]) ⟨rfl, rfl, rfl, trivial⟩ ?_
  refine l1_X5_become (σ0 := σ) hT hT2 hne 9 0 _ (by omega) ⟨((((((Fr.rf.uL (TSm 0 (by decide))).uI (TSm 0 (by decide))).uI (TSm 0 (by decide))).uI (TSm 0 (by decide))).uI (TSm 0 (by decide))).uI (TSm 0 (by decide))).uI (TSm 0 (by decide)), by simp [uI_2, uL_at], fun k hk => by
    have hh : k = 0 ∨ k = 1 ∨ k = 2 ∨ k = 3 ∨ k = 4 ∨ k = 5 := by omega
    rcases hh with rfl | rfl | rfl | rfl | rfl | rfl <;> simp [uI_at], fun j p hj hp => absurd hp (by omega), fun j p hj hp => absurd hp (by omega)⟩ ?_
  intro υ hυ
  refine A_iconst (pc := 118) dX5_become_118 ?_
  refine A_istore_n (pc := 119) dX5_become_119 rfl (Nat.le_of_ble_eq_true rfl) ?_
  refine A_loc (l2 := [(0, _), (1, _), (2, _)]) ⟨rfl, rfl, rfl, trivial⟩ ?_
  refine l2_X5_become (σ0 := σ) hT hT2 hne 5 0 υ (by omega) hυ ?_
  intro χ hχ
  exact ⟨rfl, hχ.RX hR hO, hχ.1⟩
/-- a shelf of the class at the cell c: what it holds, its size, its elements -/
def RS (c : Nat) (hd n : Int) (el : Nat → Int64) (σ : Sg) : Prop := σ.1 c 0 = hd ∧ σ.1 c 1 = n ∧ ∀ i, i < 160 → σ.2 (c + 1) i = el i
def OkH (hd n : Int) : Prop := -1 ≤ hd ∧ hd ≤ 103 ∧ 0 ≤ n ∧ n ≤ 160
/-- what an element of a row is, read as an int -/
def elI (n : Int) (el : Nat → Int64) (i : Int) : Int64 := if 0 ≤ i ∧ i < n then el i.toNat else 0
/-- the lowest bits of a sort of rows -/
def lowB (sort : Int) (v : Int64) : Int64 := if sort = 0 then (iI (iI v.toInt32.toInt).toInt8.toInt32.toInt).toInt64 else if sort = 1 then (iI (iI v.toInt32.toInt).toInt16.toInt32.toInt).toInt64 else if sort = 2 then (iI v.toInt32.toInt).toInt64 else v
def SS (c : Nat) : Nat → Prop := fun a => a = c ∨ a = c + 1
theorem dX3_isRow_0 : decode cX3_isRow 0 = .ok (.aload_n 0, 1) := by decide +kernel
theorem dX3_isRow_1 : decode cX3_isRow 1 = .ok (.getfield 9, 3) := by decide +kernel
theorem dX3_isRow_4 : decode cX3_isRow 4 = .ok (.bipush 100, 2) := by decide +kernel
theorem dX3_isRow_6 : decode cX3_isRow 6 = .ok (.if_icmp .lt 7, 3) := by decide +kernel
theorem dX3_isRow_9 : decode cX3_isRow 9 = .ok (.iconst 1, 1) := by decide +kernel
theorem dX3_isRow_10 : decode cX3_isRow 10 = .ok (.goto 4, 3) := by decide +kernel
theorem dX3_isRow_13 : decode cX3_isRow 13 = .ok (.iconst 0, 1) := by decide +kernel
theorem dX3_isRow_14 : decode cX3_isRow 14 = .ok (.ireturn, 1) := by decide +kernel
set_option maxRecDepth 20000 in
theorem c_X3_isRow {G : Gl} {d : Nat} {σ : Sg} {c : Nat} (hS : SC c) {hd n : Int} {el : Nat → Int64} (hR : RS c hd n el σ) (hO : OkH hd n)  : CT G d yX3_isRow cX3_isRow 1 (some .boolean) [.ref (gA G c)] σ (R1 (.int (iI (bI (100 ≤ hd)))) σ) := by
  refine CT.of (by decide +kernel) (Nat.le_of_ble_eq_true rfl) ?_
  change AW G _ RX3 _ _ _ 0 [(0, .ref (gA G c))] [] _ _
  have hR2 := hR
  have hO2 := hO
  obtain ⟨r0, r1, r2⟩ := hR2
  obtain ⟨o1, o2, o3, o4⟩ := hO2
  refine A_aload_n (pc := 0) dX3_isRow_0 rfl rfl ?_
  refine A_getIv (pc := 1) fX3_9 (shp_S hS) rfl r0 dX3_isRow_1 ?_
  refine A_bipush (pc := 4) dX3_isRow_4 (by decide) ?_
  refine A_icmp_lt (pc := 6) 13 dX3_isRow_6 (by decide) (by omega) (by omega) (by omega) (by omega) (fun h6 => ?_) (fun h6 => ?_)
  · skip
    refine A_iconst (pc := 13) dX3_isRow_13 ?_
    refine A_zret (pc := 14) rfl rfl dX3_isRow_14 ?_
    exact R1_f (by omega)
  · skip
    refine A_iconst (pc := 9) dX3_isRow_9 ?_
    refine A_goto (pc := 10) 14 dX3_isRow_10 (by decide) ?_
    refine A_zret (pc := 14) rfl rfl dX3_isRow_14 ?_
    exact R1_t (by omega)
theorem dX3_isPane_0 : decode cX3_isPane 0 = .ok (.aload_n 0, 1) := by decide +kernel
theorem dX3_isPane_1 : decode cX3_isPane 1 = .ok (.getfield 9, 3) := by decide +kernel
theorem dX3_isPane_4 : decode cX3_isPane 4 = .ok (.iconst (-1), 1) := by decide +kernel
theorem dX3_isPane_5 : decode cX3_isPane 5 = .ok (.if_icmp .eq 16, 3) := by decide +kernel
theorem dX3_isPane_8 : decode cX3_isPane 8 = .ok (.aload_n 0, 1) := by decide +kernel
theorem dX3_isPane_9 : decode cX3_isPane 9 = .ok (.getfield 9, 3) := by decide +kernel
theorem dX3_isPane_12 : decode cX3_isPane 12 = .ok (.bipush 100, 2) := by decide +kernel
theorem dX3_isPane_14 : decode cX3_isPane 14 = .ok (.if_icmp .ge 7, 3) := by decide +kernel
theorem dX3_isPane_17 : decode cX3_isPane 17 = .ok (.iconst 1, 1) := by decide +kernel
theorem dX3_isPane_18 : decode cX3_isPane 18 = .ok (.goto 4, 3) := by decide +kernel
theorem dX3_isPane_21 : decode cX3_isPane 21 = .ok (.iconst 0, 1) := by decide +kernel
theorem dX3_isPane_22 : decode cX3_isPane 22 = .ok (.ireturn, 1) := by decide +kernel
set_option maxRecDepth 20000 in
theorem c_X3_isPane {G : Gl} {d : Nat} {σ : Sg} {c : Nat} (hS : SC c) {hd n : Int} {el : Nat → Int64} (hR : RS c hd n el σ) (hO : OkH hd n)  : CT G d yX3_isPane cX3_isPane 1 (some .boolean) [.ref (gA G c)] σ (R1 (.int (iI (bI (0 ≤ hd ∧ hd < 100)))) σ) := by
  refine CT.of (by decide +kernel) (Nat.le_of_ble_eq_true rfl) ?_
  change AW G _ RX3 _ _ _ 0 [(0, .ref (gA G c))] [] _ _
  have hR2 := hR
  have hO2 := hO
  obtain ⟨r0, r1, r2⟩ := hR2
  obtain ⟨o1, o2, o3, o4⟩ := hO2
  refine A_aload_n (pc := 0) dX3_isPane_0 rfl rfl ?_
  refine A_getIv (pc := 1) fX3_9 (shp_S hS) rfl r0 dX3_isPane_1 ?_
  refine A_iconst (pc := 4) dX3_isPane_4 ?_
  refine A_icmp_eq (pc := 5) 21 dX3_isPane_5 (by decide) (by omega) (by omega) (by omega) (by omega) (fun h5 => ?_) (fun h5 => ?_)
  · skip
    refine A_iconst (pc := 21) dX3_isPane_21 ?_
    refine A_zret (pc := 22) rfl rfl dX3_isPane_22 ?_
    exact R1_f (by omega)
  · skip
    refine A_aload_n (pc := 8) dX3_isPane_8 rfl rfl ?_
    refine A_getIv (pc := 9) fX3_9 (shp_S hS) rfl r0 dX3_isPane_9 ?_
    refine A_bipush (pc := 12) dX3_isPane_12 (by decide) ?_
    refine A_icmp_ge (pc := 14) 21 dX3_isPane_14 (by decide) (by omega) (by omega) (by omega) (by omega) (fun h14 => ?_) (fun h14 => ?_)
    · skip
      refine A_iconst (pc := 21) dX3_isPane_21 ?_
      refine A_zret (pc := 22) rfl rfl dX3_isPane_22 ?_
      exact R1_f (by omega)
    · skip
      refine A_iconst (pc := 17) dX3_isPane_17 ?_
      refine A_goto (pc := 18) 22 dX3_isPane_18 (by decide) ?_
      refine A_zret (pc := 22) rfl rfl dX3_isPane_22 ?_
      exact R1_t (by omega)
theorem dX3_holdPane_0 : decode cX3_holdPane 0 = .ok (.aload_n 0, 1) := by decide +kernel
theorem dX3_holdPane_1 : decode cX3_holdPane 1 = .ok (.iload_n 1, 1) := by decide +kernel
theorem dX3_holdPane_2 : decode cX3_holdPane 2 = .ok (.putfield 9, 3) := by decide +kernel
theorem dX3_holdPane_5 : decode cX3_holdPane 5 = .ok (.aload_n 0, 1) := by decide +kernel
theorem dX3_holdPane_6 : decode cX3_holdPane 6 = .ok (.iconst 0, 1) := by decide +kernel
theorem dX3_holdPane_7 : decode cX3_holdPane 7 = .ok (.putfield 15, 3) := by decide +kernel
theorem dX3_holdPane_10 : decode cX3_holdPane 10 = .ok (.return_, 1) := by decide +kernel
set_option maxRecDepth 20000 in
theorem c_X3_holdPane {G : Gl} {d : Nat} {σ : Sg} {c : Nat} (hS : SC c) {p : Int} : CT G d yX3_holdPane cX3_holdPane 2 none [.ref (gA G c), .int (iI p)] σ (R0 (uI (uI σ c 0 p) c 1 0)) := by
  refine CT.of (by decide +kernel) (Nat.le_of_ble_eq_true rfl) ?_
  change AW G _ RX3 _ _ _ 0 [(0, .ref (gA G c)), (1, .int (iI p))] [] _ _
  refine A_aload_n (pc := 0) dX3_holdPane_0 rfl rfl ?_
  refine A_iload_n (pc := 1) dX3_holdPane_1 rfl rfl ?_
  refine A_putI (pc := 2) fX3_9 wr_2_0 (shp_S hS) rfl dX3_holdPane_2 ?_
  refine A_aload_n (pc := 5) dX3_holdPane_5 rfl rfl ?_
  refine A_iconst (pc := 6) dX3_holdPane_6 ?_
  refine A_putI (pc := 7) fX3_15 wr_2_1 (shp_S hS) rfl dX3_holdPane_7 ?_
  refine A_vret (pc := 10) rfl dX3_holdPane_10 ?_
  exact ⟨rfl, rfl⟩
theorem dX3_hasElement_0 : decode cX3_hasElement 0 = .ok (.iload_n 1, 1) := by decide +kernel
theorem dX3_hasElement_1 : decode cX3_hasElement 1 = .ok (.ifCond .lt 22, 3) := by decide +kernel
theorem dX3_hasElement_4 : decode cX3_hasElement 4 = .ok (.iload_n 1, 1) := by decide +kernel
theorem dX3_hasElement_5 : decode cX3_hasElement 5 = .ok (.aload_n 0, 1) := by decide +kernel
theorem dX3_hasElement_6 : decode cX3_hasElement 6 = .ok (.getfield 15, 3) := by decide +kernel
theorem dX3_hasElement_9 : decode cX3_hasElement 9 = .ok (.if_icmp .ge 14, 3) := by decide +kernel
theorem dX3_hasElement_12 : decode cX3_hasElement 12 = .ok (.iload_n 1, 1) := by decide +kernel
theorem dX3_hasElement_13 : decode cX3_hasElement 13 = .ok (.sipush 160, 3) := by decide +kernel
theorem dX3_hasElement_16 : decode cX3_hasElement 16 = .ok (.if_icmp .ge 7, 3) := by decide +kernel
theorem dX3_hasElement_19 : decode cX3_hasElement 19 = .ok (.iconst 1, 1) := by decide +kernel
theorem dX3_hasElement_20 : decode cX3_hasElement 20 = .ok (.goto 4, 3) := by decide +kernel
theorem dX3_hasElement_23 : decode cX3_hasElement 23 = .ok (.iconst 0, 1) := by decide +kernel
theorem dX3_hasElement_24 : decode cX3_hasElement 24 = .ok (.ireturn, 1) := by decide +kernel
set_option maxRecDepth 20000 in
theorem c_X3_hasElement {G : Gl} {d : Nat} {σ : Sg} {c : Nat} (hS : SC c) {hd n : Int} {el : Nat → Int64} (hR : RS c hd n el σ) (hO : OkH hd n) {i : Int} (hi1 : -2147483648 ≤ i) (hi2 : i < 2147483648) : CT G d yX3_hasElement cX3_hasElement 2 (some .boolean) [.ref (gA G c), .int (iI i)] σ (R1 (.int (iI (bI (0 ≤ i ∧ i < n)))) σ) := by
  refine CT.of (by decide +kernel) (Nat.le_of_ble_eq_true rfl) ?_
  change AW G _ RX3 _ _ _ 0 [(0, .ref (gA G c)), (1, .int (iI i))] [] _ _
  have hR2 := hR
  have hO2 := hO
  obtain ⟨r0, r1, r2⟩ := hR2
  obtain ⟨o1, o2, o3, o4⟩ := hO2
  refine A_iload_n (pc := 0) dX3_hasElement_0 rfl rfl ?_
  refine A_if_lt (pc := 1) 23 dX3_hasElement_1 (by decide) (by omega) (by omega) (fun h1 => ?_) (fun h1 => ?_)
  · skip
    refine A_iconst (pc := 23) dX3_hasElement_23 ?_
    refine A_zret (pc := 24) rfl rfl dX3_hasElement_24 ?_
    exact R1_f (by omega)
  · skip
    refine A_iload_n (pc := 4) dX3_hasElement_4 rfl rfl ?_
    refine A_aload_n (pc := 5) dX3_hasElement_5 rfl rfl ?_
    refine A_getIv (pc := 6) fX3_15 (shp_S hS) rfl r1 dX3_hasElement_6 ?_
    refine A_icmp_ge (pc := 9) 23 dX3_hasElement_9 (by decide) (by omega) (by omega) (by omega) (by omega) (fun h9 => ?_) (fun h9 => ?_)
    · skip
      refine A_iconst (pc := 23) dX3_hasElement_23 ?_
      refine A_zret (pc := 24) rfl rfl dX3_hasElement_24 ?_
      exact R1_f (by omega)
    · skip
      refine A_iload_n (pc := 12) dX3_hasElement_12 rfl rfl ?_
      refine A_sipush (pc := 13) dX3_hasElement_13 (by decide) ?_
      refine A_icmp_ge (pc := 16) 23 dX3_hasElement_16 (by decide) (by omega) (by omega) (by omega) (by omega) (fun h16 => ?_) (fun h16 => ?_)
      · skip
        refine A_iconst (pc := 23) dX3_hasElement_23 ?_
        refine A_zret (pc := 24) rfl rfl dX3_hasElement_24 ?_
        exact R1_f (by omega)
      · skip
        refine A_iconst (pc := 19) dX3_hasElement_19 ?_
        refine A_goto (pc := 20) 24 dX3_hasElement_20 (by decide) ?_
        refine A_zret (pc := 24) rfl rfl dX3_hasElement_24 ?_
        exact R1_t (by omega)
theorem dX3_hasElements_0 : decode cX3_hasElements 0 = .ok (.iload_n 1, 1) := by decide +kernel
theorem dX3_hasElements_1 : decode cX3_hasElements 1 = .ok (.ifCond .lt 29, 3) := by decide +kernel
theorem dX3_hasElements_4 : decode cX3_hasElements 4 = .ok (.iload_n 1, 1) := by decide +kernel
theorem dX3_hasElements_5 : decode cX3_hasElements 5 = .ok (.aload_n 0, 1) := by decide +kernel
theorem dX3_hasElements_6 : decode cX3_hasElements 6 = .ok (.getfield 15, 3) := by decide +kernel
theorem dX3_hasElements_9 : decode cX3_hasElements 9 = .ok (.if_icmp .gt 21, 3) := by decide +kernel
theorem dX3_hasElements_12 : decode cX3_hasElements 12 = .ok (.iload_n 2, 1) := by decide +kernel
theorem dX3_hasElements_13 : decode cX3_hasElements 13 = .ok (.ifCond .lt 17, 3) := by decide +kernel
theorem dX3_hasElements_16 : decode cX3_hasElements 16 = .ok (.iload_n 2, 1) := by decide +kernel
theorem dX3_hasElements_17 : decode cX3_hasElements 17 = .ok (.aload_n 0, 1) := by decide +kernel
theorem dX3_hasElements_18 : decode cX3_hasElements 18 = .ok (.getfield 15, 3) := by decide +kernel
theorem dX3_hasElements_21 : decode cX3_hasElements 21 = .ok (.iload_n 1, 1) := by decide +kernel
theorem dX3_hasElements_22 : decode cX3_hasElements 22 = .ok (.isub, 1) := by decide +kernel
theorem dX3_hasElements_23 : decode cX3_hasElements 23 = .ok (.if_icmp .gt 7, 3) := by decide +kernel
theorem dX3_hasElements_26 : decode cX3_hasElements 26 = .ok (.iconst 1, 1) := by decide +kernel
theorem dX3_hasElements_27 : decode cX3_hasElements 27 = .ok (.goto 4, 3) := by decide +kernel
theorem dX3_hasElements_30 : decode cX3_hasElements 30 = .ok (.iconst 0, 1) := by decide +kernel
theorem dX3_hasElements_31 : decode cX3_hasElements 31 = .ok (.ireturn, 1) := by decide +kernel
set_option maxRecDepth 20000 in
theorem c_X3_hasElements {G : Gl} {d : Nat} {σ : Sg} {c : Nat} (hS : SC c) {hd n : Int} {el : Nat → Int64} (hR : RS c hd n el σ) (hO : OkH hd n) {i : Int} (hi1 : -2147483648 ≤ i) (hi2 : i < 2147483648) {k : Int} (hk1 : -2147483648 ≤ k) (hk2 : k < 2147483648) : CT G d yX3_hasElements cX3_hasElements 3 (some .boolean) [.ref (gA G c), .int (iI i), .int (iI k)] σ (R1 (.int (iI (bI (0 ≤ i ∧ 0 ≤ k ∧ i + k ≤ n)))) σ) := by
  refine CT.of (by decide +kernel) (Nat.le_of_ble_eq_true rfl) ?_
  change AW G _ RX3 _ _ _ 0 [(0, .ref (gA G c)), (1, .int (iI i)), (2, .int (iI k))] [] _ _
  have hR2 := hR
  have hO2 := hO
  obtain ⟨r0, r1, r2⟩ := hR2
  obtain ⟨o1, o2, o3, o4⟩ := hO2
  refine A_iload_n (pc := 0) dX3_hasElements_0 rfl rfl ?_
  refine A_if_lt (pc := 1) 30 dX3_hasElements_1 (by decide) (by omega) (by omega) (fun h1 => ?_) (fun h1 => ?_)
  · skip
    refine A_iconst (pc := 30) dX3_hasElements_30 ?_
    refine A_zret (pc := 31) rfl rfl dX3_hasElements_31 ?_
    exact R1_f (by omega)
  · skip
    refine A_iload_n (pc := 4) dX3_hasElements_4 rfl rfl ?_
    refine A_aload_n (pc := 5) dX3_hasElements_5 rfl rfl ?_
    refine A_getIv (pc := 6) fX3_15 (shp_S hS) rfl r1 dX3_hasElements_6 ?_
    refine A_icmp_gt (pc := 9) 30 dX3_hasElements_9 (by decide) (by omega) (by omega) (by omega) (by omega) (fun h9 => ?_) (fun h9 => ?_)
    · skip
      refine A_iconst (pc := 30) dX3_hasElements_30 ?_
      refine A_zret (pc := 31) rfl rfl dX3_hasElements_31 ?_
      exact R1_f (by omega)
    · skip
      refine A_iload_n (pc := 12) dX3_hasElements_12 rfl rfl ?_
      refine A_if_lt (pc := 13) 30 dX3_hasElements_13 (by decide) (by omega) (by omega) (fun h13 => ?_) (fun h13 => ?_)
      · skip
        refine A_iconst (pc := 30) dX3_hasElements_30 ?_
        refine A_zret (pc := 31) rfl rfl dX3_hasElements_31 ?_
        exact R1_f (by omega)
      · skip
        refine A_iload_n (pc := 16) dX3_hasElements_16 rfl rfl ?_
        refine A_aload_n (pc := 17) dX3_hasElements_17 rfl rfl ?_
        refine A_getIv (pc := 18) fX3_15 (shp_S hS) rfl r1 dX3_hasElements_18 ?_
        refine A_iload_n (pc := 21) dX3_hasElements_21 rfl rfl ?_
        refine A_isub (pc := 22) dX3_hasElements_22 ?_
        refine A_icmp_gt (pc := 23) 30 dX3_hasElements_23 (by decide) (by omega) (by omega) (by omega) (by omega) (fun h23 => ?_) (fun h23 => ?_)
        · skip
          refine A_iconst (pc := 30) dX3_hasElements_30 ?_
          refine A_zret (pc := 31) rfl rfl dX3_hasElements_31 ?_
          exact R1_f (by omega)
        · skip
          refine A_iconst (pc := 26) dX3_hasElements_26 ?_
          refine A_goto (pc := 27) 31 dX3_hasElements_27 (by decide) ?_
          refine A_zret (pc := 31) rfl rfl dX3_hasElements_31 ?_
          exact R1_t (by omega)
theorem dX3_longAt_0 : decode cX3_longAt 0 = .ok (.aload_n 0, 1) := by decide +kernel
theorem dX3_longAt_1 : decode cX3_longAt 1 = .ok (.iload_n 1, 1) := by decide +kernel
theorem dX3_longAt_2 : decode cX3_longAt 2 = .ok (.invokevirtual 22, 3) := by decide +kernel
theorem dX3_longAt_5 : decode cX3_longAt 5 = .ok (.ifCond .eq 12, 3) := by decide +kernel
theorem dX3_longAt_8 : decode cX3_longAt 8 = .ok (.aload_n 0, 1) := by decide +kernel
theorem dX3_longAt_9 : decode cX3_longAt 9 = .ok (.getfield 18, 3) := by decide +kernel
theorem dX3_longAt_12 : decode cX3_longAt 12 = .ok (.iload_n 1, 1) := by decide +kernel
theorem dX3_longAt_13 : decode cX3_longAt 13 = .ok (.laload, 1) := by decide +kernel
theorem dX3_longAt_14 : decode cX3_longAt 14 = .ok (.goto 4, 3) := by decide +kernel
theorem dX3_longAt_17 : decode cX3_longAt 17 = .ok (.lconst 0, 1) := by decide +kernel
theorem dX3_longAt_18 : decode cX3_longAt 18 = .ok (.lreturn, 1) := by decide +kernel
set_option maxRecDepth 20000 in
theorem c_X3_longAt {G : Gl} {d : Nat} {σ : Sg} {c : Nat} (hS : SC c) {hd n : Int} {el : Nat → Int64} (hR : RS c hd n el σ) (hO : OkH hd n) {i : Int} (hi1 : -2147483648 ≤ i) (hi2 : i < 2147483648) : CT G (d + 1) yX3_longAt cX3_longAt 2 (some .long) [.ref (gA G c), .int (iI i)] σ (R1 (.long (elI n el i)) σ) := by
  refine CT.of (by decide +kernel) (Nat.le_of_ble_eq_true rfl) ?_
  change AW G _ RX3 _ _ _ 0 [(0, .ref (gA G c)), (1, .int (iI i))] [] _ _
  have hR2 := hR
  have hO2 := hO
  obtain ⟨r0, r1, r2⟩ := hR2
  obtain ⟨o1, o2, o3, o4⟩ := hO2
  refine A_aload_n (pc := 0) dX3_longAt_0 rfl rfl ?_
  refine A_iload_n (pc := 1) dX3_longAt_1 rfl rfl ?_
  refine A_callV1 (pc := 2) kX3_22 (shp_S hS) rfl (c_X3_hasElement hS hR hO hi1 hi2) dX3_longAt_2 rfl rfl (Nat.le_of_ble_eq_true rfl) (Nat.le_of_ble_eq_true rfl) ?_
  refine A_ifb_eq (pc := 5) 17 dX3_longAt_5 (by decide) (fun h5 => ?_) (fun h5 => ?_)
  · skip
    refine A_lconst (pc := 17) 0 dX3_longAt_17 rfl ?_
    refine A_lret (pc := 18) rfl dX3_longAt_18 ?_
    exact ⟨by rw [elI, if_neg h5], rfl⟩
  · skip
    obtain ⟨k, rfl⟩ := Int.eq_ofNat_of_zero_le h5.1
    refine A_aload_n (pc := 8) dX3_longAt_8 rfl rfl ?_
    refine A_getR (pc := 9) fX3_18 (shp_S hS) rfl dX3_longAt_9 ?_
    refine A_iload_n (pc := 12) dX3_longAt_12 rfl rfl ?_
    refine A_laldv (pc := 13) _ (shp_S_elements hS) rfl (by omega) (Nat.le_of_ble_eq_true rfl) (r2 _ (by omega)) dX3_longAt_13 ?_
    refine A_goto (pc := 14) 18 dX3_longAt_14 (by decide) ?_
    refine A_lret (pc := 18) rfl dX3_longAt_18 ?_
    exact ⟨by rw [elI, if_pos h5]; rfl, rfl⟩
theorem dX3_intAt_0 : decode cX3_intAt 0 = .ok (.aload_n 0, 1) := by decide +kernel
theorem dX3_intAt_1 : decode cX3_intAt 1 = .ok (.iload_n 1, 1) := by decide +kernel
theorem dX3_intAt_2 : decode cX3_intAt 2 = .ok (.invokevirtual 26, 3) := by decide +kernel
theorem dX3_intAt_5 : decode cX3_intAt 5 = .ok (.l2i, 1) := by decide +kernel
theorem dX3_intAt_6 : decode cX3_intAt 6 = .ok (.ireturn, 1) := by decide +kernel
set_option maxRecDepth 20000 in
theorem c_X3_intAt {G : Gl} {d : Nat} {σ : Sg} {c : Nat} (hS : SC c) {hd n : Int} {el : Nat → Int64} (hR : RS c hd n el σ) (hO : OkH hd n) {i : Int} (hi1 : -2147483648 ≤ i) (hi2 : i < 2147483648) : CT G (d + 2) yX3_intAt cX3_intAt 2 (some .int) [.ref (gA G c), .int (iI i)] σ (R1 (.int (iI (elI n el i).toInt32.toInt)) σ) := by
  refine CT.of (by decide +kernel) (Nat.le_of_ble_eq_true rfl) ?_
  change AW G _ RX3 _ _ _ 0 [(0, .ref (gA G c)), (1, .int (iI i))] [] _ _
  have hR2 := hR
  have hO2 := hO
  obtain ⟨r0, r1, r2⟩ := hR2
  obtain ⟨o1, o2, o3, o4⟩ := hO2
  refine A_aload_n (pc := 0) dX3_intAt_0 rfl rfl ?_
  refine A_iload_n (pc := 1) dX3_intAt_1 rfl rfl ?_
  refine A_callV1 (pc := 2) kX3_26 (shp_S hS) rfl (c_X3_longAt hS hR hO hi1 hi2) dX3_intAt_2 rfl rfl (Nat.le_of_ble_eq_true rfl) (Nat.le_of_ble_eq_true rfl) ?_
  refine A_l2i (pc := 5) dX3_intAt_5 ?_
  refine A_iret (pc := 6) rfl dX3_intAt_6 ?_
  exact ⟨rfl, rfl⟩
theorem dX3_lowestBits_0 : decode cX3_lowestBits 0 = .ok (.aload_n 0, 1) := by decide +kernel
theorem dX3_lowestBits_1 : decode cX3_lowestBits 1 = .ok (.getfield 9, 3) := by decide +kernel
theorem dX3_lowestBits_4 : decode cX3_lowestBits 4 = .ok (.bipush 100, 2) := by decide +kernel
theorem dX3_lowestBits_6 : decode cX3_lowestBits 6 = .ok (.isub, 1) := by decide +kernel
theorem dX3_lowestBits_7 : decode cX3_lowestBits 7 = .ok (.tableswitch 39 0 2 #[25, 30, 35], 25) := by decide +kernel
theorem dX3_lowestBits_32 : decode cX3_lowestBits 32 = .ok (.lload_n 1, 1) := by decide +kernel
theorem dX3_lowestBits_33 : decode cX3_lowestBits 33 = .ok (.l2i, 1) := by decide +kernel
theorem dX3_lowestBits_34 : decode cX3_lowestBits 34 = .ok (.i2b, 1) := by decide +kernel
theorem dX3_lowestBits_35 : decode cX3_lowestBits 35 = .ok (.i2l, 1) := by decide +kernel
theorem dX3_lowestBits_36 : decode cX3_lowestBits 36 = .ok (.lreturn, 1) := by decide +kernel
theorem dX3_lowestBits_37 : decode cX3_lowestBits 37 = .ok (.lload_n 1, 1) := by decide +kernel
theorem dX3_lowestBits_38 : decode cX3_lowestBits 38 = .ok (.l2i, 1) := by decide +kernel
theorem dX3_lowestBits_39 : decode cX3_lowestBits 39 = .ok (.i2s, 1) := by decide +kernel
theorem dX3_lowestBits_40 : decode cX3_lowestBits 40 = .ok (.i2l, 1) := by decide +kernel
theorem dX3_lowestBits_41 : decode cX3_lowestBits 41 = .ok (.lreturn, 1) := by decide +kernel
theorem dX3_lowestBits_42 : decode cX3_lowestBits 42 = .ok (.lload_n 1, 1) := by decide +kernel
theorem dX3_lowestBits_43 : decode cX3_lowestBits 43 = .ok (.l2i, 1) := by decide +kernel
theorem dX3_lowestBits_44 : decode cX3_lowestBits 44 = .ok (.i2l, 1) := by decide +kernel
theorem dX3_lowestBits_45 : decode cX3_lowestBits 45 = .ok (.lreturn, 1) := by decide +kernel
theorem dX3_lowestBits_46 : decode cX3_lowestBits 46 = .ok (.lload_n 1, 1) := by decide +kernel
theorem dX3_lowestBits_47 : decode cX3_lowestBits 47 = .ok (.lreturn, 1) := by decide +kernel
set_option maxRecDepth 20000 in
theorem c_X3_lowestBits {G : Gl} {d : Nat} {σ : Sg} {c : Nat} (hS : SC c) {hd n : Int} {el : Nat → Int64} (hR : RS c hd n el σ) (hO : OkH hd n) {v : Int64} (hrow : 100 ≤ hd) : CT G d yX3_lowestBits cX3_lowestBits 3 (some .long) [.ref (gA G c), .long (v)] σ (R1 (.long (lowB (hd - 100) v)) σ) := by
  refine CT.of (by decide +kernel) (Nat.le_of_ble_eq_true rfl) ?_
  change AW G _ RX3 _ _ _ 0 [(0, .ref (gA G c)), (1, .long (v))] [] _ _
  have hR2 := hR
  have hO2 := hO
  obtain ⟨r0, r1, r2⟩ := hR2
  obtain ⟨o1, o2, o3, o4⟩ := hO2
  refine A_aload_n (pc := 0) dX3_lowestBits_0 rfl rfl ?_
  refine A_getIv (pc := 1) fX3_9 (shp_S hS) rfl r0 dX3_lowestBits_1 ?_
  refine A_bipush (pc := 4) dX3_lowestBits_4 (by decide) ?_
  refine A_isub (pc := 6) dX3_lowestBits_6 ?_
  refine A_tsw (pc := 7) [(0, 32), (1, 37), (2, 42)] 46 dX3_lowestBits_7 (by decide) (by decide) (by decide) (by omega) (by omega) ?_
  refine ⟨fun h7 => ?_, fun h7n0 => ?_⟩
  · skip
    refine A_lload_n (pc := 32) dX3_lowestBits_32 rfl rfl ?_
    refine A_l2i (pc := 33) dX3_lowestBits_33 ?_
    refine A_i2b (pc := 34) dX3_lowestBits_34 ?_
    refine A_i2l (pc := 35) dX3_lowestBits_35 ?_
    refine A_lret (pc := 36) rfl dX3_lowestBits_36 ?_
    exact ⟨by rw [lowB, if_pos h7], rfl⟩
  refine ⟨fun h7 => ?_, fun h7n1 => ?_⟩
  · skip
    refine A_lload_n (pc := 37) dX3_lowestBits_37 rfl rfl ?_
    refine A_l2i (pc := 38) dX3_lowestBits_38 ?_
    refine A_i2s (pc := 39) dX3_lowestBits_39 ?_
    refine A_i2l (pc := 40) dX3_lowestBits_40 ?_
    refine A_lret (pc := 41) rfl dX3_lowestBits_41 ?_
    exact ⟨by rw [lowB, if_neg (by omega), if_pos h7], rfl⟩
  refine ⟨fun h7 => ?_, fun h7n2 => ?_⟩
  · skip
    refine A_lload_n (pc := 42) dX3_lowestBits_42 rfl rfl ?_
    refine A_l2i (pc := 43) dX3_lowestBits_43 ?_
    refine A_i2l (pc := 44) dX3_lowestBits_44 ?_
    refine A_lret (pc := 45) rfl dX3_lowestBits_45 ?_
    exact ⟨by rw [lowB, if_neg (by omega), if_neg (by omega), if_pos h7], rfl⟩
  change AW G _ _ _ _ _ 46 _ _ _ _
  refine A_lload_n (pc := 46) dX3_lowestBits_46 rfl rfl ?_
  refine A_lret (pc := 47) rfl dX3_lowestBits_47 ?_
  exact ⟨by rw [lowB, if_neg (by omega), if_neg (by omega), if_neg (by omega)], rfl⟩
theorem dX3_keep_0 : decode cX3_keep 0 = .ok (.aload_n 0, 1) := by decide +kernel
theorem dX3_keep_1 : decode cX3_keep 1 = .ok (.iload_n 1, 1) := by decide +kernel
theorem dX3_keep_2 : decode cX3_keep 2 = .ok (.invokevirtual 22, 3) := by decide +kernel
theorem dX3_keep_5 : decode cX3_keep 5 = .ok (.ifCond .eq 14, 3) := by decide +kernel
theorem dX3_keep_8 : decode cX3_keep 8 = .ok (.aload_n 0, 1) := by decide +kernel
theorem dX3_keep_9 : decode cX3_keep 9 = .ok (.getfield 18, 3) := by decide +kernel
theorem dX3_keep_12 : decode cX3_keep 12 = .ok (.iload_n 1, 1) := by decide +kernel
theorem dX3_keep_13 : decode cX3_keep 13 = .ok (.aload_n 0, 1) := by decide +kernel
theorem dX3_keep_14 : decode cX3_keep 14 = .ok (.lload_n 2, 1) := by decide +kernel
theorem dX3_keep_15 : decode cX3_keep 15 = .ok (.invokevirtual 30, 3) := by decide +kernel
theorem dX3_keep_18 : decode cX3_keep 18 = .ok (.lastore, 1) := by decide +kernel
theorem dX3_keep_19 : decode cX3_keep 19 = .ok (.return_, 1) := by decide +kernel
set_option maxRecDepth 20000 in
theorem c_X3_keep {G : Gl} {d : Nat} {σ : Sg} {c : Nat} (hS : SC c) {hd n : Int} {el : Nat → Int64} (hR : RS c hd n el σ) (hO : OkH hd n) {k : Nat} (hk : (k : Int) < n) {v : Int64} (hrow : 100 ≤ hd) : CT G (d + 1) yX3_keep cX3_keep 4 none [.ref (gA G c), .int (iI (k : Int)), .long (v)] σ (R0 (uL σ (c + 1) k (lowB (hd - 100) v))) := by
  refine CT.of (by decide +kernel) (Nat.le_of_ble_eq_true rfl) ?_
  change AW G _ RX3 _ _ _ 0 [(0, .ref (gA G c)), (1, .int (iI (k : Int))), (2, .long (v))] [] _ _
  have hR2 := hR
  have hO2 := hO
  obtain ⟨r0, r1, r2⟩ := hR2
  obtain ⟨o1, o2, o3, o4⟩ := hO2
  refine A_aload_n (pc := 0) dX3_keep_0 rfl rfl ?_
  refine A_iload_n (pc := 1) dX3_keep_1 rfl rfl ?_
  refine A_callV1 (pc := 2) kX3_22 (shp_S hS) rfl (c_X3_hasElement hS hR hO (by omega) (by omega)) dX3_keep_2 rfl rfl (Nat.le_of_ble_eq_true rfl) (Nat.le_of_ble_eq_true rfl) ?_
  refine A_ifb_eq (pc := 5) 19 dX3_keep_5 (by decide) (fun h5 => ?_) (fun h5 => ?_)
  · skip
    refine A_vret (pc := 19) rfl dX3_keep_19 ?_
    exfalso; omega
  · skip
    refine A_aload_n (pc := 8) dX3_keep_8 rfl rfl ?_
    refine A_getR (pc := 9) fX3_18 (shp_S hS) rfl dX3_keep_9 ?_
    refine A_iload_n (pc := 12) dX3_keep_12 rfl rfl ?_
    refine A_aload_n (pc := 13) dX3_keep_13 rfl rfl ?_
    refine A_lload_n (pc := 14) dX3_keep_14 rfl rfl ?_
    refine A_callV1 (pc := 15) kX3_30 (shp_S hS) rfl (c_X3_lowestBits hS hR hO hrow) dX3_keep_15 rfl rfl (Nat.le_of_ble_eq_true rfl) (Nat.le_of_ble_eq_true rfl) ?_
    refine A_last (pc := 18) _ (shp_S_elements hS) rfl (by omega) (Nat.le_of_ble_eq_true rfl) dX3_keep_18 ?_
    refine A_vret (pc := 19) rfl dX3_keep_19 ?_
    exact ⟨rfl, rfl⟩
theorem dX3_holdRow_0 : decode cX3_holdRow 0 = .ok (.aload_n 0, 1) := by decide +kernel
theorem dX3_holdRow_1 : decode cX3_holdRow 1 = .ok (.bipush 100, 2) := by decide +kernel
theorem dX3_holdRow_3 : decode cX3_holdRow 3 = .ok (.iload_n 1, 1) := by decide +kernel
theorem dX3_holdRow_4 : decode cX3_holdRow 4 = .ok (.iadd, 1) := by decide +kernel
theorem dX3_holdRow_5 : decode cX3_holdRow 5 = .ok (.putfield 9, 3) := by decide +kernel
theorem dX3_holdRow_8 : decode cX3_holdRow 8 = .ok (.aload_n 0, 1) := by decide +kernel
theorem dX3_holdRow_9 : decode cX3_holdRow 9 = .ok (.iload_n 2, 1) := by decide +kernel
theorem dX3_holdRow_10 : decode cX3_holdRow 10 = .ok (.putfield 15, 3) := by decide +kernel
theorem dX3_holdRow_13 : decode cX3_holdRow 13 = .ok (.iconst 0, 1) := by decide +kernel
theorem dX3_holdRow_14 : decode cX3_holdRow 14 = .ok (.istore_n 3, 1) := by decide +kernel
theorem dX3_holdRow_15 : decode cX3_holdRow 15 = .ok (.iload_n 3, 1) := by decide +kernel
theorem dX3_holdRow_16 : decode cX3_holdRow 16 = .ok (.sipush 160, 3) := by decide +kernel
theorem dX3_holdRow_19 : decode cX3_holdRow 19 = .ok (.if_icmp .ge 16, 3) := by decide +kernel
theorem dX3_holdRow_22 : decode cX3_holdRow 22 = .ok (.aload_n 0, 1) := by decide +kernel
theorem dX3_holdRow_23 : decode cX3_holdRow 23 = .ok (.getfield 18, 3) := by decide +kernel
theorem dX3_holdRow_26 : decode cX3_holdRow 26 = .ok (.iload_n 3, 1) := by decide +kernel
theorem dX3_holdRow_27 : decode cX3_holdRow 27 = .ok (.lconst 0, 1) := by decide +kernel
theorem dX3_holdRow_28 : decode cX3_holdRow 28 = .ok (.lastore, 1) := by decide +kernel
theorem dX3_holdRow_29 : decode cX3_holdRow 29 = .ok (.iinc 3 1, 3) := by decide +kernel
theorem dX3_holdRow_32 : decode cX3_holdRow 32 = .ok (.goto (-17), 3) := by decide +kernel
theorem dX3_holdRow_35 : decode cX3_holdRow 35 = .ok (.return_, 1) := by decide +kernel
set_option maxRecDepth 20000 in
theorem l_X3_holdRow {G : Gl} {d : Nat} {σ0 : Sg} {K : Option Value → Sg → Prop} {c : Nat} (hS : SC c) : ∀ (n i : Nat) (σ : Sg), i + n = 160 → Fr (SS c) σ0 σ → σ.1 = σ0.1 → (∀ j, j < i → σ.2 (c + 1) j = 0) → (∀ υ, Fr (SS c) σ0 υ → υ.1 = σ0.1 → (∀ j, j < 160 → υ.2 (c + 1) j = 0) → K none υ) → AW G d RX3 cX3_holdRow 4 none 15 [(0, .ref (gA G c)), (3, .int (iI (i : Int)))] [] σ K := by
  intro n
  induction n using Nat.strongRecOn
  rename_i n ih
  intro i σ hn hF he hz hK
  refine A_iload_n (pc := 15) dX3_holdRow_15 rfl rfl ?_
  refine A_sipush (pc := 16) dX3_holdRow_16 (by decide) ?_
  refine A_icmp_ge (pc := 19) 35 dX3_holdRow_19 (by decide) (by omega) (by omega) (by omega) (by omega) (fun h19 => ?_) (fun h19 => ?_)
  · skip
    refine A_vret (pc := 35) rfl dX3_holdRow_35 ?_
    exact hK σ hF he (fun j hj => hz j (by omega))
  · skip
    refine A_aload_n (pc := 22) dX3_holdRow_22 rfl rfl ?_
    refine A_getR (pc := 23) fX3_18 (shp_S hS) rfl dX3_holdRow_23 ?_
    refine A_iload_n (pc := 26) dX3_holdRow_26 rfl rfl ?_
    refine A_lconst (pc := 27) 0 dX3_holdRow_27 rfl ?_
    refine A_last (pc := 28) _ (shp_S_elements hS) rfl (by omega) (Nat.le_of_ble_eq_true rfl) dX3_holdRow_28 ?_
    refine A_iinc (pc := 29) dX3_holdRow_29 rfl (Nat.le_of_ble_eq_true rfl) ?_
    refine A_goto (pc := 32) 15 dX3_holdRow_32 (by decide) ?_
    obtain ⟨m, rfl⟩ : ∃ m, n = m + 1 := ⟨n - 1, by omega⟩
    refine A_loc (l2 := [(0, _), (3, _)]) ⟨rfl, rfl, trivial⟩ ?_
    refine ih m (by omega) (i + 1) _ (by omega) (hF.uL (Or.inr rfl)) he (fun j hj => ?_) hK
    rw [uL_at]
    by_cases e : j = i
    · rw [if_pos ⟨rfl, e⟩]
    · rw [if_neg (fun q => e q.2)]; exact hz j (by omega)
set_option maxRecDepth 20000 in
theorem c_X3_holdRow {G : Gl} {d : Nat} {σ : Sg} {c : Nat} (hS : SC c) {sort n : Int} : CT G d yX3_holdRow cX3_holdRow 4 none [.ref (gA G c), .int (iI sort), .int (iI n)] σ (RE none (fun υ => RS c (100 + sort) n (fun _ => 0) υ ∧ Fr (SS c) σ υ)) := by
  refine CT.of (by decide +kernel) (Nat.le_of_ble_eq_true rfl) ?_
  change AW G _ RX3 _ _ _ 0 [(0, .ref (gA G c)), (1, .int (iI sort)), (2, .int (iI n))] [] _ _
  refine A_aload_n (pc := 0) dX3_holdRow_0 rfl rfl ?_
  refine A_bipush (pc := 1) dX3_holdRow_1 (by decide) ?_
  refine A_iload_n (pc := 3) dX3_holdRow_3 rfl rfl ?_
  refine A_iadd (pc := 4) dX3_holdRow_4 ?_
  refine A_putI (pc := 5) fX3_9 wr_2_0 (shp_S hS) rfl dX3_holdRow_5 ?_
  refine A_aload_n (pc := 8) dX3_holdRow_8 rfl rfl ?_
  refine A_iload_n (pc := 9) dX3_holdRow_9 rfl rfl ?_
  refine A_putI (pc := 10) fX3_15 wr_2_1 (shp_S hS) rfl dX3_holdRow_10 ?_
  refine A_iconst (pc := 13) dX3_holdRow_13 ?_
  refine A_istore_n (pc := 14) dX3_holdRow_14 rfl (Nat.le_of_ble_eq_true rfl) ?_
  refine A_loc (l2 := [(0, _), (3, _)]) ⟨rfl, rfl, trivial⟩ ?_
  refine l_X3_holdRow (σ0 := uI (uI σ c 0 (100 + sort)) c 1 n) hS 160 0 _ (by omega) Fr.rf rfl (fun j hj => absurd hj (by omega)) ?_
  intro υ h1 h2 h3
  refine ⟨rfl, ⟨?_, ?_, h3⟩, ((Fr.rf.uI (Or.inl rfl)).uI (Or.inl rfl)).tr h1⟩
  · rw [h2]; simp [uI_at]
  · rw [h2]; simp [uI_at]
/-- the elements of a row as a set of squares -/
def elS (n : Int) (el : Nat → Int64) : Nat → Nat → Nat
  | 0, _ => 0
  | m + 1, i => sqB (elI n el (i : Int)).toInt32.toInt ||| elS n el m (i + 1)
theorem elS_lt (n : Int) (el : Nat → Int64) : ∀ m i, elS n el m i < 2 ^ 49
  | 0, _ => by unfold elS; decide
  | m + 1, i => by unfold elS; exact or49 (sqB_lt _) (elS_lt n el m (i + 1))
theorem i32_lo (x : Int32) : -2147483648 ≤ x.toInt := by have := Int32.le_toInt x; omega
theorem i32_hi (x : Int32) : x.toInt < 2147483648 := by have := Int32.toInt_lt x; omega
theorem dX3_squares_0 : decode cX3_squares 0 = .ok (.lconst 0, 1) := by decide +kernel
theorem dX3_squares_1 : decode cX3_squares 1 = .ok (.lstore_n 1, 1) := by decide +kernel
theorem dX3_squares_2 : decode cX3_squares 2 = .ok (.iconst 0, 1) := by decide +kernel
theorem dX3_squares_3 : decode cX3_squares 3 = .ok (.istore_n 3, 1) := by decide +kernel
theorem dX3_squares_4 : decode cX3_squares 4 = .ok (.iload_n 3, 1) := by decide +kernel
theorem dX3_squares_5 : decode cX3_squares 5 = .ok (.aload_n 0, 1) := by decide +kernel
theorem dX3_squares_6 : decode cX3_squares 6 = .ok (.getfield 15, 3) := by decide +kernel
theorem dX3_squares_9 : decode cX3_squares 9 = .ok (.if_icmp .ge 19, 3) := by decide +kernel
theorem dX3_squares_12 : decode cX3_squares 12 = .ok (.lload_n 1, 1) := by decide +kernel
theorem dX3_squares_13 : decode cX3_squares 13 = .ok (.aload_n 0, 1) := by decide +kernel
theorem dX3_squares_14 : decode cX3_squares 14 = .ok (.iload_n 3, 1) := by decide +kernel
theorem dX3_squares_15 : decode cX3_squares 15 = .ok (.invokevirtual 44, 3) := by decide +kernel
theorem dX3_squares_18 : decode cX3_squares 18 = .ok (.invokestatic 48, 3) := by decide +kernel
theorem dX3_squares_21 : decode cX3_squares 21 = .ok (.lstore_n 1, 1) := by decide +kernel
theorem dX3_squares_22 : decode cX3_squares 22 = .ok (.iinc 3 1, 3) := by decide +kernel
theorem dX3_squares_25 : decode cX3_squares 25 = .ok (.goto (-21), 3) := by decide +kernel
theorem dX3_squares_28 : decode cX3_squares 28 = .ok (.lload_n 1, 1) := by decide +kernel
theorem dX3_squares_29 : decode cX3_squares 29 = .ok (.lreturn, 1) := by decide +kernel
set_option maxRecDepth 20000 in
theorem l_X3_squares {G : Gl} {d : Nat} {σ : Sg} {K : Option Value → Sg → Prop} {c : Nat} (hS : SC c) {hd n : Int} {el : Nat → Int64} (hR : RS c hd n el σ) (hO : OkH hd n) : ∀ (m i acc : Nat), (i : Int) + m = n → acc < 2 ^ 49 → K (some (.long (lN (acc ||| elS n el m i)))) σ → AW G (d + 3) RX3 cX3_squares 4 (some .long) 4 [(0, .ref (gA G c)), (1, .long (lN acc)), (3, .int (iI (i : Int)))] [] σ K := by
  intro n9
  induction n9 using Nat.strongRecOn
  rename_i n9 ih
  intro i acc hn ha hK
  have hR2 := hR
  have hO2 := hO
  obtain ⟨r0, r1, r2⟩ := hR2
  obtain ⟨o1, o2, o3, o4⟩ := hO2
  refine A_iload_n (pc := 4) dX3_squares_4 rfl rfl ?_
  refine A_aload_n (pc := 5) dX3_squares_5 rfl rfl ?_
  refine A_getIv (pc := 6) fX3_15 (shp_S hS) rfl r1 dX3_squares_6 ?_
  refine A_icmp_ge (pc := 9) 28 dX3_squares_9 (by decide) (by omega) (by omega) (by omega) (by omega) (fun h9 => ?_) (fun h9 => ?_)
  · skip
    refine A_lload_n (pc := 28) dX3_squares_28 rfl rfl ?_
    refine A_lret (pc := 29) rfl dX3_squares_29 ?_
    have hn0 : n9 = 0 := by omega
    subst hn0
    rw [elS, Nat.or_zero] at hK
    exact hK
  · skip
    refine A_lload_n (pc := 12) dX3_squares_12 rfl rfl ?_
    refine A_aload_n (pc := 13) dX3_squares_13 rfl rfl ?_
    refine A_iload_n (pc := 14) dX3_squares_14 rfl rfl ?_
    refine A_callV1 (pc := 15) kX3_44 (shp_S hS) rfl (c_X3_intAt hS hR hO (by omega) (by omega)) dX3_squares_15 rfl rfl (Nat.le_of_ble_eq_true rfl) (Nat.le_of_ble_eq_true rfl) ?_
    refine A_callS1 (pc := 18) kX3_48 (c_X0_with ha (i32_lo _) (i32_hi _)) dX3_squares_18 rfl rfl (Nat.le_of_ble_eq_true rfl) (Nat.le_of_ble_eq_true rfl) ?_
    refine A_lstore_n (pc := 21) dX3_squares_21 rfl (Nat.le_of_ble_eq_true rfl) ?_
    refine A_iinc (pc := 22) dX3_squares_22 rfl (Nat.le_of_ble_eq_true rfl) ?_
    refine A_goto (pc := 25) 4 dX3_squares_25 (by decide) ?_
    obtain ⟨m, rfl⟩ : ∃ m, n9 = m + 1 := ⟨n9 - 1, by omega⟩
    refine A_loc (l2 := [(0, _), (1, _), (3, _)]) ⟨rfl, rfl, rfl, trivial⟩ ?_
    refine ih m (by omega) (i + 1) _ (by omega) (or49 ha (sqB_lt _)) ?_
    rw [elS, ← Nat.or_assoc] at hK
    exact hK
set_option maxRecDepth 20000 in
theorem c_X3_squares {G : Gl} {d : Nat} {σ : Sg} {c : Nat} (hS : SC c) {hd n : Int} {el : Nat → Int64} (hR : RS c hd n el σ) (hO : OkH hd n)  : CT G (d + 3) yX3_squares cX3_squares 4 (some .long) [.ref (gA G c)] σ (R1 (.long (lN (elS n el n.toNat 0))) σ) := by
  refine CT.of (by decide +kernel) (Nat.le_of_ble_eq_true rfl) ?_
  change AW G _ RX3 _ _ _ 0 [(0, .ref (gA G c))] [] _ _
  have hR2 := hR
  have hO2 := hO
  obtain ⟨r0, r1, r2⟩ := hR2
  obtain ⟨o1, o2, o3, o4⟩ := hO2
  refine A_lconst (pc := 0) 0 dX3_squares_0 rfl ?_
  refine A_lstore_n (pc := 1) dX3_squares_1 rfl (Nat.le_of_ble_eq_true rfl) ?_
  refine A_iconst (pc := 2) dX3_squares_2 ?_
  refine A_istore_n (pc := 3) dX3_squares_3 rfl (Nat.le_of_ble_eq_true rfl) ?_
  refine A_loc (l2 := [(0, _), (1, _), (3, _)]) ⟨rfl, rfl, rfl, trivial⟩ ?_
  exact l_X3_squares hS hR hO n.toNat 0 0 (by omega) (by decide) ⟨by rw [Nat.zero_or], rfl⟩
end
section
/-! PART 14: the whole state as a value, and its two pictures -/
/-- the town; the shelves (what each holds, its size, its elements); the image; the refusals; the fault; the trace (how many, which) -/
abbrev Zt : Type := Tw × ((Nat → Int) × (Nat → Int) × (Nat → Nat → Int64)) × (Bool × Tw) × (Nat → Int) × Int × (Int × (Nat → Int))
def zRef (Z : Zt) (r : Nat) : Zt := (Z.1, Z.2.1, Z.2.2.1, (fun i => if i = r then Z.2.2.2.1 r + 1 else Z.2.2.2.1 i), Z.2.2.2.2)
def zShelf (Z : Zt) (k : Nat) (hd n : Int) (el : Nat → Int64) : Zt := (Z.1, ((fun j => if j = k then hd else Z.2.1.1 j), (fun j => if j = k then n else Z.2.1.2.1 j), fun j => if j = k then el else Z.2.1.2.2 j), Z.2.2)
def zTw (Z : Zt) (τ : Tw) : Zt := (τ, Z.2)
def zImg (Z : Zt) : Zt := (Z.1, Z.2.1, (true, Z.1), Z.2.2.2)
def zFlt (Z : Zt) (f : Int) : Zt := (Z.1, Z.2.1, Z.2.2.1, Z.2.2.2.1, f, Z.2.2.2.2.2)
def zTrc (Z : Zt) (c : Int × (Nat → Int)) : Zt := (Z.1, Z.2.1, Z.2.2.1, Z.2.2.2.1, Z.2.2.2.2.1, c)
def OkZ (Z : Zt) : Prop := OkT Z.1 ∧ (∀ k, k < 8 → OkH (Z.2.1.1 k) (Z.2.1.2.1 k) ∧ (Z.2.1.1 k < 100 → Z.2.1.1 k < Z.1.2.1 0 ∧ Z.2.1.2.1 k = 0)) ∧ (Z.2.2.1.1 = true → OkT Z.2.2.1.2) ∧ (0 ≤ Z.2.2.2.2.2.1 ∧ Z.2.2.2.2.2.1 ≤ 1000)
def RelX (Z : Zt) (σ : Sg) : Prop := RX 14 Z.1 σ ∧ (∀ k, k < 8 → RS (38 + 2 * k) (Z.2.1.1 k) (Z.2.1.2.1 k) (Z.2.1.2.2 k) σ) ∧ (σ.1 0 2 = bI (Z.2.2.1.1 = true) ∧ (Z.2.2.1.1 = true → RX 22 Z.2.2.1.2 σ)) ∧
  (∀ r, 1 ≤ r → r < 8 → σ.1 2 r = Z.2.2.2.1 r) ∧ σ.1 3 1 = Z.2.2.2.2.1 ∧ σ.1 12 0 = Z.2.2.2.2.2.1 ∧ (∀ i : Nat, i < 20 → (i : Int) < Z.2.2.2.2.2.1 → σ.1 13 i = Z.2.2.2.2.2.2 i)
/-- the reference's image -/
def RMo (τ : Tw) (σ : Sg) : Prop := (∀ j p : Nat, j < 4 → (p : Int) < τ.2.1 0 → σ.1 71 (9 * j + p) = τ.2.2 j p) ∧ (∀ j w : Nat, j < 3 → (w : Int) < τ.2.1 1 → σ.1 71 (36 + 5 * j + w) = τ.2.2 (4 + j) w) ∧ (∀ i : Nat, i < 49 → σ.1 71 (51 + i) = bI (τ.1.testBit i = true)) ∧
  (∀ k : Nat, k < 3 → σ.1 71 (100 + k) = τ.2.1 (2 + k)) ∧ σ.1 71 103 = τ.2.1 0 ∧ σ.1 71 104 = τ.2.1 1 ∧ σ.1 54 25 = τ.2.1 5
def RelM (Z : Zt) (σ : Sg) : Prop := RMt Z.1 σ ∧ (∀ k, k < 8 → σ.1 64 k = Z.2.1.1 k ∧ (100 ≤ Z.2.1.1 k → σ.1 65 k = Z.2.1.2.1 k) ∧ ∀ i, i < 160 → σ.2 66 (160 * k + i) = Z.2.1.2.2 k i) ∧ (σ.1 54 23 = bI (Z.2.2.1.1 = true) ∧ (Z.2.2.1.1 = true → RMo Z.2.2.1.2 σ)) ∧
  (∀ r, 1 ≤ r → r < 8 → σ.1 70 r = Z.2.2.2.1 r) ∧ σ.1 54 18 = Z.2.2.2.2.1 ∧ σ.1 54 20 = Z.2.2.2.2.2.1 ∧ (∀ i : Nat, i < 20 → (i : Int) < Z.2.2.2.2.2.1 → σ.1 69 i = Z.2.2.2.2.2.2 i)
/-- the class's cells, the reference's -/
def XC : Nat → Prop := fun a => a < 54
def MC : Nat → Prop := fun a => 54 ≤ a
theorem RS.fr {c : Nat} {hd n : Int} {el : Nat → Int64} {σ υ : Sg} {S : Nat → Prop} (h : RS c hd n el σ) (hF : Fr S σ υ) (h1 : ¬ S c) (h2 : ¬ S (c + 1)) : RS c hd n el υ := by
  obtain ⟨a1, a2, a3⟩ := h
  exact ⟨by rw [(hF c h1).1]; exact a1, by rw [(hF c h1).1]; exact a2, fun i hi => by rw [(hF _ h2).2]; exact a3 i hi⟩
/-- the cells of the class that the value doesn't speak of -/
def ScX : Nat → Prop := fun a => (4 ≤ a ∧ a ≤ 11) ∨ (30 ≤ a ∧ a ≤ 37)
theorem RelX.fr {Z : Zt} {σ υ : Sg} (h : RelX Z σ) {S : Nat → Prop} (hF : Fr S σ υ) (hS : ∀ a, S a → ScX a ∨ 54 ≤ a) : RelX Z υ := by
  obtain ⟨h1, h2, ⟨h3, h4⟩, h5, h6, h7, h8⟩ := h
  have n : ∀ a, a < 54 → ¬ ScX a → ¬ S a := fun a ha hs q => (hS a q).elim hs (fun z => absurd z (by omega))
  have e : ∀ a, a < 54 → ¬ ScX a → υ.1 a = σ.1 a := fun a ha hs => (hF a (n a ha hs)).1
  refine ⟨h1.fr hF (fun a q z => (hS a q).elim (fun s => by unfold ScX at s; omega) (fun s => by omega)), fun k hk => (h2 k hk).fr hF (n _ (by omega) (by unfold ScX; omega)) (n _ (by omega) (by unfold ScX; omega)), ⟨?_, fun q => (h4 q).fr hF (fun a q z => (hS a q).elim (fun s => by unfold ScX at s; omega) (fun s => by omega))⟩, fun r r1 r2 => ?_, ?_, ?_, fun i i1 i2 => ?_⟩
  · rw [e 0 (by omega) (by unfold ScX; omega)]; exact h3
  · rw [e 2 (by omega) (by unfold ScX; omega)]; exact h5 r r1 r2
  · rw [e 3 (by omega) (by unfold ScX; omega)]; exact h6
  · rw [e 12 (by omega) (by unfold ScX; omega)]; exact h7
  · rw [e 13 (by omega) (by unfold ScX; omega)]; exact h8 i i1 i2
theorem RelX.ref {Z : Zt} {σ : Sg} (h : RelX Z σ) {r : Nat} (r1 : 1 ≤ r) (r2 : r < 8) : RelX (zRef Z r) (uI σ 2 r (σ.1 2 r + 1)) := by
  have hF : Fr (fun a => a = 2) σ (uI σ 2 r (σ.1 2 r + 1)) := Fr.rf.uI rfl
  obtain ⟨h1, h2, ⟨h3, h4⟩, h5, h6, h7, h8⟩ := h
  refine ⟨h1.fr hF (fun a q z => by have q2 : a = 2 := q; omega), fun k hk => (h2 k hk).fr hF (fun q => by have q2 : 38 + 2 * k = 2 := q; omega) (fun q => by have q2 : 38 + 2 * k + 1 = 2 := q; omega), ⟨h3, fun q => (h4 q).fr hF (fun a q z => by have q2 : a = 2 := q; omega)⟩, fun i i1 i2 => ?_, h6, h7, h8⟩
  rw [uI_at]
  show _ = if i = r then Z.2.2.2.1 r + 1 else Z.2.2.2.1 i
  by_cases e : i = r
  · rw [if_pos ⟨rfl, e⟩, if_pos e, h5 r r1 r2]
  · rw [if_neg (fun q => e q.2), if_neg e, h5 i i1 i2]
theorem RelX.shelf {Z : Zt} {σ υ : Sg} (h : RelX Z σ) {k : Nat} (hk : k < 8) {hd n : Int} {el : Nat → Int64} (hS : RS (38 + 2 * k) hd n el υ) (hF : Fr (SS (38 + 2 * k)) σ υ) : RelX (zShelf Z k hd n el) υ := by
  obtain ⟨h1, h2, ⟨h3, h4⟩, h5, h6, h7, h8⟩ := h
  have n : ∀ a, a < 38 → ¬ SS (38 + 2 * k) a := fun a ha q => by unfold SS at q; omega
  have e : ∀ a, a < 38 → υ.1 a = σ.1 a := fun a ha => (hF a (n a ha)).1
  refine ⟨h1.fr hF (fun a q z => by unfold SS at q; omega), fun j hj => ?_, ⟨by rw [e 0 (by omega)]; exact h3, fun q => (h4 q).fr hF (fun a q z => by unfold SS at q; omega)⟩, fun i i1 i2 => by rw [e 2 (by omega)]; exact h5 i i1 i2, by rw [e 3 (by omega)]; exact h6, by rw [e 12 (by omega)]; exact h7, fun i i1 i2 => by rw [e 13 (by omega)]; exact h8 i i1 i2⟩
  by_cases q : j = k
  · subst q
    simp only [zShelf, if_pos]
    exact hS
  · simp only [zShelf, if_neg q]
    exact (h2 j hj).fr hF (fun z => by unfold SS at z; omega) (fun z => by unfold SS at z; omega)
theorem RelX.town {Z : Zt} {σ υ : Sg} (h : RelX Z σ) {τ : Tw} (hT : RX 14 τ υ) (hF : Fr (TS 14) σ υ) : RelX (zTw Z τ) υ := by
  obtain ⟨h1, h2, ⟨h3, h4⟩, h5, h6, h7, h8⟩ := h
  have e : ∀ a, (a < 14 ∨ 22 ≤ a) → υ.1 a = σ.1 a := fun a ha => (hF a (fun q => by unfold TS at q; omega)).1
  exact ⟨hT, fun j hj => (h2 j hj).fr hF (fun z => by unfold TS at z; omega) (fun z => by unfold TS at z; omega), ⟨by rw [e 0 (by omega)]; exact h3, fun q => (h4 q).fr hF (fun a q z => by unfold TS at q; omega)⟩, fun i i1 i2 => by rw [e 2 (by omega)]; exact h5 i i1 i2, by rw [e 3 (by omega)]; exact h6, by rw [e 12 (by omega)]; exact h7, fun i i1 i2 => by rw [e 13 (by omega)]; exact h8 i i1 i2⟩
/-! the reference -/
theorem RelM.ag {Z : Zt} {σ υ : Sg} (h : RelM Z σ) (h1 : ∀ a, (55 ≤ a ∧ a ≤ 66) ∨ (69 ≤ a ∧ a ≤ 71) → υ.1 a = σ.1 a ∧ υ.2 a = σ.2 a) (h2 : ∀ k, k = 0 ∨ k = 5 ∨ k = 11 ∨ k = 18 ∨ k = 20 ∨ k = 23 ∨ k = 25 → υ.1 54 k = σ.1 54 k) : RelM Z υ := by
  obtain ⟨⟨t1, t2, t3, t4, t5, t6, t7⟩, a2, ⟨a3, a4⟩, a5, a6, a7, a8⟩ := h
  have e : ∀ a, (55 ≤ a ∧ a ≤ 66) ∨ (69 ≤ a ∧ a ≤ 71) → υ.1 a = σ.1 a := fun a ha => (h1 a ha).1
  refine ⟨⟨fun i hi => by rw [e 62 (by omega)]; exact t1 i hi, by rw [h2 0 (by omega)]; exact t2, by rw [h2 5 (by omega)]; exact t3, fun k hk => by rw [e 63 (by omega)]; exact t4 k hk, by rw [h2 11 (by omega)]; exact t5, fun j p hj hp => by rw [e _ (by omega)]; exact t6 j p hj hp, fun j p hj hp => by rw [e _ (by omega)]; exact t7 j p hj hp⟩,
    fun k hk => ⟨by rw [e 64 (by omega)]; exact (a2 k hk).1, fun q => by rw [e 65 (by omega)]; exact (a2 k hk).2.1 q, fun i hi => by rw [(h1 66 (by omega)).2]; exact (a2 k hk).2.2 i hi⟩, ⟨by rw [h2 23 (by omega)]; exact a3, fun q => ?_⟩, fun r r1 r2 => by rw [e 70 (by omega)]; exact a5 r r1 r2, by rw [h2 18 (by omega)]; exact a6, by rw [h2 20 (by omega)]; exact a7, fun i i1 i2 => by rw [e 69 (by omega)]; exact a8 i i1 i2⟩
  obtain ⟨b1, b2, b3, b4, b5, b6, b7⟩ := a4 q
  exact ⟨fun j p hj hp => by rw [e 71 (by omega)]; exact b1 j p hj hp, fun j p hj hp => by rw [e 71 (by omega)]; exact b2 j p hj hp, fun i hi => by rw [e 71 (by omega)]; exact b3 i hi, fun k hk => by rw [e 71 (by omega)]; exact b4 k hk, by rw [e 71 (by omega)]; exact b5, by rw [e 71 (by omega)]; exact b6, by rw [h2 25 (by omega)]; exact b7⟩
theorem RelM.fr {Z : Zt} {σ υ : Sg} (h : RelM Z σ) {S : Nat → Prop} (hF : Fr S σ υ) (hS : ∀ a, S a → a < 54 ∨ a = 67 ∨ a = 68 ∨ 72 ≤ a) : RelM Z υ :=
  h.ag (fun a ha => hF a (fun q => by have := hS a q; omega)) (fun k _ => by rw [(hF 54 (fun q => by have := hS 54 q; omega)).1])
theorem RelM.ref {Z : Zt} {σ : Sg} (h : RelM Z σ) {r : Nat} (r1 : 1 ≤ r) (r2 : r < 8) : RelM (zRef Z r) (uI σ 70 r (σ.1 70 r + 1)) := by
  obtain ⟨⟨t1, t2, t3, t4, t5, t6, t7⟩, a2, ⟨a3, a4⟩, a5, a6, a7, a8⟩ := h
  have e : ∀ a, a ≠ 70 → (uI σ 70 r (σ.1 70 r + 1)).1 a = σ.1 a := fun a ha => (uI_ne ha).symm
  refine ⟨⟨fun i hi => by rw [e 62 (by omega)]; exact t1 i hi, t2, t3, fun k hk => by rw [e 63 (by omega)]; exact t4 k hk, t5, fun j p hj hp => by rw [e _ (by omega)]; exact t6 j p hj hp, fun j p hj hp => by rw [e _ (by omega)]; exact t7 j p hj hp⟩,
    fun k hk => ⟨by rw [e 64 (by omega)]; exact (a2 k hk).1, fun q => by rw [e 65 (by omega)]; exact (a2 k hk).2.1 q, (a2 k hk).2.2⟩, ⟨a3, fun q => ?_⟩, fun i i1 i2 => ?_, a6, a7, fun i i1 i2 => by rw [e 69 (by omega)]; exact a8 i i1 i2⟩
  · obtain ⟨b1, b2, b3, b4, b5, b6, b7⟩ := a4 q
    exact ⟨fun j p hj hp => by rw [e 71 (by omega)]; exact b1 j p hj hp, fun j p hj hp => by rw [e 71 (by omega)]; exact b2 j p hj hp, fun i hi => by rw [e 71 (by omega)]; exact b3 i hi, fun k hk => by rw [e 71 (by omega)]; exact b4 k hk, by rw [e 71 (by omega)]; exact b5, by rw [e 71 (by omega)]; exact b6, b7⟩
  · rw [uI_at]
    show _ = if i = r then Z.2.2.2.1 r + 1 else Z.2.2.2.1 i
    by_cases q : i = r
    · rw [if_pos ⟨rfl, q⟩, if_pos q, a5 r r1 r2]
    · rw [if_neg (fun z => q z.2), if_neg q, a5 i i1 i2]
/-- a change of a shelf in the reference -/
theorem RelM.shelf {Z : Zt} {σ υ : Sg} (h : RelM Z σ) {k : Nat} {hd n : Int} {el : Nat → Int64} (hF : Fr (fun a => a = 64 ∨ a = 65 ∨ a = 66) σ υ)
    (g1 : ∀ j, j < 8 → υ.1 64 j = if j = k then hd else σ.1 64 j) (g2 : ∀ j, j < 8 → (j = k → 100 ≤ hd → υ.1 65 j = n) ∧ (j ≠ k → υ.1 65 j = σ.1 65 j)) (g3 : ∀ j, j < 8 → ∀ i, i < 160 → υ.2 66 (160 * j + i) = if j = k then el i else σ.2 66 (160 * j + i)) : RelM (zShelf Z k hd n el) υ := by
  obtain ⟨⟨t1, t2, t3, t4, t5, t6, t7⟩, a2, ⟨a3, a4⟩, a5, a6, a7, a8⟩ := h
  have e : ∀ a, ¬ (a = 64 ∨ a = 65 ∨ a = 66) → υ.1 a = σ.1 a := fun a ha => (hF a ha).1
  refine ⟨⟨fun i hi => by rw [e 62 (by omega)]; exact t1 i hi, by rw [e 54 (by omega)]; exact t2, by rw [e 54 (by omega)]; exact t3, fun k hk => by rw [e 63 (by omega)]; exact t4 k hk, by rw [e 54 (by omega)]; exact t5, fun j p hj hp => by rw [e _ (by omega)]; exact t6 j p hj hp, fun j p hj hp => by rw [e _ (by omega)]; exact t7 j p hj hp⟩,
    fun j hj => ?_, ⟨by rw [e 54 (by omega)]; exact a3, fun q => ?_⟩, fun i i1 i2 => by rw [e 70 (by omega)]; exact a5 i i1 i2, by rw [e 54 (by omega)]; exact a6, by rw [e 54 (by omega)]; exact a7, fun i i1 i2 => by rw [e 69 (by omega)]; exact a8 i i1 i2⟩
  · by_cases q : j = k
    · subst q
      simp only [zShelf, if_pos]
      refine ⟨by rw [g1 j hj, if_pos rfl], fun z => (g2 j hj).1 rfl z, fun i hi => by rw [g3 j hj i hi, if_pos rfl]⟩
    · simp only [zShelf, if_neg q]
      refine ⟨by rw [g1 j hj, if_neg q]; exact (a2 j hj).1, fun z => by rw [(g2 j hj).2 q]; exact (a2 j hj).2.1 z, fun i hi => by rw [g3 j hj i hi, if_neg q]; exact (a2 j hj).2.2 i hi⟩
  · obtain ⟨b1, b2, b3, b4, b5, b6, b7⟩ := a4 q
    exact ⟨fun j p hj hp => by rw [e 71 (by omega)]; exact b1 j p hj hp, fun j p hj hp => by rw [e 71 (by omega)]; exact b2 j p hj hp, fun i hi => by rw [e 71 (by omega)]; exact b3 i hi, fun k hk => by rw [e 71 (by omega)]; exact b4 k hk, by rw [e 71 (by omega)]; exact b5, by rw [e 71 (by omega)]; exact b6, by rw [e 54 (by omega)]; exact b7⟩
/-- a change of the town in the reference -/
theorem RelM.town {Z : Zt} {σ υ : Sg} (h : RelM Z σ) {τ : Tw} (hT : RMt τ υ) (hF : Fr (fun a => 54 ≤ a ∧ a < 64) σ υ) (g : ∀ k, k = 18 ∨ k = 20 ∨ k = 23 ∨ k = 25 → υ.1 54 k = σ.1 54 k) : RelM (zTw Z τ) υ := by
  obtain ⟨-, a2, ⟨a3, a4⟩, a5, a6, a7, a8⟩ := h
  have e : ∀ a, 64 ≤ a → υ.1 a = σ.1 a := fun a ha => (hF a (fun q => by omega)).1
  refine ⟨hT, fun k hk => ⟨by rw [e 64 (by omega)]; exact (a2 k hk).1, fun q => by rw [e 65 (by omega)]; exact (a2 k hk).2.1 q, fun i hi => by rw [(hF 66 (fun q => by omega)).2]; exact (a2 k hk).2.2 i hi⟩, ⟨by rw [g 23 (by omega)]; exact a3, fun q => ?_⟩, fun r r1 r2 => by rw [e 70 (by omega)]; exact a5 r r1 r2, by rw [g 18 (by omega)]; exact a6, by rw [g 20 (by omega)]; exact a7, fun i i1 i2 => by rw [e 69 (by omega)]; exact a8 i i1 i2⟩
  obtain ⟨b1, b2, b3, b4, b5, b6, b7⟩ := a4 q
  exact ⟨fun j p hj hp => by rw [e 71 (by omega)]; exact b1 j p hj hp, fun j p hj hp => by rw [e 71 (by omega)]; exact b2 j p hj hp, fun i hi => by rw [e 71 (by omega)]; exact b3 i hi, fun k hk => by rw [e 71 (by omega)]; exact b4 k hk, by rw [e 71 (by omega)]; exact b5, by rw [e 71 (by omega)]; exact b6, by rw [g 25 (by omega)]; exact b7⟩
/-! the calls, as they should answer: shelves -/
def shB (s : Int) : Prop := 0 ≤ s ∧ s < 8
def rowT (Z : Zt) (s : Int) : Int := if ¬ (0 ≤ s ∧ s < 8) then -1 else if 0 ≤ Z.2.1.1 s.toNat ∧ Z.2.1.1 s.toNat < 100 then -2 else if 100 ≤ Z.2.1.1 s.toNat then 0 else -3
def refZ (Z : Zt) (t : Int) : Int × Zt := (t, zRef Z (-t).toNat)
def refA (Z : Zt) (t : Int) : Int × Zt := (t - 10, zRef Z (-t).toNat)
def qRow (Z : Zt) (s sort n : Int) : Int × Zt := if ¬ (0 ≤ s ∧ s < 8) then refZ Z (-1) else if n < 0 then refZ Z (-4) else if ¬ (0 ≤ sort ∧ sort ≤ 3) then refZ Z (-6) else if 160 < n then refZ Z (-7) else (1, zShelf Z s.toNat (100 + sort) n (fun _ => 0))
def qSet (Z : Zt) (s i : Int) (v : Int64) : Int × Zt := if rowT Z s ≠ 0 then refZ Z (rowT Z s) else if ¬ (0 ≤ i ∧ i < Z.2.1.2.1 s.toNat) then refZ Z (-5) else (1, zShelf Z s.toNat (Z.2.1.1 s.toNat) (Z.2.1.2.1 s.toNat) (fun j => if j = i.toNat then lowB (Z.2.1.1 s.toNat - 100) v else Z.2.1.2.2 s.toNat j))
def copyT (Z : Zt) (p q i j n : Int) : Int := if ¬ ((0 ≤ p ∧ p < 8) ∧ (0 ≤ q ∧ q < 8)) then -1
  else if (0 ≤ Z.2.1.1 p.toNat ∧ Z.2.1.1 p.toNat < 100) ∨ (0 ≤ Z.2.1.1 q.toNat ∧ Z.2.1.1 q.toNat < 100) ∨ (100 ≤ Z.2.1.1 p.toNat ∧ 100 ≤ Z.2.1.1 q.toNat ∧ Z.2.1.1 p.toNat ≠ Z.2.1.1 q.toNat) then -2
  else if ¬ (100 ≤ Z.2.1.1 p.toNat ∧ 100 ≤ Z.2.1.1 q.toNat) then -3 else if n < 0 then -4
  else if 0 ≤ i ∧ i + n ≤ Z.2.1.2.1 p.toNat ∧ 0 ≤ j ∧ j + n ≤ Z.2.1.2.1 q.toNat then 0 else -5
def qCopy (Z : Zt) (p q i j n : Int) : Int × Zt := if copyT Z p q i j n ≠ 0 then refZ Z (copyT Z p q i j n) else (1, zShelf Z q.toNat (Z.2.1.1 q.toNat) (Z.2.1.2.1 q.toNat) (va_cpy (Z.2.1.2.2 p.toNat) (Z.2.1.2.2 q.toNat) i.toNat j.toNat n.toNat))
def qElem (Z : Zt) (s i : Int) : Int64 := if 0 ≤ s ∧ s < 8 then elI (Z.2.1.2.1 s.toNat) (Z.2.1.2.2 s.toNat) i else 0
def qShow (Z : Zt) (s p : Int) : Int × Zt := if ¬ ((0 ≤ s ∧ s < 8) ∧ (p = -1 ∨ (0 ≤ p ∧ p < Z.1.2.1 0))) then refZ Z (-1) else (if p = -1 then 0 else 1, zShelf Z s.toNat p 0 (Z.2.1.2.2 s.toNat))
def qHolds (Z : Zt) (s : Int) : Int := if 0 ≤ s ∧ s < 8 then Z.2.1.1 s.toNat else -1
/-- the kind above -/
def abv (k : Int) : Int := if k = 3 then 1 else if k = 5 then 4 else if k = 6 then 2 else if k = 0 then -1 else 0
def undr (k w : Int) : Prop := k = w ∨ (0 < k ∧ (abv k = w ∨ (0 < abv k ∧ abv (abv k) = w)))
def saysV (τ : Tw) (p : Nat) (kind : Int) : Int := if kind = 1 ∨ kind = 3 then τ.2.2 3 p else if kind = 2 ∨ kind = 6 then τ.2.2 1 p else if kind = 4 ∨ kind = 5 then bc64 (lN (seeB τ τ.1 p)) else τ.2.2 2 p
def qSays (Z : Zt) (s kind : Int) : Int × Zt := if ¬ ((0 ≤ s ∧ s < 8) ∧ (0 ≤ kind ∧ kind < 7)) then refZ Z (-1) else if 100 ≤ Z.2.1.1 s.toNat then refZ Z (-2) else if Z.2.1.1 s.toNat = -1 then refZ Z (-3)
  else if (Z.1.2.2 0 (Z.2.1.1 s.toNat).toNat = kind ∨ (0 < Z.1.2.2 0 (Z.2.1.1 s.toNat).toNat ∧ (abv (Z.1.2.2 0 (Z.2.1.1 s.toNat).toNat) = kind ∨ (0 < abv (Z.1.2.2 0 (Z.2.1.1 s.toNat).toNat) ∧ abv (abv (Z.1.2.2 0 (Z.2.1.1 s.toNat).toNat)) = kind)))) then (saysV Z.1 (Z.2.1.1 s.toNat).toNat kind, Z) else refZ Z (-2)
end
section
/-! PART 15: System.arraycopy; WindowsLookedOut: refusals, shelves -/
theorem ac_link : Cond.methodLink RX3 38 arraycopyName ∈ lw_tbl := tb_m 311 (by decide +kernel)
theorem ac_nat : Cond.native arraycopyName ∈ lw_tbl := tb_m 313 (by decide +kernel)
theorem ac_stat : Cond.static arraycopyName ∈ lw_tbl := tb_m 312 (by decide +kernel)
theorem ac_ini : Cond.initialized "java/lang/System" ∈ lw_tbl := tb_m 10 (by decide +kernel)
/-- a stretch of one array of longs copied to another -/
def cpL (σ : Sg) (c0 c1 sp dp n : Nat) : Sg := (σ.1, fun a b => if a = c1 then va_cpy (σ.2 c0) (σ.2 c1) sp dp n b else σ.2 a b)
theorem A_acopyL {G : Gl} {d : Nat} {own : String} {cc : ByteArray} {mL : Nat} {ret : Option FieldType} {pc : Nat} {ls : List (Nat × Value)} {st : List Value} {σ : Sg} {K : Option Value → Sg → Prop} {idx c0 c1 n0 n1 : Nat} {zs zd zn : Int} (sp dp n : Nat) (hl : Cond.methodLink own idx arraycopyName ∈ lw_tbl) (hs0 : shp c0 = .inr (1, n0)) (hs1 : shp c1 = .inr (1, n1)) (e1 : zs = (sp : Int)) (e2 : zd = (dp : Int)) (e3 : zn = (n : Int)) (h4 : sp + n ≤ n0) (h5 : dp + n ≤ n1) (h6 : n0 < 2 ^ 30) (h7 : n1 < 2 ^ 30) (hd : decode cc pc = .ok (.invokestatic idx, 3)) (hr : (st.map fun v => v.category).sum ≤ 8)
    (k : AW G (d + 1) own cc mL ret (pc + 3) ls st (cpL σ c0 c1 sp dp n) K) : AW G (d + 1) own cc mL ret pc ls (.int (iI zn) :: .int (iI zd) :: .ref (gA G c1) :: .int (iI zs) :: .ref (gA G c0) :: st) σ K := by
  subst e1; subst e2; subst e3
  intro p e s m args below meth c' H locs la hC hP hS hL
  have c1s : (nI sp).toNatClampNeg = sp := nI_clamp (by omega)
  have c1d : (nI dp).toNatClampNeg = dp := nI_clamp (by omega)
  have c1n : (nI n).toNatClampNeg = n := nI_clamp (by omega)
  rw [iI_n, iI_n, iI_n]
  have hnf : nativeFrameWords "java/lang/System" "arraycopy" 5 ≤ 60 := by decide
  refine va_copyl (D := gD G) hC.1 hC.2.1 (hC.2.2.1.trans hL.1.symm) hC.hown (hC.hts _ (TW_in hl rfl)) (hC.hts _ (TW_in ac_nat rfl)) (hC.hts _ (TW_in ac_stat rfl)) (hC.hts _ (TW_in ac_ini rfl)) hC.kon.2.1 hP (WS_D hC.kon.1) hS c0 c1 1 1 (WS_l hs0) (WS_l hs1) rfl rfl rfl (nI_pos (by omega)) (nI_pos (by omega)) (nI_pos (by omega)) (by rw [c1s, c1n]; exact h4) (by rw [c1d, c1n]; exact h5) (fun i hi => rfl) (by show 1 ≤ d + 1; omega) (by show _ ≤ 100 * (d + 1); omega) hd (fun H1 l1 hP1 _ hS1 => ?_)
  rw [c1s, c1d, c1n] at hP1
  have hset : (WS G σ).set c1 (gA G c1, .inl (gY G 1, n1, .inr (.inl (va_cpy (σ.2 c0) (σ.2 c1) sp dp n)))) = WS G (cpL σ c0 c1 sp dp n) := by
    refine WS_set ?_ (fun a ha => rfl) (fun a ha => by funext b; simp [cpL, ha])
    rw [EN_a hs1]
    have e : (cpL σ c0 c1 sp dp n).2 c1 = va_cpy (σ.2 c0) (σ.2 c1) sp dp n := by funext b; simp [cpL]
    show (Sum.inl (gY G 1, n1, Sum.inr (Sum.inl ((cpL σ c0 c1 sp dp n).2 c1))) : va_E) = _
    rw [e]
  rw [hset] at hP1
  exact k p e s m args below meth c' H1 l1 la hC hP1 hS1 hL
theorem XC2 : ∀ a, a = 2 → XC a := fun a h => by unfold XC; omega
theorem RQX {q : Int × Zt} {a : Int} {Y : Zt} {σ υ : Sg} (hq : q = (a, Y)) (h : RelX Y υ) (hF : Fr XC σ υ) : RE (some (.int (iI q.1))) (fun υ => RelX q.2 υ ∧ Fr XC σ υ) (some (.int (iI a))) υ := by subst hq; exact ⟨rfl, h, hF⟩
theorem RQM {q : Int × Zt} {a : Int} {Y : Zt} {σ υ : Sg} (hq : q = (a, Y)) (h : RelM Y υ) (hF : Fr MC σ υ) : RE (some (.int (iI q.1))) (fun υ => RelM q.2 υ ∧ Fr MC σ υ) (some (.int (iI a))) υ := by subst hq; exact ⟨rfl, h, hF⟩
theorem SSX {k : Nat} (hk : k < 8) : ∀ a, SS (38 + 2 * k) a → XC a := fun a h => by unfold SS at h; unfold XC; omega
theorem Z_same {Z : Zt} {k : Nat} {hd n : Int} (h1 : Z.2.1.1 k = hd) (h2 : Z.2.1.2.1 k = n) : True := trivial
theorem dX3_takeFrom_0 : decode cX3_takeFrom 0 = .ok (.aload_n 1, 1) := by decide +kernel
theorem dX3_takeFrom_1 : decode cX3_takeFrom 1 = .ok (.iload_n 2, 1) := by decide +kernel
theorem dX3_takeFrom_2 : decode cX3_takeFrom 2 = .ok (.iload 4, 2) := by decide +kernel
theorem dX3_takeFrom_4 : decode cX3_takeFrom 4 = .ok (.invokevirtual 34, 3) := by decide +kernel
theorem dX3_takeFrom_7 : decode cX3_takeFrom 7 = .ok (.ifCond .eq 28, 3) := by decide +kernel
theorem dX3_takeFrom_10 : decode cX3_takeFrom 10 = .ok (.aload_n 0, 1) := by decide +kernel
theorem dX3_takeFrom_11 : decode cX3_takeFrom 11 = .ok (.iload_n 3, 1) := by decide +kernel
theorem dX3_takeFrom_12 : decode cX3_takeFrom 12 = .ok (.iload 4, 2) := by decide +kernel
theorem dX3_takeFrom_14 : decode cX3_takeFrom 14 = .ok (.invokevirtual 34, 3) := by decide +kernel
theorem dX3_takeFrom_17 : decode cX3_takeFrom 17 = .ok (.ifCond .eq 18, 3) := by decide +kernel
theorem dX3_takeFrom_20 : decode cX3_takeFrom 20 = .ok (.aload_n 1, 1) := by decide +kernel
theorem dX3_takeFrom_21 : decode cX3_takeFrom 21 = .ok (.getfield 18, 3) := by decide +kernel
theorem dX3_takeFrom_24 : decode cX3_takeFrom 24 = .ok (.iload_n 2, 1) := by decide +kernel
theorem dX3_takeFrom_25 : decode cX3_takeFrom 25 = .ok (.aload_n 0, 1) := by decide +kernel
theorem dX3_takeFrom_26 : decode cX3_takeFrom 26 = .ok (.getfield 18, 3) := by decide +kernel
theorem dX3_takeFrom_29 : decode cX3_takeFrom 29 = .ok (.iload_n 3, 1) := by decide +kernel
theorem dX3_takeFrom_30 : decode cX3_takeFrom 30 = .ok (.iload 4, 2) := by decide +kernel
theorem dX3_takeFrom_32 : decode cX3_takeFrom 32 = .ok (.invokestatic 38, 3) := by decide +kernel
theorem dX3_takeFrom_35 : decode cX3_takeFrom 35 = .ok (.return_, 1) := by decide +kernel
set_option maxRecDepth 20000 in
theorem c_X3_takeFrom {G : Gl} {d : Nat} {σ : Sg} {c c2 : Nat} (hS : SC c) (hS2 : SC c2) {hd n hd2 n2 : Int} {el el2 : Nat → Int64} (hR : RS c hd n el σ) (hR2 : RS c2 hd2 n2 el2 σ) (hO : OkH hd n) (hO2 : OkH hd2 n2) {i j k : Nat} (h1 : (i : Int) + k ≤ n2) (h2 : (j : Int) + k ≤ n) : CT G (d + 1) yX3_takeFrom cX3_takeFrom 5 none [.ref (gA G c), .ref (gA G c2), .int (iI (i : Int)), .int (iI (j : Int)), .int (iI (k : Int))] σ (R0 (cpL σ (c2 + 1) (c + 1) i j k)) := by
  refine CT.of (by decide +kernel) (Nat.le_of_ble_eq_true rfl) ?_
  change AW G _ RX3 _ _ _ 0 [(0, .ref (gA G c)), (1, .ref (gA G c2)), (2, .int (iI (i : Int))), (3, .int (iI (j : Int))), (4, .int (iI (k : Int)))] [] _ _
  have q1 := hO.2.2.2
  have q2 := hO2.2.2.2
  refine A_aload_n (pc := 0) dX3_takeFrom_0 rfl rfl ?_
  refine A_iload_n (pc := 1) dX3_takeFrom_1 rfl rfl ?_
  refine A_iload (pc := 2) dX3_takeFrom_2 rfl ?_
  refine A_callV1 (pc := 4) kX3_34 (shp_S hS2) rfl (c_X3_hasElements hS2 hR2 hO2 (by omega) (by omega) (by omega) (by omega)) dX3_takeFrom_4 rfl rfl (Nat.le_of_ble_eq_true rfl) (Nat.le_of_ble_eq_true rfl) ?_
  refine A_ifb_eq (pc := 7) 35 dX3_takeFrom_7 (by decide) (fun h7 => ?_) (fun h7 => ?_)
  · skip
    refine A_vret (pc := 35) rfl dX3_takeFrom_35 ?_
    exact absurd ⟨by omega, by omega, h1⟩ h7
  · skip
    refine A_aload_n (pc := 10) dX3_takeFrom_10 rfl rfl ?_
    refine A_iload_n (pc := 11) dX3_takeFrom_11 rfl rfl ?_
    refine A_iload (pc := 12) dX3_takeFrom_12 rfl ?_
    refine A_callV1 (pc := 14) kX3_34 (shp_S hS) rfl (c_X3_hasElements hS hR hO (by omega) (by omega) (by omega) (by omega)) dX3_takeFrom_14 rfl rfl (Nat.le_of_ble_eq_true rfl) (Nat.le_of_ble_eq_true rfl) ?_
    refine A_ifb_eq (pc := 17) 35 dX3_takeFrom_17 (by decide) (fun h17 => ?_) (fun h17 => ?_)
    · skip
      refine A_vret (pc := 35) rfl dX3_takeFrom_35 ?_
      exact absurd ⟨by omega, by omega, h2⟩ h17
    · skip
      refine A_aload_n (pc := 20) dX3_takeFrom_20 rfl rfl ?_
      refine A_getR (pc := 21) fX3_18 (shp_S hS2) rfl dX3_takeFrom_21 ?_
      refine A_iload_n (pc := 24) dX3_takeFrom_24 rfl rfl ?_
      refine A_aload_n (pc := 25) dX3_takeFrom_25 rfl rfl ?_
      refine A_getR (pc := 26) fX3_18 (shp_S hS) rfl dX3_takeFrom_26 ?_
      refine A_iload_n (pc := 29) dX3_takeFrom_29 rfl rfl ?_
      refine A_iload (pc := 30) dX3_takeFrom_30 rfl ?_
      refine A_acopyL (pc := 32) i j k ac_link (shp_S_elements hS2) (shp_S_elements hS) rfl rfl rfl (by omega) (by omega) (by decide) (by decide) dX3_takeFrom_32 (Nat.le_of_ble_eq_true rfl) ?_
      refine A_vret (pc := 35) rfl dX3_takeFrom_35 ?_
      exact ⟨rfl, rfl⟩
theorem dX8_refuse_0 : decode cX8_refuse 0 = .ok (.iload_n 1, 1) := by decide +kernel
theorem dX8_refuse_1 : decode cX8_refuse 1 = .ok (.ineg, 1) := by decide +kernel
theorem dX8_refuse_2 : decode cX8_refuse 2 = .ok (.istore_n 2, 1) := by decide +kernel
theorem dX8_refuse_3 : decode cX8_refuse 3 = .ok (.iload_n 2, 1) := by decide +kernel
theorem dX8_refuse_4 : decode cX8_refuse 4 = .ok (.ifCond .lt 22, 3) := by decide +kernel
theorem dX8_refuse_7 : decode cX8_refuse 7 = .ok (.iload_n 2, 1) := by decide +kernel
theorem dX8_refuse_8 : decode cX8_refuse 8 = .ok (.aload_n 0, 1) := by decide +kernel
theorem dX8_refuse_9 : decode cX8_refuse 9 = .ok (.getfield 29, 3) := by decide +kernel
theorem dX8_refuse_12 : decode cX8_refuse 12 = .ok (.arraylength, 1) := by decide +kernel
theorem dX8_refuse_13 : decode cX8_refuse 13 = .ok (.if_icmp .ge 13, 3) := by decide +kernel
theorem dX8_refuse_16 : decode cX8_refuse 16 = .ok (.aload_n 0, 1) := by decide +kernel
theorem dX8_refuse_17 : decode cX8_refuse 17 = .ok (.getfield 29, 3) := by decide +kernel
theorem dX8_refuse_20 : decode cX8_refuse 20 = .ok (.iload_n 2, 1) := by decide +kernel
theorem dX8_refuse_21 : decode cX8_refuse 21 = .ok (.dup2, 1) := by decide +kernel
theorem dX8_refuse_22 : decode cX8_refuse 22 = .ok (.iaload, 1) := by decide +kernel
theorem dX8_refuse_23 : decode cX8_refuse 23 = .ok (.iconst 1, 1) := by decide +kernel
theorem dX8_refuse_24 : decode cX8_refuse 24 = .ok (.iadd, 1) := by decide +kernel
theorem dX8_refuse_25 : decode cX8_refuse 25 = .ok (.iastore, 1) := by decide +kernel
theorem dX8_refuse_26 : decode cX8_refuse 26 = .ok (.iload_n 1, 1) := by decide +kernel
theorem dX8_refuse_27 : decode cX8_refuse 27 = .ok (.ireturn, 1) := by decide +kernel
set_option maxRecDepth 20000 in
theorem c_X8_refuse {G : Gl} {d : Nat} {σ : Sg} {Z : Zt} (hZ : RelX Z σ) (hO : OkZ Z) {t : Int} (t1 : -7 ≤ t) (t2 : t ≤ -1) : CT G d yX8_refuse cX8_refuse 3 (some .int) [.ref (gA G 0), .int (iI t)] σ (RE (some (.int (iI t))) (fun υ => RelX (zRef Z (-t).toNat) υ ∧ Fr (fun a => a = 2) σ υ)) := by
  refine CT.of (by decide +kernel) (Nat.le_of_ble_eq_true rfl) ?_
  change AW G _ RX8 _ _ _ 0 [(0, .ref (gA G 0)), (1, .int (iI t))] [] _ _
  refine A_iload_n (pc := 0) dX8_refuse_0 rfl rfl ?_
  refine A_ineg (pc := 1) dX8_refuse_1 ?_
  refine A_istore_n (pc := 2) dX8_refuse_2 rfl (Nat.le_of_ble_eq_true rfl) ?_
  refine A_iload_n (pc := 3) dX8_refuse_3 rfl rfl ?_
  refine A_if_lt (pc := 4) 26 dX8_refuse_4 (by decide) (by omega) (by omega) (fun h4 => ?_) (fun h4 => ?_)
  · skip
    refine A_iload_n (pc := 26) dX8_refuse_26 rfl rfl ?_
    refine A_iret (pc := 27) rfl dX8_refuse_27 ?_
    exfalso; omega
  · skip
    refine A_iload_n (pc := 7) dX8_refuse_7 rfl rfl ?_
    refine A_aload_n (pc := 8) dX8_refuse_8 rfl rfl ?_
    refine A_getR (pc := 9) fX8_29 rfl rfl dX8_refuse_9 ?_
    refine A_alen (pc := 12) rfl dX8_refuse_12 ?_
    refine A_icmp_ge (pc := 13) 26 dX8_refuse_13 (by decide) (by omega) (by omega) (by omega) (by omega) (fun h13 => ?_) (fun h13 => ?_)
    · skip
      refine A_iload_n (pc := 26) dX8_refuse_26 rfl rfl ?_
      refine A_iret (pc := 27) rfl dX8_refuse_27 ?_
      exfalso; omega
    · skip
      refine A_aload_n (pc := 16) dX8_refuse_16 rfl rfl ?_
      refine A_getR (pc := 17) fX8_29 rfl rfl dX8_refuse_17 ?_
      refine A_iload_n (pc := 20) dX8_refuse_20 rfl rfl ?_
      refine A_dup2 (pc := 21) dX8_refuse_21 rfl rfl ?_
      refine A_iald (pc := 22) (-t).toNat rfl (by omega) (by omega) (Nat.le_of_ble_eq_true rfl) dX8_refuse_22 ?_
      refine A_iconst (pc := 23) dX8_refuse_23 ?_
      refine A_iadd (pc := 24) dX8_refuse_24 ?_
      refine A_iast (pc := 25) (-t).toNat rfl (by omega) (by omega) (Nat.le_of_ble_eq_true rfl) dX8_refuse_25 ?_
      refine A_iload_n (pc := 26) dX8_refuse_26 rfl rfl ?_
      refine A_iret (pc := 27) rfl dX8_refuse_27 ?_
      exact ⟨rfl, hZ.ref (by omega) (by omega), Fr.rf.uI rfl⟩
theorem dX8_refuseApart_0 : decode cX8_refuseApart 0 = .ok (.aload_n 0, 1) := by decide +kernel
theorem dX8_refuseApart_1 : decode cX8_refuseApart 1 = .ok (.iload_n 1, 1) := by decide +kernel
theorem dX8_refuseApart_2 : decode cX8_refuseApart 2 = .ok (.invokevirtual 76, 3) := by decide +kernel
theorem dX8_refuseApart_5 : decode cX8_refuseApart 5 = .ok (.bipush 10, 2) := by decide +kernel
theorem dX8_refuseApart_7 : decode cX8_refuseApart 7 = .ok (.isub, 1) := by decide +kernel
theorem dX8_refuseApart_8 : decode cX8_refuseApart 8 = .ok (.ireturn, 1) := by decide +kernel
set_option maxRecDepth 20000 in
theorem c_X8_refuseApart {G : Gl} {d : Nat} {σ : Sg} {Z : Zt} (hZ : RelX Z σ) (hO : OkZ Z) {t : Int} (t1 : -7 ≤ t) (t2 : t ≤ -1) : CT G (d + 1) yX8_refuseApart cX8_refuseApart 2 (some .int) [.ref (gA G 0), .int (iI t)] σ (RE (some (.int (iI (t - 10)))) (fun υ => RelX (zRef Z (-t).toNat) υ ∧ Fr (fun a => a = 2) σ υ)) := by
  refine CT.of (by decide +kernel) (Nat.le_of_ble_eq_true rfl) ?_
  change AW G _ RX8 _ _ _ 0 [(0, .ref (gA G 0)), (1, .int (iI t))] [] _ _
  refine A_aload_n (pc := 0) dX8_refuseApart_0 rfl rfl ?_
  refine A_iload_n (pc := 1) dX8_refuseApart_1 rfl rfl ?_
  refine A_callVe (pc := 2) kX8_76 rfl rfl (c_X8_refuse hZ hO t1 t2) dX8_refuseApart_2 rfl rfl (Nat.le_of_ble_eq_true rfl) (Nat.le_of_ble_eq_true rfl) (fun υ hυ => ?_)
  refine A_bipush (pc := 5) dX8_refuseApart_5 (by decide) ?_
  refine A_isub (pc := 7) dX8_refuseApart_7 ?_
  refine A_iret (pc := 8) rfl dX8_refuseApart_8 ?_
  exact ⟨rfl, hυ⟩
theorem dX8_refusalsOf_0 : decode cX8_refusalsOf 0 = .ok (.iload_n 1, 1) := by decide +kernel
theorem dX8_refusalsOf_1 : decode cX8_refusalsOf 1 = .ok (.iconst 1, 1) := by decide +kernel
theorem dX8_refusalsOf_2 : decode cX8_refusalsOf 2 = .ok (.if_icmp .lt 21, 3) := by decide +kernel
theorem dX8_refusalsOf_5 : decode cX8_refusalsOf 5 = .ok (.iload_n 1, 1) := by decide +kernel
theorem dX8_refusalsOf_6 : decode cX8_refusalsOf 6 = .ok (.aload_n 0, 1) := by decide +kernel
theorem dX8_refusalsOf_7 : decode cX8_refusalsOf 7 = .ok (.getfield 29, 3) := by decide +kernel
theorem dX8_refusalsOf_10 : decode cX8_refusalsOf 10 = .ok (.arraylength, 1) := by decide +kernel
theorem dX8_refusalsOf_11 : decode cX8_refusalsOf 11 = .ok (.if_icmp .ge 12, 3) := by decide +kernel
theorem dX8_refusalsOf_14 : decode cX8_refusalsOf 14 = .ok (.aload_n 0, 1) := by decide +kernel
theorem dX8_refusalsOf_15 : decode cX8_refusalsOf 15 = .ok (.getfield 29, 3) := by decide +kernel
theorem dX8_refusalsOf_18 : decode cX8_refusalsOf 18 = .ok (.iload_n 1, 1) := by decide +kernel
theorem dX8_refusalsOf_19 : decode cX8_refusalsOf 19 = .ok (.iaload, 1) := by decide +kernel
theorem dX8_refusalsOf_20 : decode cX8_refusalsOf 20 = .ok (.goto 4, 3) := by decide +kernel
theorem dX8_refusalsOf_23 : decode cX8_refusalsOf 23 = .ok (.iconst (-1), 1) := by decide +kernel
theorem dX8_refusalsOf_24 : decode cX8_refusalsOf 24 = .ok (.ireturn, 1) := by decide +kernel
set_option maxRecDepth 20000 in
theorem c_X8_refusalsOf {G : Gl} {d : Nat} {σ : Sg} {Z : Zt} (hZ : RelX Z σ) (hO : OkZ Z) {i : Int} (hi1 : -2147483648 ≤ i) (hi2 : i < 2147483648) : CT G d yX8_refusalsOf cX8_refusalsOf 2 (some .int) [.ref (gA G 0), .int (iI i)] σ (R1 (.int (iI (if 1 ≤ i ∧ i < 8 then Z.2.2.2.1 i.toNat else -1))) σ) := by
  refine CT.of (by decide +kernel) (Nat.le_of_ble_eq_true rfl) ?_
  change AW G _ RX8 _ _ _ 0 [(0, .ref (gA G 0)), (1, .int (iI i))] [] _ _
  refine A_iload_n (pc := 0) dX8_refusalsOf_0 rfl rfl ?_
  refine A_iconst (pc := 1) dX8_refusalsOf_1 ?_
  refine A_icmp_lt (pc := 2) 23 dX8_refusalsOf_2 (by decide) (by omega) (by omega) (by omega) (by omega) (fun h2 => ?_) (fun h2 => ?_)
  · skip
    refine A_iconst (pc := 23) dX8_refusalsOf_23 ?_
    refine A_iret (pc := 24) rfl dX8_refusalsOf_24 ?_
    exact R1_e (by rw [if_neg (by omega)])
  · skip
    refine A_iload_n (pc := 5) dX8_refusalsOf_5 rfl rfl ?_
    refine A_aload_n (pc := 6) dX8_refusalsOf_6 rfl rfl ?_
    refine A_getR (pc := 7) fX8_29 rfl rfl dX8_refusalsOf_7 ?_
    refine A_alen (pc := 10) rfl dX8_refusalsOf_10 ?_
    refine A_icmp_ge (pc := 11) 23 dX8_refusalsOf_11 (by decide) (by omega) (by omega) (by omega) (by omega) (fun h11 => ?_) (fun h11 => ?_)
    · skip
      refine A_iconst (pc := 23) dX8_refusalsOf_23 ?_
      refine A_iret (pc := 24) rfl dX8_refusalsOf_24 ?_
      exact R1_e (by rw [if_neg (by omega)])
    · skip
      obtain ⟨k, rfl⟩ := Int.eq_ofNat_of_zero_le (show 0 ≤ i by omega)
      refine A_aload_n (pc := 14) dX8_refusalsOf_14 rfl rfl ?_
      refine A_getR (pc := 15) fX8_29 rfl rfl dX8_refusalsOf_15 ?_
      refine A_iload_n (pc := 18) dX8_refusalsOf_18 rfl rfl ?_
      refine A_ialdv (pc := 19) _ rfl rfl (by omega) (Nat.le_of_ble_eq_true rfl) (hZ.2.2.2.1 _ (by omega) (by omega)) dX8_refusalsOf_19 ?_
      refine A_goto (pc := 20) 24 dX8_refusalsOf_20 (by decide) ?_
      refine A_iret (pc := 24) rfl dX8_refusalsOf_24 ?_
      exact R1_e (by rw [if_pos (by omega)]; rfl)
theorem dX8_rowTrouble_0 : decode cX8_rowTrouble 0 = .ok (.iload_n 1, 1) := by decide +kernel
theorem dX8_rowTrouble_1 : decode cX8_rowTrouble 1 = .ok (.invokestatic 72, 3) := by decide +kernel
theorem dX8_rowTrouble_4 : decode cX8_rowTrouble 4 = .ok (.ifCond .ne 5, 3) := by decide +kernel
theorem dX8_rowTrouble_7 : decode cX8_rowTrouble 7 = .ok (.iconst (-1), 1) := by decide +kernel
theorem dX8_rowTrouble_8 : decode cX8_rowTrouble 8 = .ok (.ireturn, 1) := by decide +kernel
theorem dX8_rowTrouble_9 : decode cX8_rowTrouble 9 = .ok (.aload_n 0, 1) := by decide +kernel
theorem dX8_rowTrouble_10 : decode cX8_rowTrouble 10 = .ok (.getfield 25, 3) := by decide +kernel
theorem dX8_rowTrouble_13 : decode cX8_rowTrouble 13 = .ok (.iload_n 1, 1) := by decide +kernel
theorem dX8_rowTrouble_14 : decode cX8_rowTrouble 14 = .ok (.aaload, 1) := by decide +kernel
theorem dX8_rowTrouble_15 : decode cX8_rowTrouble 15 = .ok (.invokevirtual 363, 3) := by decide +kernel
theorem dX8_rowTrouble_18 : decode cX8_rowTrouble 18 = .ok (.ifCond .eq 6, 3) := by decide +kernel
theorem dX8_rowTrouble_21 : decode cX8_rowTrouble 21 = .ok (.bipush (-2), 2) := by decide +kernel
theorem dX8_rowTrouble_23 : decode cX8_rowTrouble 23 = .ok (.ireturn, 1) := by decide +kernel
theorem dX8_rowTrouble_24 : decode cX8_rowTrouble 24 = .ok (.aload_n 0, 1) := by decide +kernel
theorem dX8_rowTrouble_25 : decode cX8_rowTrouble 25 = .ok (.getfield 25, 3) := by decide +kernel
theorem dX8_rowTrouble_28 : decode cX8_rowTrouble 28 = .ok (.iload_n 1, 1) := by decide +kernel
theorem dX8_rowTrouble_29 : decode cX8_rowTrouble 29 = .ok (.aaload, 1) := by decide +kernel
theorem dX8_rowTrouble_30 : decode cX8_rowTrouble 30 = .ok (.invokevirtual 123, 3) := by decide +kernel
theorem dX8_rowTrouble_33 : decode cX8_rowTrouble 33 = .ok (.ifCond .eq 7, 3) := by decide +kernel
theorem dX8_rowTrouble_36 : decode cX8_rowTrouble 36 = .ok (.iconst 0, 1) := by decide +kernel
theorem dX8_rowTrouble_37 : decode cX8_rowTrouble 37 = .ok (.goto 5, 3) := by decide +kernel
theorem dX8_rowTrouble_40 : decode cX8_rowTrouble 40 = .ok (.bipush (-3), 2) := by decide +kernel
theorem dX8_rowTrouble_42 : decode cX8_rowTrouble 42 = .ok (.ireturn, 1) := by decide +kernel
set_option maxRecDepth 20000 in
theorem c_X8_rowTrouble {G : Gl} {d : Nat} {σ : Sg} {Z : Zt} (hZ : RelX Z σ) (hO : OkZ Z) {s : Int} (hs1 : -2147483648 ≤ s) (hs2 : s < 2147483648) : CT G (d + 1) yX8_rowTrouble cX8_rowTrouble 2 (some .int) [.ref (gA G 0), .int (iI s)] σ (R1 (.int (iI (rowT Z s))) σ) := by
  refine CT.of (by decide +kernel) (Nat.le_of_ble_eq_true rfl) ?_
  change AW G _ RX8 _ _ _ 0 [(0, .ref (gA G 0)), (1, .int (iI s))] [] _ _
  refine A_iload_n (pc := 0) dX8_rowTrouble_0 rfl rfl ?_
  refine A_callS1 (pc := 1) kX8_72 (c_X8_isShelf hs1 hs2) dX8_rowTrouble_1 rfl rfl (Nat.le_of_ble_eq_true rfl) (Nat.le_of_ble_eq_true rfl) ?_
  refine A_ifb_ne (pc := 4) 9 dX8_rowTrouble_4 (by decide) (fun h4 => ?_) (fun h4 => ?_)
  · skip
    obtain ⟨k, rfl⟩ := Int.eq_ofNat_of_zero_le (show 0 ≤ s by omega)
    have k8 : k < 8 := by omega
    have ks := hZ.2.1 k k8
    have ko := hO.2.1 k k8
    refine A_aload_n (pc := 9) dX8_rowTrouble_9 rfl rfl ?_
    refine A_getR (pc := 10) fX8_25 rfl rfl dX8_rowTrouble_10 ?_
    refine A_iload_n (pc := 13) dX8_rowTrouble_13 rfl rfl ?_
    refine A_aald (pc := 14) _ rfl rfl (by omega) (Nat.le_of_ble_eq_true rfl) dX8_rowTrouble_14 ?_
    refine A_callV1 (pc := 15) kX8_363 (shp_S (SCk (by omega))) rfl (c_X3_isPane (SCk k8) ks ko.1) dX8_rowTrouble_15 rfl rfl (Nat.le_of_ble_eq_true rfl) (Nat.le_of_ble_eq_true rfl) ?_
    refine A_ifb_eq (pc := 18) 24 dX8_rowTrouble_18 (by decide) (fun h18 => ?_) (fun h18 => ?_)
    · skip
      refine A_aload_n (pc := 24) dX8_rowTrouble_24 rfl rfl ?_
      refine A_getR (pc := 25) fX8_25 rfl rfl dX8_rowTrouble_25 ?_
      refine A_iload_n (pc := 28) dX8_rowTrouble_28 rfl rfl ?_
      refine A_aald (pc := 29) _ rfl rfl (by omega) (Nat.le_of_ble_eq_true rfl) dX8_rowTrouble_29 ?_
      refine A_callV1 (pc := 30) kX8_123 (shp_S (SCk (by omega))) rfl (c_X3_isRow (SCk k8) ks ko.1) dX8_rowTrouble_30 rfl rfl (Nat.le_of_ble_eq_true rfl) (Nat.le_of_ble_eq_true rfl) ?_
      refine A_ifb_eq (pc := 33) 40 dX8_rowTrouble_33 (by decide) (fun h33 => ?_) (fun h33 => ?_)
      · skip
        refine A_bipush (pc := 40) dX8_rowTrouble_40 (by decide) ?_
        refine A_iret (pc := 42) rfl dX8_rowTrouble_42 ?_
        exact R1_e (by unfold rowT; simp only [Int.toNat_natCast]; rw [if_neg (by omega), if_neg (by omega), if_neg (by omega)])
      · skip
        refine A_iconst (pc := 36) dX8_rowTrouble_36 ?_
        refine A_goto (pc := 37) 42 dX8_rowTrouble_37 (by decide) ?_
        refine A_iret (pc := 42) rfl dX8_rowTrouble_42 ?_
        exact R1_e (by unfold rowT; simp only [Int.toNat_natCast]; rw [if_neg (by omega), if_neg (by omega), if_pos (by omega)])
    · skip
      refine A_bipush (pc := 21) dX8_rowTrouble_21 (by decide) ?_
      refine A_iret (pc := 23) rfl dX8_rowTrouble_23 ?_
      exact R1_e (by unfold rowT; simp only [Int.toNat_natCast]; rw [if_neg (by omega), if_pos (by omega)])
  · skip
    refine A_iconst (pc := 7) dX8_rowTrouble_7 ?_
    refine A_iret (pc := 8) rfl dX8_rowTrouble_8 ?_
    exact R1_e (by unfold rowT; rw [if_pos h4])
theorem dX8_row_0 : decode cX8_row 0 = .ok (.iload_n 1, 1) := by decide +kernel
theorem dX8_row_1 : decode cX8_row 1 = .ok (.invokestatic 72, 3) := by decide +kernel
theorem dX8_row_4 : decode cX8_row 4 = .ok (.ifCond .ne 9, 3) := by decide +kernel
theorem dX8_row_7 : decode cX8_row 7 = .ok (.aload_n 0, 1) := by decide +kernel
theorem dX8_row_8 : decode cX8_row 8 = .ok (.iconst (-1), 1) := by decide +kernel
theorem dX8_row_9 : decode cX8_row 9 = .ok (.invokevirtual 76, 3) := by decide +kernel
theorem dX8_row_12 : decode cX8_row 12 = .ok (.ireturn, 1) := by decide +kernel
theorem dX8_row_13 : decode cX8_row 13 = .ok (.iload_n 3, 1) := by decide +kernel
theorem dX8_row_14 : decode cX8_row 14 = .ok (.ifCond .ge 10, 3) := by decide +kernel
theorem dX8_row_17 : decode cX8_row 17 = .ok (.aload_n 0, 1) := by decide +kernel
theorem dX8_row_18 : decode cX8_row 18 = .ok (.bipush (-4), 2) := by decide +kernel
theorem dX8_row_20 : decode cX8_row 20 = .ok (.invokevirtual 76, 3) := by decide +kernel
theorem dX8_row_23 : decode cX8_row 23 = .ok (.ireturn, 1) := by decide +kernel
theorem dX8_row_24 : decode cX8_row 24 = .ok (.iload_n 2, 1) := by decide +kernel
theorem dX8_row_25 : decode cX8_row 25 = .ok (.invokestatic 80, 3) := by decide +kernel
theorem dX8_row_28 : decode cX8_row 28 = .ok (.ifCond .ne 10, 3) := by decide +kernel
theorem dX8_row_31 : decode cX8_row 31 = .ok (.aload_n 0, 1) := by decide +kernel
theorem dX8_row_32 : decode cX8_row 32 = .ok (.bipush (-6), 2) := by decide +kernel
theorem dX8_row_34 : decode cX8_row 34 = .ok (.invokevirtual 76, 3) := by decide +kernel
theorem dX8_row_37 : decode cX8_row 37 = .ok (.ireturn, 1) := by decide +kernel
theorem dX8_row_38 : decode cX8_row 38 = .ok (.iload_n 3, 1) := by decide +kernel
theorem dX8_row_39 : decode cX8_row 39 = .ok (.sipush 160, 3) := by decide +kernel
theorem dX8_row_42 : decode cX8_row 42 = .ok (.if_icmp .le 10, 3) := by decide +kernel
theorem dX8_row_45 : decode cX8_row 45 = .ok (.aload_n 0, 1) := by decide +kernel
theorem dX8_row_46 : decode cX8_row 46 = .ok (.bipush (-7), 2) := by decide +kernel
theorem dX8_row_48 : decode cX8_row 48 = .ok (.invokevirtual 76, 3) := by decide +kernel
theorem dX8_row_51 : decode cX8_row 51 = .ok (.ireturn, 1) := by decide +kernel
theorem dX8_row_52 : decode cX8_row 52 = .ok (.aload_n 0, 1) := by decide +kernel
theorem dX8_row_53 : decode cX8_row 53 = .ok (.getfield 25, 3) := by decide +kernel
theorem dX8_row_56 : decode cX8_row 56 = .ok (.iload_n 1, 1) := by decide +kernel
theorem dX8_row_57 : decode cX8_row 57 = .ok (.aaload, 1) := by decide +kernel
theorem dX8_row_58 : decode cX8_row 58 = .ok (.iload_n 2, 1) := by decide +kernel
theorem dX8_row_59 : decode cX8_row 59 = .ok (.iload_n 3, 1) := by decide +kernel
theorem dX8_row_60 : decode cX8_row 60 = .ok (.invokevirtual 83, 3) := by decide +kernel
theorem dX8_row_63 : decode cX8_row 63 = .ok (.iconst 1, 1) := by decide +kernel
theorem dX8_row_64 : decode cX8_row 64 = .ok (.ireturn, 1) := by decide +kernel
set_option maxRecDepth 20000 in
theorem c_X8_row {G : Gl} {d : Nat} {σ : Sg} {Z : Zt} (hZ : RelX Z σ) (hO : OkZ Z) {s : Int} (hs1 : -2147483648 ≤ s) (hs2 : s < 2147483648) {sort : Int} (hsort1 : -2147483648 ≤ sort) (hsort2 : sort < 2147483648) {n : Int} (hn1 : -2147483648 ≤ n) (hn2 : n < 2147483648) : CT G (d + 1) yX8_row cX8_row 4 (some .int) [.ref (gA G 0), .int (iI s), .int (iI sort), .int (iI n)] σ (RE (some (.int (iI (qRow Z s sort n).1))) (fun υ => RelX (qRow Z s sort n).2 υ ∧ Fr XC σ υ)) := by
  refine CT.of (by decide +kernel) (Nat.le_of_ble_eq_true rfl) ?_
  change AW G _ RX8 _ _ _ 0 [(0, .ref (gA G 0)), (1, .int (iI s)), (2, .int (iI sort)), (3, .int (iI n))] [] _ _
  refine A_iload_n (pc := 0) dX8_row_0 rfl rfl ?_
  refine A_callS1 (pc := 1) kX8_72 (c_X8_isShelf hs1 hs2) dX8_row_1 rfl rfl (Nat.le_of_ble_eq_true rfl) (Nat.le_of_ble_eq_true rfl) ?_
  refine A_ifb_ne (pc := 4) 13 dX8_row_4 (by decide) (fun h4 => ?_) (fun h4 => ?_)
  · skip
    refine A_iload_n (pc := 13) dX8_row_13 rfl rfl ?_
    refine A_if_ge (pc := 14) 24 dX8_row_14 (by decide) (by omega) (by omega) (fun h14 => ?_) (fun h14 => ?_)
    · skip
      refine A_iload_n (pc := 24) dX8_row_24 rfl rfl ?_
      refine A_callS1 (pc := 25) kX8_80 (c_X3_isSort hsort1 hsort2) dX8_row_25 rfl rfl (Nat.le_of_ble_eq_true rfl) (Nat.le_of_ble_eq_true rfl) ?_
      refine A_ifb_ne (pc := 28) 38 dX8_row_28 (by decide) (fun h28 => ?_) (fun h28 => ?_)
      · skip
        refine A_iload_n (pc := 38) dX8_row_38 rfl rfl ?_
        refine A_sipush (pc := 39) dX8_row_39 (by decide) ?_
        refine A_icmp_le (pc := 42) 52 dX8_row_42 (by decide) (by omega) (by omega) (by omega) (by omega) (fun h42 => ?_) (fun h42 => ?_)
        · skip
          obtain ⟨k, rfl⟩ := Int.eq_ofNat_of_zero_le (show 0 ≤ s by omega)
          have k8 : k < 8 := by omega
          have ks := hZ.2.1 k k8
          have ko := hO.2.1 k k8
          refine A_aload_n (pc := 52) dX8_row_52 rfl rfl ?_
          refine A_getR (pc := 53) fX8_25 rfl rfl dX8_row_53 ?_
          refine A_iload_n (pc := 56) dX8_row_56 rfl rfl ?_
          refine A_aald (pc := 57) _ rfl rfl (by omega) (Nat.le_of_ble_eq_true rfl) dX8_row_57 ?_
          refine A_iload_n (pc := 58) dX8_row_58 rfl rfl ?_
          refine A_iload_n (pc := 59) dX8_row_59 rfl rfl ?_
          refine A_callVe0 (pc := 60) kX8_83 (shp_S (SCk (by omega))) rfl (c_X3_holdRow (SCk k8)) dX8_row_60 rfl rfl (Nat.le_of_ble_eq_true rfl) (Nat.le_of_ble_eq_true rfl) (fun υ hυ => ?_)
          refine A_iconst (pc := 63) dX8_row_63 ?_
          refine A_iret (pc := 64) rfl dX8_row_64 ?_
          exact RQX (by unfold qRow; rw [if_neg (by omega), if_neg (by omega), if_neg (by omega), if_neg (by omega)]; rfl) (hZ.shelf k8 hυ.1 hυ.2) (hυ.2.mono (SSX k8))
        · skip
          refine A_aload_n (pc := 45) dX8_row_45 rfl rfl ?_
          refine A_bipush (pc := 46) dX8_row_46 (by decide) ?_
          refine A_callVe (pc := 48) kX8_76 rfl rfl (c_X8_refuse hZ hO (t := -7) (by omega) (by omega)) dX8_row_48 rfl rfl (Nat.le_of_ble_eq_true rfl) (Nat.le_of_ble_eq_true rfl) (fun υ hυ => ?_)
          refine A_iret (pc := 51) rfl dX8_row_51 ?_
          exact RQX (by unfold qRow; rw [if_neg (by omega), if_neg (by omega), if_neg (by omega), if_pos (by omega)]; rfl) hυ.1 (hυ.2.mono XC2)
      · skip
        refine A_aload_n (pc := 31) dX8_row_31 rfl rfl ?_
        refine A_bipush (pc := 32) dX8_row_32 (by decide) ?_
        refine A_callVe (pc := 34) kX8_76 rfl rfl (c_X8_refuse hZ hO (t := -6) (by omega) (by omega)) dX8_row_34 rfl rfl (Nat.le_of_ble_eq_true rfl) (Nat.le_of_ble_eq_true rfl) (fun υ hυ => ?_)
        refine A_iret (pc := 37) rfl dX8_row_37 ?_
        exact RQX (by unfold qRow; rw [if_neg (by omega), if_neg (by omega), if_pos (by omega)]; rfl) hυ.1 (hυ.2.mono XC2)
    · skip
      refine A_aload_n (pc := 17) dX8_row_17 rfl rfl ?_
      refine A_bipush (pc := 18) dX8_row_18 (by decide) ?_
      refine A_callVe (pc := 20) kX8_76 rfl rfl (c_X8_refuse hZ hO (t := -4) (by omega) (by omega)) dX8_row_20 rfl rfl (Nat.le_of_ble_eq_true rfl) (Nat.le_of_ble_eq_true rfl) (fun υ hυ => ?_)
      refine A_iret (pc := 23) rfl dX8_row_23 ?_
      exact RQX (by unfold qRow; rw [if_neg (by omega), if_pos (by omega)]; rfl) hυ.1 (hυ.2.mono XC2)
  · skip
    refine A_aload_n (pc := 7) dX8_row_7 rfl rfl ?_
    refine A_iconst (pc := 8) dX8_row_8 ?_
    refine A_callVe (pc := 9) kX8_76 rfl rfl (c_X8_refuse hZ hO (t := -1) (by omega) (by omega)) dX8_row_9 rfl rfl (Nat.le_of_ble_eq_true rfl) (Nat.le_of_ble_eq_true rfl) (fun υ hυ => ?_)
    refine A_iret (pc := 12) rfl dX8_row_12 ?_
    exact RQX (by unfold qRow; rw [if_pos (by omega)]; rfl) hυ.1 (hυ.2.mono XC2)
theorem rowT_rng (Z : Zt) (s : Int) : -3 ≤ rowT Z s ∧ rowT Z s ≤ 0 := by unfold rowT; (repeat' split) <;> omega
theorem rowT_0 {Z : Zt} {s : Int} (h : rowT Z s = 0) : (0 ≤ s ∧ s < 8) ∧ 100 ≤ Z.2.1.1 s.toNat := by
  unfold rowT at h
  by_cases h1 : 0 ≤ s ∧ s < 8
  · rw [if_neg (by omega)] at h
    by_cases h2 : 0 ≤ Z.2.1.1 s.toNat ∧ Z.2.1.1 s.toNat < 100
    · rw [if_pos h2] at h; omega
    · rw [if_neg h2] at h
      by_cases h3 : 100 ≤ Z.2.1.1 s.toNat
      · exact ⟨h1, h3⟩
      · rw [if_neg h3] at h; omega
  · rw [if_pos h1] at h; omega
theorem dX8_set_0 : decode cX8_set 0 = .ok (.aload_n 0, 1) := by decide +kernel
theorem dX8_set_1 : decode cX8_set 1 = .ok (.iload_n 1, 1) := by decide +kernel
theorem dX8_set_2 : decode cX8_set 2 = .ok (.invokevirtual 87, 3) := by decide +kernel
theorem dX8_set_5 : decode cX8_set 5 = .ok (.istore 5, 2) := by decide +kernel
theorem dX8_set_7 : decode cX8_set 7 = .ok (.iload 5, 2) := by decide +kernel
theorem dX8_set_9 : decode cX8_set 9 = .ok (.ifCond .eq 10, 3) := by decide +kernel
theorem dX8_set_12 : decode cX8_set 12 = .ok (.aload_n 0, 1) := by decide +kernel
theorem dX8_set_13 : decode cX8_set 13 = .ok (.iload 5, 2) := by decide +kernel
theorem dX8_set_15 : decode cX8_set 15 = .ok (.invokevirtual 76, 3) := by decide +kernel
theorem dX8_set_18 : decode cX8_set 18 = .ok (.ireturn, 1) := by decide +kernel
theorem dX8_set_19 : decode cX8_set 19 = .ok (.aload_n 0, 1) := by decide +kernel
theorem dX8_set_20 : decode cX8_set 20 = .ok (.getfield 25, 3) := by decide +kernel
theorem dX8_set_23 : decode cX8_set 23 = .ok (.iload_n 1, 1) := by decide +kernel
theorem dX8_set_24 : decode cX8_set 24 = .ok (.aaload, 1) := by decide +kernel
theorem dX8_set_25 : decode cX8_set 25 = .ok (.iload_n 2, 1) := by decide +kernel
theorem dX8_set_26 : decode cX8_set 26 = .ok (.invokevirtual 90, 3) := by decide +kernel
theorem dX8_set_29 : decode cX8_set 29 = .ok (.ifCond .ne 10, 3) := by decide +kernel
theorem dX8_set_32 : decode cX8_set 32 = .ok (.aload_n 0, 1) := by decide +kernel
theorem dX8_set_33 : decode cX8_set 33 = .ok (.bipush (-5), 2) := by decide +kernel
theorem dX8_set_35 : decode cX8_set 35 = .ok (.invokevirtual 76, 3) := by decide +kernel
theorem dX8_set_38 : decode cX8_set 38 = .ok (.ireturn, 1) := by decide +kernel
theorem dX8_set_39 : decode cX8_set 39 = .ok (.aload_n 0, 1) := by decide +kernel
theorem dX8_set_40 : decode cX8_set 40 = .ok (.getfield 25, 3) := by decide +kernel
theorem dX8_set_43 : decode cX8_set 43 = .ok (.iload_n 1, 1) := by decide +kernel
theorem dX8_set_44 : decode cX8_set 44 = .ok (.aaload, 1) := by decide +kernel
theorem dX8_set_45 : decode cX8_set 45 = .ok (.iload_n 2, 1) := by decide +kernel
theorem dX8_set_46 : decode cX8_set 46 = .ok (.lload_n 3, 1) := by decide +kernel
theorem dX8_set_47 : decode cX8_set 47 = .ok (.invokevirtual 93, 3) := by decide +kernel
theorem dX8_set_50 : decode cX8_set 50 = .ok (.iconst 1, 1) := by decide +kernel
theorem dX8_set_51 : decode cX8_set 51 = .ok (.ireturn, 1) := by decide +kernel
set_option maxRecDepth 20000 in
theorem c_X8_set {G : Gl} {d : Nat} {σ : Sg} {Z : Zt} (hZ : RelX Z σ) (hO : OkZ Z) {s : Int} (hs1 : -2147483648 ≤ s) (hs2 : s < 2147483648) {i : Int} (hi1 : -2147483648 ≤ i) (hi2 : i < 2147483648) {v : Int64} : CT G (d + 2) yX8_set cX8_set 6 (some .int) [.ref (gA G 0), .int (iI s), .int (iI i), .long (v)] σ (RE (some (.int (iI (qSet Z s i v).1))) (fun υ => RelX (qSet Z s i v).2 υ ∧ Fr XC σ υ)) := by
  refine CT.of (by decide +kernel) (Nat.le_of_ble_eq_true rfl) ?_
  change AW G _ RX8 _ _ _ 0 [(0, .ref (gA G 0)), (1, .int (iI s)), (2, .int (iI i)), (3, .long (v))] [] _ _
  have hrt := rowT_rng Z s
  refine A_aload_n (pc := 0) dX8_set_0 rfl rfl ?_
  refine A_iload_n (pc := 1) dX8_set_1 rfl rfl ?_
  refine A_callV1 (pc := 2) kX8_87 rfl rfl (c_X8_rowTrouble hZ hO hs1 hs2) dX8_set_2 rfl rfl (Nat.le_of_ble_eq_true rfl) (Nat.le_of_ble_eq_true rfl) ?_
  refine A_istore (pc := 5) dX8_set_5 (Nat.le_of_ble_eq_true rfl) ?_
  refine A_iload (pc := 7) dX8_set_7 rfl ?_
  refine A_if_eq (pc := 9) 19 dX8_set_9 (by decide) (by omega) (by omega) (fun h9 => ?_) (fun h9 => ?_)
  · skip
    obtain ⟨h8, h100⟩ := rowT_0 h9
    obtain ⟨k, rfl⟩ := Int.eq_ofNat_of_zero_le (show 0 ≤ s by omega)
    have k8 : k < 8 := by omega
    have ks := hZ.2.1 k k8
    have ko := hO.2.1 k k8
    simp only [Int.toNat_natCast] at h100
    refine A_aload_n (pc := 19) dX8_set_19 rfl rfl ?_
    refine A_getR (pc := 20) fX8_25 rfl rfl dX8_set_20 ?_
    refine A_iload_n (pc := 23) dX8_set_23 rfl rfl ?_
    refine A_aald (pc := 24) _ rfl rfl (by omega) (Nat.le_of_ble_eq_true rfl) dX8_set_24 ?_
    refine A_iload_n (pc := 25) dX8_set_25 rfl rfl ?_
    refine A_callV1 (pc := 26) kX8_90 (shp_S (SCk (by omega))) rfl (c_X3_hasElement (SCk k8) ks ko.1 hi1 hi2) dX8_set_26 rfl rfl (Nat.le_of_ble_eq_true rfl) (Nat.le_of_ble_eq_true rfl) ?_
    refine A_ifb_ne (pc := 29) 39 dX8_set_29 (by decide) (fun h29 => ?_) (fun h29 => ?_)
    · skip
      obtain ⟨j, rfl⟩ := Int.eq_ofNat_of_zero_le (show 0 ≤ i by omega)
      refine A_aload_n (pc := 39) dX8_set_39 rfl rfl ?_
      refine A_getR (pc := 40) fX8_25 rfl rfl dX8_set_40 ?_
      refine A_iload_n (pc := 43) dX8_set_43 rfl rfl ?_
      refine A_aald (pc := 44) _ rfl rfl (by omega) (Nat.le_of_ble_eq_true rfl) dX8_set_44 ?_
      refine A_iload_n (pc := 45) dX8_set_45 rfl rfl ?_
      refine A_lload_n (pc := 46) dX8_set_46 rfl rfl ?_
      refine A_callV0 (pc := 47) kX8_93 (shp_S (SCk (by omega))) rfl (c_X3_keep (SCk k8) ks ko.1 (k := j) (by omega) h100) dX8_set_47 rfl rfl (Nat.le_of_ble_eq_true rfl) (Nat.le_of_ble_eq_true rfl) ?_
      refine A_iconst (pc := 50) dX8_set_50 ?_
      refine A_iret (pc := 51) rfl dX8_set_51 ?_
      refine RQX (by unfold qSet; rw [if_neg (by omega), if_neg (by simpa using h29)]; rfl) (hZ.shelf k8 (hd := Z.2.1.1 k) (n := Z.2.1.2.1 k) (el := fun x => if x = j then lowB (Z.2.1.1 k - 100) v else Z.2.1.2.2 k x) ?_ (Fr.rf.uL (Or.inr rfl))) ((Fr.rf.uL (Or.inr rfl)).mono (SSX k8))
      refine ⟨ks.1, ks.2.1, fun x hx => ?_⟩
      rw [uL_at]
      show _ = if x = j then lowB (Z.2.1.1 k - 100) v else Z.2.1.2.2 k x
      by_cases e : x = j
      · rw [if_pos ⟨rfl, e⟩, if_pos e]
      · rw [if_neg (fun q => e q.2), if_neg e]; exact ks.2.2 x hx
    · skip
      refine A_aload_n (pc := 32) dX8_set_32 rfl rfl ?_
      refine A_bipush (pc := 33) dX8_set_33 (by decide) ?_
      refine A_callVe (pc := 35) kX8_76 rfl rfl (c_X8_refuse hZ hO (t := -5) (by omega) (by omega)) dX8_set_35 rfl rfl (Nat.le_of_ble_eq_true rfl) (Nat.le_of_ble_eq_true rfl) (fun υ hυ => ?_)
      refine A_iret (pc := 38) rfl dX8_set_38 ?_
      exact RQX (by unfold qSet; rw [if_neg (by omega), if_pos (by simpa using h29)]; rfl) hυ.1 (hυ.2.mono XC2)
  · skip
    refine A_aload_n (pc := 12) dX8_set_12 rfl rfl ?_
    refine A_iload (pc := 13) dX8_set_13 rfl ?_
    refine A_callVe (pc := 15) kX8_76 rfl rfl (c_X8_refuse hZ hO (t := rowT Z s) (by omega) (by omega)) dX8_set_15 rfl rfl (Nat.le_of_ble_eq_true rfl) (Nat.le_of_ble_eq_true rfl) (fun υ hυ => ?_)
    refine A_iret (pc := 18) rfl dX8_set_18 ?_
    exact RQX (by unfold qSet; rw [if_pos h9]; rfl) hυ.1 (hυ.2.mono XC2)
theorem copyT_0 {Z : Zt} {p q i j n : Int} (h : copyT Z p q i j n = 0) : ((0 ≤ p ∧ p < 8) ∧ (0 ≤ q ∧ q < 8)) ∧ 100 ≤ Z.2.1.1 p.toNat ∧ 100 ≤ Z.2.1.1 q.toNat ∧ 0 ≤ n ∧ 0 ≤ i ∧ i + n ≤ Z.2.1.2.1 p.toNat ∧ 0 ≤ j ∧ j + n ≤ Z.2.1.2.1 q.toNat := by
  unfold copyT at h
  (repeat' split at h) <;> omega
theorem copyT_rng (Z : Zt) (p q i j n : Int) : -5 ≤ copyT Z p q i j n ∧ copyT Z p q i j n ≤ 0 := by
  unfold copyT
  (repeat' split) <;> omega
theorem dX8_copyTrouble_0 : decode cX8_copyTrouble 0 = .ok (.iload_n 1, 1) := by decide +kernel
theorem dX8_copyTrouble_1 : decode cX8_copyTrouble 1 = .ok (.invokestatic 72, 3) := by decide +kernel
theorem dX8_copyTrouble_4 : decode cX8_copyTrouble 4 = .ok (.ifCond .eq 10, 3) := by decide +kernel
theorem dX8_copyTrouble_7 : decode cX8_copyTrouble 7 = .ok (.iload_n 2, 1) := by decide +kernel
theorem dX8_copyTrouble_8 : decode cX8_copyTrouble 8 = .ok (.invokestatic 72, 3) := by decide +kernel
theorem dX8_copyTrouble_11 : decode cX8_copyTrouble 11 = .ok (.ifCond .ne 5, 3) := by decide +kernel
theorem dX8_copyTrouble_14 : decode cX8_copyTrouble 14 = .ok (.iconst (-1), 1) := by decide +kernel
theorem dX8_copyTrouble_15 : decode cX8_copyTrouble 15 = .ok (.ireturn, 1) := by decide +kernel
theorem dX8_copyTrouble_16 : decode cX8_copyTrouble 16 = .ok (.aload_n 0, 1) := by decide +kernel
theorem dX8_copyTrouble_17 : decode cX8_copyTrouble 17 = .ok (.getfield 25, 3) := by decide +kernel
theorem dX8_copyTrouble_20 : decode cX8_copyTrouble 20 = .ok (.iload_n 1, 1) := by decide +kernel
theorem dX8_copyTrouble_21 : decode cX8_copyTrouble 21 = .ok (.aaload, 1) := by decide +kernel
theorem dX8_copyTrouble_22 : decode cX8_copyTrouble 22 = .ok (.astore 6, 2) := by decide +kernel
theorem dX8_copyTrouble_24 : decode cX8_copyTrouble 24 = .ok (.aload_n 0, 1) := by decide +kernel
theorem dX8_copyTrouble_25 : decode cX8_copyTrouble 25 = .ok (.getfield 25, 3) := by decide +kernel
theorem dX8_copyTrouble_28 : decode cX8_copyTrouble 28 = .ok (.iload_n 2, 1) := by decide +kernel
theorem dX8_copyTrouble_29 : decode cX8_copyTrouble 29 = .ok (.aaload, 1) := by decide +kernel
theorem dX8_copyTrouble_30 : decode cX8_copyTrouble 30 = .ok (.astore 7, 2) := by decide +kernel
theorem dX8_copyTrouble_32 : decode cX8_copyTrouble 32 = .ok (.aload 6, 2) := by decide +kernel
theorem dX8_copyTrouble_34 : decode cX8_copyTrouble 34 = .ok (.invokevirtual 363, 3) := by decide +kernel
theorem dX8_copyTrouble_37 : decode cX8_copyTrouble 37 = .ok (.ifCond .ne 11, 3) := by decide +kernel
theorem dX8_copyTrouble_40 : decode cX8_copyTrouble 40 = .ok (.aload 7, 2) := by decide +kernel
theorem dX8_copyTrouble_42 : decode cX8_copyTrouble 42 = .ok (.invokevirtual 363, 3) := by decide +kernel
theorem dX8_copyTrouble_45 : decode cX8_copyTrouble 45 = .ok (.ifCond .eq 6, 3) := by decide +kernel
theorem dX8_copyTrouble_48 : decode cX8_copyTrouble 48 = .ok (.bipush (-2), 2) := by decide +kernel
theorem dX8_copyTrouble_50 : decode cX8_copyTrouble 50 = .ok (.ireturn, 1) := by decide +kernel
theorem dX8_copyTrouble_51 : decode cX8_copyTrouble 51 = .ok (.aload 6, 2) := by decide +kernel
theorem dX8_copyTrouble_53 : decode cX8_copyTrouble 53 = .ok (.invokevirtual 123, 3) := by decide +kernel
theorem dX8_copyTrouble_56 : decode cX8_copyTrouble 56 = .ok (.ifCond .eq 27, 3) := by decide +kernel
theorem dX8_copyTrouble_59 : decode cX8_copyTrouble 59 = .ok (.aload 7, 2) := by decide +kernel
theorem dX8_copyTrouble_61 : decode cX8_copyTrouble 61 = .ok (.invokevirtual 123, 3) := by decide +kernel
theorem dX8_copyTrouble_64 : decode cX8_copyTrouble 64 = .ok (.ifCond .eq 19, 3) := by decide +kernel
theorem dX8_copyTrouble_67 : decode cX8_copyTrouble 67 = .ok (.aload 6, 2) := by decide +kernel
theorem dX8_copyTrouble_69 : decode cX8_copyTrouble 69 = .ok (.getfield 116, 3) := by decide +kernel
theorem dX8_copyTrouble_72 : decode cX8_copyTrouble 72 = .ok (.aload 7, 2) := by decide +kernel
theorem dX8_copyTrouble_74 : decode cX8_copyTrouble 74 = .ok (.getfield 116, 3) := by decide +kernel
theorem dX8_copyTrouble_77 : decode cX8_copyTrouble 77 = .ok (.if_icmp .eq 6, 3) := by decide +kernel
theorem dX8_copyTrouble_80 : decode cX8_copyTrouble 80 = .ok (.bipush (-2), 2) := by decide +kernel
theorem dX8_copyTrouble_82 : decode cX8_copyTrouble 82 = .ok (.ireturn, 1) := by decide +kernel
theorem dX8_copyTrouble_83 : decode cX8_copyTrouble 83 = .ok (.aload 6, 2) := by decide +kernel
theorem dX8_copyTrouble_85 : decode cX8_copyTrouble 85 = .ok (.invokevirtual 123, 3) := by decide +kernel
theorem dX8_copyTrouble_88 : decode cX8_copyTrouble 88 = .ok (.ifCond .eq 11, 3) := by decide +kernel
theorem dX8_copyTrouble_91 : decode cX8_copyTrouble 91 = .ok (.aload 7, 2) := by decide +kernel
theorem dX8_copyTrouble_93 : decode cX8_copyTrouble 93 = .ok (.invokevirtual 123, 3) := by decide +kernel
theorem dX8_copyTrouble_96 : decode cX8_copyTrouble 96 = .ok (.ifCond .ne 6, 3) := by decide +kernel
theorem dX8_copyTrouble_99 : decode cX8_copyTrouble 99 = .ok (.bipush (-3), 2) := by decide +kernel
theorem dX8_copyTrouble_101 : decode cX8_copyTrouble 101 = .ok (.ireturn, 1) := by decide +kernel
theorem dX8_copyTrouble_102 : decode cX8_copyTrouble 102 = .ok (.iload 5, 2) := by decide +kernel
theorem dX8_copyTrouble_104 : decode cX8_copyTrouble 104 = .ok (.ifCond .ge 6, 3) := by decide +kernel
theorem dX8_copyTrouble_107 : decode cX8_copyTrouble 107 = .ok (.bipush (-4), 2) := by decide +kernel
theorem dX8_copyTrouble_109 : decode cX8_copyTrouble 109 = .ok (.ireturn, 1) := by decide +kernel
theorem dX8_copyTrouble_110 : decode cX8_copyTrouble 110 = .ok (.aload 6, 2) := by decide +kernel
theorem dX8_copyTrouble_112 : decode cX8_copyTrouble 112 = .ok (.iload_n 3, 1) := by decide +kernel
theorem dX8_copyTrouble_113 : decode cX8_copyTrouble 113 = .ok (.iload 5, 2) := by decide +kernel
theorem dX8_copyTrouble_115 : decode cX8_copyTrouble 115 = .ok (.invokevirtual 377, 3) := by decide +kernel
theorem dX8_copyTrouble_118 : decode cX8_copyTrouble 118 = .ok (.ifCond .eq 19, 3) := by decide +kernel
theorem dX8_copyTrouble_121 : decode cX8_copyTrouble 121 = .ok (.aload 7, 2) := by decide +kernel
theorem dX8_copyTrouble_123 : decode cX8_copyTrouble 123 = .ok (.iload 4, 2) := by decide +kernel
theorem dX8_copyTrouble_125 : decode cX8_copyTrouble 125 = .ok (.iload 5, 2) := by decide +kernel
theorem dX8_copyTrouble_127 : decode cX8_copyTrouble 127 = .ok (.invokevirtual 377, 3) := by decide +kernel
theorem dX8_copyTrouble_130 : decode cX8_copyTrouble 130 = .ok (.ifCond .eq 7, 3) := by decide +kernel
theorem dX8_copyTrouble_133 : decode cX8_copyTrouble 133 = .ok (.iconst 0, 1) := by decide +kernel
theorem dX8_copyTrouble_134 : decode cX8_copyTrouble 134 = .ok (.goto 5, 3) := by decide +kernel
theorem dX8_copyTrouble_137 : decode cX8_copyTrouble 137 = .ok (.bipush (-5), 2) := by decide +kernel
theorem dX8_copyTrouble_139 : decode cX8_copyTrouble 139 = .ok (.ireturn, 1) := by decide +kernel
set_option maxRecDepth 20000 in
theorem c_X8_copyTrouble {G : Gl} {d : Nat} {σ : Sg} {Z : Zt} (hZ : RelX Z σ) (hO : OkZ Z) {p : Int} (hp1 : -2147483648 ≤ p) (hp2 : p < 2147483648) {q : Int} (hq1 : -2147483648 ≤ q) (hq2 : q < 2147483648) {i : Int} (hi1 : -2147483648 ≤ i) (hi2 : i < 2147483648) {j : Int} (hj1 : -2147483648 ≤ j) (hj2 : j < 2147483648) {n : Int} (hn1 : -2147483648 ≤ n) (hn2 : n < 2147483648) : CT G (d + 1) yX8_copyTrouble cX8_copyTrouble 8 (some .int) [.ref (gA G 0), .int (iI p), .int (iI q), .int (iI i), .int (iI j), .int (iI n)] σ (R1 (.int (iI (copyT Z p q i j n))) σ) := by
  refine CT.of (by decide +kernel) (Nat.le_of_ble_eq_true rfl) ?_
  change AW G _ RX8 _ _ _ 0 [(0, .ref (gA G 0)), (1, .int (iI p)), (2, .int (iI q)), (3, .int (iI i)), (4, .int (iI j)), (5, .int (iI n))] [] _ _
  refine A_iload_n (pc := 0) dX8_copyTrouble_0 rfl rfl ?_
  refine A_callS1 (pc := 1) kX8_72 (c_X8_isShelf hp1 hp2) dX8_copyTrouble_1 rfl rfl (Nat.le_of_ble_eq_true rfl) (Nat.le_of_ble_eq_true rfl) ?_
  refine A_ifb_eq (pc := 4) 14 dX8_copyTrouble_4 (by decide) (fun h4 => ?_) (fun h4 => ?_)
  · skip
    refine A_iconst (pc := 14) dX8_copyTrouble_14 ?_
    refine A_iret (pc := 15) rfl dX8_copyTrouble_15 ?_
    exact R1_e (by unfold copyT; (try simp only [Int.toNat_natCast]); (repeat' split) <;> omega)
  · skip
    refine A_iload_n (pc := 7) dX8_copyTrouble_7 rfl rfl ?_
    refine A_callS1 (pc := 8) kX8_72 (c_X8_isShelf hq1 hq2) dX8_copyTrouble_8 rfl rfl (Nat.le_of_ble_eq_true rfl) (Nat.le_of_ble_eq_true rfl) ?_
    refine A_ifb_ne (pc := 11) 16 dX8_copyTrouble_11 (by decide) (fun h11 => ?_) (fun h11 => ?_)
    · skip
      obtain ⟨k, rfl⟩ := Int.eq_ofNat_of_zero_le (show 0 ≤ p by omega)
      have k8 : k < 8 := by omega
      have ks := hZ.2.1 k k8
      have ko := hO.2.1 k k8
      obtain ⟨m, rfl⟩ := Int.eq_ofNat_of_zero_le (show 0 ≤ q by omega)
      have m8 : m < 8 := by omega
      have ms := hZ.2.1 m m8
      have mo := hO.2.1 m m8
      obtain ⟨b1, b2, b3, b4⟩ := ko.1
      obtain ⟨d1, d2, d3, d4⟩ := mo.1
      refine A_aload_n (pc := 16) dX8_copyTrouble_16 rfl rfl ?_
      refine A_getR (pc := 17) fX8_25 rfl rfl dX8_copyTrouble_17 ?_
      refine A_iload_n (pc := 20) dX8_copyTrouble_20 rfl rfl ?_
      refine A_aald (pc := 21) _ rfl rfl (by omega) (Nat.le_of_ble_eq_true rfl) dX8_copyTrouble_21 ?_
      refine A_astore (pc := 22) dX8_copyTrouble_22 (Nat.le_of_ble_eq_true rfl) ?_
      refine A_aload_n (pc := 24) dX8_copyTrouble_24 rfl rfl ?_
      refine A_getR (pc := 25) fX8_25 rfl rfl dX8_copyTrouble_25 ?_
      refine A_iload_n (pc := 28) dX8_copyTrouble_28 rfl rfl ?_
      refine A_aald (pc := 29) _ rfl rfl (by omega) (Nat.le_of_ble_eq_true rfl) dX8_copyTrouble_29 ?_
      refine A_astore (pc := 30) dX8_copyTrouble_30 (Nat.le_of_ble_eq_true rfl) ?_
      refine A_aload (pc := 32) dX8_copyTrouble_32 rfl ?_
      refine A_callV1 (pc := 34) kX8_363 (shp_S (SCk (by omega))) rfl (c_X3_isPane (SCk k8) ks ko.1) dX8_copyTrouble_34 rfl rfl (Nat.le_of_ble_eq_true rfl) (Nat.le_of_ble_eq_true rfl) ?_
      refine A_ifb_ne (pc := 37) 48 dX8_copyTrouble_37 (by decide) (fun h37 => ?_) (fun h37 => ?_)
      · skip
        refine A_bipush (pc := 48) dX8_copyTrouble_48 (by decide) ?_
        refine A_iret (pc := 50) rfl dX8_copyTrouble_50 ?_
        exact R1_e (by unfold copyT; (try simp only [Int.toNat_natCast]); (repeat' split) <;> omega)
      · skip
        refine A_aload (pc := 40) dX8_copyTrouble_40 rfl ?_
        refine A_callV1 (pc := 42) kX8_363 (shp_S (SCk (by omega))) rfl (c_X3_isPane (SCk m8) ms mo.1) dX8_copyTrouble_42 rfl rfl (Nat.le_of_ble_eq_true rfl) (Nat.le_of_ble_eq_true rfl) ?_
        refine A_ifb_eq (pc := 45) 51 dX8_copyTrouble_45 (by decide) (fun h45 => ?_) (fun h45 => ?_)
        · skip
          refine A_aload (pc := 51) dX8_copyTrouble_51 rfl ?_
          refine A_callV1 (pc := 53) kX8_123 (shp_S (SCk (by omega))) rfl (c_X3_isRow (SCk k8) ks ko.1) dX8_copyTrouble_53 rfl rfl (Nat.le_of_ble_eq_true rfl) (Nat.le_of_ble_eq_true rfl) ?_
          refine A_ifb_eq (pc := 56) 83 dX8_copyTrouble_56 (by decide) (fun h56 => ?_) (fun h56 => ?_)
          · skip
            refine A_aload (pc := 83) dX8_copyTrouble_83 rfl ?_
            refine A_callV1 (pc := 85) kX8_123 (shp_S (SCk (by omega))) rfl (c_X3_isRow (SCk k8) ks ko.1) dX8_copyTrouble_85 rfl rfl (Nat.le_of_ble_eq_true rfl) (Nat.le_of_ble_eq_true rfl) ?_
            refine A_ifb_eq (pc := 88) 99 dX8_copyTrouble_88 (by decide) (fun h88 => ?_) (fun h88 => ?_)
            · skip
              refine A_bipush (pc := 99) dX8_copyTrouble_99 (by decide) ?_
              refine A_iret (pc := 101) rfl dX8_copyTrouble_101 ?_
              exact R1_e (by unfold copyT; (try simp only [Int.toNat_natCast]); (repeat' split) <;> omega)
            · skip
              refine A_aload (pc := 91) dX8_copyTrouble_91 rfl ?_
              refine A_callV1 (pc := 93) kX8_123 (shp_S (SCk (by omega))) rfl (c_X3_isRow (SCk m8) ms mo.1) dX8_copyTrouble_93 rfl rfl (Nat.le_of_ble_eq_true rfl) (Nat.le_of_ble_eq_true rfl) ?_
              refine A_ifb_ne (pc := 96) 102 dX8_copyTrouble_96 (by decide) (fun h96 => ?_) (fun h96 => ?_)
              · skip
                refine A_iload (pc := 102) dX8_copyTrouble_102 rfl ?_
                refine A_if_ge (pc := 104) 110 dX8_copyTrouble_104 (by decide) (by omega) (by omega) (fun h104 => ?_) (fun h104 => ?_)
                · skip
                  refine A_aload (pc := 110) dX8_copyTrouble_110 rfl ?_
                  refine A_iload_n (pc := 112) dX8_copyTrouble_112 rfl rfl ?_
                  refine A_iload (pc := 113) dX8_copyTrouble_113 rfl ?_
                  refine A_callV1 (pc := 115) kX8_377 (shp_S (SCk (by omega))) rfl (c_X3_hasElements (SCk k8) ks ko.1 hi1 hi2 hn1 hn2) dX8_copyTrouble_115 rfl rfl (Nat.le_of_ble_eq_true rfl) (Nat.le_of_ble_eq_true rfl) ?_
                  refine A_ifb_eq (pc := 118) 137 dX8_copyTrouble_118 (by decide) (fun h118 => ?_) (fun h118 => ?_)
                  · skip
                    refine A_bipush (pc := 137) dX8_copyTrouble_137 (by decide) ?_
                    refine A_iret (pc := 139) rfl dX8_copyTrouble_139 ?_
                    exact R1_e (by unfold copyT; (try simp only [Int.toNat_natCast]); (repeat' split) <;> omega)
                  · skip
                    refine A_aload (pc := 121) dX8_copyTrouble_121 rfl ?_
                    refine A_iload (pc := 123) dX8_copyTrouble_123 rfl ?_
                    refine A_iload (pc := 125) dX8_copyTrouble_125 rfl ?_
                    refine A_callV1 (pc := 127) kX8_377 (shp_S (SCk (by omega))) rfl (c_X3_hasElements (SCk m8) ms mo.1 hj1 hj2 hn1 hn2) dX8_copyTrouble_127 rfl rfl (Nat.le_of_ble_eq_true rfl) (Nat.le_of_ble_eq_true rfl) ?_
                    refine A_ifb_eq (pc := 130) 137 dX8_copyTrouble_130 (by decide) (fun h130 => ?_) (fun h130 => ?_)
                    · skip
                      refine A_bipush (pc := 137) dX8_copyTrouble_137 (by decide) ?_
                      refine A_iret (pc := 139) rfl dX8_copyTrouble_139 ?_
                      exact R1_e (by unfold copyT; (try simp only [Int.toNat_natCast]); (repeat' split) <;> omega)
                    · skip
                      refine A_iconst (pc := 133) dX8_copyTrouble_133 ?_
                      refine A_goto (pc := 134) 139 dX8_copyTrouble_134 (by decide) ?_
                      refine A_iret (pc := 139) rfl dX8_copyTrouble_139 ?_
                      exact R1_e (by unfold copyT; (try simp only [Int.toNat_natCast]); (repeat' split) <;> omega)
                · skip
                  refine A_bipush (pc := 107) dX8_copyTrouble_107 (by decide) ?_
                  refine A_iret (pc := 109) rfl dX8_copyTrouble_109 ?_
                  exact R1_e (by unfold copyT; (try simp only [Int.toNat_natCast]); (repeat' split) <;> omega)
              · skip
                refine A_bipush (pc := 99) dX8_copyTrouble_99 (by decide) ?_
                refine A_iret (pc := 101) rfl dX8_copyTrouble_101 ?_
                exact R1_e (by unfold copyT; (try simp only [Int.toNat_natCast]); (repeat' split) <;> omega)
          · skip
            refine A_aload (pc := 59) dX8_copyTrouble_59 rfl ?_
            refine A_callV1 (pc := 61) kX8_123 (shp_S (SCk (by omega))) rfl (c_X3_isRow (SCk m8) ms mo.1) dX8_copyTrouble_61 rfl rfl (Nat.le_of_ble_eq_true rfl) (Nat.le_of_ble_eq_true rfl) ?_
            refine A_ifb_eq (pc := 64) 83 dX8_copyTrouble_64 (by decide) (fun h64 => ?_) (fun h64 => ?_)
            · skip
              refine A_aload (pc := 83) dX8_copyTrouble_83 rfl ?_
              refine A_callV1 (pc := 85) kX8_123 (shp_S (SCk (by omega))) rfl (c_X3_isRow (SCk k8) ks ko.1) dX8_copyTrouble_85 rfl rfl (Nat.le_of_ble_eq_true rfl) (Nat.le_of_ble_eq_true rfl) ?_
              refine A_ifb_eq (pc := 88) 99 dX8_copyTrouble_88 (by decide) (fun h88 => ?_) (fun h88 => ?_)
              · skip
                refine A_bipush (pc := 99) dX8_copyTrouble_99 (by decide) ?_
                refine A_iret (pc := 101) rfl dX8_copyTrouble_101 ?_
                exact R1_e (by unfold copyT; (try simp only [Int.toNat_natCast]); (repeat' split) <;> omega)
              · skip
                refine A_aload (pc := 91) dX8_copyTrouble_91 rfl ?_
                refine A_callV1 (pc := 93) kX8_123 (shp_S (SCk (by omega))) rfl (c_X3_isRow (SCk m8) ms mo.1) dX8_copyTrouble_93 rfl rfl (Nat.le_of_ble_eq_true rfl) (Nat.le_of_ble_eq_true rfl) ?_
                refine A_ifb_ne (pc := 96) 102 dX8_copyTrouble_96 (by decide) (fun h96 => ?_) (fun h96 => ?_)
                · skip
                  refine A_iload (pc := 102) dX8_copyTrouble_102 rfl ?_
                  refine A_if_ge (pc := 104) 110 dX8_copyTrouble_104 (by decide) (by omega) (by omega) (fun h104 => ?_) (fun h104 => ?_)
                  · skip
                    refine A_aload (pc := 110) dX8_copyTrouble_110 rfl ?_
                    refine A_iload_n (pc := 112) dX8_copyTrouble_112 rfl rfl ?_
                    refine A_iload (pc := 113) dX8_copyTrouble_113 rfl ?_
                    refine A_callV1 (pc := 115) kX8_377 (shp_S (SCk (by omega))) rfl (c_X3_hasElements (SCk k8) ks ko.1 hi1 hi2 hn1 hn2) dX8_copyTrouble_115 rfl rfl (Nat.le_of_ble_eq_true rfl) (Nat.le_of_ble_eq_true rfl) ?_
                    refine A_ifb_eq (pc := 118) 137 dX8_copyTrouble_118 (by decide) (fun h118 => ?_) (fun h118 => ?_)
                    · skip
                      refine A_bipush (pc := 137) dX8_copyTrouble_137 (by decide) ?_
                      refine A_iret (pc := 139) rfl dX8_copyTrouble_139 ?_
                      exact R1_e (by unfold copyT; (try simp only [Int.toNat_natCast]); (repeat' split) <;> omega)
                    · skip
                      refine A_aload (pc := 121) dX8_copyTrouble_121 rfl ?_
                      refine A_iload (pc := 123) dX8_copyTrouble_123 rfl ?_
                      refine A_iload (pc := 125) dX8_copyTrouble_125 rfl ?_
                      refine A_callV1 (pc := 127) kX8_377 (shp_S (SCk (by omega))) rfl (c_X3_hasElements (SCk m8) ms mo.1 hj1 hj2 hn1 hn2) dX8_copyTrouble_127 rfl rfl (Nat.le_of_ble_eq_true rfl) (Nat.le_of_ble_eq_true rfl) ?_
                      refine A_ifb_eq (pc := 130) 137 dX8_copyTrouble_130 (by decide) (fun h130 => ?_) (fun h130 => ?_)
                      · skip
                        refine A_bipush (pc := 137) dX8_copyTrouble_137 (by decide) ?_
                        refine A_iret (pc := 139) rfl dX8_copyTrouble_139 ?_
                        exact R1_e (by unfold copyT; (try simp only [Int.toNat_natCast]); (repeat' split) <;> omega)
                      · skip
                        refine A_iconst (pc := 133) dX8_copyTrouble_133 ?_
                        refine A_goto (pc := 134) 139 dX8_copyTrouble_134 (by decide) ?_
                        refine A_iret (pc := 139) rfl dX8_copyTrouble_139 ?_
                        exact R1_e (by unfold copyT; (try simp only [Int.toNat_natCast]); (repeat' split) <;> omega)
                  · skip
                    refine A_bipush (pc := 107) dX8_copyTrouble_107 (by decide) ?_
                    refine A_iret (pc := 109) rfl dX8_copyTrouble_109 ?_
                    exact R1_e (by unfold copyT; (try simp only [Int.toNat_natCast]); (repeat' split) <;> omega)
                · skip
                  refine A_bipush (pc := 99) dX8_copyTrouble_99 (by decide) ?_
                  refine A_iret (pc := 101) rfl dX8_copyTrouble_101 ?_
                  exact R1_e (by unfold copyT; (try simp only [Int.toNat_natCast]); (repeat' split) <;> omega)
            · skip
              refine A_aload (pc := 67) dX8_copyTrouble_67 rfl ?_
              refine A_getIv (pc := 69) fX8_116 (shp_S (SCk (by omega))) rfl ks.1 dX8_copyTrouble_69 ?_
              refine A_aload (pc := 72) dX8_copyTrouble_72 rfl ?_
              refine A_getIv (pc := 74) fX8_116 (shp_S (SCk (by omega))) rfl ms.1 dX8_copyTrouble_74 ?_
              refine A_icmp_eq (pc := 77) 83 dX8_copyTrouble_77 (by decide) (by omega) (by omega) (by omega) (by omega) (fun h77 => ?_) (fun h77 => ?_)
              · skip
                refine A_aload (pc := 83) dX8_copyTrouble_83 rfl ?_
                refine A_callV1 (pc := 85) kX8_123 (shp_S (SCk (by omega))) rfl (c_X3_isRow (SCk k8) ks ko.1) dX8_copyTrouble_85 rfl rfl (Nat.le_of_ble_eq_true rfl) (Nat.le_of_ble_eq_true rfl) ?_
                refine A_ifb_eq (pc := 88) 99 dX8_copyTrouble_88 (by decide) (fun h88 => ?_) (fun h88 => ?_)
                · skip
                  refine A_bipush (pc := 99) dX8_copyTrouble_99 (by decide) ?_
                  refine A_iret (pc := 101) rfl dX8_copyTrouble_101 ?_
                  exact R1_e (by unfold copyT; (try simp only [Int.toNat_natCast]); (repeat' split) <;> omega)
                · skip
                  refine A_aload (pc := 91) dX8_copyTrouble_91 rfl ?_
                  refine A_callV1 (pc := 93) kX8_123 (shp_S (SCk (by omega))) rfl (c_X3_isRow (SCk m8) ms mo.1) dX8_copyTrouble_93 rfl rfl (Nat.le_of_ble_eq_true rfl) (Nat.le_of_ble_eq_true rfl) ?_
                  refine A_ifb_ne (pc := 96) 102 dX8_copyTrouble_96 (by decide) (fun h96 => ?_) (fun h96 => ?_)
                  · skip
                    refine A_iload (pc := 102) dX8_copyTrouble_102 rfl ?_
                    refine A_if_ge (pc := 104) 110 dX8_copyTrouble_104 (by decide) (by omega) (by omega) (fun h104 => ?_) (fun h104 => ?_)
                    · skip
                      refine A_aload (pc := 110) dX8_copyTrouble_110 rfl ?_
                      refine A_iload_n (pc := 112) dX8_copyTrouble_112 rfl rfl ?_
                      refine A_iload (pc := 113) dX8_copyTrouble_113 rfl ?_
                      refine A_callV1 (pc := 115) kX8_377 (shp_S (SCk (by omega))) rfl (c_X3_hasElements (SCk k8) ks ko.1 hi1 hi2 hn1 hn2) dX8_copyTrouble_115 rfl rfl (Nat.le_of_ble_eq_true rfl) (Nat.le_of_ble_eq_true rfl) ?_
                      refine A_ifb_eq (pc := 118) 137 dX8_copyTrouble_118 (by decide) (fun h118 => ?_) (fun h118 => ?_)
                      · skip
                        refine A_bipush (pc := 137) dX8_copyTrouble_137 (by decide) ?_
                        refine A_iret (pc := 139) rfl dX8_copyTrouble_139 ?_
                        exact R1_e (by unfold copyT; (try simp only [Int.toNat_natCast]); (repeat' split) <;> omega)
                      · skip
                        refine A_aload (pc := 121) dX8_copyTrouble_121 rfl ?_
                        refine A_iload (pc := 123) dX8_copyTrouble_123 rfl ?_
                        refine A_iload (pc := 125) dX8_copyTrouble_125 rfl ?_
                        refine A_callV1 (pc := 127) kX8_377 (shp_S (SCk (by omega))) rfl (c_X3_hasElements (SCk m8) ms mo.1 hj1 hj2 hn1 hn2) dX8_copyTrouble_127 rfl rfl (Nat.le_of_ble_eq_true rfl) (Nat.le_of_ble_eq_true rfl) ?_
                        refine A_ifb_eq (pc := 130) 137 dX8_copyTrouble_130 (by decide) (fun h130 => ?_) (fun h130 => ?_)
                        · skip
                          refine A_bipush (pc := 137) dX8_copyTrouble_137 (by decide) ?_
                          refine A_iret (pc := 139) rfl dX8_copyTrouble_139 ?_
                          exact R1_e (by unfold copyT; (try simp only [Int.toNat_natCast]); (repeat' split) <;> omega)
                        · skip
                          refine A_iconst (pc := 133) dX8_copyTrouble_133 ?_
                          refine A_goto (pc := 134) 139 dX8_copyTrouble_134 (by decide) ?_
                          refine A_iret (pc := 139) rfl dX8_copyTrouble_139 ?_
                          exact R1_e (by unfold copyT; (try simp only [Int.toNat_natCast]); (repeat' split) <;> omega)
                    · skip
                      refine A_bipush (pc := 107) dX8_copyTrouble_107 (by decide) ?_
                      refine A_iret (pc := 109) rfl dX8_copyTrouble_109 ?_
                      exact R1_e (by unfold copyT; (try simp only [Int.toNat_natCast]); (repeat' split) <;> omega)
                  · skip
                    refine A_bipush (pc := 99) dX8_copyTrouble_99 (by decide) ?_
                    refine A_iret (pc := 101) rfl dX8_copyTrouble_101 ?_
                    exact R1_e (by unfold copyT; (try simp only [Int.toNat_natCast]); (repeat' split) <;> omega)
              · skip
                refine A_bipush (pc := 80) dX8_copyTrouble_80 (by decide) ?_
                refine A_iret (pc := 82) rfl dX8_copyTrouble_82 ?_
                exact R1_e (by unfold copyT; (try simp only [Int.toNat_natCast]); (repeat' split) <;> omega)
        · skip
          refine A_bipush (pc := 48) dX8_copyTrouble_48 (by decide) ?_
          refine A_iret (pc := 50) rfl dX8_copyTrouble_50 ?_
          exact R1_e (by unfold copyT; (try simp only [Int.toNat_natCast]); (repeat' split) <;> omega)
    · skip
      refine A_iconst (pc := 14) dX8_copyTrouble_14 ?_
      refine A_iret (pc := 15) rfl dX8_copyTrouble_15 ?_
      exact R1_e (by unfold copyT; (try simp only [Int.toNat_natCast]); (repeat' split) <;> omega)
theorem RS_cpL {c0 c1 i j k : Nat} {hd n hd2 n2 : Int} {el el2 : Nat → Int64} {σ : Sg} (h1 : RS c1 hd n el σ) (h2 : RS c0 hd2 n2 el2 σ) (hi : i + k ≤ 160) : RS c1 hd n (va_cpy el2 el i j k) (cpL σ (c0 + 1) (c1 + 1) i j k) := by
  refine ⟨h1.1, h1.2.1, fun x hx => ?_⟩
  show (if c1 + 1 = c1 + 1 then va_cpy (σ.2 (c0 + 1)) (σ.2 (c1 + 1)) i j k x else _) = _
  rw [if_pos rfl]
  unfold va_cpy
  by_cases q : j ≤ x ∧ x < j + k
  · rw [if_pos q, if_pos q]; exact h2.2.2 _ (by omega)
  · rw [if_neg q, if_neg q]; exact h1.2.2 x hx
theorem Fr_cpL {c0 c1 i j k : Nat} {σ : Sg} {S : Nat → Prop} (h : S c1) : Fr S σ (cpL σ c0 c1 i j k) := fun a ha => ⟨rfl, by
  funext b
  show (if a = c1 then _ else _) = _
  rw [if_neg (fun e : a = c1 => ha (by rw [e]; exact h))]⟩
theorem dX8_copy_0 : decode cX8_copy 0 = .ok (.aload_n 0, 1) := by decide +kernel
theorem dX8_copy_1 : decode cX8_copy 1 = .ok (.iload_n 1, 1) := by decide +kernel
theorem dX8_copy_2 : decode cX8_copy 2 = .ok (.iload_n 2, 1) := by decide +kernel
theorem dX8_copy_3 : decode cX8_copy 3 = .ok (.iload_n 3, 1) := by decide +kernel
theorem dX8_copy_4 : decode cX8_copy 4 = .ok (.iload 4, 2) := by decide +kernel
theorem dX8_copy_6 : decode cX8_copy 6 = .ok (.iload 5, 2) := by decide +kernel
theorem dX8_copy_8 : decode cX8_copy 8 = .ok (.invokevirtual 97, 3) := by decide +kernel
theorem dX8_copy_11 : decode cX8_copy 11 = .ok (.istore 6, 2) := by decide +kernel
theorem dX8_copy_13 : decode cX8_copy 13 = .ok (.iload 6, 2) := by decide +kernel
theorem dX8_copy_15 : decode cX8_copy 15 = .ok (.ifCond .eq 10, 3) := by decide +kernel
theorem dX8_copy_18 : decode cX8_copy 18 = .ok (.aload_n 0, 1) := by decide +kernel
theorem dX8_copy_19 : decode cX8_copy 19 = .ok (.iload 6, 2) := by decide +kernel
theorem dX8_copy_21 : decode cX8_copy 21 = .ok (.invokevirtual 76, 3) := by decide +kernel
theorem dX8_copy_24 : decode cX8_copy 24 = .ok (.ireturn, 1) := by decide +kernel
theorem dX8_copy_25 : decode cX8_copy 25 = .ok (.aload_n 0, 1) := by decide +kernel
theorem dX8_copy_26 : decode cX8_copy 26 = .ok (.getfield 25, 3) := by decide +kernel
theorem dX8_copy_29 : decode cX8_copy 29 = .ok (.iload_n 2, 1) := by decide +kernel
theorem dX8_copy_30 : decode cX8_copy 30 = .ok (.aaload, 1) := by decide +kernel
theorem dX8_copy_31 : decode cX8_copy 31 = .ok (.aload_n 0, 1) := by decide +kernel
theorem dX8_copy_32 : decode cX8_copy 32 = .ok (.getfield 25, 3) := by decide +kernel
theorem dX8_copy_35 : decode cX8_copy 35 = .ok (.iload_n 1, 1) := by decide +kernel
theorem dX8_copy_36 : decode cX8_copy 36 = .ok (.aaload, 1) := by decide +kernel
theorem dX8_copy_37 : decode cX8_copy 37 = .ok (.iload_n 3, 1) := by decide +kernel
theorem dX8_copy_38 : decode cX8_copy 38 = .ok (.iload 4, 2) := by decide +kernel
theorem dX8_copy_40 : decode cX8_copy 40 = .ok (.iload 5, 2) := by decide +kernel
theorem dX8_copy_42 : decode cX8_copy 42 = .ok (.invokevirtual 101, 3) := by decide +kernel
theorem dX8_copy_45 : decode cX8_copy 45 = .ok (.iconst 1, 1) := by decide +kernel
theorem dX8_copy_46 : decode cX8_copy 46 = .ok (.ireturn, 1) := by decide +kernel
set_option maxRecDepth 20000 in
theorem c_X8_copy {G : Gl} {d : Nat} {σ : Sg} {Z : Zt} (hZ : RelX Z σ) (hO : OkZ Z) {p : Int} (hp1 : -2147483648 ≤ p) (hp2 : p < 2147483648) {q : Int} (hq1 : -2147483648 ≤ q) (hq2 : q < 2147483648) {i : Int} (hi1 : -2147483648 ≤ i) (hi2 : i < 2147483648) {j : Int} (hj1 : -2147483648 ≤ j) (hj2 : j < 2147483648) {n : Int} (hn1 : -2147483648 ≤ n) (hn2 : n < 2147483648) : CT G (d + 2) yX8_copy cX8_copy 7 (some .int) [.ref (gA G 0), .int (iI p), .int (iI q), .int (iI i), .int (iI j), .int (iI n)] σ (RE (some (.int (iI (qCopy Z p q i j n).1))) (fun υ => RelX (qCopy Z p q i j n).2 υ ∧ Fr XC σ υ)) := by
  refine CT.of (by decide +kernel) (Nat.le_of_ble_eq_true rfl) ?_
  change AW G _ RX8 _ _ _ 0 [(0, .ref (gA G 0)), (1, .int (iI p)), (2, .int (iI q)), (3, .int (iI i)), (4, .int (iI j)), (5, .int (iI n))] [] _ _
  have hrt := copyT_rng Z p q i j n
  refine A_aload_n (pc := 0) dX8_copy_0 rfl rfl ?_
  refine A_iload_n (pc := 1) dX8_copy_1 rfl rfl ?_
  refine A_iload_n (pc := 2) dX8_copy_2 rfl rfl ?_
  refine A_iload_n (pc := 3) dX8_copy_3 rfl rfl ?_
  refine A_iload (pc := 4) dX8_copy_4 rfl ?_
  refine A_iload (pc := 6) dX8_copy_6 rfl ?_
  refine A_callV1 (pc := 8) kX8_97 rfl rfl (c_X8_copyTrouble hZ hO hp1 hp2 hq1 hq2 hi1 hi2 hj1 hj2 hn1 hn2) dX8_copy_8 rfl rfl (Nat.le_of_ble_eq_true rfl) (Nat.le_of_ble_eq_true rfl) ?_
  refine A_istore (pc := 11) dX8_copy_11 (Nat.le_of_ble_eq_true rfl) ?_
  refine A_iload (pc := 13) dX8_copy_13 rfl ?_
  refine A_if_eq (pc := 15) 25 dX8_copy_15 (by decide) (by omega) (by omega) (fun h15 => ?_) (fun h15 => ?_)
  · skip
    obtain ⟨g1, g2, g3, g4, g5, g6, g7, g8⟩ := copyT_0 h15
    obtain ⟨k, rfl⟩ := Int.eq_ofNat_of_zero_le (show 0 ≤ p by omega)
    have k8 : k < 8 := by omega
    have ks := hZ.2.1 k k8
    have ko := hO.2.1 k k8
    obtain ⟨m, rfl⟩ := Int.eq_ofNat_of_zero_le (show 0 ≤ q by omega)
    have m8 : m < 8 := by omega
    have ms := hZ.2.1 m m8
    have mo := hO.2.1 m m8
    obtain ⟨a, rfl⟩ := Int.eq_ofNat_of_zero_le g5
    obtain ⟨b, rfl⟩ := Int.eq_ofNat_of_zero_le g7
    obtain ⟨e, rfl⟩ := Int.eq_ofNat_of_zero_le g4
    simp only [Int.toNat_natCast] at g2 g3 g6 g8
    have kb := ko.1.2.2.2
    refine A_aload_n (pc := 25) dX8_copy_25 rfl rfl ?_
    refine A_getR (pc := 26) fX8_25 rfl rfl dX8_copy_26 ?_
    refine A_iload_n (pc := 29) dX8_copy_29 rfl rfl ?_
    refine A_aald (pc := 30) _ rfl rfl (by omega) (Nat.le_of_ble_eq_true rfl) dX8_copy_30 ?_
    refine A_aload_n (pc := 31) dX8_copy_31 rfl rfl ?_
    refine A_getR (pc := 32) fX8_25 rfl rfl dX8_copy_32 ?_
    refine A_iload_n (pc := 35) dX8_copy_35 rfl rfl ?_
    refine A_aald (pc := 36) _ rfl rfl (by omega) (Nat.le_of_ble_eq_true rfl) dX8_copy_36 ?_
    refine A_iload_n (pc := 37) dX8_copy_37 rfl rfl ?_
    refine A_iload (pc := 38) dX8_copy_38 rfl ?_
    refine A_iload (pc := 40) dX8_copy_40 rfl ?_
    refine A_callV0 (pc := 42) kX8_101 (shp_S (SCk (by omega))) rfl (c_X3_takeFrom (SCk m8) (SCk k8) ms ks mo.1 ko.1 (i := a) (j := b) (k := e) (by omega) (by omega)) dX8_copy_42 rfl rfl (Nat.le_of_ble_eq_true rfl) (Nat.le_of_ble_eq_true rfl) ?_
    refine A_iconst (pc := 45) dX8_copy_45 ?_
    refine A_iret (pc := 46) rfl dX8_copy_46 ?_
    exact RQX (by unfold qCopy; rw [if_neg (by omega)]; rfl) (hZ.shelf m8 (RS_cpL ms ks (by omega)) (Fr_cpL (Or.inr rfl))) ((Fr_cpL (Or.inr rfl) : Fr (SS (38 + 2 * m)) σ _).mono (SSX m8))
  · skip
    refine A_aload_n (pc := 18) dX8_copy_18 rfl rfl ?_
    refine A_iload (pc := 19) dX8_copy_19 rfl ?_
    refine A_callVe (pc := 21) kX8_76 rfl rfl (c_X8_refuse hZ hO (t := copyT Z p q i j n) (by omega) (by omega)) dX8_copy_21 rfl rfl (Nat.le_of_ble_eq_true rfl) (Nat.le_of_ble_eq_true rfl) (fun υ hυ => ?_)
    refine A_iret (pc := 24) rfl dX8_copy_24 ?_
    exact RQX (by unfold qCopy; rw [if_pos h15]; rfl) hυ.1 (hυ.2.mono XC2)
theorem dX8_element_0 : decode cX8_element 0 = .ok (.iload_n 1, 1) := by decide +kernel
theorem dX8_element_1 : decode cX8_element 1 = .ok (.invokestatic 72, 3) := by decide +kernel
theorem dX8_element_4 : decode cX8_element 4 = .ok (.ifCond .eq 16, 3) := by decide +kernel
theorem dX8_element_7 : decode cX8_element 7 = .ok (.aload_n 0, 1) := by decide +kernel
theorem dX8_element_8 : decode cX8_element 8 = .ok (.getfield 25, 3) := by decide +kernel
theorem dX8_element_11 : decode cX8_element 11 = .ok (.iload_n 1, 1) := by decide +kernel
theorem dX8_element_12 : decode cX8_element 12 = .ok (.aaload, 1) := by decide +kernel
theorem dX8_element_13 : decode cX8_element 13 = .ok (.iload_n 2, 1) := by decide +kernel
theorem dX8_element_14 : decode cX8_element 14 = .ok (.invokevirtual 105, 3) := by decide +kernel
theorem dX8_element_17 : decode cX8_element 17 = .ok (.goto 4, 3) := by decide +kernel
theorem dX8_element_20 : decode cX8_element 20 = .ok (.lconst 0, 1) := by decide +kernel
theorem dX8_element_21 : decode cX8_element 21 = .ok (.lreturn, 1) := by decide +kernel
set_option maxRecDepth 20000 in
theorem c_X8_element {G : Gl} {d : Nat} {σ : Sg} {Z : Zt} (hZ : RelX Z σ) (hO : OkZ Z) {s : Int} (hs1 : -2147483648 ≤ s) (hs2 : s < 2147483648) {i : Int} (hi1 : -2147483648 ≤ i) (hi2 : i < 2147483648) : CT G (d + 2) yX8_element cX8_element 3 (some .long) [.ref (gA G 0), .int (iI s), .int (iI i)] σ (R1 (.long (qElem Z s i)) σ) := by
  refine CT.of (by decide +kernel) (Nat.le_of_ble_eq_true rfl) ?_
  change AW G _ RX8 _ _ _ 0 [(0, .ref (gA G 0)), (1, .int (iI s)), (2, .int (iI i))] [] _ _
  refine A_iload_n (pc := 0) dX8_element_0 rfl rfl ?_
  refine A_callS1 (pc := 1) kX8_72 (c_X8_isShelf hs1 hs2) dX8_element_1 rfl rfl (Nat.le_of_ble_eq_true rfl) (Nat.le_of_ble_eq_true rfl) ?_
  refine A_ifb_eq (pc := 4) 20 dX8_element_4 (by decide) (fun h4 => ?_) (fun h4 => ?_)
  · skip
    refine A_lconst (pc := 20) 0 dX8_element_20 rfl ?_
    refine A_lret (pc := 21) rfl dX8_element_21 ?_
    exact ⟨by unfold qElem; rw [if_neg (by omega)], rfl⟩
  · skip
    obtain ⟨k, rfl⟩ := Int.eq_ofNat_of_zero_le (show 0 ≤ s by omega)
    have k8 : k < 8 := by omega
    have ks := hZ.2.1 k k8
    have ko := hO.2.1 k k8
    refine A_aload_n (pc := 7) dX8_element_7 rfl rfl ?_
    refine A_getR (pc := 8) fX8_25 rfl rfl dX8_element_8 ?_
    refine A_iload_n (pc := 11) dX8_element_11 rfl rfl ?_
    refine A_aald (pc := 12) _ rfl rfl (by omega) (Nat.le_of_ble_eq_true rfl) dX8_element_12 ?_
    refine A_iload_n (pc := 13) dX8_element_13 rfl rfl ?_
    refine A_callV1 (pc := 14) kX8_105 (shp_S (SCk (by omega))) rfl (c_X3_longAt (SCk k8) ks ko.1 hi1 hi2) dX8_element_14 rfl rfl (Nat.le_of_ble_eq_true rfl) (Nat.le_of_ble_eq_true rfl) ?_
    refine A_goto (pc := 17) 21 dX8_element_17 (by decide) ?_
    refine A_lret (pc := 21) rfl dX8_element_21 ?_
    exact ⟨by unfold qElem; rw [if_pos (by omega)]; rfl, rfl⟩
theorem dX8_show_0 : decode cX8_show 0 = .ok (.iload_n 1, 1) := by decide +kernel
theorem dX8_show_1 : decode cX8_show 1 = .ok (.invokestatic 72, 3) := by decide +kernel
theorem dX8_show_4 : decode cX8_show 4 = .ok (.ifCond .eq 19, 3) := by decide +kernel
theorem dX8_show_7 : decode cX8_show 7 = .ok (.iload_n 2, 1) := by decide +kernel
theorem dX8_show_8 : decode cX8_show 8 = .ok (.iconst (-1), 1) := by decide +kernel
theorem dX8_show_9 : decode cX8_show 9 = .ok (.if_icmp .eq 20, 3) := by decide +kernel
theorem dX8_show_12 : decode cX8_show 12 = .ok (.aload_n 0, 1) := by decide +kernel
theorem dX8_show_13 : decode cX8_show 13 = .ok (.getfield 10, 3) := by decide +kernel
theorem dX8_show_16 : decode cX8_show 16 = .ok (.iload_n 2, 1) := by decide +kernel
theorem dX8_show_17 : decode cX8_show 17 = .ok (.invokevirtual 109, 3) := by decide +kernel
theorem dX8_show_20 : decode cX8_show 20 = .ok (.ifCond .ne 9, 3) := by decide +kernel
theorem dX8_show_23 : decode cX8_show 23 = .ok (.aload_n 0, 1) := by decide +kernel
theorem dX8_show_24 : decode cX8_show 24 = .ok (.iconst (-1), 1) := by decide +kernel
theorem dX8_show_25 : decode cX8_show 25 = .ok (.invokevirtual 76, 3) := by decide +kernel
theorem dX8_show_28 : decode cX8_show 28 = .ok (.ireturn, 1) := by decide +kernel
theorem dX8_show_29 : decode cX8_show 29 = .ok (.aload_n 0, 1) := by decide +kernel
theorem dX8_show_30 : decode cX8_show 30 = .ok (.getfield 25, 3) := by decide +kernel
theorem dX8_show_33 : decode cX8_show 33 = .ok (.iload_n 1, 1) := by decide +kernel
theorem dX8_show_34 : decode cX8_show 34 = .ok (.aaload, 1) := by decide +kernel
theorem dX8_show_35 : decode cX8_show 35 = .ok (.iload_n 2, 1) := by decide +kernel
theorem dX8_show_36 : decode cX8_show 36 = .ok (.invokevirtual 112, 3) := by decide +kernel
theorem dX8_show_39 : decode cX8_show 39 = .ok (.iload_n 2, 1) := by decide +kernel
theorem dX8_show_40 : decode cX8_show 40 = .ok (.iconst (-1), 1) := by decide +kernel
theorem dX8_show_41 : decode cX8_show 41 = .ok (.if_icmp .ne 7, 3) := by decide +kernel
theorem dX8_show_44 : decode cX8_show 44 = .ok (.iconst 0, 1) := by decide +kernel
theorem dX8_show_45 : decode cX8_show 45 = .ok (.goto 4, 3) := by decide +kernel
theorem dX8_show_48 : decode cX8_show 48 = .ok (.iconst 1, 1) := by decide +kernel
theorem dX8_show_49 : decode cX8_show 49 = .ok (.ireturn, 1) := by decide +kernel
set_option maxRecDepth 20000 in
theorem c_X8_show {G : Gl} {d : Nat} {σ : Sg} {Z : Zt} (hZ : RelX Z σ) (hO : OkZ Z) {s : Int} (hs1 : -2147483648 ≤ s) (hs2 : s < 2147483648) {p : Int} (hp1 : -2147483648 ≤ p) (hp2 : p < 2147483648) : CT G (d + 1) yX8_show cX8_show 3 (some .int) [.ref (gA G 0), .int (iI s), .int (iI p)] σ (RE (some (.int (iI (qShow Z s p).1))) (fun υ => RelX (qShow Z s p).2 υ ∧ Fr XC σ υ)) := by
  refine CT.of (by decide +kernel) (Nat.le_of_ble_eq_true rfl) ?_
  change AW G _ RX8 _ _ _ 0 [(0, .ref (gA G 0)), (1, .int (iI s)), (2, .int (iI p))] [] _ _
  refine A_iload_n (pc := 0) dX8_show_0 rfl rfl ?_
  refine A_callS1 (pc := 1) kX8_72 (c_X8_isShelf hs1 hs2) dX8_show_1 rfl rfl (Nat.le_of_ble_eq_true rfl) (Nat.le_of_ble_eq_true rfl) ?_
  refine A_ifb_eq (pc := 4) 23 dX8_show_4 (by decide) (fun h4 => ?_) (fun h4 => ?_)
  · skip
    refine A_aload_n (pc := 23) dX8_show_23 rfl rfl ?_
    refine A_iconst (pc := 24) dX8_show_24 ?_
    refine A_callVe (pc := 25) kX8_76 rfl rfl (c_X8_refuse hZ hO (t := -1) (by omega) (by omega)) dX8_show_25 rfl rfl (Nat.le_of_ble_eq_true rfl) (Nat.le_of_ble_eq_true rfl) (fun υ hυ => ?_)
    refine A_iret (pc := 28) rfl dX8_show_28 ?_
    exact RQX (by unfold qShow; rw [if_pos (by omega)]; rfl) hυ.1 (hυ.2.mono XC2)
  · skip
    refine A_iload_n (pc := 7) dX8_show_7 rfl rfl ?_
    refine A_iconst (pc := 8) dX8_show_8 ?_
    refine A_icmp_eq (pc := 9) 29 dX8_show_9 (by decide) (by omega) (by omega) (by omega) (by omega) (fun h9 => ?_) (fun h9 => ?_)
    · skip
      obtain ⟨k, rfl⟩ := Int.eq_ofNat_of_zero_le (show 0 ≤ s by omega)
      have k8 : k < 8 := by omega
      have ks := hZ.2.1 k k8
      have ko := hO.2.1 k k8
      refine A_aload_n (pc := 29) dX8_show_29 rfl rfl ?_
      refine A_getR (pc := 30) fX8_25 rfl rfl dX8_show_30 ?_
      refine A_iload_n (pc := 33) dX8_show_33 rfl rfl ?_
      refine A_aald (pc := 34) _ rfl rfl (by omega) (Nat.le_of_ble_eq_true rfl) dX8_show_34 ?_
      refine A_iload_n (pc := 35) dX8_show_35 rfl rfl ?_
      refine A_callV0 (pc := 36) kX8_112 (shp_S (SCk (by omega))) rfl (c_X3_holdPane (SCk k8)) dX8_show_36 rfl rfl (Nat.le_of_ble_eq_true rfl) (Nat.le_of_ble_eq_true rfl) ?_
      refine A_iload_n (pc := 39) dX8_show_39 rfl rfl ?_
      refine A_iconst (pc := 40) dX8_show_40 ?_
      refine A_icmp_ne (pc := 41) 48 dX8_show_41 (by decide) (by omega) (by omega) (by omega) (by omega) (fun h41 => ?_) (fun h41 => ?_)
      · skip
        refine A_iconst (pc := 48) dX8_show_48 ?_
        refine A_iret (pc := 49) rfl dX8_show_49 ?_
        exact RQX (by unfold qShow; rw [if_neg (by omega), if_neg (by omega)]; rfl) (hZ.shelf k8 (hd := p) (n := 0) (el := Z.2.1.2.2 k) ⟨by simp [uI_at], by simp [uI_at], ks.2.2⟩ ((Fr.rf.uI (Or.inl rfl)).uI (Or.inl rfl))) (((Fr.rf.uI (Or.inl rfl)).uI (Or.inl rfl) : Fr (SS (38 + 2 * k)) σ _).mono (SSX k8))
      · skip
        refine A_iconst (pc := 44) dX8_show_44 ?_
        refine A_goto (pc := 45) 49 dX8_show_45 (by decide) ?_
        refine A_iret (pc := 49) rfl dX8_show_49 ?_
        exact RQX (by unfold qShow; rw [if_neg (by omega), if_pos (by omega)]; rfl) (hZ.shelf k8 (hd := p) (n := 0) (el := Z.2.1.2.2 k) ⟨by simp [uI_at], by simp [uI_at], ks.2.2⟩ ((Fr.rf.uI (Or.inl rfl)).uI (Or.inl rfl))) (((Fr.rf.uI (Or.inl rfl)).uI (Or.inl rfl) : Fr (SS (38 + 2 * k)) σ _).mono (SSX k8))
    · skip
      refine A_aload_n (pc := 12) dX8_show_12 rfl rfl ?_
      refine A_getR (pc := 13) fX8_10 rfl rfl dX8_show_13 ?_
      refine A_iload_n (pc := 16) dX8_show_16 rfl rfl ?_
      refine A_callV1 (pc := 17) kX8_109 rfl rfl (c_X5_isPane TC14 hZ.1 hO.1 hp1 hp2) dX8_show_17 rfl rfl (Nat.le_of_ble_eq_true rfl) (Nat.le_of_ble_eq_true rfl) ?_
      refine A_ifb_ne (pc := 20) 29 dX8_show_20 (by decide) (fun h20 => ?_) (fun h20 => ?_)
      · skip
        obtain ⟨k, rfl⟩ := Int.eq_ofNat_of_zero_le (show 0 ≤ s by omega)
        have k8 : k < 8 := by omega
        have ks := hZ.2.1 k k8
        have ko := hO.2.1 k k8
        refine A_aload_n (pc := 29) dX8_show_29 rfl rfl ?_
        refine A_getR (pc := 30) fX8_25 rfl rfl dX8_show_30 ?_
        refine A_iload_n (pc := 33) dX8_show_33 rfl rfl ?_
        refine A_aald (pc := 34) _ rfl rfl (by omega) (Nat.le_of_ble_eq_true rfl) dX8_show_34 ?_
        refine A_iload_n (pc := 35) dX8_show_35 rfl rfl ?_
        refine A_callV0 (pc := 36) kX8_112 (shp_S (SCk (by omega))) rfl (c_X3_holdPane (SCk k8)) dX8_show_36 rfl rfl (Nat.le_of_ble_eq_true rfl) (Nat.le_of_ble_eq_true rfl) ?_
        refine A_iload_n (pc := 39) dX8_show_39 rfl rfl ?_
        refine A_iconst (pc := 40) dX8_show_40 ?_
        refine A_icmp_ne (pc := 41) 48 dX8_show_41 (by decide) (by omega) (by omega) (by omega) (by omega) (fun h41 => ?_) (fun h41 => ?_)
        · skip
          refine A_iconst (pc := 48) dX8_show_48 ?_
          refine A_iret (pc := 49) rfl dX8_show_49 ?_
          exact RQX (by unfold qShow; rw [if_neg (by omega), if_neg (by omega)]; rfl) (hZ.shelf k8 (hd := p) (n := 0) (el := Z.2.1.2.2 k) ⟨by simp [uI_at], by simp [uI_at], ks.2.2⟩ ((Fr.rf.uI (Or.inl rfl)).uI (Or.inl rfl))) (((Fr.rf.uI (Or.inl rfl)).uI (Or.inl rfl) : Fr (SS (38 + 2 * k)) σ _).mono (SSX k8))
        · skip
          refine A_iconst (pc := 44) dX8_show_44 ?_
          refine A_goto (pc := 45) 49 dX8_show_45 (by decide) ?_
          refine A_iret (pc := 49) rfl dX8_show_49 ?_
          exact RQX (by unfold qShow; rw [if_neg (by omega), if_pos (by omega)]; rfl) (hZ.shelf k8 (hd := p) (n := 0) (el := Z.2.1.2.2 k) ⟨by simp [uI_at], by simp [uI_at], ks.2.2⟩ ((Fr.rf.uI (Or.inl rfl)).uI (Or.inl rfl))) (((Fr.rf.uI (Or.inl rfl)).uI (Or.inl rfl) : Fr (SS (38 + 2 * k)) σ _).mono (SSX k8))
      · skip
        refine A_aload_n (pc := 23) dX8_show_23 rfl rfl ?_
        refine A_iconst (pc := 24) dX8_show_24 ?_
        refine A_callVe (pc := 25) kX8_76 rfl rfl (c_X8_refuse hZ hO (t := -1) (by omega) (by omega)) dX8_show_25 rfl rfl (Nat.le_of_ble_eq_true rfl) (Nat.le_of_ble_eq_true rfl) (fun υ hυ => ?_)
        refine A_iret (pc := 28) rfl dX8_show_28 ?_
        exact RQX (by unfold qShow; rw [if_pos (by omega)]; rfl) hυ.1 (hυ.2.mono XC2)
theorem dX8_holds_0 : decode cX8_holds 0 = .ok (.iload_n 1, 1) := by decide +kernel
theorem dX8_holds_1 : decode cX8_holds 1 = .ok (.invokestatic 72, 3) := by decide +kernel
theorem dX8_holds_4 : decode cX8_holds 4 = .ok (.ifCond .eq 15, 3) := by decide +kernel
theorem dX8_holds_7 : decode cX8_holds 7 = .ok (.aload_n 0, 1) := by decide +kernel
theorem dX8_holds_8 : decode cX8_holds 8 = .ok (.getfield 25, 3) := by decide +kernel
theorem dX8_holds_11 : decode cX8_holds 11 = .ok (.iload_n 1, 1) := by decide +kernel
theorem dX8_holds_12 : decode cX8_holds 12 = .ok (.aaload, 1) := by decide +kernel
theorem dX8_holds_13 : decode cX8_holds 13 = .ok (.getfield 116, 3) := by decide +kernel
theorem dX8_holds_16 : decode cX8_holds 16 = .ok (.goto 4, 3) := by decide +kernel
theorem dX8_holds_19 : decode cX8_holds 19 = .ok (.iconst (-1), 1) := by decide +kernel
theorem dX8_holds_20 : decode cX8_holds 20 = .ok (.ireturn, 1) := by decide +kernel
set_option maxRecDepth 20000 in
theorem c_X8_holds {G : Gl} {d : Nat} {σ : Sg} {Z : Zt} (hZ : RelX Z σ) (hO : OkZ Z) {s : Int} (hs1 : -2147483648 ≤ s) (hs2 : s < 2147483648) : CT G (d + 1) yX8_holds cX8_holds 2 (some .int) [.ref (gA G 0), .int (iI s)] σ (R1 (.int (iI (qHolds Z s))) σ) := by
  refine CT.of (by decide +kernel) (Nat.le_of_ble_eq_true rfl) ?_
  change AW G _ RX8 _ _ _ 0 [(0, .ref (gA G 0)), (1, .int (iI s))] [] _ _
  refine A_iload_n (pc := 0) dX8_holds_0 rfl rfl ?_
  refine A_callS1 (pc := 1) kX8_72 (c_X8_isShelf hs1 hs2) dX8_holds_1 rfl rfl (Nat.le_of_ble_eq_true rfl) (Nat.le_of_ble_eq_true rfl) ?_
  refine A_ifb_eq (pc := 4) 19 dX8_holds_4 (by decide) (fun h4 => ?_) (fun h4 => ?_)
  · skip
    refine A_iconst (pc := 19) dX8_holds_19 ?_
    refine A_iret (pc := 20) rfl dX8_holds_20 ?_
    exact R1_e (by unfold qHolds; rw [if_neg (by omega)])
  · skip
    obtain ⟨k, rfl⟩ := Int.eq_ofNat_of_zero_le (show 0 ≤ s by omega)
    have k8 : k < 8 := by omega
    have ks := hZ.2.1 k k8
    have ko := hO.2.1 k k8
    refine A_aload_n (pc := 7) dX8_holds_7 rfl rfl ?_
    refine A_getR (pc := 8) fX8_25 rfl rfl dX8_holds_8 ?_
    refine A_iload_n (pc := 11) dX8_holds_11 rfl rfl ?_
    refine A_aald (pc := 12) _ rfl rfl (by omega) (Nat.le_of_ble_eq_true rfl) dX8_holds_12 ?_
    refine A_getIv (pc := 13) fX8_116 (shp_S (SCk (by omega))) rfl ks.1 dX8_holds_13 ?_
    refine A_goto (pc := 16) 20 dX8_holds_16 (by decide) ?_
    refine A_iret (pc := 20) rfl dX8_holds_20 ?_
    exact R1_e (by unfold qHolds; simp only [Int.toNat_natCast]; rw [if_pos (by omega)])
end
section
/-! PART 16: the reference: what its town tells (the family pf_ is pasted from kit/laws) -/
/-! ===== lN to 2^62 under >> and >>> ===== -/
theorem pf_lI {a : Nat} (h : a < 2 ^ 63) : (lN a).toInt = (a : Int) := lg_ofNat_toInt h
theorem pf_shr {a d : Nat} {D : Int64} (hD : (D.toBitVec.smod 64).toNat = d) (h : a < 2 ^ 62) : lN a >>> D = lN (a / 2 ^ d) := by
  have hd : a / 2 ^ d ≤ a := Nat.div_le_self _ _
  apply Int64.toInt_inj.mp
  have e : (lN a >>> D).toInt = (lN a).toInt >>> d := by
    rw [← hD]
    exact BitVec.toInt_sshiftRight ..
  rw [e, Int.shiftRight_eq_div_pow, pf_lI (by omega), pf_lI (by omega)]
  rfl
theorem pf_ushr {a d : Nat} {D : UInt64} (hD : D.toNat % 64 = d) (h : a < 2 ^ 62) : ((lN a).toUInt64 >>> D).toInt64 = lN (a / 2 ^ d) := by
  have hd : a / 2 ^ d ≤ a := Nat.div_le_self _ _
  have e : (lN a).toUInt64 >>> D = UInt64.ofNat (a / 2 ^ d) := UInt64.toNat_inj.mp (by
    rw [UInt64.toNat_shiftRight, hD, Nat.shiftRight_eq_div_pow, UInt64.toNat_ofNat']
    show (UInt64.ofNat a).toNat / 2 ^ d = _
    rw [UInt64.toNat_ofNat', Nat.mod_eq_of_lt (by omega), Nat.mod_eq_of_lt (by omega)])
  rw [e]
  rfl
theorem pf_andw (x : Int64) : ∃ m, m < 2 ^ 32 ∧ x &&& 4294967295 = lN m := ⟨x.toBitVec.toNat % 2 ^ 32, Nat.mod_lt _ (by decide), Int64.toBitVec_inj.mp (BitVec.eq_of_toNat_eq (by
  show (x.toBitVec &&& 4294967295#64).toNat = (BitVec.ofNat 64 (x.toBitVec.toNat % 2 ^ 32)).toNat
  rw [BitVec.toNat_and, show (4294967295#64).toNat = 2 ^ 32 - 1 from by decide, Nat.and_two_pow_sub_one_eq_mod, BitVec.toNat_ofNat]
  omega))⟩
theorem shrS_L {h k : Nat} (hh : h < 2 ^ 49) (hk : k < 64) : lN h >>> ((iI (k : Int)).toInt64 &&& 63) = lN (h / 2 ^ k) := by
  rw [iI_n, wb_c k hk]
  refine pf_shr ?_ (Nat.lt_trans hh (by decide))
  rw [wb_tb, wb_sm k hk]
  rw [BitVec.toNat_ofNat]
  omega
theorem lcm_bit1 {h k : Nat} (hh : h < 2 ^ 49) : lcm (lN (h / 2 ^ k) &&& 1) 1 = bI (h.testBit k = true) - 1 := by
  rw [wb_a1 (Nat.lt_of_le_of_lt (Nat.div_le_self _ _) (lt64 hh)), tb_dec]
  rcases Nat.mod_two_eq_zero_or_one (h / 2 ^ k) with e | e
  · rw [e]; decide
  · rw [e]; decide
theorem bI_m1 {P : Prop} [Decidable P] (h : bI P - 1 = 0) : P := by
  by_cases q : P
  · exact q
  · rw [bI_f q] at h; omega
theorem bI_m1n {P : Prop} [Decidable P] (h : bI P - 1 ≠ 0) : ¬ P := fun q => h (by rw [bI_t q]; rfl)
theorem bI_rng (P : Prop) [Decidable P] : 0 ≤ bI P ∧ bI P ≤ 1 := by
  rcases bI_or P with ⟨-, h⟩ | ⟨-, h⟩ <;> omega
/-- the reference's square beside; below 0 the edge -/
def nx (c w : Int) : Int := if w = 0 then c - 7 else if w = 1 then (if c % 7 = 0 then -1 else c - 1) else if w = 2 then (if c % 7 = 6 then -1 else c + 1) else if c + 7 < 49 then c + 7 else -1
def nm (c : Int) : Int := if c < 0 then -1 else c
theorem nm_nx {c w : Int} (h1 : 0 ≤ c) (h2 : c ≤ 48) (w1 : 0 ≤ w) (w2 : w ≤ 3) : nm (nx c w) = bes c w := by
  unfold nm nx bes
  (repeat' split) <;> omega
theorem nx_rng {c w : Int} (h1 : 0 ≤ c) (h2 : c ≤ 48) : -7 ≤ nx c w ∧ nx c w ≤ 48 := by
  unfold nx
  (repeat' split) <;> omega
theorem nm_pos {c : Int} (h : 0 ≤ c) : nm c = c := if_neg (by omega)
theorem nm_neg {c : Int} (h : c < 0) : nm c = -1 := if_pos h
theorem sT_nm (h : Nat) (c : Int) : sT h (nm c) ↔ sT h c := by
  unfold nm
  by_cases q : c < 0
  · rw [if_pos q]
    constructor
    · intro z; omega
    · intro z; omega
  · rw [if_neg q]
theorem inS_nm (c : Int) : inS (nm c) ↔ inS c := by
  unfold nm
  by_cases q : c < 0
  · rw [if_pos q]; omega
  · rw [if_neg q]
theorem sT_k {h k : Nat} (hk : k < 49) : sT h (k : Int) ↔ h.testBit k = true := ⟨fun q => q.2.2, fun q => ⟨by omega, by omega, q⟩⟩
/-- the reference's line -/
def lineM (h : Nat) (w : Int) (bay : Bool) : Nat → Int → Int → Nat
  | 0, _, _ => 0
  | n + 1, i, a => if a < 0 ∨ sT h a then 0 else (2 ^ a.toNat ||| (if bay = true ∧ i < 2 then opB h (bes a (if w = 1 ∨ w = 2 then 0 else 1)) ||| opB h (bes a (if w = 1 ∨ w = 2 then 3 else 2)) else 0)) ||| lineM h w bay n (i + 1) (bes a w)
theorem lineM_lt (h : Nat) (w : Int) (b : Bool) : ∀ (n : Nat) (i a : Int), a < 49 → lineM h w b n i a < 2 ^ 49
  | 0, _, _, _ => by unfold lineM; decide
  | n + 1, i, a, ha => by
    unfold lineM
    by_cases c : a < 0 ∨ sT h a
    · rw [if_pos c]; decide
    · rw [if_neg c]
      refine or49 (or49 (pow_lt49 (by omega) ha) ?_) (lineM_lt h w b n _ _ (by have := bes_rng a w; omega))
      by_cases q : b = true ∧ i < 2
      · rw [if_pos q]; exact or49 (opB_lt _ _) (opB_lt _ _)
      · rw [if_neg q]; decide
theorem lineM_plain (h : Nat) (w : Int) (b : Bool) : ∀ (n : Nat) (i a : Int), (b = false ∨ 2 ≤ i) → lineM h w b n i a = lineG h w n a
  | 0, _, _, _ => rfl
  | n + 1, i, a, hb => by
    unfold lineM lineG
    by_cases c : a < 0 ∨ sT h a
    · rw [if_pos c, if_pos c]
    · rw [if_neg c, if_neg c, if_neg (by rcases hb with rfl | hb <;> simp_all <;> omega), Nat.or_zero, lineM_plain h w b n _ _ (by rcases hb with hb | hb; exact Or.inl hb; exact Or.inr (by omega))]
/-- what a bay sees beside -/
def bayB (h : Nat) (w : Int) (b : Bool) (i a : Int) : Nat := if b = true ∧ i < 2 then opB h (bes a (if w = 1 ∨ w = 2 then 0 else 1)) ||| opB h (bes a (if w = 1 ∨ w = 2 then 3 else 2)) else 0
theorem bayB_lt (h : Nat) (w : Int) (b : Bool) (i a : Int) : bayB h w b i a < 2 ^ 49 := by
  unfold bayB
  by_cases q : b = true ∧ i < 2
  · rw [if_pos q]; exact or49 (opB_lt _ _) (opB_lt _ _)
  · rw [if_neg q]; decide
theorem lineM_s {h : Nat} {w : Int} {b : Bool} {n : Nat} {i a : Int} (ha : ¬ (a < 0 ∨ sT h a)) : lineM h w b (n + 1) i a = (2 ^ a.toNat ||| bayB h w b i a) ||| lineM h w b n (i + 1) (bes a w) := by rw [lineM, if_neg ha]; rfl
theorem acr_eq {h : Nat} {c w : Int} (w1 : 0 ≤ w) (w2 : w ≤ 3) : acr h c w = opB h (bes c (if w = 1 ∨ w = 2 then 0 else 1)) ||| opB h (bes c (if w = 1 ∨ w = 2 then 3 else 2)) := by
  have hw : w = 0 ∨ w = 1 ∨ w = 2 ∨ w = 3 := by omega
  unfold acr
  rcases hw with rfl | rfl | rfl | rfl <;> simp [acrG]
theorem bayB_acr {h : Nat} {w i a : Int} (w1 : 0 ≤ w) (w2 : w ≤ 3) (hi : i < 2) : bayB h w true i a = acr h a w := by rw [bayB, if_pos ⟨rfl, hi⟩, acr_eq w1 w2]
theorem bes_ne {a w : Int} (h : 0 ≤ a) : bes a w ≠ a := by
  unfold bes
  (repeat' split) <;> omega
theorem sT_pow {a b : Int} (ha : 0 ≤ a) (hb : a < 49) : sT (2 ^ a.toNat) b ↔ b = a := by
  constructor
  · rintro ⟨h1, h2, h3⟩
    rw [Nat.testBit_two_pow] at h3
    have := of_decide_eq_true h3
    omega
  · rintro rfl
    exact ⟨ha, hb, by rw [Nat.testBit_two_pow_self]⟩
theorem lineM_wide {h : Nat} {f w r : Int} (w1 : 0 ≤ w) (w2 : w ≤ 3) : lineM h w true r.toNat 0 (bes f w) = wideX h f w r := by
  have hb1 := bes_rng f w
  have key : ∀ (n : Nat) (a : Int), -1 ≤ a → a ≤ 48 → lineM h w true n 0 a = lineG h w n a ||| ((if sT (lineG h w n a) a then acr h a w else 0) ||| ((if sT (lineG h w n a) (bes a w) then acr h (bes a w) w else 0) ||| 0)) := by
    intro n a a1 a2
    have z0 : ∀ b, ¬ sT 0 b := fun b q => by have z := q.2.2; rw [Nat.zero_testBit] at z; exact absurd z (by decide)
    cases n with
    | zero =>
      have e : lineG h w 0 a = 0 := rfl
      rw [e, if_neg (z0 _), if_neg (z0 _)]; rfl
    | succ n =>
      by_cases c : a < 0 ∨ sT h a
      · rw [lineM, lineG, if_pos c, if_pos c, if_neg (z0 _), if_neg (z0 _)]; rfl
      · have a0 : 0 ≤ a := by omega
        have hb := bes_rng a w
        have hne : bes a w ≠ a := bes_ne a0
        have s1 : sT (lineG h w (n + 1) a) a := by
          rw [lineG, if_neg c]
          exact ⟨a0, by omega, by rw [Nat.testBit_or, Nat.testBit_two_pow_self]; rfl⟩
        rw [if_pos s1]
        cases n with
        | zero =>
          have s2 : ¬ sT (lineG h w 1 a) (bes a w) := by
            rw [lineG, if_neg c, lineG, Nat.or_zero, sT_pow a0 (by omega)]; exact hne
          rw [if_neg s2, lineM_s c, bayB_acr w1 w2 (by decide), lineG, if_neg c]
          simp only [lineM, lineG, Nat.or_zero]
        | succ k =>
          by_cases c2 : bes a w < 0 ∨ sT h (bes a w)
          · have e : lineG h w (k + 1 + 1) a = 2 ^ a.toNat := by rw [lineG, if_neg c, lineG, if_pos c2, Nat.or_zero]
            have s2 : ¬ sT (lineG h w (k + 1 + 1) a) (bes a w) := by rw [e, sT_pow a0 (by omega)]; exact hne
            rw [if_neg s2, e, lineM_s c, lineM, if_pos c2, bayB_acr w1 w2 (by decide)]
            simp only [Nat.or_zero]
          · have b0 : 0 ≤ bes a w := by omega
            have e : lineG h w (k + 1 + 1) a = 2 ^ a.toNat ||| (2 ^ (bes a w).toNat ||| lineG h w k (bes (bes a w) w)) := by rw [lineG, if_neg c, lineG, if_neg c2]
            have s2 : sT (lineG h w (k + 1 + 1) a) (bes a w) := by
              rw [e]
              exact ⟨b0, by omega, by rw [Nat.testBit_or, Nat.testBit_or, Nat.testBit_two_pow_self]; simp⟩
            rw [if_pos s2, e, lineM_s c, lineM_s c2, bayB_acr w1 w2 (by decide), bayB_acr w1 w2 (by decide), lineM_plain h w true k _ _ (Or.inr (by decide)), Nat.or_zero]
            apply Nat.eq_of_testBit_eq
            intro i
            simp only [Nat.testBit_or]
            simp only [Bool.or_assoc, Bool.or_comm, Bool.or_left_comm]
  exact key r.toNat (bes f w) hb1.1 hb1.2
theorem dX9_isSquare_0 : decode cX9_isSquare 0 = .ok (.iload_n 0, 1) := by decide +kernel
theorem dX9_isSquare_1 : decode cX9_isSquare 1 = .ok (.iconst 0, 1) := by decide +kernel
theorem dX9_isSquare_2 : decode cX9_isSquare 2 = .ok (.bipush 48, 2) := by decide +kernel
theorem dX9_isSquare_4 : decode cX9_isSquare 4 = .ok (.invokestatic 86, 3) := by decide +kernel
theorem dX9_isSquare_7 : decode cX9_isSquare 7 = .ok (.ireturn, 1) := by decide +kernel
set_option maxRecDepth 20000 in
theorem c_X9_isSquare {G : Gl} {d : Nat} {σ : Sg} {s : Int} (hs1 : -2147483648 ≤ s) (hs2 : s < 2147483648) : CT G (d + 1) yX9_isSquare cX9_isSquare 1 (some .boolean) [.int (iI s)] σ (R1 (.int (iI (bI (0 ≤ s ∧ s < 49)))) σ) := by
  refine CT.of (by decide +kernel) (Nat.le_of_ble_eq_true rfl) ?_
  change AW G _ RX9 _ _ _ 0 [(0, .int (iI s))] [] _ _
  refine A_iload_n (pc := 0) dX9_isSquare_0 rfl rfl ?_
  refine A_iconst (pc := 1) dX9_isSquare_1 ?_
  refine A_bipush (pc := 2) dX9_isSquare_2 (by decide) ?_
  refine A_callS1 (pc := 4) kX9_86 (c_X9_within (v := s) (a := 0) (b := 48) hs1 hs2 (by omega) (by omega) (by omega) (by omega)) dX9_isSquare_4 rfl rfl (Nat.le_of_ble_eq_true rfl) (Nat.le_of_ble_eq_true rfl) ?_
  refine A_zret (pc := 7) rfl nar_b dX9_isSquare_7 ?_
  exact R1_e (bI_congr (by omega))
theorem dX9_isWay_0 : decode cX9_isWay 0 = .ok (.iload_n 0, 1) := by decide +kernel
theorem dX9_isWay_1 : decode cX9_isWay 1 = .ok (.iconst 0, 1) := by decide +kernel
theorem dX9_isWay_2 : decode cX9_isWay 2 = .ok (.iconst 3, 1) := by decide +kernel
theorem dX9_isWay_3 : decode cX9_isWay 3 = .ok (.invokestatic 86, 3) := by decide +kernel
theorem dX9_isWay_6 : decode cX9_isWay 6 = .ok (.ireturn, 1) := by decide +kernel
set_option maxRecDepth 20000 in
theorem c_X9_isWay {G : Gl} {d : Nat} {σ : Sg} {s : Int} (hs1 : -2147483648 ≤ s) (hs2 : s < 2147483648) : CT G (d + 1) yX9_isWay cX9_isWay 1 (some .boolean) [.int (iI s)] σ (R1 (.int (iI (bI (0 ≤ s ∧ s < 4)))) σ) := by
  refine CT.of (by decide +kernel) (Nat.le_of_ble_eq_true rfl) ?_
  change AW G _ RX9 _ _ _ 0 [(0, .int (iI s))] [] _ _
  refine A_iload_n (pc := 0) dX9_isWay_0 rfl rfl ?_
  refine A_iconst (pc := 1) dX9_isWay_1 ?_
  refine A_iconst (pc := 2) dX9_isWay_2 ?_
  refine A_callS1 (pc := 3) kX9_86 (c_X9_within (v := s) (a := 0) (b := 3) hs1 hs2 (by omega) (by omega) (by omega) (by omega)) dX9_isWay_3 rfl rfl (Nat.le_of_ble_eq_true rfl) (Nat.le_of_ble_eq_true rfl) ?_
  refine A_zret (pc := 6) rfl nar_b dX9_isWay_6 ?_
  exact R1_e (bI_congr (by omega))
theorem dX9_isPane_0 : decode cX9_isPane 0 = .ok (.iload_n 1, 1) := by decide +kernel
theorem dX9_isPane_1 : decode cX9_isPane 1 = .ok (.iconst 0, 1) := by decide +kernel
theorem dX9_isPane_2 : decode cX9_isPane 2 = .ok (.aload_n 0, 1) := by decide +kernel
theorem dX9_isPane_3 : decode cX9_isPane 3 = .ok (.getfield 83, 3) := by decide +kernel
theorem dX9_isPane_6 : decode cX9_isPane 6 = .ok (.iconst 1, 1) := by decide +kernel
theorem dX9_isPane_7 : decode cX9_isPane 7 = .ok (.isub, 1) := by decide +kernel
theorem dX9_isPane_8 : decode cX9_isPane 8 = .ok (.invokestatic 86, 3) := by decide +kernel
theorem dX9_isPane_11 : decode cX9_isPane 11 = .ok (.ireturn, 1) := by decide +kernel
set_option maxRecDepth 20000 in
theorem c_X9_isPane {G : Gl} {d : Nat} {σ : Sg} {τ : Tw} (hM : RMt τ σ) (hO : OkT τ) {p : Int} (hp1 : -2147483648 ≤ p) (hp2 : p < 2147483648) : CT G (d + 1) yX9_isPane cX9_isPane 2 (some .boolean) [.ref (gA G 54), .int (iI p)] σ (R1 (.int (iI (bI (0 ≤ p ∧ p < τ.2.1 0)))) σ) := by
  refine CT.of (by decide +kernel) (Nat.le_of_ble_eq_true rfl) ?_
  change AW G _ RX9 _ _ _ 0 [(0, .ref (gA G 54)), (1, .int (iI p))] [] _ _
  have hO2 := hO
  obtain ⟨o1, o2, o3, o4, o5, o6, o7, o8, o9⟩ := hO2
  have p0 := hM.2.1
  have p1 := hM.2.2.1
  have p2 : σ.1 63 0 = τ.2.1 2 := hM.2.2.2.1 0 (by decide)
  refine A_iload_n (pc := 0) dX9_isPane_0 rfl rfl ?_
  refine A_iconst (pc := 1) dX9_isPane_1 ?_
  refine A_aload_n (pc := 2) dX9_isPane_2 rfl rfl ?_
  refine A_getIv (pc := 3) fX9_83 rfl rfl p0 dX9_isPane_3 ?_
  refine A_iconst (pc := 6) dX9_isPane_6 ?_
  refine A_isub (pc := 7) dX9_isPane_7 ?_
  refine A_callS1 (pc := 8) kX9_86 (c_X9_within hp1 hp2 (by omega) (by omega) (by omega) (by omega)) dX9_isPane_8 rfl rfl (Nat.le_of_ble_eq_true rfl) (Nat.le_of_ble_eq_true rfl) ?_
  refine A_zret (pc := 11) rfl nar_b dX9_isPane_11 ?_
  exact R1_e (bI_congr (by omega))
theorem dX9_isWalker_0 : decode cX9_isWalker 0 = .ok (.iload_n 1, 1) := by decide +kernel
theorem dX9_isWalker_1 : decode cX9_isWalker 1 = .ok (.iconst 0, 1) := by decide +kernel
theorem dX9_isWalker_2 : decode cX9_isWalker 2 = .ok (.aload_n 0, 1) := by decide +kernel
theorem dX9_isWalker_3 : decode cX9_isWalker 3 = .ok (.getfield 90, 3) := by decide +kernel
theorem dX9_isWalker_6 : decode cX9_isWalker 6 = .ok (.iconst 1, 1) := by decide +kernel
theorem dX9_isWalker_7 : decode cX9_isWalker 7 = .ok (.isub, 1) := by decide +kernel
theorem dX9_isWalker_8 : decode cX9_isWalker 8 = .ok (.invokestatic 86, 3) := by decide +kernel
theorem dX9_isWalker_11 : decode cX9_isWalker 11 = .ok (.ireturn, 1) := by decide +kernel
set_option maxRecDepth 20000 in
theorem c_X9_isWalker {G : Gl} {d : Nat} {σ : Sg} {τ : Tw} (hM : RMt τ σ) (hO : OkT τ) {p : Int} (hp1 : -2147483648 ≤ p) (hp2 : p < 2147483648) : CT G (d + 1) yX9_isWalker cX9_isWalker 2 (some .boolean) [.ref (gA G 54), .int (iI p)] σ (R1 (.int (iI (bI (0 ≤ p ∧ p < τ.2.1 1)))) σ) := by
  refine CT.of (by decide +kernel) (Nat.le_of_ble_eq_true rfl) ?_
  change AW G _ RX9 _ _ _ 0 [(0, .ref (gA G 54)), (1, .int (iI p))] [] _ _
  have hO2 := hO
  obtain ⟨o1, o2, o3, o4, o5, o6, o7, o8, o9⟩ := hO2
  have p0 := hM.2.1
  have p1 := hM.2.2.1
  have p2 : σ.1 63 0 = τ.2.1 2 := hM.2.2.2.1 0 (by decide)
  refine A_iload_n (pc := 0) dX9_isWalker_0 rfl rfl ?_
  refine A_iconst (pc := 1) dX9_isWalker_1 ?_
  refine A_aload_n (pc := 2) dX9_isWalker_2 rfl rfl ?_
  refine A_getIv (pc := 3) fX9_90 rfl rfl p1 dX9_isWalker_3 ?_
  refine A_iconst (pc := 6) dX9_isWalker_6 ?_
  refine A_isub (pc := 7) dX9_isWalker_7 ?_
  refine A_callS1 (pc := 8) kX9_86 (c_X9_within hp1 hp2 (by omega) (by omega) (by omega) (by omega)) dX9_isWalker_8 rfl rfl (Nat.le_of_ble_eq_true rfl) (Nat.le_of_ble_eq_true rfl) ?_
  refine A_zret (pc := 11) rfl nar_b dX9_isWalker_11 ?_
  exact R1_e (bI_congr (by omega))
theorem dX9_isOpen_0 : decode cX9_isOpen 0 = .ok (.iload_n 1, 1) := by decide +kernel
theorem dX9_isOpen_1 : decode cX9_isOpen 1 = .ok (.invokestatic 93, 3) := by decide +kernel
theorem dX9_isOpen_4 : decode cX9_isOpen 4 = .ok (.ifCond .eq 16, 3) := by decide +kernel
theorem dX9_isOpen_7 : decode cX9_isOpen 7 = .ok (.aload_n 0, 1) := by decide +kernel
theorem dX9_isOpen_8 : decode cX9_isOpen 8 = .ok (.getfield 31, 3) := by decide +kernel
theorem dX9_isOpen_11 : decode cX9_isOpen 11 = .ok (.iload_n 1, 1) := by decide +kernel
theorem dX9_isOpen_12 : decode cX9_isOpen 12 = .ok (.baload, 1) := by decide +kernel
theorem dX9_isOpen_13 : decode cX9_isOpen 13 = .ok (.ifCond .ne 7, 3) := by decide +kernel
theorem dX9_isOpen_16 : decode cX9_isOpen 16 = .ok (.iconst 1, 1) := by decide +kernel
theorem dX9_isOpen_17 : decode cX9_isOpen 17 = .ok (.goto 4, 3) := by decide +kernel
theorem dX9_isOpen_20 : decode cX9_isOpen 20 = .ok (.iconst 0, 1) := by decide +kernel
theorem dX9_isOpen_21 : decode cX9_isOpen 21 = .ok (.ireturn, 1) := by decide +kernel
set_option maxRecDepth 20000 in
theorem c_X9_isOpen {G : Gl} {d : Nat} {σ : Sg} {τ : Tw} (hM : RMt τ σ) (hO : OkT τ) {s : Int} (hs1 : -2147483648 ≤ s) (hs2 : s < 2147483648) : CT G (d + 2) yX9_isOpen cX9_isOpen 2 (some .boolean) [.ref (gA G 54), .int (iI s)] σ (R1 (.int (iI (bI (inS s ∧ ¬ sT τ.1 s)))) σ) := by
  refine CT.of (by decide +kernel) (Nat.le_of_ble_eq_true rfl) ?_
  change AW G _ RX9 _ _ _ 0 [(0, .ref (gA G 54)), (1, .int (iI s))] [] _ _
  have hO2 := hO
  obtain ⟨o1, o2, o3, o4, o5, o6, o7, o8, o9⟩ := hO2
  have p0 := hM.2.1
  have p1 := hM.2.2.1
  have p2 : σ.1 63 0 = τ.2.1 2 := hM.2.2.2.1 0 (by decide)
  refine A_iload_n (pc := 0) dX9_isOpen_0 rfl rfl ?_
  refine A_callS1 (pc := 1) kX9_93 (c_X9_isSquare hs1 hs2) dX9_isOpen_1 rfl rfl (Nat.le_of_ble_eq_true rfl) (Nat.le_of_ble_eq_true rfl) ?_
  refine A_ifb_eq (pc := 4) 20 dX9_isOpen_4 (by decide) (fun h4 => ?_) (fun h4 => ?_)
  · skip
    refine A_iconst (pc := 20) dX9_isOpen_20 ?_
    refine A_zret (pc := 21) rfl rfl dX9_isOpen_21 ?_
    exact R1_f (fun q => h4 q.1)
  · skip
    obtain ⟨k, rfl⟩ := Int.eq_ofNat_of_zero_le (show 0 ≤ s by omega)
    refine A_aload_n (pc := 7) dX9_isOpen_7 rfl rfl ?_
    refine A_getR (pc := 8) fX9_31 rfl rfl dX9_isOpen_8 ?_
    refine A_iload_n (pc := 11) dX9_isOpen_11 rfl rfl ?_
    refine A_zaldv (pc := 12) _ rfl rfl (by omega) (Nat.le_of_ble_eq_true rfl) (hM.1 _ (by omega)) dX9_isOpen_12 ?_
    refine A_ifb_ne (pc := 13) 20 dX9_isOpen_13 (by decide) (fun h13 => ?_) (fun h13 => ?_)
    · skip
      refine A_iconst (pc := 20) dX9_isOpen_20 ?_
      refine A_zret (pc := 21) rfl rfl dX9_isOpen_21 ?_
      exact R1_f (fun q => q.2 ((sT_k (by omega)).mpr h13))
    · skip
      refine A_iconst (pc := 16) dX9_isOpen_16 ?_
      refine A_goto (pc := 17) 21 dX9_isOpen_17 (by decide) ?_
      refine A_zret (pc := 21) rfl rfl dX9_isOpen_21 ?_
      exact R1_t ⟨by omega, fun q => h13 ((sT_k (by omega)).mp q)⟩
theorem dX9_isHouse_0 : decode cX9_isHouse 0 = .ok (.iload_n 1, 1) := by decide +kernel
theorem dX9_isHouse_1 : decode cX9_isHouse 1 = .ok (.invokestatic 93, 3) := by decide +kernel
theorem dX9_isHouse_4 : decode cX9_isHouse 4 = .ok (.ifCond .eq 16, 3) := by decide +kernel
theorem dX9_isHouse_7 : decode cX9_isHouse 7 = .ok (.aload_n 0, 1) := by decide +kernel
theorem dX9_isHouse_8 : decode cX9_isHouse 8 = .ok (.getfield 31, 3) := by decide +kernel
theorem dX9_isHouse_11 : decode cX9_isHouse 11 = .ok (.iload_n 1, 1) := by decide +kernel
theorem dX9_isHouse_12 : decode cX9_isHouse 12 = .ok (.baload, 1) := by decide +kernel
theorem dX9_isHouse_13 : decode cX9_isHouse 13 = .ok (.ifCond .eq 7, 3) := by decide +kernel
theorem dX9_isHouse_16 : decode cX9_isHouse 16 = .ok (.iconst 1, 1) := by decide +kernel
theorem dX9_isHouse_17 : decode cX9_isHouse 17 = .ok (.goto 4, 3) := by decide +kernel
theorem dX9_isHouse_20 : decode cX9_isHouse 20 = .ok (.iconst 0, 1) := by decide +kernel
theorem dX9_isHouse_21 : decode cX9_isHouse 21 = .ok (.ireturn, 1) := by decide +kernel
set_option maxRecDepth 20000 in
theorem c_X9_isHouse {G : Gl} {d : Nat} {σ : Sg} {τ : Tw} (hM : RMt τ σ) (hO : OkT τ) {s : Int} (hs1 : -2147483648 ≤ s) (hs2 : s < 2147483648) : CT G (d + 2) yX9_isHouse cX9_isHouse 2 (some .boolean) [.ref (gA G 54), .int (iI s)] σ (R1 (.int (iI (bI (sT τ.1 s)))) σ) := by
  refine CT.of (by decide +kernel) (Nat.le_of_ble_eq_true rfl) ?_
  change AW G _ RX9 _ _ _ 0 [(0, .ref (gA G 54)), (1, .int (iI s))] [] _ _
  have hO2 := hO
  obtain ⟨o1, o2, o3, o4, o5, o6, o7, o8, o9⟩ := hO2
  have p0 := hM.2.1
  have p1 := hM.2.2.1
  have p2 : σ.1 63 0 = τ.2.1 2 := hM.2.2.2.1 0 (by decide)
  refine A_iload_n (pc := 0) dX9_isHouse_0 rfl rfl ?_
  refine A_callS1 (pc := 1) kX9_93 (c_X9_isSquare hs1 hs2) dX9_isHouse_1 rfl rfl (Nat.le_of_ble_eq_true rfl) (Nat.le_of_ble_eq_true rfl) ?_
  refine A_ifb_eq (pc := 4) 20 dX9_isHouse_4 (by decide) (fun h4 => ?_) (fun h4 => ?_)
  · skip
    refine A_iconst (pc := 20) dX9_isHouse_20 ?_
    refine A_zret (pc := 21) rfl rfl dX9_isHouse_21 ?_
    exact R1_f (fun q => h4 ⟨q.1, q.2.1⟩)
  · skip
    obtain ⟨k, rfl⟩ := Int.eq_ofNat_of_zero_le (show 0 ≤ s by omega)
    refine A_aload_n (pc := 7) dX9_isHouse_7 rfl rfl ?_
    refine A_getR (pc := 8) fX9_31 rfl rfl dX9_isHouse_8 ?_
    refine A_iload_n (pc := 11) dX9_isHouse_11 rfl rfl ?_
    refine A_zaldv (pc := 12) _ rfl rfl (by omega) (Nat.le_of_ble_eq_true rfl) (hM.1 _ (by omega)) dX9_isHouse_12 ?_
    refine A_ifb_eq (pc := 13) 20 dX9_isHouse_13 (by decide) (fun h13 => ?_) (fun h13 => ?_)
    · skip
      refine A_iconst (pc := 20) dX9_isHouse_20 ?_
      refine A_zret (pc := 21) rfl rfl dX9_isHouse_21 ?_
      exact R1_f (fun q => h13 ((sT_k (by omega)).mp q))
    · skip
      refine A_iconst (pc := 16) dX9_isHouse_16 ?_
      refine A_goto (pc := 17) 21 dX9_isHouse_17 (by decide) ?_
      refine A_zret (pc := 21) rfl rfl dX9_isHouse_21 ?_
      exact R1_t ((sT_k (by omega)).mpr h13)
theorem dX9_isStood_0 : decode cX9_isStood 0 = .ok (.iconst 0, 1) := by decide +kernel
theorem dX9_isStood_1 : decode cX9_isStood 1 = .ok (.istore_n 2, 1) := by decide +kernel
theorem dX9_isStood_2 : decode cX9_isStood 2 = .ok (.iload_n 2, 1) := by decide +kernel
theorem dX9_isStood_3 : decode cX9_isStood 3 = .ok (.aload_n 0, 1) := by decide +kernel
theorem dX9_isStood_4 : decode cX9_isStood 4 = .ok (.getfield 90, 3) := by decide +kernel
theorem dX9_isStood_7 : decode cX9_isStood 7 = .ok (.if_icmp .ge 21, 3) := by decide +kernel
theorem dX9_isStood_10 : decode cX9_isStood 10 = .ok (.aload_n 0, 1) := by decide +kernel
theorem dX9_isStood_11 : decode cX9_isStood 11 = .ok (.getfield 22, 3) := by decide +kernel
theorem dX9_isStood_14 : decode cX9_isStood 14 = .ok (.iload_n 2, 1) := by decide +kernel
theorem dX9_isStood_15 : decode cX9_isStood 15 = .ok (.iaload, 1) := by decide +kernel
theorem dX9_isStood_16 : decode cX9_isStood 16 = .ok (.iload_n 1, 1) := by decide +kernel
theorem dX9_isStood_17 : decode cX9_isStood 17 = .ok (.if_icmp .ne 5, 3) := by decide +kernel
theorem dX9_isStood_20 : decode cX9_isStood 20 = .ok (.iconst 1, 1) := by decide +kernel
theorem dX9_isStood_21 : decode cX9_isStood 21 = .ok (.ireturn, 1) := by decide +kernel
theorem dX9_isStood_22 : decode cX9_isStood 22 = .ok (.iinc 2 1, 3) := by decide +kernel
theorem dX9_isStood_25 : decode cX9_isStood 25 = .ok (.goto (-23), 3) := by decide +kernel
theorem dX9_isStood_28 : decode cX9_isStood 28 = .ok (.iconst 0, 1) := by decide +kernel
theorem dX9_isStood_29 : decode cX9_isStood 29 = .ok (.ireturn, 1) := by decide +kernel
set_option maxRecDepth 20000 in
theorem l_X9_isStood {G : Gl} {d : Nat} {σ : Sg} {K : Option Value → Sg → Prop} {τ : Tw} (hM : RMt τ σ) (hO : OkT τ) {s : Int} (hs1 : -2147483648 ≤ s) (hs2 : s < 2147483648) : ∀ (n i : Nat), (i : Int) + n = τ.2.1 1 → K (some (.int (iI (bI (anyR (fun p => decide (τ.2.2 4 p = s)) n i = true))))) σ → AW G d RX9 cX9_isStood 3 (some .boolean) 2 [(0, .ref (gA G 54)), (1, .int (iI s)), (2, .int (iI (i : Int)))] [] σ K := by
  intro n
  induction n using Nat.strongRecOn
  rename_i n ih
  intro i hn hK
  have hO2 := hO
  obtain ⟨o1, o2, o3, o4, o5, o6, o7, o8, o9⟩ := hO2
  have p0 := hM.2.1
  have p1 := hM.2.2.1
  have p2 : σ.1 63 0 = τ.2.1 2 := hM.2.2.2.1 0 (by decide)
  refine A_iload_n (pc := 2) dX9_isStood_2 rfl rfl ?_
  refine A_aload_n (pc := 3) dX9_isStood_3 rfl rfl ?_
  refine A_getIv (pc := 4) fX9_90 rfl rfl p1 dX9_isStood_4 ?_
  refine A_icmp_ge (pc := 7) 28 dX9_isStood_7 (by decide) (by omega) (by omega) (by omega) (by omega) (fun h7 => ?_) (fun h7 => ?_)
  · skip
    refine A_iconst (pc := 28) dX9_isStood_28 ?_
    refine A_zret (pc := 29) rfl rfl dX9_isStood_29 ?_
    have hn0 : n = 0 := by omega
    subst hn0
    rw [anyR, bI_f (by decide)] at hK
    exact hK
  · skip
    refine A_aload_n (pc := 10) dX9_isStood_10 rfl rfl ?_
    refine A_getR (pc := 11) fX9_22 rfl rfl dX9_isStood_11 ?_
    refine A_iload_n (pc := 14) dX9_isStood_14 rfl rfl ?_
    refine A_ialdv (pc := 15) _ rfl rfl (by omega) (Nat.le_of_ble_eq_true rfl) (hM.wat (by omega)) dX9_isStood_15 ?_
    refine A_iload_n (pc := 16) dX9_isStood_16 rfl rfl ?_
    refine A_icmp_ne (pc := 17) 22 dX9_isStood_17 (by decide) (by have := o9 i (by omega); omega) (by have := o9 i (by omega); omega) hs1 hs2 (fun h17 => ?_) (fun h17 => ?_)
    · skip
      refine A_iinc (pc := 22) dX9_isStood_22 rfl (Nat.le_of_ble_eq_true rfl) ?_
      refine A_goto (pc := 25) 2 dX9_isStood_25 (by decide) ?_
      obtain ⟨m, rfl⟩ : ∃ m, n = m + 1 := ⟨n - 1, by omega⟩
      refine A_loc (l2 := [(0, _), (1, _), (2, _)]) ⟨rfl, rfl, rfl, trivial⟩ ?_
      refine ih m (by omega) (i + 1) (by omega) ?_
      rw [anyR, decide_eq_false h17, Bool.false_or] at hK
      exact hK
    · skip
      refine A_iconst (pc := 20) dX9_isStood_20 ?_
      refine A_zret (pc := 21) rfl rfl dX9_isStood_21 ?_
      obtain ⟨m, rfl⟩ : ∃ m, n = m + 1 := ⟨n - 1, by omega⟩
      rw [anyR, decide_eq_true h17, Bool.true_or, bI_t rfl] at hK
      exact hK
set_option maxRecDepth 20000 in
theorem c_X9_isStood {G : Gl} {d : Nat} {σ : Sg} {τ : Tw} (hM : RMt τ σ) (hO : OkT τ) {s : Int} (hs1 : -2147483648 ≤ s) (hs2 : s < 2147483648) : CT G d yX9_isStood cX9_isStood 3 (some .boolean) [.ref (gA G 54), .int (iI s)] σ (R1 (.int (iI (bI (wAt τ s = true)))) σ) := by
  refine CT.of (by decide +kernel) (Nat.le_of_ble_eq_true rfl) ?_
  change AW G _ RX9 _ _ _ 0 [(0, .ref (gA G 54)), (1, .int (iI s))] [] _ _
  have hO2 := hO
  obtain ⟨o1, o2, o3, o4, o5, o6, o7, o8, o9⟩ := hO2
  have p0 := hM.2.1
  have p1 := hM.2.2.1
  have p2 : σ.1 63 0 = τ.2.1 2 := hM.2.2.2.1 0 (by decide)
  refine A_iconst (pc := 0) dX9_isStood_0 ?_
  refine A_istore_n (pc := 1) dX9_isStood_1 rfl (Nat.le_of_ble_eq_true rfl) ?_
  refine A_loc (l2 := [(0, _), (1, _), (2, _)]) ⟨rfl, rfl, rfl, trivial⟩ ?_
  exact l_X9_isStood hM hO hs1 hs2 (τ.2.1 1).toNat 0 (by omega) ⟨rfl, rfl⟩
theorem dX9_isPaned_0 : decode cX9_isPaned 0 = .ok (.iconst 0, 1) := by decide +kernel
theorem dX9_isPaned_1 : decode cX9_isPaned 1 = .ok (.istore_n 2, 1) := by decide +kernel
theorem dX9_isPaned_2 : decode cX9_isPaned 2 = .ok (.iload_n 2, 1) := by decide +kernel
theorem dX9_isPaned_3 : decode cX9_isPaned 3 = .ok (.aload_n 0, 1) := by decide +kernel
theorem dX9_isPaned_4 : decode cX9_isPaned 4 = .ok (.getfield 83, 3) := by decide +kernel
theorem dX9_isPaned_7 : decode cX9_isPaned 7 = .ok (.if_icmp .ge 21, 3) := by decide +kernel
theorem dX9_isPaned_10 : decode cX9_isPaned 10 = .ok (.aload_n 0, 1) := by decide +kernel
theorem dX9_isPaned_11 : decode cX9_isPaned 11 = .ok (.getfield 16, 3) := by decide +kernel
theorem dX9_isPaned_14 : decode cX9_isPaned 14 = .ok (.iload_n 2, 1) := by decide +kernel
theorem dX9_isPaned_15 : decode cX9_isPaned 15 = .ok (.iaload, 1) := by decide +kernel
theorem dX9_isPaned_16 : decode cX9_isPaned 16 = .ok (.iload_n 1, 1) := by decide +kernel
theorem dX9_isPaned_17 : decode cX9_isPaned 17 = .ok (.if_icmp .ne 5, 3) := by decide +kernel
theorem dX9_isPaned_20 : decode cX9_isPaned 20 = .ok (.iconst 1, 1) := by decide +kernel
theorem dX9_isPaned_21 : decode cX9_isPaned 21 = .ok (.ireturn, 1) := by decide +kernel
theorem dX9_isPaned_22 : decode cX9_isPaned 22 = .ok (.iinc 2 1, 3) := by decide +kernel
theorem dX9_isPaned_25 : decode cX9_isPaned 25 = .ok (.goto (-23), 3) := by decide +kernel
theorem dX9_isPaned_28 : decode cX9_isPaned 28 = .ok (.iconst 0, 1) := by decide +kernel
theorem dX9_isPaned_29 : decode cX9_isPaned 29 = .ok (.ireturn, 1) := by decide +kernel
set_option maxRecDepth 20000 in
theorem l_X9_isPaned {G : Gl} {d : Nat} {σ : Sg} {K : Option Value → Sg → Prop} {τ : Tw} (hM : RMt τ σ) (hO : OkT τ) {s : Int} (hs1 : -2147483648 ≤ s) (hs2 : s < 2147483648) : ∀ (n i : Nat), (i : Int) + n = τ.2.1 0 → K (some (.int (iI (bI (anyR (fun p => decide (τ.2.2 2 p = s)) n i = true))))) σ → AW G d RX9 cX9_isPaned 3 (some .boolean) 2 [(0, .ref (gA G 54)), (1, .int (iI s)), (2, .int (iI (i : Int)))] [] σ K := by
  intro n
  induction n using Nat.strongRecOn
  rename_i n ih
  intro i hn hK
  have hO2 := hO
  obtain ⟨o1, o2, o3, o4, o5, o6, o7, o8, o9⟩ := hO2
  have p0 := hM.2.1
  have p1 := hM.2.2.1
  have p2 : σ.1 63 0 = τ.2.1 2 := hM.2.2.2.1 0 (by decide)
  refine A_iload_n (pc := 2) dX9_isPaned_2 rfl rfl ?_
  refine A_aload_n (pc := 3) dX9_isPaned_3 rfl rfl ?_
  refine A_getIv (pc := 4) fX9_83 rfl rfl p0 dX9_isPaned_4 ?_
  refine A_icmp_ge (pc := 7) 28 dX9_isPaned_7 (by decide) (by omega) (by omega) (by omega) (by omega) (fun h7 => ?_) (fun h7 => ?_)
  · skip
    refine A_iconst (pc := 28) dX9_isPaned_28 ?_
    refine A_zret (pc := 29) rfl rfl dX9_isPaned_29 ?_
    have hn0 : n = 0 := by omega
    subst hn0
    rw [anyR, bI_f (by decide)] at hK
    exact hK
  · skip
    refine A_aload_n (pc := 10) dX9_isPaned_10 rfl rfl ?_
    refine A_getR (pc := 11) fX9_16 rfl rfl dX9_isPaned_11 ?_
    refine A_iload_n (pc := 14) dX9_isPaned_14 rfl rfl ?_
    refine A_ialdv (pc := 15) _ rfl rfl (by omega) (Nat.le_of_ble_eq_true rfl) (hM.at (by omega)) dX9_isPaned_15 ?_
    refine A_iload_n (pc := 16) dX9_isPaned_16 rfl rfl ?_
    refine A_icmp_ne (pc := 17) 22 dX9_isPaned_17 (by decide) (by have := o8 i (by omega); omega) (by have := o8 i (by omega); omega) hs1 hs2 (fun h17 => ?_) (fun h17 => ?_)
    · skip
      refine A_iinc (pc := 22) dX9_isPaned_22 rfl (Nat.le_of_ble_eq_true rfl) ?_
      refine A_goto (pc := 25) 2 dX9_isPaned_25 (by decide) ?_
      obtain ⟨m, rfl⟩ : ∃ m, n = m + 1 := ⟨n - 1, by omega⟩
      refine A_loc (l2 := [(0, _), (1, _), (2, _)]) ⟨rfl, rfl, rfl, trivial⟩ ?_
      refine ih m (by omega) (i + 1) (by omega) ?_
      rw [anyR, decide_eq_false h17, Bool.false_or] at hK
      exact hK
    · skip
      refine A_iconst (pc := 20) dX9_isPaned_20 ?_
      refine A_zret (pc := 21) rfl rfl dX9_isPaned_21 ?_
      obtain ⟨m, rfl⟩ : ∃ m, n = m + 1 := ⟨n - 1, by omega⟩
      rw [anyR, decide_eq_true h17, Bool.true_or, bI_t rfl] at hK
      exact hK
set_option maxRecDepth 20000 in
theorem c_X9_isPaned {G : Gl} {d : Nat} {σ : Sg} {τ : Tw} (hM : RMt τ σ) (hO : OkT τ) {s : Int} (hs1 : -2147483648 ≤ s) (hs2 : s < 2147483648) : CT G d yX9_isPaned cX9_isPaned 3 (some .boolean) [.ref (gA G 54), .int (iI s)] σ (R1 (.int (iI (bI (pAt τ s = true)))) σ) := by
  refine CT.of (by decide +kernel) (Nat.le_of_ble_eq_true rfl) ?_
  change AW G _ RX9 _ _ _ 0 [(0, .ref (gA G 54)), (1, .int (iI s))] [] _ _
  have hO2 := hO
  obtain ⟨o1, o2, o3, o4, o5, o6, o7, o8, o9⟩ := hO2
  have p0 := hM.2.1
  have p1 := hM.2.2.1
  have p2 : σ.1 63 0 = τ.2.1 2 := hM.2.2.2.1 0 (by decide)
  refine A_iconst (pc := 0) dX9_isPaned_0 ?_
  refine A_istore_n (pc := 1) dX9_isPaned_1 rfl (Nat.le_of_ble_eq_true rfl) ?_
  refine A_loc (l2 := [(0, _), (1, _), (2, _)]) ⟨rfl, rfl, rfl, trivial⟩ ?_
  exact l_X9_isPaned hM hO hs1 hs2 (τ.2.1 0).toNat 0 (by omega) ⟨rfl, rfl⟩
theorem dX9_next_0 : decode cX9_next 0 = .ok (.iload_n 1, 1) := by decide +kernel
theorem dX9_next_1 : decode cX9_next 1 = .ok (.tableswitch 64 0 2 #[27, 32, 47], 27) := by decide +kernel
theorem dX9_next_28 : decode cX9_next 28 = .ok (.iload_n 0, 1) := by decide +kernel
theorem dX9_next_29 : decode cX9_next 29 = .ok (.bipush 7, 2) := by decide +kernel
theorem dX9_next_31 : decode cX9_next 31 = .ok (.isub, 1) := by decide +kernel
theorem dX9_next_32 : decode cX9_next 32 = .ok (.ireturn, 1) := by decide +kernel
theorem dX9_next_33 : decode cX9_next 33 = .ok (.iload_n 0, 1) := by decide +kernel
theorem dX9_next_34 : decode cX9_next 34 = .ok (.bipush 7, 2) := by decide +kernel
theorem dX9_next_36 : decode cX9_next 36 = .ok (.irem, 1) := by decide +kernel
theorem dX9_next_37 : decode cX9_next 37 = .ok (.ifCond .ne 7, 3) := by decide +kernel
theorem dX9_next_40 : decode cX9_next 40 = .ok (.iconst (-1), 1) := by decide +kernel
theorem dX9_next_41 : decode cX9_next 41 = .ok (.goto 6, 3) := by decide +kernel
theorem dX9_next_44 : decode cX9_next 44 = .ok (.iload_n 0, 1) := by decide +kernel
theorem dX9_next_45 : decode cX9_next 45 = .ok (.iconst 1, 1) := by decide +kernel
theorem dX9_next_46 : decode cX9_next 46 = .ok (.isub, 1) := by decide +kernel
theorem dX9_next_47 : decode cX9_next 47 = .ok (.ireturn, 1) := by decide +kernel
theorem dX9_next_48 : decode cX9_next 48 = .ok (.iload_n 0, 1) := by decide +kernel
theorem dX9_next_49 : decode cX9_next 49 = .ok (.bipush 7, 2) := by decide +kernel
theorem dX9_next_51 : decode cX9_next 51 = .ok (.irem, 1) := by decide +kernel
theorem dX9_next_52 : decode cX9_next 52 = .ok (.bipush 6, 2) := by decide +kernel
theorem dX9_next_54 : decode cX9_next 54 = .ok (.if_icmp .ne 7, 3) := by decide +kernel
theorem dX9_next_57 : decode cX9_next 57 = .ok (.iconst (-1), 1) := by decide +kernel
theorem dX9_next_58 : decode cX9_next 58 = .ok (.goto 6, 3) := by decide +kernel
theorem dX9_next_61 : decode cX9_next 61 = .ok (.iload_n 0, 1) := by decide +kernel
theorem dX9_next_62 : decode cX9_next 62 = .ok (.iconst 1, 1) := by decide +kernel
theorem dX9_next_63 : decode cX9_next 63 = .ok (.iadd, 1) := by decide +kernel
theorem dX9_next_64 : decode cX9_next 64 = .ok (.ireturn, 1) := by decide +kernel
theorem dX9_next_65 : decode cX9_next 65 = .ok (.iload_n 0, 1) := by decide +kernel
theorem dX9_next_66 : decode cX9_next 66 = .ok (.bipush 7, 2) := by decide +kernel
theorem dX9_next_68 : decode cX9_next 68 = .ok (.iadd, 1) := by decide +kernel
theorem dX9_next_69 : decode cX9_next 69 = .ok (.bipush 49, 2) := by decide +kernel
theorem dX9_next_71 : decode cX9_next 71 = .ok (.if_icmp .ge 10, 3) := by decide +kernel
theorem dX9_next_74 : decode cX9_next 74 = .ok (.iload_n 0, 1) := by decide +kernel
theorem dX9_next_75 : decode cX9_next 75 = .ok (.bipush 7, 2) := by decide +kernel
theorem dX9_next_77 : decode cX9_next 77 = .ok (.iadd, 1) := by decide +kernel
theorem dX9_next_78 : decode cX9_next 78 = .ok (.goto 4, 3) := by decide +kernel
theorem dX9_next_81 : decode cX9_next 81 = .ok (.iconst (-1), 1) := by decide +kernel
theorem dX9_next_82 : decode cX9_next 82 = .ok (.ireturn, 1) := by decide +kernel
set_option maxRecDepth 20000 in
theorem c_X9_next {G : Gl} {d : Nat} {σ : Sg} {c w : Int} (c1 : 0 ≤ c) (c2 : c ≤ 48) (w1 : 0 ≤ w) (w2 : w ≤ 3) : CT G d yX9_next cX9_next 2 (some .int) [.int (iI c), .int (iI w)] σ (R1 (.int (iI (nx c w))) σ) := by
  refine CT.of (by decide +kernel) (Nat.le_of_ble_eq_true rfl) ?_
  change AW G _ RX9 _ _ _ 0 [(0, .int (iI c)), (1, .int (iI w))] [] _ _
  refine A_iload_n (pc := 0) dX9_next_0 rfl rfl ?_
  refine A_tsw (pc := 1) [(0, 28), (1, 33), (2, 48)] 65 dX9_next_1 (by decide) (by decide) (by decide) (by omega) (by omega) ?_
  refine ⟨fun h1 => ?_, fun h1n0 => ?_⟩
  · skip
    refine A_iload_n (pc := 28) dX9_next_28 rfl rfl ?_
    refine A_bipush (pc := 29) dX9_next_29 (by decide) ?_
    refine A_isub (pc := 31) dX9_next_31 ?_
    refine A_iret (pc := 32) rfl dX9_next_32 ?_
    exact R1_e (by unfold nx; (repeat' split) <;> omega)
  refine ⟨fun h1 => ?_, fun h1n1 => ?_⟩
  · skip
    refine A_iload_n (pc := 33) dX9_next_33 rfl rfl ?_
    refine A_bipush (pc := 34) dX9_next_34 (by decide) ?_
    refine A_irem (pc := 36) dX9_next_36 (by omega) (by omega) (by omega) (by omega) ?_
    refine A_if_ne (pc := 37) 44 dX9_next_37 (by decide) (by omega) (by omega) (fun h37 => ?_) (fun h37 => ?_)
    · skip
      refine A_iload_n (pc := 44) dX9_next_44 rfl rfl ?_
      refine A_iconst (pc := 45) dX9_next_45 ?_
      refine A_isub (pc := 46) dX9_next_46 ?_
      refine A_iret (pc := 47) rfl dX9_next_47 ?_
      exact R1_e (by unfold nx; (repeat' split) <;> omega)
    · skip
      refine A_iconst (pc := 40) dX9_next_40 ?_
      refine A_goto (pc := 41) 47 dX9_next_41 (by decide) ?_
      refine A_iret (pc := 47) rfl dX9_next_47 ?_
      exact R1_e (by unfold nx; (repeat' split) <;> omega)
  refine ⟨fun h1 => ?_, fun h1n2 => ?_⟩
  · skip
    refine A_iload_n (pc := 48) dX9_next_48 rfl rfl ?_
    refine A_bipush (pc := 49) dX9_next_49 (by decide) ?_
    refine A_irem (pc := 51) dX9_next_51 (by omega) (by omega) (by omega) (by omega) ?_
    refine A_bipush (pc := 52) dX9_next_52 (by decide) ?_
    refine A_icmp_ne (pc := 54) 61 dX9_next_54 (by decide) (by omega) (by omega) (by omega) (by omega) (fun h54 => ?_) (fun h54 => ?_)
    · skip
      refine A_iload_n (pc := 61) dX9_next_61 rfl rfl ?_
      refine A_iconst (pc := 62) dX9_next_62 ?_
      refine A_iadd (pc := 63) dX9_next_63 ?_
      refine A_iret (pc := 64) rfl dX9_next_64 ?_
      exact R1_e (by unfold nx; (repeat' split) <;> omega)
    · skip
      refine A_iconst (pc := 57) dX9_next_57 ?_
      refine A_goto (pc := 58) 64 dX9_next_58 (by decide) ?_
      refine A_iret (pc := 64) rfl dX9_next_64 ?_
      exact R1_e (by unfold nx; (repeat' split) <;> omega)
  change AW G _ _ _ _ _ 65 _ _ _ _
  refine A_iload_n (pc := 65) dX9_next_65 rfl rfl ?_
  refine A_bipush (pc := 66) dX9_next_66 (by decide) ?_
  refine A_iadd (pc := 68) dX9_next_68 ?_
  refine A_bipush (pc := 69) dX9_next_69 (by decide) ?_
  refine A_icmp_ge (pc := 71) 81 dX9_next_71 (by decide) (by omega) (by omega) (by omega) (by omega) (fun h71 => ?_) (fun h71 => ?_)
  · skip
    refine A_iconst (pc := 81) dX9_next_81 ?_
    refine A_iret (pc := 82) rfl dX9_next_82 ?_
    exact R1_e (by unfold nx; (repeat' split) <;> omega)
  · skip
    refine A_iload_n (pc := 74) dX9_next_74 rfl rfl ?_
    refine A_bipush (pc := 75) dX9_next_75 (by decide) ?_
    refine A_iadd (pc := 77) dX9_next_77 ?_
    refine A_goto (pc := 78) 82 dX9_next_78 (by decide) ?_
    refine A_iret (pc := 82) rfl dX9_next_82 ?_
    exact R1_e (by unfold nx; (repeat' split) <;> omega)
theorem dX9_bit_0 : decode cX9_bit 0 = .ok (.aload_n 0, 1) := by decide +kernel
theorem dX9_bit_1 : decode cX9_bit 1 = .ok (.iload_n 1, 1) := by decide +kernel
theorem dX9_bit_2 : decode cX9_bit 2 = .ok (.invokevirtual 143, 3) := by decide +kernel
theorem dX9_bit_5 : decode cX9_bit 5 = .ok (.ifCond .eq 9, 3) := by decide +kernel
theorem dX9_bit_8 : decode cX9_bit 8 = .ok (.lconst 1, 1) := by decide +kernel
theorem dX9_bit_9 : decode cX9_bit 9 = .ok (.iload_n 1, 1) := by decide +kernel
theorem dX9_bit_10 : decode cX9_bit 10 = .ok (.lshl, 1) := by decide +kernel
theorem dX9_bit_11 : decode cX9_bit 11 = .ok (.goto 4, 3) := by decide +kernel
theorem dX9_bit_14 : decode cX9_bit 14 = .ok (.lconst 0, 1) := by decide +kernel
theorem dX9_bit_15 : decode cX9_bit 15 = .ok (.lreturn, 1) := by decide +kernel
set_option maxRecDepth 20000 in
theorem c_X9_bit {G : Gl} {d : Nat} {σ : Sg} {τ : Tw} (hM : RMt τ σ) (hO : OkT τ) {s : Int} (hs1 : -2147483648 ≤ s) (hs2 : s < 2147483648) : CT G (d + 3) yX9_bit cX9_bit 2 (some .long) [.ref (gA G 54), .int (iI s)] σ (R1 (.long (lN (opB τ.1 s))) σ) := by
  refine CT.of (by decide +kernel) (Nat.le_of_ble_eq_true rfl) ?_
  change AW G _ RX9 _ _ _ 0 [(0, .ref (gA G 54)), (1, .int (iI s))] [] _ _
  have hO2 := hO
  obtain ⟨o1, o2, o3, o4, o5, o6, o7, o8, o9⟩ := hO2
  have p0 := hM.2.1
  have p1 := hM.2.2.1
  have p2 : σ.1 63 0 = τ.2.1 2 := hM.2.2.2.1 0 (by decide)
  refine A_aload_n (pc := 0) dX9_bit_0 rfl rfl ?_
  refine A_iload_n (pc := 1) dX9_bit_1 rfl rfl ?_
  refine A_callV1 (pc := 2) kX9_143 rfl rfl (c_X9_isOpen hM hO hs1 hs2) dX9_bit_2 rfl rfl (Nat.le_of_ble_eq_true rfl) (Nat.le_of_ble_eq_true rfl) ?_
  refine A_ifb_eq (pc := 5) 14 dX9_bit_5 (by decide) (fun h5 => ?_) (fun h5 => ?_)
  · skip
    refine A_lconst (pc := 14) 0 dX9_bit_14 rfl ?_
    refine A_lret (pc := 15) rfl dX9_bit_15 ?_
    exact ⟨by rw [opB, if_neg h5]; rfl, rfl⟩
  · skip
    obtain ⟨k, rfl⟩ := Int.eq_ofNat_of_zero_le (show 0 ≤ s by omega)
    refine A_lconst (pc := 8) 1 dX9_bit_8 rfl ?_
    refine A_iload_n (pc := 9) dX9_bit_9 rfl rfl ?_
    refine A_lshl (pc := 10) (lN (2 ^ k)) dX9_bit_10 (shl_L (by omega)) ?_
    refine A_goto (pc := 11) 15 dX9_bit_11 (by decide) ?_
    refine A_lret (pc := 15) rfl dX9_bit_15 ?_
    exact ⟨by rw [opB, if_pos h5]; rfl, rfl⟩
theorem opB_nm (h : Nat) (c : Int) : opB h (nm c) = opB h c := by
  unfold opB
  by_cases q : inS c ∧ ¬ sT h c
  · rw [if_pos q, if_pos ⟨(inS_nm c).mpr q.1, fun z => q.2 ((sT_nm h c).mp z)⟩, nm_pos q.1.1]
  · rw [if_neg q, if_neg (fun z => q ⟨(inS_nm c).mp z.1, fun y => z.2 ((sT_nm h c).mpr y)⟩)]
theorem lineM_nm {h : Nat} {w : Int} {b : Bool} {n : Nat} {i c : Int} (h1 : c < 0) : lineM h w b n i (nm c) = 0 := by
  rw [nm_neg h1]
  cases n with
  | zero => rfl
  | succ n => rw [lineM, if_pos (Or.inl (by decide))]
theorem dX9_line_0 : decode cX9_line 0 = .ok (.lconst 0, 1) := by decide +kernel
theorem dX9_line_1 : decode cX9_line 1 = .ok (.lstore 5, 2) := by decide +kernel
theorem dX9_line_3 : decode cX9_line 3 = .ok (.iload_n 1, 1) := by decide +kernel
theorem dX9_line_4 : decode cX9_line 4 = .ok (.iload_n 2, 1) := by decide +kernel
theorem dX9_line_5 : decode cX9_line 5 = .ok (.invokestatic 223, 3) := by decide +kernel
theorem dX9_line_8 : decode cX9_line 8 = .ok (.istore 7, 2) := by decide +kernel
theorem dX9_line_10 : decode cX9_line 10 = .ok (.iconst 0, 1) := by decide +kernel
theorem dX9_line_11 : decode cX9_line 11 = .ok (.istore 8, 2) := by decide +kernel
theorem dX9_line_13 : decode cX9_line 13 = .ok (.iload 8, 2) := by decide +kernel
theorem dX9_line_15 : decode cX9_line 15 = .ok (.iload_n 3, 1) := by decide +kernel
theorem dX9_line_16 : decode cX9_line 16 = .ok (.if_icmp .ge 113, 3) := by decide +kernel
theorem dX9_line_19 : decode cX9_line 19 = .ok (.iload 7, 2) := by decide +kernel
theorem dX9_line_21 : decode cX9_line 21 = .ok (.ifCond .lt 108, 3) := by decide +kernel
theorem dX9_line_24 : decode cX9_line 24 = .ok (.aload_n 0, 1) := by decide +kernel
theorem dX9_line_25 : decode cX9_line 25 = .ok (.getfield 31, 3) := by decide +kernel
theorem dX9_line_28 : decode cX9_line 28 = .ok (.iload 7, 2) := by decide +kernel
theorem dX9_line_30 : decode cX9_line 30 = .ok (.baload, 1) := by decide +kernel
theorem dX9_line_31 : decode cX9_line 31 = .ok (.ifCond .ne 98, 3) := by decide +kernel
theorem dX9_line_34 : decode cX9_line 34 = .ok (.lload 5, 2) := by decide +kernel
theorem dX9_line_36 : decode cX9_line 36 = .ok (.lconst 1, 1) := by decide +kernel
theorem dX9_line_37 : decode cX9_line 37 = .ok (.iload 7, 2) := by decide +kernel
theorem dX9_line_39 : decode cX9_line 39 = .ok (.lshl, 1) := by decide +kernel
theorem dX9_line_40 : decode cX9_line 40 = .ok (.lor, 1) := by decide +kernel
theorem dX9_line_41 : decode cX9_line 41 = .ok (.lstore 5, 2) := by decide +kernel
theorem dX9_line_43 : decode cX9_line 43 = .ok (.iload_n 2, 1) := by decide +kernel
theorem dX9_line_44 : decode cX9_line 44 = .ok (.iconst 1, 1) := by decide +kernel
theorem dX9_line_45 : decode cX9_line 45 = .ok (.if_icmp .eq 8, 3) := by decide +kernel
theorem dX9_line_48 : decode cX9_line 48 = .ok (.iload_n 2, 1) := by decide +kernel
theorem dX9_line_49 : decode cX9_line 49 = .ok (.iconst 2, 1) := by decide +kernel
theorem dX9_line_50 : decode cX9_line 50 = .ok (.if_icmp .ne 7, 3) := by decide +kernel
theorem dX9_line_53 : decode cX9_line 53 = .ok (.iconst 1, 1) := by decide +kernel
theorem dX9_line_54 : decode cX9_line 54 = .ok (.goto 4, 3) := by decide +kernel
theorem dX9_line_57 : decode cX9_line 57 = .ok (.iconst 0, 1) := by decide +kernel
theorem dX9_line_58 : decode cX9_line 58 = .ok (.istore 9, 2) := by decide +kernel
theorem dX9_line_60 : decode cX9_line 60 = .ok (.iload 4, 2) := by decide +kernel
theorem dX9_line_62 : decode cX9_line 62 = .ok (.ifCond .eq 53, 3) := by decide +kernel
theorem dX9_line_65 : decode cX9_line 65 = .ok (.iload 8, 2) := by decide +kernel
theorem dX9_line_67 : decode cX9_line 67 = .ok (.iconst 2, 1) := by decide +kernel
theorem dX9_line_68 : decode cX9_line 68 = .ok (.if_icmp .ge 47, 3) := by decide +kernel
theorem dX9_line_71 : decode cX9_line 71 = .ok (.lload 5, 2) := by decide +kernel
theorem dX9_line_73 : decode cX9_line 73 = .ok (.aload_n 0, 1) := by decide +kernel
theorem dX9_line_74 : decode cX9_line 74 = .ok (.iload 7, 2) := by decide +kernel
theorem dX9_line_76 : decode cX9_line 76 = .ok (.iload 9, 2) := by decide +kernel
theorem dX9_line_78 : decode cX9_line 78 = .ok (.ifCond .eq 7, 3) := by decide +kernel
theorem dX9_line_81 : decode cX9_line 81 = .ok (.iconst 0, 1) := by decide +kernel
theorem dX9_line_82 : decode cX9_line 82 = .ok (.goto 4, 3) := by decide +kernel
theorem dX9_line_85 : decode cX9_line 85 = .ok (.iconst 1, 1) := by decide +kernel
theorem dX9_line_86 : decode cX9_line 86 = .ok (.invokestatic 223, 3) := by decide +kernel
theorem dX9_line_89 : decode cX9_line 89 = .ok (.invokevirtual 226, 3) := by decide +kernel
theorem dX9_line_92 : decode cX9_line 92 = .ok (.aload_n 0, 1) := by decide +kernel
theorem dX9_line_93 : decode cX9_line 93 = .ok (.iload 7, 2) := by decide +kernel
theorem dX9_line_95 : decode cX9_line 95 = .ok (.iload 9, 2) := by decide +kernel
theorem dX9_line_97 : decode cX9_line 97 = .ok (.ifCond .eq 7, 3) := by decide +kernel
theorem dX9_line_100 : decode cX9_line 100 = .ok (.iconst 3, 1) := by decide +kernel
theorem dX9_line_101 : decode cX9_line 101 = .ok (.goto 4, 3) := by decide +kernel
theorem dX9_line_104 : decode cX9_line 104 = .ok (.iconst 2, 1) := by decide +kernel
theorem dX9_line_105 : decode cX9_line 105 = .ok (.invokestatic 223, 3) := by decide +kernel
theorem dX9_line_108 : decode cX9_line 108 = .ok (.invokevirtual 226, 3) := by decide +kernel
theorem dX9_line_111 : decode cX9_line 111 = .ok (.lor, 1) := by decide +kernel
theorem dX9_line_112 : decode cX9_line 112 = .ok (.lor, 1) := by decide +kernel
theorem dX9_line_113 : decode cX9_line 113 = .ok (.lstore 5, 2) := by decide +kernel
theorem dX9_line_115 : decode cX9_line 115 = .ok (.iload 7, 2) := by decide +kernel
theorem dX9_line_117 : decode cX9_line 117 = .ok (.iload_n 2, 1) := by decide +kernel
theorem dX9_line_118 : decode cX9_line 118 = .ok (.invokestatic 223, 3) := by decide +kernel
theorem dX9_line_121 : decode cX9_line 121 = .ok (.istore 7, 2) := by decide +kernel
theorem dX9_line_123 : decode cX9_line 123 = .ok (.iinc 8 1, 3) := by decide +kernel
theorem dX9_line_126 : decode cX9_line 126 = .ok (.goto (-113), 3) := by decide +kernel
theorem dX9_line_129 : decode cX9_line 129 = .ok (.lload 5, 2) := by decide +kernel
theorem dX9_line_131 : decode cX9_line 131 = .ok (.lreturn, 1) := by decide +kernel
set_option maxRecDepth 20000 in
theorem m_X9_line {G : Gl} {d : Nat} {σ : Sg} {K : Option Value → Sg → Prop} {τ : Tw} (hM : RMt τ σ) (hO : OkT τ) {w r : Int} {b : Bool} {i c x : Int} {acc : Nat} (hx : x = bI (w = 1 ∨ w = 2)) (ha : acc < 2 ^ 49) (i1 : 0 ≤ i) (i2 : i < 2147483648) (c1 : 0 ≤ c) (c2 : c ≤ 48) (hK : AW G (d + 4) RX9 cX9_line 10 (some .long) 115 [(0, .ref (gA G 54)), (2, .int (iI w)), (3, .int (iI r)), (4, .int (iI (bI (b = true)))), (5, .long (lN (acc ||| bayB τ.1 w b i c))), (7, .int (iI c)), (8, .int (iI i))] [] σ K) : AW G (d + 4) RX9 cX9_line 10 (some .long) 60 [(0, .ref (gA G 54)), (2, .int (iI w)), (3, .int (iI r)), (4, .int (iI (bI (b = true)))), (5, .long (lN acc)), (7, .int (iI c)), (8, .int (iI i)), (9, .int (iI x))] [] σ K := by
  subst hx
  have r0 := nx_rng (w := 0) c1 c2
  have r1 := nx_rng (w := 1) c1 c2
  have r3 := nx_rng (w := 3) c1 c2
  have r2 := nx_rng (w := 2) c1 c2
  have hO2 := hO
  obtain ⟨o1, o2, o3, o4, o5, o6, o7, o8, o9⟩ := hO2
  have p0 := hM.2.1
  have p1 := hM.2.2.1
  have p2 : σ.1 63 0 = τ.2.1 2 := hM.2.2.2.1 0 (by decide)
  refine A_iload (pc := 60) dX9_line_60 rfl ?_
  refine A_ifb_eq (pc := 62) 115 dX9_line_62 (by decide) (fun h62 => ?_) (fun h62 => ?_)
  · skip
    refine A_loc (l2 := [(0, _), (2, _), (3, _), (4, _), (5, _), (7, _), (8, _)]) ⟨rfl, rfl, rfl, rfl, rfl, rfl, rfl, trivial⟩ ?_
    have e : acc ||| bayB τ.1 w b i c = acc := by rw [bayB, if_neg (fun q => h62 q.1), Nat.or_zero]
    rw [e] at hK
    exact hK
  · skip
    refine A_iload (pc := 65) dX9_line_65 rfl ?_
    refine A_iconst (pc := 67) dX9_line_67 ?_
    refine A_icmp_ge (pc := 68) 115 dX9_line_68 (by decide) (by omega) (by omega) (by omega) (by omega) (fun h68 => ?_) (fun h68 => ?_)
    · skip
      refine A_loc (l2 := [(0, _), (2, _), (3, _), (4, _), (5, _), (7, _), (8, _)]) ⟨rfl, rfl, rfl, rfl, rfl, rfl, rfl, trivial⟩ ?_
      have e : acc ||| bayB τ.1 w b i c = acc := by rw [bayB, if_neg (fun q => by omega), Nat.or_zero]
      rw [e] at hK
      exact hK
    · skip
      refine A_lload (pc := 71) dX9_line_71 rfl ?_
      refine A_aload_n (pc := 73) dX9_line_73 rfl rfl ?_
      refine A_iload (pc := 74) dX9_line_74 rfl ?_
      refine A_iload (pc := 76) dX9_line_76 rfl ?_
      refine A_ifb_eq (pc := 78) 85 dX9_line_78 (by decide) (fun h78 => ?_) (fun h78 => ?_)
      · skip
        refine A_iconst (pc := 85) dX9_line_85 ?_
        refine A_callS1 (pc := 86) kX9_223 (c_X9_next (w := 1) c1 c2 (by omega) (by omega)) dX9_line_86 rfl rfl (Nat.le_of_ble_eq_true rfl) (Nat.le_of_ble_eq_true rfl) ?_
        refine A_callV1 (pc := 89) kX9_226 rfl rfl (c_X9_bit hM hO (s := nx c 1) (by omega) (by omega)) dX9_line_89 rfl rfl (Nat.le_of_ble_eq_true rfl) (Nat.le_of_ble_eq_true rfl) ?_
        rw [← opB_nm τ.1 (nx c 1), nm_nx c1 c2 (by omega) (by omega)]
        refine A_aload_n (pc := 92) dX9_line_92 rfl rfl ?_
        refine A_iload (pc := 93) dX9_line_93 rfl ?_
        refine A_iload (pc := 95) dX9_line_95 rfl ?_
        refine A_ifb_eq (pc := 97) 104 dX9_line_97 (by decide) (fun h97 => ?_) (fun h97 => ?_)
        · skip
          refine A_iconst (pc := 104) dX9_line_104 ?_
          refine A_callS1 (pc := 105) kX9_223 (c_X9_next (w := 2) c1 c2 (by omega) (by omega)) dX9_line_105 rfl rfl (Nat.le_of_ble_eq_true rfl) (Nat.le_of_ble_eq_true rfl) ?_
          refine A_callV1 (pc := 108) kX9_226 rfl rfl (c_X9_bit hM hO (s := nx c 2) (by omega) (by omega)) dX9_line_108 rfl rfl (Nat.le_of_ble_eq_true rfl) (Nat.le_of_ble_eq_true rfl) ?_
          rw [← opB_nm τ.1 (nx c 2), nm_nx c1 c2 (by omega) (by omega)]
          refine A_lor (pc := 111) dX9_line_111 ?_
          rw [or_L (opB_lt _ _) (opB_lt _ _)]
          refine A_lor (pc := 112) dX9_line_112 ?_
          rw [or_L ha (or49 (opB_lt _ _) (opB_lt _ _))]
          refine A_lstore (pc := 113) dX9_line_113 (Nat.le_of_ble_eq_true rfl) ?_
          refine A_loc (l2 := [(0, _), (2, _), (3, _), (4, _), (5, _), (7, _), (8, _)]) ⟨rfl, rfl, rfl, rfl, rfl, rfl, rfl, trivial⟩ ?_
          have e : acc ||| bayB τ.1 w b i c = acc ||| (opB τ.1 (bes c 1) ||| opB τ.1 (bes c 2)) := by rw [bayB, if_pos ⟨h62, h68⟩, if_neg h78, if_neg h78]
          rw [e] at hK
          exact hK
        · skip
          exact absurd h97 h78
      · skip
        refine A_iconst (pc := 81) dX9_line_81 ?_
        refine A_goto (pc := 82) 86 dX9_line_82 (by decide) ?_
        refine A_callS1 (pc := 86) kX9_223 (c_X9_next (w := 0) c1 c2 (by omega) (by omega)) dX9_line_86 rfl rfl (Nat.le_of_ble_eq_true rfl) (Nat.le_of_ble_eq_true rfl) ?_
        refine A_callV1 (pc := 89) kX9_226 rfl rfl (c_X9_bit hM hO (s := nx c 0) (by omega) (by omega)) dX9_line_89 rfl rfl (Nat.le_of_ble_eq_true rfl) (Nat.le_of_ble_eq_true rfl) ?_
        rw [← opB_nm τ.1 (nx c 0), nm_nx c1 c2 (by omega) (by omega)]
        refine A_aload_n (pc := 92) dX9_line_92 rfl rfl ?_
        refine A_iload (pc := 93) dX9_line_93 rfl ?_
        refine A_iload (pc := 95) dX9_line_95 rfl ?_
        refine A_ifb_eq (pc := 97) 104 dX9_line_97 (by decide) (fun h97 => ?_) (fun h97 => ?_)
        · skip
          exact absurd h78 h97
        · skip
          refine A_iconst (pc := 100) dX9_line_100 ?_
          refine A_goto (pc := 101) 105 dX9_line_101 (by decide) ?_
          refine A_callS1 (pc := 105) kX9_223 (c_X9_next (w := 3) c1 c2 (by omega) (by omega)) dX9_line_105 rfl rfl (Nat.le_of_ble_eq_true rfl) (Nat.le_of_ble_eq_true rfl) ?_
          refine A_callV1 (pc := 108) kX9_226 rfl rfl (c_X9_bit hM hO (s := nx c 3) (by omega) (by omega)) dX9_line_108 rfl rfl (Nat.le_of_ble_eq_true rfl) (Nat.le_of_ble_eq_true rfl) ?_
          rw [← opB_nm τ.1 (nx c 3), nm_nx c1 c2 (by omega) (by omega)]
          refine A_lor (pc := 111) dX9_line_111 ?_
          rw [or_L (opB_lt _ _) (opB_lt _ _)]
          refine A_lor (pc := 112) dX9_line_112 ?_
          rw [or_L ha (or49 (opB_lt _ _) (opB_lt _ _))]
          refine A_lstore (pc := 113) dX9_line_113 (Nat.le_of_ble_eq_true rfl) ?_
          refine A_loc (l2 := [(0, _), (2, _), (3, _), (4, _), (5, _), (7, _), (8, _)]) ⟨rfl, rfl, rfl, rfl, rfl, rfl, rfl, trivial⟩ ?_
          have e : acc ||| bayB τ.1 w b i c = acc ||| (opB τ.1 (bes c 0) ||| opB τ.1 (bes c 3)) := by rw [bayB, if_pos ⟨h62, h68⟩, if_pos h78, if_pos h78]
          rw [e] at hK
          exact hK
set_option maxRecDepth 20000 in
theorem l_X9_line {G : Gl} {d : Nat} {σ : Sg} {K : Option Value → Sg → Prop} {τ : Tw} (hM : RMt τ σ) (hO : OkT τ) {w r : Int} (w1 : 0 ≤ w) (w2 : w ≤ 3) (r1 : -2147483648 ≤ r) (r2 : r < 2147483648) {b : Bool} : ∀ (n : Nat) (i c : Int) (acc : Nat), 0 ≤ i → i ≤ 2147483647 → n = (r - i).toNat → -7 ≤ c → c ≤ 48 → acc < 2 ^ 49 → K (some (.long (lN (acc ||| lineM τ.1 w b n i (nm c))))) σ → AW G (d + 4) RX9 cX9_line 10 (some .long) 13 [(0, .ref (gA G 54)), (2, .int (iI w)), (3, .int (iI r)), (4, .int (iI (bI (b = true)))), (5, .long (lN acc)), (7, .int (iI c)), (8, .int (iI i))] [] σ K := by
  intro n
  induction n using Nat.strongRecOn
  rename_i n ih
  intro i c acc i1 i2 hn c1 c2 ha hK
  have hO2 := hO
  obtain ⟨o1, o2, o3, o4, o5, o6, o7, o8, o9⟩ := hO2
  have p0 := hM.2.1
  have p1 := hM.2.2.1
  have p2 : σ.1 63 0 = τ.2.1 2 := hM.2.2.2.1 0 (by decide)
  refine A_iload (pc := 13) dX9_line_13 rfl ?_
  refine A_iload_n (pc := 15) dX9_line_15 rfl rfl ?_
  refine A_icmp_ge (pc := 16) 129 dX9_line_16 (by decide) (by omega) (by omega) (by omega) (by omega) (fun h16 => ?_) (fun h16 => ?_)
  · skip
    refine A_lload (pc := 129) dX9_line_129 rfl ?_
    refine A_lret (pc := 131) rfl dX9_line_131 ?_
    have hn0 : n = 0 := by omega
    subst hn0
    rw [lineM, Nat.or_zero] at hK
    exact hK
  · skip
    refine A_iload (pc := 19) dX9_line_19 rfl ?_
    refine A_if_lt (pc := 21) 129 dX9_line_21 (by decide) (by omega) (by omega) (fun h21 => ?_) (fun h21 => ?_)
    · skip
      refine A_lload (pc := 129) dX9_line_129 rfl ?_
      refine A_lret (pc := 131) rfl dX9_line_131 ?_
      rw [lineM_nm h21, Nat.or_zero] at hK
      exact hK
    · skip
      obtain ⟨k, rfl⟩ := Int.eq_ofNat_of_zero_le (show 0 ≤ c by omega)
      refine A_aload_n (pc := 24) dX9_line_24 rfl rfl ?_
      refine A_getR (pc := 25) fX9_31 rfl rfl dX9_line_25 ?_
      refine A_iload (pc := 28) dX9_line_28 rfl ?_
      refine A_zaldv (pc := 30) _ rfl rfl (by omega) (Nat.le_of_ble_eq_true rfl) (hM.1 _ (by omega)) dX9_line_30 ?_
      refine A_ifb_ne (pc := 31) 129 dX9_line_31 (by decide) (fun h31 => ?_) (fun h31 => ?_)
      · skip
        refine A_lload (pc := 129) dX9_line_129 rfl ?_
        refine A_lret (pc := 131) rfl dX9_line_131 ?_
        have hm : lineM τ.1 w b n i (nm (k : Int)) = 0 := by
          cases n with
          | zero => rfl
          | succ n => rw [lineM, nm_pos (by omega), if_pos (Or.inr ((sT_k (by omega)).mpr h31))]
        rw [hm, Nat.or_zero] at hK
        exact hK
      · skip
        have hcc : ¬ ((k : Int) < 0 ∨ sT τ.1 (k : Int)) := fun q => q.elim (fun z => by omega) (fun z => h31 ((sT_k (by omega)).mp z))
        have hp : 2 ^ k < 2 ^ 49 := Nat.pow_lt_pow_right (by decide) (by omega)
        have hr2 := nx_rng (w := w) (show 0 ≤ (k : Int) by omega) (by omega)
        obtain ⟨m, rfl⟩ : ∃ m, n = m + 1 := ⟨n - 1, by omega⟩
        refine A_lload (pc := 34) dX9_line_34 rfl ?_
        refine A_lconst (pc := 36) 1 dX9_line_36 rfl ?_
        refine A_iload (pc := 37) dX9_line_37 rfl ?_
        refine A_lshl (pc := 39) (lN (2 ^ k)) dX9_line_39 (shl_L (by omega)) ?_
        refine A_lor (pc := 40) dX9_line_40 ?_
        rw [or_L ha hp]
        refine A_lstore (pc := 41) dX9_line_41 (Nat.le_of_ble_eq_true rfl) ?_
        refine A_iload_n (pc := 43) dX9_line_43 rfl rfl ?_
        refine A_iconst (pc := 44) dX9_line_44 ?_
        refine A_icmp_eq (pc := 45) 53 dX9_line_45 (by decide) (by omega) (by omega) (by omega) (by omega) (fun h45 => ?_) (fun h45 => ?_)
        · skip
          refine A_iconst (pc := 53) dX9_line_53 ?_
          refine A_goto (pc := 54) 58 dX9_line_54 (by decide) ?_
          refine A_istore (pc := 58) dX9_line_58 (Nat.le_of_ble_eq_true rfl) ?_
          refine A_loc (l2 := [(0, _), (2, _), (3, _), (4, _), (5, _), (7, _), (8, _), (9, _)]) ⟨rfl, rfl, rfl, rfl, rfl, rfl, rfl, rfl, trivial⟩ ?_
          refine m_X9_line hM hO (w := w) (c := (k : Int)) (bI_t (by omega)).symm (or49 ha hp) i1 (by omega) (by omega) (by omega) ?_
          refine A_iload (pc := 115) dX9_line_115 rfl ?_
          refine A_iload_n (pc := 117) dX9_line_117 rfl rfl ?_
          refine A_callS1 (pc := 118) kX9_223 (c_X9_next (by omega) (by omega) w1 w2) dX9_line_118 rfl rfl (Nat.le_of_ble_eq_true rfl) (Nat.le_of_ble_eq_true rfl) ?_
          refine A_istore (pc := 121) dX9_line_121 (Nat.le_of_ble_eq_true rfl) ?_
          refine A_iinc (pc := 123) dX9_line_123 rfl (Nat.le_of_ble_eq_true rfl) ?_
          refine A_goto (pc := 126) 13 dX9_line_126 (by decide) ?_
          refine A_loc (l2 := [(0, _), (2, _), (3, _), (4, _), (5, _), (7, _), (8, _)]) ⟨rfl, rfl, rfl, rfl, rfl, rfl, rfl, trivial⟩ ?_
          refine ih m (by omega) (i + 1) _ _ (by omega) (by omega) (by omega) hr2.1 hr2.2 (or49 (or49 ha hp) (bayB_lt _ _ _ _ _)) ?_
          rw [nm_pos (by omega), lineM_s hcc, ← Nat.or_assoc, ← Nat.or_assoc] at hK
          rw [nm_nx (by omega) (by omega) w1 w2]
          exact hK
        · skip
          refine A_iload_n (pc := 48) dX9_line_48 rfl rfl ?_
          refine A_iconst (pc := 49) dX9_line_49 ?_
          refine A_icmp_ne (pc := 50) 57 dX9_line_50 (by decide) (by omega) (by omega) (by omega) (by omega) (fun h50 => ?_) (fun h50 => ?_)
          · skip
            refine A_iconst (pc := 57) dX9_line_57 ?_
            refine A_istore (pc := 58) dX9_line_58 (Nat.le_of_ble_eq_true rfl) ?_
            refine A_loc (l2 := [(0, _), (2, _), (3, _), (4, _), (5, _), (7, _), (8, _), (9, _)]) ⟨rfl, rfl, rfl, rfl, rfl, rfl, rfl, rfl, trivial⟩ ?_
            refine m_X9_line hM hO (w := w) (c := (k : Int)) (bI_f (by omega)).symm (or49 ha hp) i1 (by omega) (by omega) (by omega) ?_
            refine A_iload (pc := 115) dX9_line_115 rfl ?_
            refine A_iload_n (pc := 117) dX9_line_117 rfl rfl ?_
            refine A_callS1 (pc := 118) kX9_223 (c_X9_next (by omega) (by omega) w1 w2) dX9_line_118 rfl rfl (Nat.le_of_ble_eq_true rfl) (Nat.le_of_ble_eq_true rfl) ?_
            refine A_istore (pc := 121) dX9_line_121 (Nat.le_of_ble_eq_true rfl) ?_
            refine A_iinc (pc := 123) dX9_line_123 rfl (Nat.le_of_ble_eq_true rfl) ?_
            refine A_goto (pc := 126) 13 dX9_line_126 (by decide) ?_
            refine A_loc (l2 := [(0, _), (2, _), (3, _), (4, _), (5, _), (7, _), (8, _)]) ⟨rfl, rfl, rfl, rfl, rfl, rfl, rfl, trivial⟩ ?_
            refine ih m (by omega) (i + 1) _ _ (by omega) (by omega) (by omega) hr2.1 hr2.2 (or49 (or49 ha hp) (bayB_lt _ _ _ _ _)) ?_
            rw [nm_pos (by omega), lineM_s hcc, ← Nat.or_assoc, ← Nat.or_assoc] at hK
            rw [nm_nx (by omega) (by omega) w1 w2]
            exact hK
          · skip
            refine A_iconst (pc := 53) dX9_line_53 ?_
            refine A_goto (pc := 54) 58 dX9_line_54 (by decide) ?_
            refine A_istore (pc := 58) dX9_line_58 (Nat.le_of_ble_eq_true rfl) ?_
            refine A_loc (l2 := [(0, _), (2, _), (3, _), (4, _), (5, _), (7, _), (8, _), (9, _)]) ⟨rfl, rfl, rfl, rfl, rfl, rfl, rfl, rfl, trivial⟩ ?_
            refine m_X9_line hM hO (w := w) (c := (k : Int)) (bI_t (by omega)).symm (or49 ha hp) i1 (by omega) (by omega) (by omega) ?_
            refine A_iload (pc := 115) dX9_line_115 rfl ?_
            refine A_iload_n (pc := 117) dX9_line_117 rfl rfl ?_
            refine A_callS1 (pc := 118) kX9_223 (c_X9_next (by omega) (by omega) w1 w2) dX9_line_118 rfl rfl (Nat.le_of_ble_eq_true rfl) (Nat.le_of_ble_eq_true rfl) ?_
            refine A_istore (pc := 121) dX9_line_121 (Nat.le_of_ble_eq_true rfl) ?_
            refine A_iinc (pc := 123) dX9_line_123 rfl (Nat.le_of_ble_eq_true rfl) ?_
            refine A_goto (pc := 126) 13 dX9_line_126 (by decide) ?_
            refine A_loc (l2 := [(0, _), (2, _), (3, _), (4, _), (5, _), (7, _), (8, _)]) ⟨rfl, rfl, rfl, rfl, rfl, rfl, rfl, trivial⟩ ?_
            refine ih m (by omega) (i + 1) _ _ (by omega) (by omega) (by omega) hr2.1 hr2.2 (or49 (or49 ha hp) (bayB_lt _ _ _ _ _)) ?_
            rw [nm_pos (by omega), lineM_s hcc, ← Nat.or_assoc, ← Nat.or_assoc] at hK
            rw [nm_nx (by omega) (by omega) w1 w2]
            exact hK
set_option maxRecDepth 20000 in
theorem c_X9_line {G : Gl} {d : Nat} {σ : Sg} {τ : Tw} (hM : RMt τ σ) (hO : OkT τ) {f w r : Int} (f1 : 0 ≤ f) (f2 : f ≤ 48) (w1 : 0 ≤ w) (w2 : w ≤ 3) (r1 : -2147483648 ≤ r) (r2 : r < 2147483648) {b : Bool} : CT G (d + 4) yX9_line cX9_line 10 (some .long) [.ref (gA G 54), .int (iI f), .int (iI w), .int (iI r), .int (iI (bI (b = true)))] σ (R1 (.long (lN (if b = true then wideX τ.1 f w r else lineX τ.1 f w r))) σ) := by
  refine CT.of (by decide +kernel) (Nat.le_of_ble_eq_true rfl) ?_
  change AW G _ RX9 _ _ _ 0 [(0, .ref (gA G 54)), (1, .int (iI f)), (2, .int (iI w)), (3, .int (iI r)), (4, .int (iI (bI (b = true))))] [] _ _
  have hO2 := hO
  obtain ⟨o1, o2, o3, o4, o5, o6, o7, o8, o9⟩ := hO2
  have p0 := hM.2.1
  have p1 := hM.2.2.1
  have p2 : σ.1 63 0 = τ.2.1 2 := hM.2.2.2.1 0 (by decide)
  have hr2 := nx_rng (w := w) f1 f2
  refine A_lconst (pc := 0) 0 dX9_line_0 rfl ?_
  refine A_lstore (pc := 1) dX9_line_1 (Nat.le_of_ble_eq_true rfl) ?_
  refine A_iload_n (pc := 3) dX9_line_3 rfl rfl ?_
  refine A_iload_n (pc := 4) dX9_line_4 rfl rfl ?_
  refine A_callS1 (pc := 5) kX9_223 (c_X9_next f1 f2 w1 w2) dX9_line_5 rfl rfl (Nat.le_of_ble_eq_true rfl) (Nat.le_of_ble_eq_true rfl) ?_
  refine A_istore (pc := 8) dX9_line_8 (Nat.le_of_ble_eq_true rfl) ?_
  refine A_iconst (pc := 10) dX9_line_10 ?_
  refine A_istore (pc := 11) dX9_line_11 (Nat.le_of_ble_eq_true rfl) ?_
  refine A_loc (l2 := [(0, _), (2, _), (3, _), (4, _), (5, _), (7, _), (8, _)]) ⟨rfl, rfl, rfl, rfl, rfl, rfl, rfl, trivial⟩ ?_
  refine l_X9_line hM hO w1 w2 r1 r2 r.toNat 0 _ 0 (by omega) (by omega) (by omega) hr2.1 hr2.2 (by decide) ⟨?_, rfl⟩
  rw [Nat.zero_or, nm_nx f1 f2 w1 w2]
  cases b with
  | true => rw [lineM_wide w1 w2]; rfl
  | false => rw [lineM_plain _ _ _ _ _ _ (Or.inl rfl)]; rfl
end
section
/-! PART 17: the reference: what is seen, who looks in -/
/-- all bits of the next n -/
def orN (f : Nat → Nat) : Nat → Nat → Nat
  | 0, _ => 0
  | n + 1, i => f i ||| orN f n (i + 1)
theorem orN_lt {f : Nat → Nat} {m : Nat} (hf : ∀ k, f k < 2 ^ m) : ∀ n i, orN f n i < 2 ^ m
  | 0, _ => Nat.two_pow_pos _
  | n + 1, i => Nat.or_lt_two_pow (hf i) (orN_lt hf n (i + 1))
/-- the panes that see a square, all that is seen, if the houses are b -/
def seen (τ : Tw) (b : Nat) (s : Int) : Nat := orR (fun p => decide (sT (seeB τ b p) s)) (τ.2.1 0).toNat 0
def allB (τ : Tw) (b : Nat) : Nat := orN (seeB τ b) (τ.2.1 0).toNat 0
theorem allB_lt (τ : Tw) (b : Nat) : allB τ b < 2 ^ 49 := orN_lt (seeB_lt τ b) _ _
theorem seen_lt {τ : Tw} (h : OkT τ) (b : Nat) (s : Int) : seen τ b s < 512 := orR_lt (m := 9) (by obtain ⟨-, h2, h3, -⟩ := h; omega)
theorem dX9_sees_0 : decode cX9_sees 0 = .ok (.aload_n 0, 1) := by decide +kernel
theorem dX9_sees_1 : decode cX9_sees 1 = .ok (.getfield 7, 3) := by decide +kernel
theorem dX9_sees_4 : decode cX9_sees 4 = .ok (.iload_n 1, 1) := by decide +kernel
theorem dX9_sees_5 : decode cX9_sees 5 = .ok (.iaload, 1) := by decide +kernel
theorem dX9_sees_6 : decode cX9_sees 6 = .ok (.tableswitch 91 2 6 #[34, 91, 36, 60, 34], 34) := by decide +kernel
theorem dX9_sees_40 : decode cX9_sees 40 = .ok (.lconst 0, 1) := by decide +kernel
theorem dX9_sees_41 : decode cX9_sees 41 = .ok (.lreturn, 1) := by decide +kernel
theorem dX9_sees_42 : decode cX9_sees 42 = .ok (.aload_n 0, 1) := by decide +kernel
theorem dX9_sees_43 : decode cX9_sees 43 = .ok (.aload_n 0, 1) := by decide +kernel
theorem dX9_sees_44 : decode cX9_sees 44 = .ok (.getfield 16, 3) := by decide +kernel
theorem dX9_sees_47 : decode cX9_sees 47 = .ok (.iload_n 1, 1) := by decide +kernel
theorem dX9_sees_48 : decode cX9_sees 48 = .ok (.iaload, 1) := by decide +kernel
theorem dX9_sees_49 : decode cX9_sees 49 = .ok (.aload_n 0, 1) := by decide +kernel
theorem dX9_sees_50 : decode cX9_sees 50 = .ok (.getfield 19, 3) := by decide +kernel
theorem dX9_sees_53 : decode cX9_sees 53 = .ok (.iload_n 1, 1) := by decide +kernel
theorem dX9_sees_54 : decode cX9_sees 54 = .ok (.iaload, 1) := by decide +kernel
theorem dX9_sees_55 : decode cX9_sees 55 = .ok (.aload_n 0, 1) := by decide +kernel
theorem dX9_sees_56 : decode cX9_sees 56 = .ok (.getfield 35, 3) := by decide +kernel
theorem dX9_sees_59 : decode cX9_sees 59 = .ok (.iconst 0, 1) := by decide +kernel
theorem dX9_sees_60 : decode cX9_sees 60 = .ok (.iaload, 1) := by decide +kernel
theorem dX9_sees_61 : decode cX9_sees 61 = .ok (.iconst 1, 1) := by decide +kernel
theorem dX9_sees_62 : decode cX9_sees 62 = .ok (.invokevirtual 229, 3) := by decide +kernel
theorem dX9_sees_65 : decode cX9_sees 65 = .ok (.lreturn, 1) := by decide +kernel
theorem dX9_sees_66 : decode cX9_sees 66 = .ok (.aload_n 0, 1) := by decide +kernel
theorem dX9_sees_67 : decode cX9_sees 67 = .ok (.aload_n 0, 1) := by decide +kernel
theorem dX9_sees_68 : decode cX9_sees 68 = .ok (.getfield 16, 3) := by decide +kernel
theorem dX9_sees_71 : decode cX9_sees 71 = .ok (.iload_n 1, 1) := by decide +kernel
theorem dX9_sees_72 : decode cX9_sees 72 = .ok (.iaload, 1) := by decide +kernel
theorem dX9_sees_73 : decode cX9_sees 73 = .ok (.aload_n 0, 1) := by decide +kernel
theorem dX9_sees_74 : decode cX9_sees 74 = .ok (.getfield 19, 3) := by decide +kernel
theorem dX9_sees_77 : decode cX9_sees 77 = .ok (.iload_n 1, 1) := by decide +kernel
theorem dX9_sees_78 : decode cX9_sees 78 = .ok (.iaload, 1) := by decide +kernel
theorem dX9_sees_79 : decode cX9_sees 79 = .ok (.aload_n 0, 1) := by decide +kernel
theorem dX9_sees_80 : decode cX9_sees 80 = .ok (.getfield 35, 3) := by decide +kernel
theorem dX9_sees_83 : decode cX9_sees 83 = .ok (.iconst 0, 1) := by decide +kernel
theorem dX9_sees_84 : decode cX9_sees 84 = .ok (.iaload, 1) := by decide +kernel
theorem dX9_sees_85 : decode cX9_sees 85 = .ok (.aload_n 0, 1) := by decide +kernel
theorem dX9_sees_86 : decode cX9_sees 86 = .ok (.getfield 13, 3) := by decide +kernel
theorem dX9_sees_89 : decode cX9_sees 89 = .ok (.iload_n 1, 1) := by decide +kernel
theorem dX9_sees_90 : decode cX9_sees 90 = .ok (.iaload, 1) := by decide +kernel
theorem dX9_sees_91 : decode cX9_sees 91 = .ok (.iadd, 1) := by decide +kernel
theorem dX9_sees_92 : decode cX9_sees 92 = .ok (.iconst 1, 1) := by decide +kernel
theorem dX9_sees_93 : decode cX9_sees 93 = .ok (.invokevirtual 229, 3) := by decide +kernel
theorem dX9_sees_96 : decode cX9_sees 96 = .ok (.lreturn, 1) := by decide +kernel
theorem dX9_sees_97 : decode cX9_sees 97 = .ok (.aload_n 0, 1) := by decide +kernel
theorem dX9_sees_98 : decode cX9_sees 98 = .ok (.aload_n 0, 1) := by decide +kernel
theorem dX9_sees_99 : decode cX9_sees 99 = .ok (.getfield 16, 3) := by decide +kernel
theorem dX9_sees_102 : decode cX9_sees 102 = .ok (.iload_n 1, 1) := by decide +kernel
theorem dX9_sees_103 : decode cX9_sees 103 = .ok (.iaload, 1) := by decide +kernel
theorem dX9_sees_104 : decode cX9_sees 104 = .ok (.aload_n 0, 1) := by decide +kernel
theorem dX9_sees_105 : decode cX9_sees 105 = .ok (.getfield 19, 3) := by decide +kernel
theorem dX9_sees_108 : decode cX9_sees 108 = .ok (.iload_n 1, 1) := by decide +kernel
theorem dX9_sees_109 : decode cX9_sees 109 = .ok (.iaload, 1) := by decide +kernel
theorem dX9_sees_110 : decode cX9_sees 110 = .ok (.aload_n 0, 1) := by decide +kernel
theorem dX9_sees_111 : decode cX9_sees 111 = .ok (.getfield 35, 3) := by decide +kernel
theorem dX9_sees_114 : decode cX9_sees 114 = .ok (.iconst 0, 1) := by decide +kernel
theorem dX9_sees_115 : decode cX9_sees 115 = .ok (.iaload, 1) := by decide +kernel
theorem dX9_sees_116 : decode cX9_sees 116 = .ok (.iconst 0, 1) := by decide +kernel
theorem dX9_sees_117 : decode cX9_sees 117 = .ok (.invokevirtual 229, 3) := by decide +kernel
theorem dX9_sees_120 : decode cX9_sees 120 = .ok (.lreturn, 1) := by decide +kernel
set_option maxRecDepth 20000 in
theorem c_X9_sees {G : Gl} {d : Nat} {σ : Sg} {τ : Tw} (hM : RMt τ σ) (hO : OkT τ) {p : Nat} (hp : (p : Int) < τ.2.1 0) : CT G (d + 5) yX9_sees cX9_sees 2 (some .long) [.ref (gA G 54), .int (iI (p : Int))] σ (R1 (.long (lN (seeB τ τ.1 p))) σ) := by
  refine CT.of (by decide +kernel) (Nat.le_of_ble_eq_true rfl) ?_
  change AW G _ RX9 _ _ _ 0 [(0, .ref (gA G 54)), (1, .int (iI (p : Int)))] [] _ _
  have hO2 := hO
  obtain ⟨o1, o2, o3, o4, o5, o6, o7, o8, o9⟩ := hO2
  have p0 := hM.2.1
  have p1 := hM.2.2.1
  have p2 : σ.1 63 0 = τ.2.1 2 := hM.2.2.2.1 0 (by decide)
  have q8 := o8 p hp
  refine A_aload_n (pc := 0) dX9_sees_0 rfl rfl ?_
  refine A_getR (pc := 1) fX9_7 rfl rfl dX9_sees_1 ?_
  refine A_iload_n (pc := 4) dX9_sees_4 rfl rfl ?_
  refine A_ialdv (pc := 5) _ rfl rfl (by omega) (Nat.le_of_ble_eq_true rfl) (hM.kind (by omega)) dX9_sees_5 ?_
  refine A_tsw (pc := 6) [(2, 40), (3, 97), (4, 42), (5, 66), (6, 40)] 97 dX9_sees_6 (by decide) (by decide) (by decide) (by omega) (by omega) ?_
  refine ⟨fun h6 => ?_, fun h6n2 => ?_⟩
  · skip
    refine A_lconst (pc := 40) 0 dX9_sees_40 rfl ?_
    refine A_lret (pc := 41) rfl dX9_sees_41 ?_
    exact ⟨by rw [seeB, if_neg (by omega), if_neg (by omega), if_neg (by omega)]; rfl, rfl⟩
  refine ⟨fun h6 => ?_, fun h6n3 => ?_⟩
  · skip
    refine A_aload_n (pc := 97) dX9_sees_97 rfl rfl ?_
    refine A_aload_n (pc := 98) dX9_sees_98 rfl rfl ?_
    refine A_getR (pc := 99) fX9_16 rfl rfl dX9_sees_99 ?_
    refine A_iload_n (pc := 102) dX9_sees_102 rfl rfl ?_
    refine A_ialdv (pc := 103) _ rfl rfl (by omega) (Nat.le_of_ble_eq_true rfl) (hM.at (by omega)) dX9_sees_103 ?_
    refine A_aload_n (pc := 104) dX9_sees_104 rfl rfl ?_
    refine A_getR (pc := 105) fX9_19 rfl rfl dX9_sees_105 ?_
    refine A_iload_n (pc := 108) dX9_sees_108 rfl rfl ?_
    refine A_ialdv (pc := 109) _ rfl rfl (by omega) (Nat.le_of_ble_eq_true rfl) (hM.out (by omega)) dX9_sees_109 ?_
    refine A_aload_n (pc := 110) dX9_sees_110 rfl rfl ?_
    refine A_getR (pc := 111) fX9_35 rfl rfl dX9_sees_111 ?_
    refine A_iconst (pc := 114) dX9_sees_114 ?_
    refine A_ialdv (pc := 115) 0 rfl rfl (by decide) (Nat.le_of_ble_eq_true rfl) p2 dX9_sees_115 ?_
    refine A_iconst (pc := 116) dX9_sees_116 ?_
    refine A_callV1 (pc := 117) kX9_229 rfl rfl (c_X9_line hM hO (b := false) (by omega) (by omega) (by omega) (by omega) (by omega) (by omega)) dX9_sees_117 rfl rfl (Nat.le_of_ble_eq_true rfl) (Nat.le_of_ble_eq_true rfl) ?_
    rw [if_neg Bool.false_ne_true]
    refine A_lret (pc := 120) rfl dX9_sees_120 ?_
    exact ⟨by rw [seeB, if_pos (by omega)], rfl⟩
  refine ⟨fun h6 => ?_, fun h6n4 => ?_⟩
  · skip
    refine A_aload_n (pc := 42) dX9_sees_42 rfl rfl ?_
    refine A_aload_n (pc := 43) dX9_sees_43 rfl rfl ?_
    refine A_getR (pc := 44) fX9_16 rfl rfl dX9_sees_44 ?_
    refine A_iload_n (pc := 47) dX9_sees_47 rfl rfl ?_
    refine A_ialdv (pc := 48) _ rfl rfl (by omega) (Nat.le_of_ble_eq_true rfl) (hM.at (by omega)) dX9_sees_48 ?_
    refine A_aload_n (pc := 49) dX9_sees_49 rfl rfl ?_
    refine A_getR (pc := 50) fX9_19 rfl rfl dX9_sees_50 ?_
    refine A_iload_n (pc := 53) dX9_sees_53 rfl rfl ?_
    refine A_ialdv (pc := 54) _ rfl rfl (by omega) (Nat.le_of_ble_eq_true rfl) (hM.out (by omega)) dX9_sees_54 ?_
    refine A_aload_n (pc := 55) dX9_sees_55 rfl rfl ?_
    refine A_getR (pc := 56) fX9_35 rfl rfl dX9_sees_56 ?_
    refine A_iconst (pc := 59) dX9_sees_59 ?_
    refine A_ialdv (pc := 60) 0 rfl rfl (by decide) (Nat.le_of_ble_eq_true rfl) p2 dX9_sees_60 ?_
    refine A_iconst (pc := 61) dX9_sees_61 ?_
    refine A_callV1 (pc := 62) kX9_229 rfl rfl (c_X9_line hM hO (b := true) (by omega) (by omega) (by omega) (by omega) (by omega) (by omega)) dX9_sees_62 rfl rfl (Nat.le_of_ble_eq_true rfl) (Nat.le_of_ble_eq_true rfl) ?_
    rw [if_pos rfl]
    refine A_lret (pc := 65) rfl dX9_sees_65 ?_
    exact ⟨by rw [seeB, if_neg (by omega), if_pos (by omega)], rfl⟩
  refine ⟨fun h6 => ?_, fun h6n5 => ?_⟩
  · skip
    refine A_aload_n (pc := 66) dX9_sees_66 rfl rfl ?_
    refine A_aload_n (pc := 67) dX9_sees_67 rfl rfl ?_
    refine A_getR (pc := 68) fX9_16 rfl rfl dX9_sees_68 ?_
    refine A_iload_n (pc := 71) dX9_sees_71 rfl rfl ?_
    refine A_ialdv (pc := 72) _ rfl rfl (by omega) (Nat.le_of_ble_eq_true rfl) (hM.at (by omega)) dX9_sees_72 ?_
    refine A_aload_n (pc := 73) dX9_sees_73 rfl rfl ?_
    refine A_getR (pc := 74) fX9_19 rfl rfl dX9_sees_74 ?_
    refine A_iload_n (pc := 77) dX9_sees_77 rfl rfl ?_
    refine A_ialdv (pc := 78) _ rfl rfl (by omega) (Nat.le_of_ble_eq_true rfl) (hM.out (by omega)) dX9_sees_78 ?_
    refine A_aload_n (pc := 79) dX9_sees_79 rfl rfl ?_
    refine A_getR (pc := 80) fX9_35 rfl rfl dX9_sees_80 ?_
    refine A_iconst (pc := 83) dX9_sees_83 ?_
    refine A_ialdv (pc := 84) 0 rfl rfl (by decide) (Nat.le_of_ble_eq_true rfl) p2 dX9_sees_84 ?_
    refine A_aload_n (pc := 85) dX9_sees_85 rfl rfl ?_
    refine A_getR (pc := 86) fX9_13 rfl rfl dX9_sees_86 ?_
    refine A_iload_n (pc := 89) dX9_sees_89 rfl rfl ?_
    refine A_ialdv (pc := 90) _ rfl rfl (by omega) (Nat.le_of_ble_eq_true rfl) (hM.a (by omega)) dX9_sees_90 ?_
    refine A_iadd (pc := 91) dX9_sees_91 ?_
    refine A_iconst (pc := 92) dX9_sees_92 ?_
    refine A_callV1 (pc := 93) kX9_229 rfl rfl (c_X9_line hM hO (b := true) (by omega) (by omega) (by omega) (by omega) (by omega) (by omega)) dX9_sees_93 rfl rfl (Nat.le_of_ble_eq_true rfl) (Nat.le_of_ble_eq_true rfl) ?_
    rw [if_pos rfl]
    refine A_lret (pc := 96) rfl dX9_sees_96 ?_
    exact ⟨by rw [seeB, if_neg (by omega), if_neg (by omega), if_pos (by omega)], rfl⟩
  refine ⟨fun h6 => ?_, fun h6n6 => ?_⟩
  · skip
    refine A_lconst (pc := 40) 0 dX9_sees_40 rfl ?_
    refine A_lret (pc := 41) rfl dX9_sees_41 ?_
    exact ⟨by rw [seeB, if_neg (by omega), if_neg (by omega), if_neg (by omega)]; rfl, rfl⟩
  change AW G _ _ _ _ _ 97 _ _ _ _
  refine A_aload_n (pc := 97) dX9_sees_97 rfl rfl ?_
  refine A_aload_n (pc := 98) dX9_sees_98 rfl rfl ?_
  refine A_getR (pc := 99) fX9_16 rfl rfl dX9_sees_99 ?_
  refine A_iload_n (pc := 102) dX9_sees_102 rfl rfl ?_
  refine A_ialdv (pc := 103) _ rfl rfl (by omega) (Nat.le_of_ble_eq_true rfl) (hM.at (by omega)) dX9_sees_103 ?_
  refine A_aload_n (pc := 104) dX9_sees_104 rfl rfl ?_
  refine A_getR (pc := 105) fX9_19 rfl rfl dX9_sees_105 ?_
  refine A_iload_n (pc := 108) dX9_sees_108 rfl rfl ?_
  refine A_ialdv (pc := 109) _ rfl rfl (by omega) (Nat.le_of_ble_eq_true rfl) (hM.out (by omega)) dX9_sees_109 ?_
  refine A_aload_n (pc := 110) dX9_sees_110 rfl rfl ?_
  refine A_getR (pc := 111) fX9_35 rfl rfl dX9_sees_111 ?_
  refine A_iconst (pc := 114) dX9_sees_114 ?_
  refine A_ialdv (pc := 115) 0 rfl rfl (by decide) (Nat.le_of_ble_eq_true rfl) p2 dX9_sees_115 ?_
  refine A_iconst (pc := 116) dX9_sees_116 ?_
  refine A_callV1 (pc := 117) kX9_229 rfl rfl (c_X9_line hM hO (b := false) (by omega) (by omega) (by omega) (by omega) (by omega) (by omega)) dX9_sees_117 rfl rfl (Nat.le_of_ble_eq_true rfl) (Nat.le_of_ble_eq_true rfl) ?_
  rw [if_neg Bool.false_ne_true]
  refine A_lret (pc := 120) rfl dX9_sees_120 ?_
  exact ⟨by rw [seeB, if_pos (by omega)], rfl⟩
theorem dX9_inSight_0 : decode cX9_inSight 0 = .ok (.iconst 0, 1) := by decide +kernel
theorem dX9_inSight_1 : decode cX9_inSight 1 = .ok (.istore_n 3, 1) := by decide +kernel
theorem dX9_inSight_2 : decode cX9_inSight 2 = .ok (.iconst 0, 1) := by decide +kernel
theorem dX9_inSight_3 : decode cX9_inSight 3 = .ok (.istore 4, 2) := by decide +kernel
theorem dX9_inSight_5 : decode cX9_inSight 5 = .ok (.iload 4, 2) := by decide +kernel
theorem dX9_inSight_7 : decode cX9_inSight 7 = .ok (.aload_n 0, 1) := by decide +kernel
theorem dX9_inSight_8 : decode cX9_inSight 8 = .ok (.getfield 90, 3) := by decide +kernel
theorem dX9_inSight_11 : decode cX9_inSight 11 = .ok (.if_icmp .ge 32, 3) := by decide +kernel
theorem dX9_inSight_14 : decode cX9_inSight 14 = .ok (.lload_n 1, 1) := by decide +kernel
theorem dX9_inSight_15 : decode cX9_inSight 15 = .ok (.aload_n 0, 1) := by decide +kernel
theorem dX9_inSight_16 : decode cX9_inSight 16 = .ok (.getfield 22, 3) := by decide +kernel
theorem dX9_inSight_19 : decode cX9_inSight 19 = .ok (.iload 4, 2) := by decide +kernel
theorem dX9_inSight_21 : decode cX9_inSight 21 = .ok (.iaload, 1) := by decide +kernel
theorem dX9_inSight_22 : decode cX9_inSight 22 = .ok (.lshr, 1) := by decide +kernel
theorem dX9_inSight_23 : decode cX9_inSight 23 = .ok (.lconst 1, 1) := by decide +kernel
theorem dX9_inSight_24 : decode cX9_inSight 24 = .ok (.land, 1) := by decide +kernel
theorem dX9_inSight_25 : decode cX9_inSight 25 = .ok (.lconst 1, 1) := by decide +kernel
theorem dX9_inSight_26 : decode cX9_inSight 26 = .ok (.lcmp, 1) := by decide +kernel
theorem dX9_inSight_27 : decode cX9_inSight 27 = .ok (.ifCond .ne 10, 3) := by decide +kernel
theorem dX9_inSight_30 : decode cX9_inSight 30 = .ok (.iload_n 3, 1) := by decide +kernel
theorem dX9_inSight_31 : decode cX9_inSight 31 = .ok (.iconst 1, 1) := by decide +kernel
theorem dX9_inSight_32 : decode cX9_inSight 32 = .ok (.iload 4, 2) := by decide +kernel
theorem dX9_inSight_34 : decode cX9_inSight 34 = .ok (.ishl, 1) := by decide +kernel
theorem dX9_inSight_35 : decode cX9_inSight 35 = .ok (.ior, 1) := by decide +kernel
theorem dX9_inSight_36 : decode cX9_inSight 36 = .ok (.istore_n 3, 1) := by decide +kernel
theorem dX9_inSight_37 : decode cX9_inSight 37 = .ok (.iinc 4 1, 3) := by decide +kernel
theorem dX9_inSight_40 : decode cX9_inSight 40 = .ok (.goto (-35), 3) := by decide +kernel
theorem dX9_inSight_43 : decode cX9_inSight 43 = .ok (.iload_n 3, 1) := by decide +kernel
theorem dX9_inSight_44 : decode cX9_inSight 44 = .ok (.ireturn, 1) := by decide +kernel
set_option maxRecDepth 20000 in
theorem l_X9_inSight {G : Gl} {d : Nat} {σ : Sg} {K : Option Value → Sg → Prop} {τ : Tw} (hM : RMt τ σ) (hO : OkT τ) {b : Nat} (hb : b < 2 ^ 49) : ∀ (n i acc : Nat), (i : Int) + n = τ.2.1 1 → K (some (.int (iI ((acc ||| orR (fun w => decide (sT b (τ.2.2 4 w))) n i : Nat) : Int)))) σ → AW G d RX9 cX9_inSight 5 (some .int) 5 [(0, .ref (gA G 54)), (1, .long (lN b)), (3, .int (iI (acc : Int))), (4, .int (iI (i : Int)))] [] σ K := by
  intro n
  induction n using Nat.strongRecOn
  rename_i n ih
  intro i acc hn hK
  have hO2 := hO
  obtain ⟨o1, o2, o3, o4, o5, o6, o7, o8, o9⟩ := hO2
  have p0 := hM.2.1
  have p1 := hM.2.2.1
  have p2 : σ.1 63 0 = τ.2.1 2 := hM.2.2.2.1 0 (by decide)
  refine A_iload (pc := 5) dX9_inSight_5 rfl ?_
  refine A_aload_n (pc := 7) dX9_inSight_7 rfl rfl ?_
  refine A_getIv (pc := 8) fX9_90 rfl rfl p1 dX9_inSight_8 ?_
  refine A_icmp_ge (pc := 11) 43 dX9_inSight_11 (by decide) (by omega) (by omega) (by omega) (by omega) (fun h11 => ?_) (fun h11 => ?_)
  · skip
    refine A_iload_n (pc := 43) dX9_inSight_43 rfl rfl ?_
    refine A_iret (pc := 44) rfl dX9_inSight_44 ?_
    have hn0 : n = 0 := by omega
    subst hn0
    rw [orR, Nat.or_zero] at hK
    exact hK
  · skip
    have q9 := o9 i (by omega)
    obtain ⟨k, hk⟩ := Int.eq_ofNat_of_zero_le q9.1
    have hkb : k < 49 := by omega
    have es : sT b (τ.2.2 4 i) ↔ b.testBit k = true := by rw [hk]; exact sT_k hkb
    refine A_lload_n (pc := 14) dX9_inSight_14 rfl rfl ?_
    refine A_aload_n (pc := 15) dX9_inSight_15 rfl rfl ?_
    refine A_getR (pc := 16) fX9_22 rfl rfl dX9_inSight_16 ?_
    refine A_iload (pc := 19) dX9_inSight_19 rfl ?_
    refine A_ialdv (pc := 21) _ rfl rfl (by omega) (Nat.le_of_ble_eq_true rfl) (hM.wat (by omega)) dX9_inSight_21 ?_
    rw [hk]
    refine A_lshr (pc := 22) (lN (b / 2 ^ k)) dX9_inSight_22 (shrS_L hb (by omega)) ?_
    refine A_lconst (pc := 23) 1 dX9_inSight_23 rfl ?_
    refine A_land (pc := 24) dX9_inSight_24 ?_
    refine A_lconst (pc := 25) 1 dX9_inSight_25 rfl ?_
    refine A_lcmp (pc := 26) dX9_inSight_26 ?_
    rw [lcm_bit1 hb]
    have hbr := bI_rng (b.testBit k = true)
    refine A_if_ne (pc := 27) 37 dX9_inSight_27 (by decide) (by omega) (by omega) (fun h27 => ?_) (fun h27 => ?_)
    · skip
      refine A_iinc (pc := 37) dX9_inSight_37 rfl (Nat.le_of_ble_eq_true rfl) ?_
      refine A_goto (pc := 40) 5 dX9_inSight_40 (by decide) ?_
      obtain ⟨m, rfl⟩ : ∃ m, n = m + 1 := ⟨n - 1, by omega⟩
      refine A_loc (l2 := [(0, _), (1, _), (3, _), (4, _)]) ⟨rfl, rfl, rfl, rfl, trivial⟩ ?_
      refine ih m (by omega) (i + 1) acc (by omega) ?_
      rw [orR, if_neg (by intro q; simp only [decide_eq_true_eq] at q; exact bI_m1n h27 (es.mp q)), Nat.zero_or] at hK
      exact hK
    · skip
      refine A_iload_n (pc := 30) dX9_inSight_30 rfl rfl ?_
      refine A_iconst (pc := 31) dX9_inSight_31 ?_
      refine A_iload (pc := 32) dX9_inSight_32 rfl ?_
      refine A_ishl (pc := 34) ((2 ^ i : Nat) : Int) dX9_inSight_34 (shl_I (by omega)) ?_
      refine A_ior (pc := 35) ((acc ||| 2 ^ i : Nat) : Int) dX9_inSight_35 (or_I acc (2 ^ i)) ?_
      refine A_istore_n (pc := 36) dX9_inSight_36 rfl (Nat.le_of_ble_eq_true rfl) ?_
      refine A_iinc (pc := 37) dX9_inSight_37 rfl (Nat.le_of_ble_eq_true rfl) ?_
      refine A_goto (pc := 40) 5 dX9_inSight_40 (by decide) ?_
      obtain ⟨m, rfl⟩ : ∃ m, n = m + 1 := ⟨n - 1, by omega⟩
      refine A_loc (l2 := [(0, _), (1, _), (3, _), (4, _)]) ⟨rfl, rfl, rfl, rfl, trivial⟩ ?_
      refine ih m (by omega) (i + 1) (acc ||| 2 ^ i) (by omega) ?_
      rw [orR, if_pos (by simp only [decide_eq_true_eq]; exact es.mpr (bI_m1 h27)), ← Nat.or_assoc] at hK
      exact hK
set_option maxRecDepth 20000 in
theorem c_X9_inSight {G : Gl} {d : Nat} {σ : Sg} {τ : Tw} (hM : RMt τ σ) (hO : OkT τ) {b : Nat} (hb : b < 2 ^ 49) : CT G d yX9_inSight cX9_inSight 5 (some .int) [.ref (gA G 54), .long (lN b)] σ (R1 (.int (iI ((wIn τ b : Nat) : Int))) σ) := by
  refine CT.of (by decide +kernel) (Nat.le_of_ble_eq_true rfl) ?_
  change AW G _ RX9 _ _ _ 0 [(0, .ref (gA G 54)), (1, .long (lN b))] [] _ _
  have hO2 := hO
  obtain ⟨o1, o2, o3, o4, o5, o6, o7, o8, o9⟩ := hO2
  have p0 := hM.2.1
  have p1 := hM.2.2.1
  have p2 : σ.1 63 0 = τ.2.1 2 := hM.2.2.2.1 0 (by decide)
  refine A_iconst (pc := 0) dX9_inSight_0 ?_
  refine A_istore_n (pc := 1) dX9_inSight_1 rfl (Nat.le_of_ble_eq_true rfl) ?_
  refine A_iconst (pc := 2) dX9_inSight_2 ?_
  refine A_istore (pc := 3) dX9_inSight_3 (Nat.le_of_ble_eq_true rfl) ?_
  refine A_loc (l2 := [(0, _), (1, _), (3, _), (4, _)]) ⟨rfl, rfl, rfl, rfl, trivial⟩ ?_
  exact l_X9_inSight hM hO hb (τ.2.1 1).toNat 0 0 (by omega) ⟨by rw [Nat.zero_or]; rfl, rfl⟩
theorem dX9_seenBy_0 : decode cX9_seenBy 0 = .ok (.iconst 0, 1) := by decide +kernel
theorem dX9_seenBy_1 : decode cX9_seenBy 1 = .ok (.istore_n 2, 1) := by decide +kernel
theorem dX9_seenBy_2 : decode cX9_seenBy 2 = .ok (.iconst 0, 1) := by decide +kernel
theorem dX9_seenBy_3 : decode cX9_seenBy 3 = .ok (.istore_n 3, 1) := by decide +kernel
theorem dX9_seenBy_4 : decode cX9_seenBy 4 = .ok (.iload_n 3, 1) := by decide +kernel
theorem dX9_seenBy_5 : decode cX9_seenBy 5 = .ok (.aload_n 0, 1) := by decide +kernel
theorem dX9_seenBy_6 : decode cX9_seenBy 6 = .ok (.getfield 83, 3) := by decide +kernel
theorem dX9_seenBy_9 : decode cX9_seenBy 9 = .ok (.if_icmp .ge 29, 3) := by decide +kernel
theorem dX9_seenBy_12 : decode cX9_seenBy 12 = .ok (.aload_n 0, 1) := by decide +kernel
theorem dX9_seenBy_13 : decode cX9_seenBy 13 = .ok (.iload_n 3, 1) := by decide +kernel
theorem dX9_seenBy_14 : decode cX9_seenBy 14 = .ok (.invokevirtual 113, 3) := by decide +kernel
theorem dX9_seenBy_17 : decode cX9_seenBy 17 = .ok (.iload_n 1, 1) := by decide +kernel
theorem dX9_seenBy_18 : decode cX9_seenBy 18 = .ok (.lshr, 1) := by decide +kernel
theorem dX9_seenBy_19 : decode cX9_seenBy 19 = .ok (.lconst 1, 1) := by decide +kernel
theorem dX9_seenBy_20 : decode cX9_seenBy 20 = .ok (.land, 1) := by decide +kernel
theorem dX9_seenBy_21 : decode cX9_seenBy 21 = .ok (.lconst 1, 1) := by decide +kernel
theorem dX9_seenBy_22 : decode cX9_seenBy 22 = .ok (.lcmp, 1) := by decide +kernel
theorem dX9_seenBy_23 : decode cX9_seenBy 23 = .ok (.ifCond .ne 9, 3) := by decide +kernel
theorem dX9_seenBy_26 : decode cX9_seenBy 26 = .ok (.iload_n 2, 1) := by decide +kernel
theorem dX9_seenBy_27 : decode cX9_seenBy 27 = .ok (.iconst 1, 1) := by decide +kernel
theorem dX9_seenBy_28 : decode cX9_seenBy 28 = .ok (.iload_n 3, 1) := by decide +kernel
theorem dX9_seenBy_29 : decode cX9_seenBy 29 = .ok (.ishl, 1) := by decide +kernel
theorem dX9_seenBy_30 : decode cX9_seenBy 30 = .ok (.ior, 1) := by decide +kernel
theorem dX9_seenBy_31 : decode cX9_seenBy 31 = .ok (.istore_n 2, 1) := by decide +kernel
theorem dX9_seenBy_32 : decode cX9_seenBy 32 = .ok (.iinc 3 1, 3) := by decide +kernel
theorem dX9_seenBy_35 : decode cX9_seenBy 35 = .ok (.goto (-31), 3) := by decide +kernel
theorem dX9_seenBy_38 : decode cX9_seenBy 38 = .ok (.iload_n 2, 1) := by decide +kernel
theorem dX9_seenBy_39 : decode cX9_seenBy 39 = .ok (.ireturn, 1) := by decide +kernel
set_option maxRecDepth 20000 in
theorem l_X9_seenBy {G : Gl} {d : Nat} {σ : Sg} {K : Option Value → Sg → Prop} {τ : Tw} (hM : RMt τ σ) (hO : OkT τ) {k : Nat} (hk : k < 49) : ∀ (n i acc : Nat), (i : Int) + n = τ.2.1 0 → K (some (.int (iI ((acc ||| orR (fun p => decide (sT (seeB τ τ.1 p) (k : Int))) n i : Nat) : Int)))) σ → AW G (d + 6) RX9 cX9_seenBy 4 (some .int) 4 [(0, .ref (gA G 54)), (1, .int (iI (k : Int))), (2, .int (iI (acc : Int))), (3, .int (iI (i : Int)))] [] σ K := by
  intro n
  induction n using Nat.strongRecOn
  rename_i n ih
  intro i acc hn hK
  have hO2 := hO
  obtain ⟨o1, o2, o3, o4, o5, o6, o7, o8, o9⟩ := hO2
  have p0 := hM.2.1
  have p1 := hM.2.2.1
  have p2 : σ.1 63 0 = τ.2.1 2 := hM.2.2.2.1 0 (by decide)
  refine A_iload_n (pc := 4) dX9_seenBy_4 rfl rfl ?_
  refine A_aload_n (pc := 5) dX9_seenBy_5 rfl rfl ?_
  refine A_getIv (pc := 6) fX9_83 rfl rfl p0 dX9_seenBy_6 ?_
  refine A_icmp_ge (pc := 9) 38 dX9_seenBy_9 (by decide) (by omega) (by omega) (by omega) (by omega) (fun h9 => ?_) (fun h9 => ?_)
  · skip
    refine A_iload_n (pc := 38) dX9_seenBy_38 rfl rfl ?_
    refine A_iret (pc := 39) rfl dX9_seenBy_39 ?_
    have hn0 : n = 0 := by omega
    subst hn0
    rw [orR, Nat.or_zero] at hK
    exact hK
  · skip
    refine A_aload_n (pc := 12) dX9_seenBy_12 rfl rfl ?_
    refine A_iload_n (pc := 13) dX9_seenBy_13 rfl rfl ?_
    refine A_callV1 (pc := 14) kX9_113 rfl rfl (c_X9_sees hM hO (p := i) (by omega)) dX9_seenBy_14 rfl rfl (Nat.le_of_ble_eq_true rfl) (Nat.le_of_ble_eq_true rfl) ?_
    refine A_iload_n (pc := 17) dX9_seenBy_17 rfl rfl ?_
    refine A_lshr (pc := 18) (lN (seeB τ τ.1 i / 2 ^ k)) dX9_seenBy_18 (shrS_L (seeB_lt _ _ _) (by omega)) ?_
    refine A_lconst (pc := 19) 1 dX9_seenBy_19 rfl ?_
    refine A_land (pc := 20) dX9_seenBy_20 ?_
    refine A_lconst (pc := 21) 1 dX9_seenBy_21 rfl ?_
    refine A_lcmp (pc := 22) dX9_seenBy_22 ?_
    rw [lcm_bit1 (seeB_lt _ _ _)]
    have hbr := bI_rng ((seeB τ τ.1 i).testBit k = true)
    refine A_if_ne (pc := 23) 32 dX9_seenBy_23 (by decide) (by omega) (by omega) (fun h23 => ?_) (fun h23 => ?_)
    · skip
      refine A_iinc (pc := 32) dX9_seenBy_32 rfl (Nat.le_of_ble_eq_true rfl) ?_
      refine A_goto (pc := 35) 4 dX9_seenBy_35 (by decide) ?_
      obtain ⟨m, rfl⟩ : ∃ m, n = m + 1 := ⟨n - 1, by omega⟩
      refine A_loc (l2 := [(0, _), (1, _), (2, _), (3, _)]) ⟨rfl, rfl, rfl, rfl, trivial⟩ ?_
      refine ih m (by omega) (i + 1) acc (by omega) ?_
      rw [orR, if_neg (by intro q; simp only [decide_eq_true_eq] at q; exact bI_m1n h23 ((sT_k hk).mp q)), Nat.zero_or] at hK
      exact hK
    · skip
      refine A_iload_n (pc := 26) dX9_seenBy_26 rfl rfl ?_
      refine A_iconst (pc := 27) dX9_seenBy_27 ?_
      refine A_iload_n (pc := 28) dX9_seenBy_28 rfl rfl ?_
      refine A_ishl (pc := 29) ((2 ^ i : Nat) : Int) dX9_seenBy_29 (shl_I (by omega)) ?_
      refine A_ior (pc := 30) ((acc ||| 2 ^ i : Nat) : Int) dX9_seenBy_30 (or_I acc (2 ^ i)) ?_
      refine A_istore_n (pc := 31) dX9_seenBy_31 rfl (Nat.le_of_ble_eq_true rfl) ?_
      refine A_iinc (pc := 32) dX9_seenBy_32 rfl (Nat.le_of_ble_eq_true rfl) ?_
      refine A_goto (pc := 35) 4 dX9_seenBy_35 (by decide) ?_
      obtain ⟨m, rfl⟩ : ∃ m, n = m + 1 := ⟨n - 1, by omega⟩
      refine A_loc (l2 := [(0, _), (1, _), (2, _), (3, _)]) ⟨rfl, rfl, rfl, rfl, trivial⟩ ?_
      refine ih m (by omega) (i + 1) (acc ||| 2 ^ i) (by omega) ?_
      rw [orR, if_pos (by simp only [decide_eq_true_eq]; exact (sT_k hk).mpr (bI_m1 h23)), ← Nat.or_assoc] at hK
      exact hK
set_option maxRecDepth 20000 in
theorem c_X9_seenBy {G : Gl} {d : Nat} {σ : Sg} {τ : Tw} (hM : RMt τ σ) (hO : OkT τ) {k : Nat} (hk : k < 49) : CT G (d + 6) yX9_seenBy cX9_seenBy 4 (some .int) [.ref (gA G 54), .int (iI (k : Int))] σ (R1 (.int (iI ((seen τ τ.1 (k : Int) : Nat) : Int))) σ) := by
  refine CT.of (by decide +kernel) (Nat.le_of_ble_eq_true rfl) ?_
  change AW G _ RX9 _ _ _ 0 [(0, .ref (gA G 54)), (1, .int (iI (k : Int)))] [] _ _
  have hO2 := hO
  obtain ⟨o1, o2, o3, o4, o5, o6, o7, o8, o9⟩ := hO2
  have p0 := hM.2.1
  have p1 := hM.2.2.1
  have p2 : σ.1 63 0 = τ.2.1 2 := hM.2.2.2.1 0 (by decide)
  refine A_iconst (pc := 0) dX9_seenBy_0 ?_
  refine A_istore_n (pc := 1) dX9_seenBy_1 rfl (Nat.le_of_ble_eq_true rfl) ?_
  refine A_iconst (pc := 2) dX9_seenBy_2 ?_
  refine A_istore_n (pc := 3) dX9_seenBy_3 rfl (Nat.le_of_ble_eq_true rfl) ?_
  refine A_loc (l2 := [(0, _), (1, _), (2, _), (3, _)]) ⟨rfl, rfl, rfl, rfl, trivial⟩ ?_
  exact l_X9_seenBy hM hO hk (τ.2.1 0).toNat 0 0 (by omega) ⟨by rw [Nat.zero_or]; rfl, rfl⟩
theorem dX9_allSeen_0 : decode cX9_allSeen 0 = .ok (.lconst 0, 1) := by decide +kernel
theorem dX9_allSeen_1 : decode cX9_allSeen 1 = .ok (.lstore_n 1, 1) := by decide +kernel
theorem dX9_allSeen_2 : decode cX9_allSeen 2 = .ok (.iconst 0, 1) := by decide +kernel
theorem dX9_allSeen_3 : decode cX9_allSeen 3 = .ok (.istore_n 3, 1) := by decide +kernel
theorem dX9_allSeen_4 : decode cX9_allSeen 4 = .ok (.iload_n 3, 1) := by decide +kernel
theorem dX9_allSeen_5 : decode cX9_allSeen 5 = .ok (.aload_n 0, 1) := by decide +kernel
theorem dX9_allSeen_6 : decode cX9_allSeen 6 = .ok (.getfield 83, 3) := by decide +kernel
theorem dX9_allSeen_9 : decode cX9_allSeen 9 = .ok (.if_icmp .ge 17, 3) := by decide +kernel
theorem dX9_allSeen_12 : decode cX9_allSeen 12 = .ok (.lload_n 1, 1) := by decide +kernel
theorem dX9_allSeen_13 : decode cX9_allSeen 13 = .ok (.aload_n 0, 1) := by decide +kernel
theorem dX9_allSeen_14 : decode cX9_allSeen 14 = .ok (.iload_n 3, 1) := by decide +kernel
theorem dX9_allSeen_15 : decode cX9_allSeen 15 = .ok (.invokevirtual 113, 3) := by decide +kernel
theorem dX9_allSeen_18 : decode cX9_allSeen 18 = .ok (.lor, 1) := by decide +kernel
theorem dX9_allSeen_19 : decode cX9_allSeen 19 = .ok (.lstore_n 1, 1) := by decide +kernel
theorem dX9_allSeen_20 : decode cX9_allSeen 20 = .ok (.iinc 3 1, 3) := by decide +kernel
theorem dX9_allSeen_23 : decode cX9_allSeen 23 = .ok (.goto (-19), 3) := by decide +kernel
theorem dX9_allSeen_26 : decode cX9_allSeen 26 = .ok (.lload_n 1, 1) := by decide +kernel
theorem dX9_allSeen_27 : decode cX9_allSeen 27 = .ok (.lreturn, 1) := by decide +kernel
set_option maxRecDepth 20000 in
theorem l_X9_allSeen {G : Gl} {d : Nat} {σ : Sg} {K : Option Value → Sg → Prop} {τ : Tw} (hM : RMt τ σ) (hO : OkT τ) : ∀ (n i acc : Nat), (i : Int) + n = τ.2.1 0 → acc < 2 ^ 49 → K (some (.long (lN (acc ||| orN (seeB τ τ.1) n i)))) σ → AW G (d + 6) RX9 cX9_allSeen 4 (some .long) 4 [(0, .ref (gA G 54)), (1, .long (lN acc)), (3, .int (iI (i : Int)))] [] σ K := by
  intro n
  induction n using Nat.strongRecOn
  rename_i n ih
  intro i acc hn ha hK
  have hO2 := hO
  obtain ⟨o1, o2, o3, o4, o5, o6, o7, o8, o9⟩ := hO2
  have p0 := hM.2.1
  have p1 := hM.2.2.1
  have p2 : σ.1 63 0 = τ.2.1 2 := hM.2.2.2.1 0 (by decide)
  refine A_iload_n (pc := 4) dX9_allSeen_4 rfl rfl ?_
  refine A_aload_n (pc := 5) dX9_allSeen_5 rfl rfl ?_
  refine A_getIv (pc := 6) fX9_83 rfl rfl p0 dX9_allSeen_6 ?_
  refine A_icmp_ge (pc := 9) 26 dX9_allSeen_9 (by decide) (by omega) (by omega) (by omega) (by omega) (fun h9 => ?_) (fun h9 => ?_)
  · skip
    refine A_lload_n (pc := 26) dX9_allSeen_26 rfl rfl ?_
    refine A_lret (pc := 27) rfl dX9_allSeen_27 ?_
    have hn0 : n = 0 := by omega
    subst hn0
    rw [orN, Nat.or_zero] at hK
    exact hK
  · skip
    refine A_lload_n (pc := 12) dX9_allSeen_12 rfl rfl ?_
    refine A_aload_n (pc := 13) dX9_allSeen_13 rfl rfl ?_
    refine A_iload_n (pc := 14) dX9_allSeen_14 rfl rfl ?_
    refine A_callV1 (pc := 15) kX9_113 rfl rfl (c_X9_sees hM hO (p := i) (by omega)) dX9_allSeen_15 rfl rfl (Nat.le_of_ble_eq_true rfl) (Nat.le_of_ble_eq_true rfl) ?_
    refine A_lor (pc := 18) dX9_allSeen_18 ?_
    rw [or_L ha (seeB_lt _ _ _)]
    refine A_lstore_n (pc := 19) dX9_allSeen_19 rfl (Nat.le_of_ble_eq_true rfl) ?_
    refine A_iinc (pc := 20) dX9_allSeen_20 rfl (Nat.le_of_ble_eq_true rfl) ?_
    refine A_goto (pc := 23) 4 dX9_allSeen_23 (by decide) ?_
    obtain ⟨m, rfl⟩ : ∃ m, n = m + 1 := ⟨n - 1, by omega⟩
    refine A_loc (l2 := [(0, _), (1, _), (3, _)]) ⟨rfl, rfl, rfl, trivial⟩ ?_
    refine ih m (by omega) (i + 1) _ (by omega) (or49 ha (seeB_lt _ _ _)) ?_
    rw [orN, ← Nat.or_assoc] at hK
    exact hK
set_option maxRecDepth 20000 in
theorem c_X9_allSeen {G : Gl} {d : Nat} {σ : Sg} {τ : Tw} (hM : RMt τ σ) (hO : OkT τ)  : CT G (d + 6) yX9_allSeen cX9_allSeen 4 (some .long) [.ref (gA G 54)] σ (R1 (.long (lN (allB τ τ.1))) σ) := by
  refine CT.of (by decide +kernel) (Nat.le_of_ble_eq_true rfl) ?_
  change AW G _ RX9 _ _ _ 0 [(0, .ref (gA G 54))] [] _ _
  have hO2 := hO
  obtain ⟨o1, o2, o3, o4, o5, o6, o7, o8, o9⟩ := hO2
  have p0 := hM.2.1
  have p1 := hM.2.2.1
  have p2 : σ.1 63 0 = τ.2.1 2 := hM.2.2.2.1 0 (by decide)
  refine A_lconst (pc := 0) 0 dX9_allSeen_0 rfl ?_
  refine A_lstore_n (pc := 1) dX9_allSeen_1 rfl (Nat.le_of_ble_eq_true rfl) ?_
  refine A_iconst (pc := 2) dX9_allSeen_2 ?_
  refine A_istore_n (pc := 3) dX9_allSeen_3 rfl (Nat.le_of_ble_eq_true rfl) ?_
  refine A_loc (l2 := [(0, _), (1, _), (3, _)]) ⟨rfl, rfl, rfl, trivial⟩ ?_
  exact l_X9_allSeen hM hO (τ.2.1 0).toNat 0 0 (by omega) (by decide) ⟨by rw [Nat.zero_or]; rfl, rfl⟩
/-- what is looked in at, from the square a on, off steps away, n squares in reach still -/
def lookS (τ : Tw) (w : Int) (n : Nat) (a off : Int) : Nat := if n = 0 then 0 else if sT τ.1 a then opens τ a (3 - w) off else lookG τ w (n - 1) a (off + 1)
theorem lookG_neg (τ : Tw) (w : Int) : ∀ (n : Nat) (off : Int), lookG τ w n (-1) off = 0
  | 0, _ => rfl
  | n + 1, off => by
    rw [lookG, bes_out (by decide), if_neg (by intro q; exact absurd q.1 (by decide)), lookG_neg τ w n]
theorem lookS_next (τ : Tw) (w : Int) (n : Nat) (a off : Int) : lookG τ w n a off = lookS τ w n (bes a w) off := by
  unfold lookS
  cases n with
  | zero => rfl
  | succ n =>
    rw [if_neg (Nat.succ_ne_zero n), lookG]
    rfl
theorem lookS_neg (τ : Tw) (w : Int) (n : Nat) (off : Int) : lookS τ w n (-1) off = 0 := by
  unfold lookS
  by_cases h : n = 0
  · rw [if_pos h]
  · rw [if_neg h, if_neg (by intro q; exact absurd q.1 (by decide)), lookG_neg]
theorem lookS_go {τ : Tw} {w : Int} {n : Nat} {a off : Int} (h : ¬ sT τ.1 a) : lookS τ w n a off = lookS τ w (n - 1) (bes a w) (off + 1) := by
  rw [← lookS_next]
  unfold lookS
  by_cases q : n = 0
  · rw [if_pos q, q]; rfl
  · rw [if_neg q, if_neg h]
/-- how far it is to the edge -/
def mu (c w : Int) : Nat := if c < 0 then 0 else (if w = 0 then c / 7 + 1 else if w = 1 then c % 7 + 1 else if w = 2 then 7 - c % 7 else 7 - c / 7).toNat
theorem mu_nx {c w : Int} (h1 : 0 ≤ c) (h2 : c ≤ 48) (w1 : 0 ≤ w) (w2 : w ≤ 3) : mu (nx c w) w < mu c w := by
  have hw : w = 0 ∨ w = 1 ∨ w = 2 ∨ w = 3 := by omega
  unfold mu nx
  rcases hw with rfl | rfl | rfl | rfl <;> (repeat' split) <;> omega
theorem mu_le (c w : Int) (h : c ≤ 48) : mu c w ≤ 7 := by
  unfold mu
  (repeat' split) <;> omega
/-- the reference's panes looked in at, by the square come to -/
def lookM (τ : Tw) (w c off : Int) : Nat → Bool := fun p => decide (0 ≤ c ∧ off ≤ τ.2.1 2 ∧ τ.2.2 2 p = c ∧ τ.2.2 3 p = 3 - w) && lets (τ.2.2 0 p) (τ.2.2 1 p) off
theorem dX9_looksIn_0 : decode cX9_looksIn 0 = .ok (.iload_n 1, 1) := by decide +kernel
theorem dX9_looksIn_1 : decode cX9_looksIn 1 = .ok (.iload_n 2, 1) := by decide +kernel
theorem dX9_looksIn_2 : decode cX9_looksIn 2 = .ok (.invokestatic 223, 3) := by decide +kernel
theorem dX9_looksIn_5 : decode cX9_looksIn 5 = .ok (.istore_n 3, 1) := by decide +kernel
theorem dX9_looksIn_6 : decode cX9_looksIn 6 = .ok (.iconst 1, 1) := by decide +kernel
theorem dX9_looksIn_7 : decode cX9_looksIn 7 = .ok (.istore 4, 2) := by decide +kernel
theorem dX9_looksIn_9 : decode cX9_looksIn 9 = .ok (.iload_n 3, 1) := by decide +kernel
theorem dX9_looksIn_10 : decode cX9_looksIn 10 = .ok (.ifCond .lt 24, 3) := by decide +kernel
theorem dX9_looksIn_13 : decode cX9_looksIn 13 = .ok (.aload_n 0, 1) := by decide +kernel
theorem dX9_looksIn_14 : decode cX9_looksIn 14 = .ok (.getfield 31, 3) := by decide +kernel
theorem dX9_looksIn_17 : decode cX9_looksIn 17 = .ok (.iload_n 3, 1) := by decide +kernel
theorem dX9_looksIn_18 : decode cX9_looksIn 18 = .ok (.baload, 1) := by decide +kernel
theorem dX9_looksIn_19 : decode cX9_looksIn 19 = .ok (.ifCond .ne 15, 3) := by decide +kernel
theorem dX9_looksIn_22 : decode cX9_looksIn 22 = .ok (.iload_n 3, 1) := by decide +kernel
theorem dX9_looksIn_23 : decode cX9_looksIn 23 = .ok (.iload_n 2, 1) := by decide +kernel
theorem dX9_looksIn_24 : decode cX9_looksIn 24 = .ok (.invokestatic 223, 3) := by decide +kernel
theorem dX9_looksIn_27 : decode cX9_looksIn 27 = .ok (.istore_n 3, 1) := by decide +kernel
theorem dX9_looksIn_28 : decode cX9_looksIn 28 = .ok (.iinc 4 1, 3) := by decide +kernel
theorem dX9_looksIn_31 : decode cX9_looksIn 31 = .ok (.goto (-22), 3) := by decide +kernel
theorem dX9_looksIn_34 : decode cX9_looksIn 34 = .ok (.iconst 0, 1) := by decide +kernel
theorem dX9_looksIn_35 : decode cX9_looksIn 35 = .ok (.istore 5, 2) := by decide +kernel
theorem dX9_looksIn_37 : decode cX9_looksIn 37 = .ok (.iconst 0, 1) := by decide +kernel
theorem dX9_looksIn_38 : decode cX9_looksIn 38 = .ok (.istore 6, 2) := by decide +kernel
theorem dX9_looksIn_40 : decode cX9_looksIn 40 = .ok (.iload 6, 2) := by decide +kernel
theorem dX9_looksIn_42 : decode cX9_looksIn 42 = .ok (.aload_n 0, 1) := by decide +kernel
theorem dX9_looksIn_43 : decode cX9_looksIn 43 = .ok (.getfield 83, 3) := by decide +kernel
theorem dX9_looksIn_46 : decode cX9_looksIn 46 = .ok (.if_icmp .ge 116, 3) := by decide +kernel
theorem dX9_looksIn_49 : decode cX9_looksIn 49 = .ok (.iload_n 3, 1) := by decide +kernel
theorem dX9_looksIn_50 : decode cX9_looksIn 50 = .ok (.ifCond .lt 106, 3) := by decide +kernel
theorem dX9_looksIn_53 : decode cX9_looksIn 53 = .ok (.iload 4, 2) := by decide +kernel
theorem dX9_looksIn_55 : decode cX9_looksIn 55 = .ok (.aload_n 0, 1) := by decide +kernel
theorem dX9_looksIn_56 : decode cX9_looksIn 56 = .ok (.getfield 35, 3) := by decide +kernel
theorem dX9_looksIn_59 : decode cX9_looksIn 59 = .ok (.iconst 0, 1) := by decide +kernel
theorem dX9_looksIn_60 : decode cX9_looksIn 60 = .ok (.iaload, 1) := by decide +kernel
theorem dX9_looksIn_61 : decode cX9_looksIn 61 = .ok (.if_icmp .gt 95, 3) := by decide +kernel
theorem dX9_looksIn_64 : decode cX9_looksIn 64 = .ok (.aload_n 0, 1) := by decide +kernel
theorem dX9_looksIn_65 : decode cX9_looksIn 65 = .ok (.getfield 16, 3) := by decide +kernel
theorem dX9_looksIn_68 : decode cX9_looksIn 68 = .ok (.iload 6, 2) := by decide +kernel
theorem dX9_looksIn_70 : decode cX9_looksIn 70 = .ok (.iaload, 1) := by decide +kernel
theorem dX9_looksIn_71 : decode cX9_looksIn 71 = .ok (.iload_n 3, 1) := by decide +kernel
theorem dX9_looksIn_72 : decode cX9_looksIn 72 = .ok (.if_icmp .ne 84, 3) := by decide +kernel
theorem dX9_looksIn_75 : decode cX9_looksIn 75 = .ok (.aload_n 0, 1) := by decide +kernel
theorem dX9_looksIn_76 : decode cX9_looksIn 76 = .ok (.getfield 19, 3) := by decide +kernel
theorem dX9_looksIn_79 : decode cX9_looksIn 79 = .ok (.iload 6, 2) := by decide +kernel
theorem dX9_looksIn_81 : decode cX9_looksIn 81 = .ok (.iaload, 1) := by decide +kernel
theorem dX9_looksIn_82 : decode cX9_looksIn 82 = .ok (.iconst 3, 1) := by decide +kernel
theorem dX9_looksIn_83 : decode cX9_looksIn 83 = .ok (.iload_n 2, 1) := by decide +kernel
theorem dX9_looksIn_84 : decode cX9_looksIn 84 = .ok (.isub, 1) := by decide +kernel
theorem dX9_looksIn_85 : decode cX9_looksIn 85 = .ok (.if_icmp .ne 71, 3) := by decide +kernel
theorem dX9_looksIn_88 : decode cX9_looksIn 88 = .ok (.aload_n 0, 1) := by decide +kernel
theorem dX9_looksIn_89 : decode cX9_looksIn 89 = .ok (.getfield 7, 3) := by decide +kernel
theorem dX9_looksIn_92 : decode cX9_looksIn 92 = .ok (.iload 6, 2) := by decide +kernel
theorem dX9_looksIn_94 : decode cX9_looksIn 94 = .ok (.iaload, 1) := by decide +kernel
theorem dX9_looksIn_95 : decode cX9_looksIn 95 = .ok (.iconst 1, 1) := by decide +kernel
theorem dX9_looksIn_96 : decode cX9_looksIn 96 = .ok (.if_icmp .ne 6, 3) := by decide +kernel
theorem dX9_looksIn_99 : decode cX9_looksIn 99 = .ok (.goto 57, 3) := by decide +kernel
theorem dX9_looksIn_102 : decode cX9_looksIn 102 = .ok (.aload_n 0, 1) := by decide +kernel
theorem dX9_looksIn_103 : decode cX9_looksIn 103 = .ok (.getfield 7, 3) := by decide +kernel
theorem dX9_looksIn_106 : decode cX9_looksIn 106 = .ok (.iload 6, 2) := by decide +kernel
theorem dX9_looksIn_108 : decode cX9_looksIn 108 = .ok (.iaload, 1) := by decide +kernel
theorem dX9_looksIn_109 : decode cX9_looksIn 109 = .ok (.iconst 3, 1) := by decide +kernel
theorem dX9_looksIn_110 : decode cX9_looksIn 110 = .ok (.if_icmp .ne 12, 3) := by decide +kernel
theorem dX9_looksIn_113 : decode cX9_looksIn 113 = .ok (.iload 4, 2) := by decide +kernel
theorem dX9_looksIn_115 : decode cX9_looksIn 115 = .ok (.iconst 1, 1) := by decide +kernel
theorem dX9_looksIn_116 : decode cX9_looksIn 116 = .ok (.if_icmp .ne 40, 3) := by decide +kernel
theorem dX9_looksIn_119 : decode cX9_looksIn 119 = .ok (.goto 28, 3) := by decide +kernel
theorem dX9_looksIn_122 : decode cX9_looksIn 122 = .ok (.aload_n 0, 1) := by decide +kernel
theorem dX9_looksIn_123 : decode cX9_looksIn 123 = .ok (.getfield 7, 3) := by decide +kernel
theorem dX9_looksIn_126 : decode cX9_looksIn 126 = .ok (.iload 6, 2) := by decide +kernel
theorem dX9_looksIn_128 : decode cX9_looksIn 128 = .ok (.iaload, 1) := by decide +kernel
theorem dX9_looksIn_129 : decode cX9_looksIn 129 = .ok (.iconst 2, 1) := by decide +kernel
theorem dX9_looksIn_130 : decode cX9_looksIn 130 = .ok (.if_icmp .ne 17, 3) := by decide +kernel
theorem dX9_looksIn_133 : decode cX9_looksIn 133 = .ok (.iload 4, 2) := by decide +kernel
theorem dX9_looksIn_135 : decode cX9_looksIn 135 = .ok (.aload_n 0, 1) := by decide +kernel
theorem dX9_looksIn_136 : decode cX9_looksIn 136 = .ok (.getfield 13, 3) := by decide +kernel
theorem dX9_looksIn_139 : decode cX9_looksIn 139 = .ok (.iload 6, 2) := by decide +kernel
theorem dX9_looksIn_141 : decode cX9_looksIn 141 = .ok (.iaload, 1) := by decide +kernel
theorem dX9_looksIn_142 : decode cX9_looksIn 142 = .ok (.iconst 1, 1) := by decide +kernel
theorem dX9_looksIn_143 : decode cX9_looksIn 143 = .ok (.iadd, 1) := by decide +kernel
theorem dX9_looksIn_144 : decode cX9_looksIn 144 = .ok (.if_icmp .gt 12, 3) := by decide +kernel
theorem dX9_looksIn_147 : decode cX9_looksIn 147 = .ok (.iload 5, 2) := by decide +kernel
theorem dX9_looksIn_149 : decode cX9_looksIn 149 = .ok (.iconst 1, 1) := by decide +kernel
theorem dX9_looksIn_150 : decode cX9_looksIn 150 = .ok (.iload 6, 2) := by decide +kernel
theorem dX9_looksIn_152 : decode cX9_looksIn 152 = .ok (.ishl, 1) := by decide +kernel
theorem dX9_looksIn_153 : decode cX9_looksIn 153 = .ok (.ior, 1) := by decide +kernel
theorem dX9_looksIn_154 : decode cX9_looksIn 154 = .ok (.istore 5, 2) := by decide +kernel
theorem dX9_looksIn_156 : decode cX9_looksIn 156 = .ok (.iinc 6 1, 3) := by decide +kernel
theorem dX9_looksIn_159 : decode cX9_looksIn 159 = .ok (.goto (-119), 3) := by decide +kernel
theorem dX9_looksIn_162 : decode cX9_looksIn 162 = .ok (.iload 5, 2) := by decide +kernel
theorem dX9_looksIn_164 : decode cX9_looksIn 164 = .ok (.ireturn, 1) := by decide +kernel
set_option maxRecDepth 20000 in
theorem l1_X9_looksIn {G : Gl} {d : Nat} {σ : Sg} {K : Option Value → Sg → Prop} {τ : Tw} (hM : RMt τ σ) (hO : OkT τ) {w : Int} (w1 : 0 ≤ w) (w2 : w ≤ 3) : ∀ (n : Nat) (c off : Int), n = mu c w → -7 ≤ c → c ≤ 48 → 1 ≤ off → off + n ≤ 100 → (∀ c2 off2, -7 ≤ c2 → c2 ≤ 48 → 1 ≤ off2 → off2 ≤ 100 → (c2 < 0 ∨ sT τ.1 c2) → lookS τ w (τ.2.1 2 + 1 - off2).toNat (nm c2) off2 = lookS τ w (τ.2.1 2 + 1 - off).toNat (nm c) off → AW G (d + 1) RX9 cX9_looksIn 7 (some .int) 34 [(0, .ref (gA G 54)), (2, .int (iI w)), (3, .int (iI c2)), (4, .int (iI off2))] [] σ K) → AW G (d + 1) RX9 cX9_looksIn 7 (some .int) 9 [(0, .ref (gA G 54)), (2, .int (iI w)), (3, .int (iI c)), (4, .int (iI off))] [] σ K := by
  intro n
  induction n using Nat.strongRecOn
  rename_i n ih
  intro c off hn c1 c2 f1 f2 hK
  have hO2 := hO
  obtain ⟨o1, o2, o3, o4, o5, o6, o7, o8, o9⟩ := hO2
  have p0 := hM.2.1
  have p1 := hM.2.2.1
  have p2 : σ.1 63 0 = τ.2.1 2 := hM.2.2.2.1 0 (by decide)
  refine A_iload_n (pc := 9) dX9_looksIn_9 rfl rfl ?_
  refine A_if_lt (pc := 10) 34 dX9_looksIn_10 (by decide) (by omega) (by omega) (fun h10 => ?_) (fun h10 => ?_)
  · skip
    refine A_loc (l2 := [(0, _), (2, _), (3, _), (4, _)]) ⟨rfl, rfl, rfl, rfl, trivial⟩ ?_
    exact hK c off c1 c2 f1 (by omega) (Or.inl h10) rfl
  · skip
    obtain ⟨k, rfl⟩ := Int.eq_ofNat_of_zero_le (show 0 ≤ c by omega)
    have hr2 := nx_rng (w := w) (show 0 ≤ (k : Int) by omega) (by omega)
    have hm := mu_nx (show 0 ≤ (k : Int) by omega) (by omega) w1 w2
    refine A_aload_n (pc := 13) dX9_looksIn_13 rfl rfl ?_
    refine A_getR (pc := 14) fX9_31 rfl rfl dX9_looksIn_14 ?_
    refine A_iload_n (pc := 17) dX9_looksIn_17 rfl rfl ?_
    refine A_zaldv (pc := 18) _ rfl rfl (by omega) (Nat.le_of_ble_eq_true rfl) (hM.1 _ (by omega)) dX9_looksIn_18 ?_
    refine A_ifb_ne (pc := 19) 34 dX9_looksIn_19 (by decide) (fun h19 => ?_) (fun h19 => ?_)
    · skip
      refine A_loc (l2 := [(0, _), (2, _), (3, _), (4, _)]) ⟨rfl, rfl, rfl, rfl, trivial⟩ ?_
      exact hK (k : Int) off c1 c2 f1 (by omega) (Or.inr ((sT_k (by omega)).mpr h19)) rfl
    · skip
      refine A_iload_n (pc := 22) dX9_looksIn_22 rfl rfl ?_
      refine A_iload_n (pc := 23) dX9_looksIn_23 rfl rfl ?_
      refine A_callS1 (pc := 24) kX9_223 (c_X9_next (by omega) (by omega) w1 w2) dX9_looksIn_24 rfl rfl (Nat.le_of_ble_eq_true rfl) (Nat.le_of_ble_eq_true rfl) ?_
      refine A_istore_n (pc := 27) dX9_looksIn_27 rfl (Nat.le_of_ble_eq_true rfl) ?_
      refine A_iinc (pc := 28) dX9_looksIn_28 rfl (Nat.le_of_ble_eq_true rfl) ?_
      refine A_goto (pc := 31) 9 dX9_looksIn_31 (by decide) ?_
      refine A_loc (l2 := [(0, _), (2, _), (3, _), (4, _)]) ⟨rfl, rfl, rfl, rfl, trivial⟩ ?_
      refine ih (mu (nx (k : Int) w) w) (by omega) _ _ rfl hr2.1 hr2.2 (by omega) (by omega) (fun c3 off3 g1 g2 g3 g4 g5 g6 => hK c3 off3 g1 g2 g3 g4 g5 ?_)
      rw [g6, nm_nx (by omega) (by omega) w1 w2, nm_pos (show 0 ≤ (k : Int) by omega), lookS_go (a := (k : Int)) (fun q => h19 ((sT_k (by omega)).mp q))]
      congr 1
      omega
set_option maxRecDepth 20000 in
theorem l2_X9_looksIn {G : Gl} {d : Nat} {σ : Sg} {K : Option Value → Sg → Prop} {τ : Tw} (hM : RMt τ σ) (hO : OkT τ) {w c off : Int} (w1 : 0 ≤ w) (w2 : w ≤ 3) (c1 : -7 ≤ c) (c2 : c ≤ 48) (f1 : 1 ≤ off) (f2 : off ≤ 100) : ∀ (n i acc : Nat), (i : Int) + n = τ.2.1 0 → K (some (.int (iI ((acc ||| orR (lookM τ w c off) n i : Nat) : Int)))) σ → AW G (d + 1) RX9 cX9_looksIn 7 (some .int) 40 [(0, .ref (gA G 54)), (2, .int (iI w)), (3, .int (iI c)), (4, .int (iI off)), (5, .int (iI (acc : Int))), (6, .int (iI (i : Int)))] [] σ K := by
  intro n
  induction n using Nat.strongRecOn
  rename_i n ih
  intro i acc hn hK
  have hO2 := hO
  obtain ⟨o1, o2, o3, o4, o5, o6, o7, o8, o9⟩ := hO2
  have p0 := hM.2.1
  have p1 := hM.2.2.1
  have p2 : σ.1 63 0 = τ.2.1 2 := hM.2.2.2.1 0 (by decide)
  refine A_iload (pc := 40) dX9_looksIn_40 rfl ?_
  refine A_aload_n (pc := 42) dX9_looksIn_42 rfl rfl ?_
  refine A_getIv (pc := 43) fX9_83 rfl rfl p0 dX9_looksIn_43 ?_
  refine A_icmp_ge (pc := 46) 162 dX9_looksIn_46 (by decide) (by omega) (by omega) (by omega) (by omega) (fun h46 => ?_) (fun h46 => ?_)
  · skip
    refine A_iload (pc := 162) dX9_looksIn_162 rfl ?_
    refine A_iret (pc := 164) rfl dX9_looksIn_164 ?_
    have hn0 : n = 0 := by omega
    subst hn0
    rw [orR, Nat.or_zero] at hK
    exact hK
  · skip
    have q8 := o8 i (by omega)
    refine A_iload_n (pc := 49) dX9_looksIn_49 rfl rfl ?_
    refine A_if_lt (pc := 50) 156 dX9_looksIn_50 (by decide) (by omega) (by omega) (fun h50 => ?_) (fun h50 => ?_)
    · skip
      refine A_iinc (pc := 156) dX9_looksIn_156 rfl (Nat.le_of_ble_eq_true rfl) ?_
      refine A_goto (pc := 159) 40 dX9_looksIn_159 (by decide) ?_
      obtain ⟨m, rfl⟩ : ∃ m, n = m + 1 := ⟨n - 1, by omega⟩
      refine A_loc (l2 := [(0, _), (2, _), (3, _), (4, _), (5, _), (6, _)]) ⟨rfl, rfl, rfl, rfl, rfl, rfl, trivial⟩ ?_
      refine ih m (by omega) (i + 1) acc (by omega) ?_
      rw [orR, if_neg (by intro q; simp only [lookM, Bool.and_eq_true, decide_eq_true_eq] at q; obtain ⟨⟨z1, z2, z3, z4⟩, z5⟩ := q; omega), Nat.zero_or] at hK
      exact hK
    · skip
      refine A_iload (pc := 53) dX9_looksIn_53 rfl ?_
      refine A_aload_n (pc := 55) dX9_looksIn_55 rfl rfl ?_
      refine A_getR (pc := 56) fX9_35 rfl rfl dX9_looksIn_56 ?_
      refine A_iconst (pc := 59) dX9_looksIn_59 ?_
      refine A_ialdv (pc := 60) 0 rfl rfl (by decide) (Nat.le_of_ble_eq_true rfl) p2 dX9_looksIn_60 ?_
      refine A_icmp_gt (pc := 61) 156 dX9_looksIn_61 (by decide) (by omega) (by omega) (by omega) (by omega) (fun h61 => ?_) (fun h61 => ?_)
      · skip
        refine A_iinc (pc := 156) dX9_looksIn_156 rfl (Nat.le_of_ble_eq_true rfl) ?_
        refine A_goto (pc := 159) 40 dX9_looksIn_159 (by decide) ?_
        obtain ⟨m, rfl⟩ : ∃ m, n = m + 1 := ⟨n - 1, by omega⟩
        refine A_loc (l2 := [(0, _), (2, _), (3, _), (4, _), (5, _), (6, _)]) ⟨rfl, rfl, rfl, rfl, rfl, rfl, trivial⟩ ?_
        refine ih m (by omega) (i + 1) acc (by omega) ?_
        rw [orR, if_neg (by intro q; simp only [lookM, Bool.and_eq_true, decide_eq_true_eq] at q; obtain ⟨⟨z1, z2, z3, z4⟩, z5⟩ := q; omega), Nat.zero_or] at hK
        exact hK
      · skip
        refine A_aload_n (pc := 64) dX9_looksIn_64 rfl rfl ?_
        refine A_getR (pc := 65) fX9_16 rfl rfl dX9_looksIn_65 ?_
        refine A_iload (pc := 68) dX9_looksIn_68 rfl ?_
        refine A_ialdv (pc := 70) _ rfl rfl (by omega) (Nat.le_of_ble_eq_true rfl) (hM.at (by omega)) dX9_looksIn_70 ?_
        refine A_iload_n (pc := 71) dX9_looksIn_71 rfl rfl ?_
        refine A_icmp_ne (pc := 72) 156 dX9_looksIn_72 (by decide) (by omega) (by omega) (by omega) (by omega) (fun h72 => ?_) (fun h72 => ?_)
        · skip
          refine A_iinc (pc := 156) dX9_looksIn_156 rfl (Nat.le_of_ble_eq_true rfl) ?_
          refine A_goto (pc := 159) 40 dX9_looksIn_159 (by decide) ?_
          obtain ⟨m, rfl⟩ : ∃ m, n = m + 1 := ⟨n - 1, by omega⟩
          refine A_loc (l2 := [(0, _), (2, _), (3, _), (4, _), (5, _), (6, _)]) ⟨rfl, rfl, rfl, rfl, rfl, rfl, trivial⟩ ?_
          refine ih m (by omega) (i + 1) acc (by omega) ?_
          rw [orR, if_neg (by intro q; simp only [lookM, Bool.and_eq_true, decide_eq_true_eq] at q; obtain ⟨⟨z1, z2, z3, z4⟩, z5⟩ := q; omega), Nat.zero_or] at hK
          exact hK
        · skip
          refine A_aload_n (pc := 75) dX9_looksIn_75 rfl rfl ?_
          refine A_getR (pc := 76) fX9_19 rfl rfl dX9_looksIn_76 ?_
          refine A_iload (pc := 79) dX9_looksIn_79 rfl ?_
          refine A_ialdv (pc := 81) _ rfl rfl (by omega) (Nat.le_of_ble_eq_true rfl) (hM.out (by omega)) dX9_looksIn_81 ?_
          refine A_iconst (pc := 82) dX9_looksIn_82 ?_
          refine A_iload_n (pc := 83) dX9_looksIn_83 rfl rfl ?_
          refine A_isub (pc := 84) dX9_looksIn_84 ?_
          refine A_icmp_ne (pc := 85) 156 dX9_looksIn_85 (by decide) (by omega) (by omega) (by omega) (by omega) (fun h85 => ?_) (fun h85 => ?_)
          · skip
            refine A_iinc (pc := 156) dX9_looksIn_156 rfl (Nat.le_of_ble_eq_true rfl) ?_
            refine A_goto (pc := 159) 40 dX9_looksIn_159 (by decide) ?_
            obtain ⟨m, rfl⟩ : ∃ m, n = m + 1 := ⟨n - 1, by omega⟩
            refine A_loc (l2 := [(0, _), (2, _), (3, _), (4, _), (5, _), (6, _)]) ⟨rfl, rfl, rfl, rfl, rfl, rfl, trivial⟩ ?_
            refine ih m (by omega) (i + 1) acc (by omega) ?_
            rw [orR, if_neg (by intro q; simp only [lookM, Bool.and_eq_true, decide_eq_true_eq] at q; obtain ⟨⟨z1, z2, z3, z4⟩, z5⟩ := q; omega), Nat.zero_or] at hK
            exact hK
          · skip
            refine A_aload_n (pc := 88) dX9_looksIn_88 rfl rfl ?_
            refine A_getR (pc := 89) fX9_7 rfl rfl dX9_looksIn_89 ?_
            refine A_iload (pc := 92) dX9_looksIn_92 rfl ?_
            refine A_ialdv (pc := 94) _ rfl rfl (by omega) (Nat.le_of_ble_eq_true rfl) (hM.kind (by omega)) dX9_looksIn_94 ?_
            refine A_iconst (pc := 95) dX9_looksIn_95 ?_
            refine A_icmp_ne (pc := 96) 102 dX9_looksIn_96 (by decide) (by omega) (by omega) (by omega) (by omega) (fun h96 => ?_) (fun h96 => ?_)
            · skip
              refine A_aload_n (pc := 102) dX9_looksIn_102 rfl rfl ?_
              refine A_getR (pc := 103) fX9_7 rfl rfl dX9_looksIn_103 ?_
              refine A_iload (pc := 106) dX9_looksIn_106 rfl ?_
              refine A_ialdv (pc := 108) _ rfl rfl (by omega) (Nat.le_of_ble_eq_true rfl) (hM.kind (by omega)) dX9_looksIn_108 ?_
              refine A_iconst (pc := 109) dX9_looksIn_109 ?_
              refine A_icmp_ne (pc := 110) 122 dX9_looksIn_110 (by decide) (by omega) (by omega) (by omega) (by omega) (fun h110 => ?_) (fun h110 => ?_)
              · skip
                refine A_aload_n (pc := 122) dX9_looksIn_122 rfl rfl ?_
                refine A_getR (pc := 123) fX9_7 rfl rfl dX9_looksIn_123 ?_
                refine A_iload (pc := 126) dX9_looksIn_126 rfl ?_
                refine A_ialdv (pc := 128) _ rfl rfl (by omega) (Nat.le_of_ble_eq_true rfl) (hM.kind (by omega)) dX9_looksIn_128 ?_
                refine A_iconst (pc := 129) dX9_looksIn_129 ?_
                refine A_icmp_ne (pc := 130) 147 dX9_looksIn_130 (by decide) (by omega) (by omega) (by omega) (by omega) (fun h130 => ?_) (fun h130 => ?_)
                · skip
                  refine A_iload (pc := 147) dX9_looksIn_147 rfl ?_
                  refine A_iconst (pc := 149) dX9_looksIn_149 ?_
                  refine A_iload (pc := 150) dX9_looksIn_150 rfl ?_
                  refine A_ishl (pc := 152) ((2 ^ i : Nat) : Int) dX9_looksIn_152 (shl_I (by omega)) ?_
                  refine A_ior (pc := 153) ((acc ||| 2 ^ i : Nat) : Int) dX9_looksIn_153 (or_I acc (2 ^ i)) ?_
                  refine A_istore (pc := 154) dX9_looksIn_154 (Nat.le_of_ble_eq_true rfl) ?_
                  refine A_iinc (pc := 156) dX9_looksIn_156 rfl (Nat.le_of_ble_eq_true rfl) ?_
                  refine A_goto (pc := 159) 40 dX9_looksIn_159 (by decide) ?_
                  obtain ⟨m, rfl⟩ : ∃ m, n = m + 1 := ⟨n - 1, by omega⟩
                  refine A_loc (l2 := [(0, _), (2, _), (3, _), (4, _), (5, _), (6, _)]) ⟨rfl, rfl, rfl, rfl, rfl, rfl, trivial⟩ ?_
                  refine ih m (by omega) (i + 1) (acc ||| 2 ^ i) (by omega) ?_
                  rw [orR, if_pos (by simp only [lookM, Bool.and_eq_true, decide_eq_true_eq]; refine ⟨⟨by omega, by omega, by omega, by omega⟩, ?_⟩; unfold lets; (repeat' split) <;> first | omega | (simp; done) | (simp; omega)), ← Nat.or_assoc] at hK
                  exact hK
                · skip
                  refine A_iload (pc := 133) dX9_looksIn_133 rfl ?_
                  refine A_aload_n (pc := 135) dX9_looksIn_135 rfl rfl ?_
                  refine A_getR (pc := 136) fX9_13 rfl rfl dX9_looksIn_136 ?_
                  refine A_iload (pc := 139) dX9_looksIn_139 rfl ?_
                  refine A_ialdv (pc := 141) _ rfl rfl (by omega) (Nat.le_of_ble_eq_true rfl) (hM.a (by omega)) dX9_looksIn_141 ?_
                  refine A_iconst (pc := 142) dX9_looksIn_142 ?_
                  refine A_iadd (pc := 143) dX9_looksIn_143 ?_
                  refine A_icmp_gt (pc := 144) 156 dX9_looksIn_144 (by decide) (by omega) (by omega) (by omega) (by omega) (fun h144 => ?_) (fun h144 => ?_)
                  · skip
                    refine A_iinc (pc := 156) dX9_looksIn_156 rfl (Nat.le_of_ble_eq_true rfl) ?_
                    refine A_goto (pc := 159) 40 dX9_looksIn_159 (by decide) ?_
                    obtain ⟨m, rfl⟩ : ∃ m, n = m + 1 := ⟨n - 1, by omega⟩
                    refine A_loc (l2 := [(0, _), (2, _), (3, _), (4, _), (5, _), (6, _)]) ⟨rfl, rfl, rfl, rfl, rfl, rfl, trivial⟩ ?_
                    refine ih m (by omega) (i + 1) acc (by omega) ?_
                    rw [orR, if_neg (by intro q; simp only [lookM, Bool.and_eq_true, decide_eq_true_eq] at q; obtain ⟨⟨z1, z2, z3, z4⟩, z5⟩ := q; unfold lets at z5; (repeat' split at z5) <;> first | omega | (simp at z5; done) | (simp at z5; omega)), Nat.zero_or] at hK
                    exact hK
                  · skip
                    refine A_iload (pc := 147) dX9_looksIn_147 rfl ?_
                    refine A_iconst (pc := 149) dX9_looksIn_149 ?_
                    refine A_iload (pc := 150) dX9_looksIn_150 rfl ?_
                    refine A_ishl (pc := 152) ((2 ^ i : Nat) : Int) dX9_looksIn_152 (shl_I (by omega)) ?_
                    refine A_ior (pc := 153) ((acc ||| 2 ^ i : Nat) : Int) dX9_looksIn_153 (or_I acc (2 ^ i)) ?_
                    refine A_istore (pc := 154) dX9_looksIn_154 (Nat.le_of_ble_eq_true rfl) ?_
                    refine A_iinc (pc := 156) dX9_looksIn_156 rfl (Nat.le_of_ble_eq_true rfl) ?_
                    refine A_goto (pc := 159) 40 dX9_looksIn_159 (by decide) ?_
                    obtain ⟨m, rfl⟩ : ∃ m, n = m + 1 := ⟨n - 1, by omega⟩
                    refine A_loc (l2 := [(0, _), (2, _), (3, _), (4, _), (5, _), (6, _)]) ⟨rfl, rfl, rfl, rfl, rfl, rfl, trivial⟩ ?_
                    refine ih m (by omega) (i + 1) (acc ||| 2 ^ i) (by omega) ?_
                    rw [orR, if_pos (by simp only [lookM, Bool.and_eq_true, decide_eq_true_eq]; refine ⟨⟨by omega, by omega, by omega, by omega⟩, ?_⟩; unfold lets; (repeat' split) <;> first | omega | (simp; done) | (simp; omega)), ← Nat.or_assoc] at hK
                    exact hK
              · skip
                refine A_iload (pc := 113) dX9_looksIn_113 rfl ?_
                refine A_iconst (pc := 115) dX9_looksIn_115 ?_
                refine A_icmp_ne (pc := 116) 156 dX9_looksIn_116 (by decide) (by omega) (by omega) (by omega) (by omega) (fun h116 => ?_) (fun h116 => ?_)
                · skip
                  refine A_iinc (pc := 156) dX9_looksIn_156 rfl (Nat.le_of_ble_eq_true rfl) ?_
                  refine A_goto (pc := 159) 40 dX9_looksIn_159 (by decide) ?_
                  obtain ⟨m, rfl⟩ : ∃ m, n = m + 1 := ⟨n - 1, by omega⟩
                  refine A_loc (l2 := [(0, _), (2, _), (3, _), (4, _), (5, _), (6, _)]) ⟨rfl, rfl, rfl, rfl, rfl, rfl, trivial⟩ ?_
                  refine ih m (by omega) (i + 1) acc (by omega) ?_
                  rw [orR, if_neg (by intro q; simp only [lookM, Bool.and_eq_true, decide_eq_true_eq] at q; obtain ⟨⟨z1, z2, z3, z4⟩, z5⟩ := q; unfold lets at z5; (repeat' split at z5) <;> first | omega | (simp at z5; done) | (simp at z5; omega)), Nat.zero_or] at hK
                  exact hK
                · skip
                  refine A_goto (pc := 119) 147 dX9_looksIn_119 (by decide) ?_
                  refine A_iload (pc := 147) dX9_looksIn_147 rfl ?_
                  refine A_iconst (pc := 149) dX9_looksIn_149 ?_
                  refine A_iload (pc := 150) dX9_looksIn_150 rfl ?_
                  refine A_ishl (pc := 152) ((2 ^ i : Nat) : Int) dX9_looksIn_152 (shl_I (by omega)) ?_
                  refine A_ior (pc := 153) ((acc ||| 2 ^ i : Nat) : Int) dX9_looksIn_153 (or_I acc (2 ^ i)) ?_
                  refine A_istore (pc := 154) dX9_looksIn_154 (Nat.le_of_ble_eq_true rfl) ?_
                  refine A_iinc (pc := 156) dX9_looksIn_156 rfl (Nat.le_of_ble_eq_true rfl) ?_
                  refine A_goto (pc := 159) 40 dX9_looksIn_159 (by decide) ?_
                  obtain ⟨m, rfl⟩ : ∃ m, n = m + 1 := ⟨n - 1, by omega⟩
                  refine A_loc (l2 := [(0, _), (2, _), (3, _), (4, _), (5, _), (6, _)]) ⟨rfl, rfl, rfl, rfl, rfl, rfl, trivial⟩ ?_
                  refine ih m (by omega) (i + 1) (acc ||| 2 ^ i) (by omega) ?_
                  rw [orR, if_pos (by simp only [lookM, Bool.and_eq_true, decide_eq_true_eq]; refine ⟨⟨by omega, by omega, by omega, by omega⟩, ?_⟩; unfold lets; (repeat' split) <;> first | omega | (simp; done) | (simp; omega)), ← Nat.or_assoc] at hK
                  exact hK
            · skip
              refine A_goto (pc := 99) 156 dX9_looksIn_99 (by decide) ?_
              refine A_iinc (pc := 156) dX9_looksIn_156 rfl (Nat.le_of_ble_eq_true rfl) ?_
              refine A_goto (pc := 159) 40 dX9_looksIn_159 (by decide) ?_
              obtain ⟨m, rfl⟩ : ∃ m, n = m + 1 := ⟨n - 1, by omega⟩
              refine A_loc (l2 := [(0, _), (2, _), (3, _), (4, _), (5, _), (6, _)]) ⟨rfl, rfl, rfl, rfl, rfl, rfl, trivial⟩ ?_
              refine ih m (by omega) (i + 1) acc (by omega) ?_
              rw [orR, if_neg (by intro q; simp only [lookM, Bool.and_eq_true, decide_eq_true_eq] at q; obtain ⟨⟨z1, z2, z3, z4⟩, z5⟩ := q; unfold lets at z5; (repeat' split at z5) <;> first | omega | (simp at z5; done) | (simp at z5; omega)), Nat.zero_or] at hK
              exact hK
set_option maxRecDepth 20000 in
theorem c_X9_looksIn {G : Gl} {d : Nat} {σ : Sg} {τ : Tw} (hM : RMt τ σ) (hO : OkT τ) {s w : Int} (s1 : 0 ≤ s) (s2 : s ≤ 48) (w1 : 0 ≤ w) (w2 : w ≤ 3) : CT G (d + 1) yX9_looksIn cX9_looksIn 7 (some .int) [.ref (gA G 54), .int (iI s), .int (iI w)] σ (R1 (.int (iI ((look τ s w : Nat) : Int))) σ) := by
  refine CT.of (by decide +kernel) (Nat.le_of_ble_eq_true rfl) ?_
  change AW G _ RX9 _ _ _ 0 [(0, .ref (gA G 54)), (1, .int (iI s)), (2, .int (iI w))] [] _ _
  have hO2 := hO
  obtain ⟨o1, o2, o3, o4, o5, o6, o7, o8, o9⟩ := hO2
  have p0 := hM.2.1
  have p1 := hM.2.2.1
  have p2 : σ.1 63 0 = τ.2.1 2 := hM.2.2.2.1 0 (by decide)
  have hr2 := nx_rng (w := w) s1 s2
  refine A_iload_n (pc := 0) dX9_looksIn_0 rfl rfl ?_
  refine A_iload_n (pc := 1) dX9_looksIn_1 rfl rfl ?_
  refine A_callS1 (pc := 2) kX9_223 (c_X9_next s1 s2 w1 w2) dX9_looksIn_2 rfl rfl (Nat.le_of_ble_eq_true rfl) (Nat.le_of_ble_eq_true rfl) ?_
  refine A_istore_n (pc := 5) dX9_looksIn_5 rfl (Nat.le_of_ble_eq_true rfl) ?_
  refine A_iconst (pc := 6) dX9_looksIn_6 ?_
  refine A_istore (pc := 7) dX9_looksIn_7 (Nat.le_of_ble_eq_true rfl) ?_
  refine A_loc (l2 := [(0, _), (2, _), (3, _), (4, _)]) ⟨rfl, rfl, rfl, rfl, trivial⟩ ?_
  refine l1_X9_looksIn hM hO w1 w2 (mu (nx s w) w) (nx s w) 1 rfl hr2.1 hr2.2 (by omega) (by have := mu_le (nx s w) w hr2.2; omega) (fun c off g1 g2 g3 g4 g5 g6 => ?_)
  refine A_iconst (pc := 34) dX9_looksIn_34 ?_
  refine A_istore (pc := 35) dX9_looksIn_35 (Nat.le_of_ble_eq_true rfl) ?_
  refine A_iconst (pc := 37) dX9_looksIn_37 ?_
  refine A_istore (pc := 38) dX9_looksIn_38 (Nat.le_of_ble_eq_true rfl) ?_
  refine A_loc (l2 := [(0, _), (2, _), (3, _), (4, _), (5, _), (6, _)]) ⟨rfl, rfl, rfl, rfl, rfl, rfl, trivial⟩ ?_
  refine l2_X9_looksIn hM hO w1 w2 g1 g2 g3 g4 (τ.2.1 0).toNat 0 0 (by omega) ⟨?_, rfl⟩
  have e : look τ s w = orR (lookM τ w c off) (τ.2.1 0).toNat 0 := by
    rw [nm_nx s1 s2 w1 w2, ← lookS_next] at g6
    have e0 : (τ.2.1 2 + 1 - 1).toNat = (τ.2.1 2).toNat := by omega
    rw [e0] at g6
    rw [look, ← g6]
    have z0 : ∀ m i, (∀ p, lookM τ w c off p = false) → orR (lookM τ w c off) m i = 0 := by
      intro m
      induction m with
      | zero => intro i _; rfl
      | succ m ih => intro i hz; rw [orR, hz i, if_neg (by decide), ih _ hz]; rfl
    by_cases hc : c < 0
    · rw [nm_neg hc, lookS_neg, z0]
      intro p
      simp only [lookM, decide_eq_false (show ¬ (0 ≤ c ∧ off ≤ τ.2.1 2 ∧ τ.2.2 2 p = c ∧ τ.2.2 3 p = 3 - w) from fun q => by omega), Bool.false_and]
    · have hh : sT τ.1 c := g5.resolve_left hc
      rw [nm_pos (by omega)]
      unfold lookS
      by_cases ho : off ≤ τ.2.1 2
      · rw [if_neg (by omega), if_pos hh]
        unfold opens
        refine orR_congr (fun p _ _ => ?_)
        simp only [lookM]
        congr 1
        apply decide_eq_decide.mpr
        constructor
        · intro q; exact ⟨by omega, ho, q.1, q.2⟩
        · intro q; exact ⟨q.2.2.1, q.2.2.2⟩
      · rw [if_pos (by omega), z0]
        intro p
        simp only [lookM, decide_eq_false (show ¬ (0 ≤ c ∧ off ≤ τ.2.1 2 ∧ τ.2.2 2 p = c ∧ τ.2.2 3 p = 3 - w) from fun q => by omega), Bool.false_and]
  rw [Nat.zero_or, e]
theorem dX9_shame_0 : decode cX9_shame 0 = .ok (.aload_n 0, 1) := by decide +kernel
theorem dX9_shame_1 : decode cX9_shame 1 = .ok (.iload_n 1, 1) := by decide +kernel
theorem dX9_shame_2 : decode cX9_shame 2 = .ok (.iload_n 2, 1) := by decide +kernel
theorem dX9_shame_3 : decode cX9_shame 3 = .ok (.invokevirtual 159, 3) := by decide +kernel
theorem dX9_shame_6 : decode cX9_shame 6 = .ok (.invokestatic 233, 3) := by decide +kernel
theorem dX9_shame_9 : decode cX9_shame 9 = .ok (.ireturn, 1) := by decide +kernel
set_option maxRecDepth 20000 in
theorem c_X9_shame {G : Gl} {d : Nat} {σ : Sg} {τ : Tw} (hM : RMt τ σ) (hO : OkT τ) {s w : Int} (s1 : 0 ≤ s) (s2 : s ≤ 48) (w1 : 0 ≤ w) (w2 : w ≤ 3) : CT G (d + 2) yX9_shame cX9_shame 3 (some .int) [.ref (gA G 54), .int (iI s), .int (iI w)] σ (R1 (.int (iI (sham τ s w))) σ) := by
  refine CT.of (by decide +kernel) (Nat.le_of_ble_eq_true rfl) ?_
  change AW G _ RX9 _ _ _ 0 [(0, .ref (gA G 54)), (1, .int (iI s)), (2, .int (iI w))] [] _ _
  have hO2 := hO
  obtain ⟨o1, o2, o3, o4, o5, o6, o7, o8, o9⟩ := hO2
  have p0 := hM.2.1
  have p1 := hM.2.2.1
  have p2 : σ.1 63 0 = τ.2.1 2 := hM.2.2.2.1 0 (by decide)
  refine A_aload_n (pc := 0) dX9_shame_0 rfl rfl ?_
  refine A_iload_n (pc := 1) dX9_shame_1 rfl rfl ?_
  refine A_iload_n (pc := 2) dX9_shame_2 rfl rfl ?_
  refine A_callV1 (pc := 3) kX9_159 rfl rfl (c_X9_looksIn hM hO s1 s2 w1 w2) dX9_shame_3 rfl rfl (Nat.le_of_ble_eq_true rfl) (Nat.le_of_ble_eq_true rfl) ?_
  refine A_callS1 (pc := 6) kX9_233 (c_J6_bitCount_0f7a4) dX9_shame_6 rfl rfl (Nat.le_of_ble_eq_true rfl) (Nat.le_of_ble_eq_true rfl) ?_
  refine A_iret (pc := 9) rfl dX9_shame_9 ?_
  exact ⟨rfl, rfl⟩
end
section
/-! PART 18: the reference: refusals, shelves; kinds above for both -/
theorem MC70 : ∀ a, a = 70 → MC a := fun a h => by unfold MC; omega
theorem MC66 : ∀ a, (a = 64 ∨ a = 65 ∨ a = 66) → MC a := fun a h => by unfold MC; omega
theorem dX9_no_0 : decode cX9_no 0 = .ok (.aload_n 0, 1) := by decide +kernel
theorem dX9_no_1 : decode cX9_no 1 = .ok (.getfield 57, 3) := by decide +kernel
theorem dX9_no_4 : decode cX9_no 4 = .ok (.iload_n 1, 1) := by decide +kernel
theorem dX9_no_5 : decode cX9_no 5 = .ok (.ineg, 1) := by decide +kernel
theorem dX9_no_6 : decode cX9_no 6 = .ok (.dup2, 1) := by decide +kernel
theorem dX9_no_7 : decode cX9_no 7 = .ok (.iaload, 1) := by decide +kernel
theorem dX9_no_8 : decode cX9_no 8 = .ok (.iconst 1, 1) := by decide +kernel
theorem dX9_no_9 : decode cX9_no 9 = .ok (.iadd, 1) := by decide +kernel
theorem dX9_no_10 : decode cX9_no 10 = .ok (.iastore, 1) := by decide +kernel
theorem dX9_no_11 : decode cX9_no 11 = .ok (.iload_n 1, 1) := by decide +kernel
theorem dX9_no_12 : decode cX9_no 12 = .ok (.ireturn, 1) := by decide +kernel
set_option maxRecDepth 20000 in
theorem c_X9_no {G : Gl} {d : Nat} {σ : Sg} {Z : Zt} (hZ : RelM Z σ) (hO : OkZ Z) {t : Int} (t1 : -7 ≤ t) (t2 : t ≤ -1) : CT G d yX9_no cX9_no 2 (some .int) [.ref (gA G 54), .int (iI t)] σ (RE (some (.int (iI t))) (fun υ => RelM (zRef Z (-t).toNat) υ ∧ Fr (fun a => a = 70) σ υ)) := by
  refine CT.of (by decide +kernel) (Nat.le_of_ble_eq_true rfl) ?_
  change AW G _ RX9 _ _ _ 0 [(0, .ref (gA G 54)), (1, .int (iI t))] [] _ _
  refine A_aload_n (pc := 0) dX9_no_0 rfl rfl ?_
  refine A_getR (pc := 1) fX9_57 rfl rfl dX9_no_1 ?_
  refine A_iload_n (pc := 4) dX9_no_4 rfl rfl ?_
  refine A_ineg (pc := 5) dX9_no_5 ?_
  refine A_dup2 (pc := 6) dX9_no_6 rfl rfl ?_
  refine A_iald (pc := 7) (-t).toNat rfl (by omega) (by omega) (Nat.le_of_ble_eq_true rfl) dX9_no_7 ?_
  refine A_iconst (pc := 8) dX9_no_8 ?_
  refine A_iadd (pc := 9) dX9_no_9 ?_
  refine A_iast (pc := 10) (-t).toNat rfl (by omega) (by omega) (Nat.le_of_ble_eq_true rfl) dX9_no_10 ?_
  refine A_iload_n (pc := 11) dX9_no_11 rfl rfl ?_
  refine A_iret (pc := 12) rfl dX9_no_12 ?_
  exact ⟨rfl, hZ.ref (by omega) (by omega), Fr.rf.uI rfl⟩
theorem dX9_no10_0 : decode cX9_no10 0 = .ok (.aload_n 0, 1) := by decide +kernel
theorem dX9_no10_1 : decode cX9_no10 1 = .ok (.iload_n 1, 1) := by decide +kernel
theorem dX9_no10_2 : decode cX9_no10 2 = .ok (.invokevirtual 79, 3) := by decide +kernel
theorem dX9_no10_5 : decode cX9_no10 5 = .ok (.bipush 10, 2) := by decide +kernel
theorem dX9_no10_7 : decode cX9_no10 7 = .ok (.isub, 1) := by decide +kernel
theorem dX9_no10_8 : decode cX9_no10 8 = .ok (.ireturn, 1) := by decide +kernel
set_option maxRecDepth 20000 in
theorem c_X9_no10 {G : Gl} {d : Nat} {σ : Sg} {Z : Zt} (hZ : RelM Z σ) (hO : OkZ Z) {t : Int} (t1 : -7 ≤ t) (t2 : t ≤ -1) : CT G (d + 1) yX9_no10 cX9_no10 2 (some .int) [.ref (gA G 54), .int (iI t)] σ (RE (some (.int (iI (t - 10)))) (fun υ => RelM (zRef Z (-t).toNat) υ ∧ Fr (fun a => a = 70) σ υ)) := by
  refine CT.of (by decide +kernel) (Nat.le_of_ble_eq_true rfl) ?_
  change AW G _ RX9 _ _ _ 0 [(0, .ref (gA G 54)), (1, .int (iI t))] [] _ _
  refine A_aload_n (pc := 0) dX9_no10_0 rfl rfl ?_
  refine A_iload_n (pc := 1) dX9_no10_1 rfl rfl ?_
  refine A_callVe (pc := 2) kX9_79 rfl rfl (c_X9_no hZ hO t1 t2) dX9_no10_2 rfl rfl (Nat.le_of_ble_eq_true rfl) (Nat.le_of_ble_eq_true rfl) (fun υ hυ => ?_)
  refine A_bipush (pc := 5) dX9_no10_5 (by decide) ?_
  refine A_isub (pc := 7) dX9_no10_7 ?_
  refine A_iret (pc := 8) rfl dX9_no10_8 ?_
  exact ⟨rfl, hυ⟩
theorem dX9_isRow_0 : decode cX9_isRow 0 = .ok (.aload_n 0, 1) := by decide +kernel
theorem dX9_isRow_1 : decode cX9_isRow 1 = .ok (.getfield 38, 3) := by decide +kernel
theorem dX9_isRow_4 : decode cX9_isRow 4 = .ok (.iload_n 1, 1) := by decide +kernel
theorem dX9_isRow_5 : decode cX9_isRow 5 = .ok (.iaload, 1) := by decide +kernel
theorem dX9_isRow_6 : decode cX9_isRow 6 = .ok (.bipush 100, 2) := by decide +kernel
theorem dX9_isRow_8 : decode cX9_isRow 8 = .ok (.if_icmp .lt 7, 3) := by decide +kernel
theorem dX9_isRow_11 : decode cX9_isRow 11 = .ok (.iconst 1, 1) := by decide +kernel
theorem dX9_isRow_12 : decode cX9_isRow 12 = .ok (.goto 4, 3) := by decide +kernel
theorem dX9_isRow_15 : decode cX9_isRow 15 = .ok (.iconst 0, 1) := by decide +kernel
theorem dX9_isRow_16 : decode cX9_isRow 16 = .ok (.ireturn, 1) := by decide +kernel
set_option maxRecDepth 20000 in
theorem c_X9_isRow {G : Gl} {d : Nat} {σ : Sg} {Z : Zt} (hZ : RelM Z σ) (hO : OkZ Z) {k : Nat} (k8 : k < 8) : CT G d yX9_isRow cX9_isRow 2 (some .boolean) [.ref (gA G 54), .int (iI (k : Int))] σ (R1 (.int (iI (bI (100 ≤ Z.2.1.1 k)))) σ) := by
  refine CT.of (by decide +kernel) (Nat.le_of_ble_eq_true rfl) ?_
  change AW G _ RX9 _ _ _ 0 [(0, .ref (gA G 54)), (1, .int (iI (k : Int)))] [] _ _
  have ks := hZ.2.1 k k8
  have ko := hO.2.1 k k8
  obtain ⟨kb1, kb2, kb3, kb4⟩ := ko.1
  refine A_aload_n (pc := 0) dX9_isRow_0 rfl rfl ?_
  refine A_getR (pc := 1) fX9_38 rfl rfl dX9_isRow_1 ?_
  refine A_iload_n (pc := 4) dX9_isRow_4 rfl rfl ?_
  refine A_ialdv (pc := 5) _ rfl rfl (by omega) (Nat.le_of_ble_eq_true rfl) ks.1 dX9_isRow_5 ?_
  refine A_bipush (pc := 6) dX9_isRow_6 (by decide) ?_
  refine A_icmp_lt (pc := 8) 15 dX9_isRow_8 (by decide) (by omega) (by omega) (by omega) (by omega) (fun h8 => ?_) (fun h8 => ?_)
  · skip
    refine A_iconst (pc := 15) dX9_isRow_15 ?_
    refine A_zret (pc := 16) rfl rfl dX9_isRow_16 ?_
    exact R1_f (by omega)
  · skip
    refine A_iconst (pc := 11) dX9_isRow_11 ?_
    refine A_goto (pc := 12) 16 dX9_isRow_12 (by decide) ?_
    refine A_zret (pc := 16) rfl rfl dX9_isRow_16 ?_
    exact R1_t (by omega)
theorem dX9_noRow_0 : decode cX9_noRow 0 = .ok (.iload_n 1, 1) := by decide +kernel
theorem dX9_noRow_1 : decode cX9_noRow 1 = .ok (.iconst 0, 1) := by decide +kernel
theorem dX9_noRow_2 : decode cX9_noRow 2 = .ok (.bipush 7, 2) := by decide +kernel
theorem dX9_noRow_4 : decode cX9_noRow 4 = .ok (.invokestatic 86, 3) := by decide +kernel
theorem dX9_noRow_7 : decode cX9_noRow 7 = .ok (.ifCond .ne 5, 3) := by decide +kernel
theorem dX9_noRow_10 : decode cX9_noRow 10 = .ok (.iconst (-1), 1) := by decide +kernel
theorem dX9_noRow_11 : decode cX9_noRow 11 = .ok (.ireturn, 1) := by decide +kernel
theorem dX9_noRow_12 : decode cX9_noRow 12 = .ok (.aload_n 0, 1) := by decide +kernel
theorem dX9_noRow_13 : decode cX9_noRow 13 = .ok (.getfield 38, 3) := by decide +kernel
theorem dX9_noRow_16 : decode cX9_noRow 16 = .ok (.iload_n 1, 1) := by decide +kernel
theorem dX9_noRow_17 : decode cX9_noRow 17 = .ok (.iaload, 1) := by decide +kernel
theorem dX9_noRow_18 : decode cX9_noRow 18 = .ok (.ifCond .lt 14, 3) := by decide +kernel
theorem dX9_noRow_21 : decode cX9_noRow 21 = .ok (.aload_n 0, 1) := by decide +kernel
theorem dX9_noRow_22 : decode cX9_noRow 22 = .ok (.iload_n 1, 1) := by decide +kernel
theorem dX9_noRow_23 : decode cX9_noRow 23 = .ok (.invokevirtual 97, 3) := by decide +kernel
theorem dX9_noRow_26 : decode cX9_noRow 26 = .ok (.ifCond .ne 6, 3) := by decide +kernel
theorem dX9_noRow_29 : decode cX9_noRow 29 = .ok (.bipush (-2), 2) := by decide +kernel
theorem dX9_noRow_31 : decode cX9_noRow 31 = .ok (.ireturn, 1) := by decide +kernel
theorem dX9_noRow_32 : decode cX9_noRow 32 = .ok (.aload_n 0, 1) := by decide +kernel
theorem dX9_noRow_33 : decode cX9_noRow 33 = .ok (.getfield 38, 3) := by decide +kernel
theorem dX9_noRow_36 : decode cX9_noRow 36 = .ok (.iload_n 1, 1) := by decide +kernel
theorem dX9_noRow_37 : decode cX9_noRow 37 = .ok (.iaload, 1) := by decide +kernel
theorem dX9_noRow_38 : decode cX9_noRow 38 = .ok (.ifCond .ge 8, 3) := by decide +kernel
theorem dX9_noRow_41 : decode cX9_noRow 41 = .ok (.bipush (-3), 2) := by decide +kernel
theorem dX9_noRow_43 : decode cX9_noRow 43 = .ok (.goto 4, 3) := by decide +kernel
theorem dX9_noRow_46 : decode cX9_noRow 46 = .ok (.iconst 0, 1) := by decide +kernel
theorem dX9_noRow_47 : decode cX9_noRow 47 = .ok (.ireturn, 1) := by decide +kernel
set_option maxRecDepth 20000 in
theorem c_X9_noRow {G : Gl} {d : Nat} {σ : Sg} {Z : Zt} (hZ : RelM Z σ) (hO : OkZ Z) {s : Int} (hs1 : -2147483648 ≤ s) (hs2 : s < 2147483648) : CT G (d + 1) yX9_noRow cX9_noRow 2 (some .int) [.ref (gA G 54), .int (iI s)] σ (R1 (.int (iI (rowT Z s))) σ) := by
  refine CT.of (by decide +kernel) (Nat.le_of_ble_eq_true rfl) ?_
  change AW G _ RX9 _ _ _ 0 [(0, .ref (gA G 54)), (1, .int (iI s))] [] _ _
  refine A_iload_n (pc := 0) dX9_noRow_0 rfl rfl ?_
  refine A_iconst (pc := 1) dX9_noRow_1 ?_
  refine A_bipush (pc := 2) dX9_noRow_2 (by decide) ?_
  refine A_callS1 (pc := 4) kX9_86 (c_X9_within (v := s) (a := 0) (b := 7) (by omega) (by omega) (by omega) (by omega) (by omega) (by omega)) dX9_noRow_4 rfl rfl (Nat.le_of_ble_eq_true rfl) (Nat.le_of_ble_eq_true rfl) ?_
  refine A_ifb_ne (pc := 7) 12 dX9_noRow_7 (by decide) (fun h7 => ?_) (fun h7 => ?_)
  · skip
    obtain ⟨k, rfl⟩ := Int.eq_ofNat_of_zero_le (show 0 ≤ s by omega)
    have k8 : k < 8 := by omega
    have ks := hZ.2.1 k k8
    have ko := hO.2.1 k k8
    obtain ⟨kb1, kb2, kb3, kb4⟩ := ko.1
    refine A_aload_n (pc := 12) dX9_noRow_12 rfl rfl ?_
    refine A_getR (pc := 13) fX9_38 rfl rfl dX9_noRow_13 ?_
    refine A_iload_n (pc := 16) dX9_noRow_16 rfl rfl ?_
    refine A_ialdv (pc := 17) _ rfl rfl (by omega) (Nat.le_of_ble_eq_true rfl) ks.1 dX9_noRow_17 ?_
    refine A_if_lt (pc := 18) 32 dX9_noRow_18 (by decide) (by omega) (by omega) (fun h18 => ?_) (fun h18 => ?_)
    · skip
      refine A_aload_n (pc := 32) dX9_noRow_32 rfl rfl ?_
      refine A_getR (pc := 33) fX9_38 rfl rfl dX9_noRow_33 ?_
      refine A_iload_n (pc := 36) dX9_noRow_36 rfl rfl ?_
      refine A_ialdv (pc := 37) _ rfl rfl (by omega) (Nat.le_of_ble_eq_true rfl) ks.1 dX9_noRow_37 ?_
      refine A_if_ge (pc := 38) 46 dX9_noRow_38 (by decide) (by omega) (by omega) (fun h38 => ?_) (fun h38 => ?_)
      · skip
        refine A_iconst (pc := 46) dX9_noRow_46 ?_
        refine A_iret (pc := 47) rfl dX9_noRow_47 ?_
        exact R1_e (by unfold rowT; (try simp only [Int.toNat_natCast]); (repeat' split) <;> omega)
      · skip
        refine A_bipush (pc := 41) dX9_noRow_41 (by decide) ?_
        refine A_goto (pc := 43) 47 dX9_noRow_43 (by decide) ?_
        refine A_iret (pc := 47) rfl dX9_noRow_47 ?_
        exact R1_e (by unfold rowT; (try simp only [Int.toNat_natCast]); (repeat' split) <;> omega)
    · skip
      refine A_aload_n (pc := 21) dX9_noRow_21 rfl rfl ?_
      refine A_iload_n (pc := 22) dX9_noRow_22 rfl rfl ?_
      refine A_callV1 (pc := 23) kX9_97 rfl rfl (c_X9_isRow hZ hO k8) dX9_noRow_23 rfl rfl (Nat.le_of_ble_eq_true rfl) (Nat.le_of_ble_eq_true rfl) ?_
      refine A_ifb_ne (pc := 26) 32 dX9_noRow_26 (by decide) (fun h26 => ?_) (fun h26 => ?_)
      · skip
        refine A_aload_n (pc := 32) dX9_noRow_32 rfl rfl ?_
        refine A_getR (pc := 33) fX9_38 rfl rfl dX9_noRow_33 ?_
        refine A_iload_n (pc := 36) dX9_noRow_36 rfl rfl ?_
        refine A_ialdv (pc := 37) _ rfl rfl (by omega) (Nat.le_of_ble_eq_true rfl) ks.1 dX9_noRow_37 ?_
        refine A_if_ge (pc := 38) 46 dX9_noRow_38 (by decide) (by omega) (by omega) (fun h38 => ?_) (fun h38 => ?_)
        · skip
          refine A_iconst (pc := 46) dX9_noRow_46 ?_
          refine A_iret (pc := 47) rfl dX9_noRow_47 ?_
          exact R1_e (by unfold rowT; (try simp only [Int.toNat_natCast]); (repeat' split) <;> omega)
        · skip
          refine A_bipush (pc := 41) dX9_noRow_41 (by decide) ?_
          refine A_goto (pc := 43) 47 dX9_noRow_43 (by decide) ?_
          refine A_iret (pc := 47) rfl dX9_noRow_47 ?_
          exact R1_e (by unfold rowT; (try simp only [Int.toNat_natCast]); (repeat' split) <;> omega)
      · skip
        refine A_bipush (pc := 29) dX9_noRow_29 (by decide) ?_
        refine A_iret (pc := 31) rfl dX9_noRow_31 ?_
        exact R1_e (by unfold rowT; (try simp only [Int.toNat_natCast]); (repeat' split) <;> omega)
  · skip
    refine A_iconst (pc := 10) dX9_noRow_10 ?_
    refine A_iret (pc := 11) rfl dX9_noRow_11 ?_
    exact R1_e (by unfold rowT; (try simp only [Int.toNat_natCast]); (repeat' split) <;> omega)
theorem dX9_row_0 : decode cX9_row 0 = .ok (.iload_n 1, 1) := by decide +kernel
theorem dX9_row_1 : decode cX9_row 1 = .ok (.iconst 0, 1) := by decide +kernel
theorem dX9_row_2 : decode cX9_row 2 = .ok (.bipush 7, 2) := by decide +kernel
theorem dX9_row_4 : decode cX9_row 4 = .ok (.invokestatic 86, 3) := by decide +kernel
theorem dX9_row_7 : decode cX9_row 7 = .ok (.ifCond .ne 9, 3) := by decide +kernel
theorem dX9_row_10 : decode cX9_row 10 = .ok (.aload_n 0, 1) := by decide +kernel
theorem dX9_row_11 : decode cX9_row 11 = .ok (.iconst (-1), 1) := by decide +kernel
theorem dX9_row_12 : decode cX9_row 12 = .ok (.invokevirtual 79, 3) := by decide +kernel
theorem dX9_row_15 : decode cX9_row 15 = .ok (.ireturn, 1) := by decide +kernel
theorem dX9_row_16 : decode cX9_row 16 = .ok (.iload_n 3, 1) := by decide +kernel
theorem dX9_row_17 : decode cX9_row 17 = .ok (.ifCond .ge 10, 3) := by decide +kernel
theorem dX9_row_20 : decode cX9_row 20 = .ok (.aload_n 0, 1) := by decide +kernel
theorem dX9_row_21 : decode cX9_row 21 = .ok (.bipush (-4), 2) := by decide +kernel
theorem dX9_row_23 : decode cX9_row 23 = .ok (.invokevirtual 79, 3) := by decide +kernel
theorem dX9_row_26 : decode cX9_row 26 = .ok (.ireturn, 1) := by decide +kernel
theorem dX9_row_27 : decode cX9_row 27 = .ok (.iload_n 2, 1) := by decide +kernel
theorem dX9_row_28 : decode cX9_row 28 = .ok (.iconst 0, 1) := by decide +kernel
theorem dX9_row_29 : decode cX9_row 29 = .ok (.iconst 3, 1) := by decide +kernel
theorem dX9_row_30 : decode cX9_row 30 = .ok (.invokestatic 86, 3) := by decide +kernel
theorem dX9_row_33 : decode cX9_row 33 = .ok (.ifCond .ne 10, 3) := by decide +kernel
theorem dX9_row_36 : decode cX9_row 36 = .ok (.aload_n 0, 1) := by decide +kernel
theorem dX9_row_37 : decode cX9_row 37 = .ok (.bipush (-6), 2) := by decide +kernel
theorem dX9_row_39 : decode cX9_row 39 = .ok (.invokevirtual 79, 3) := by decide +kernel
theorem dX9_row_42 : decode cX9_row 42 = .ok (.ireturn, 1) := by decide +kernel
theorem dX9_row_43 : decode cX9_row 43 = .ok (.iload_n 3, 1) := by decide +kernel
theorem dX9_row_44 : decode cX9_row 44 = .ok (.sipush 160, 3) := by decide +kernel
theorem dX9_row_47 : decode cX9_row 47 = .ok (.if_icmp .le 10, 3) := by decide +kernel
theorem dX9_row_50 : decode cX9_row 50 = .ok (.aload_n 0, 1) := by decide +kernel
theorem dX9_row_51 : decode cX9_row 51 = .ok (.bipush (-7), 2) := by decide +kernel
theorem dX9_row_53 : decode cX9_row 53 = .ok (.invokevirtual 79, 3) := by decide +kernel
theorem dX9_row_56 : decode cX9_row 56 = .ok (.ireturn, 1) := by decide +kernel
theorem dX9_row_57 : decode cX9_row 57 = .ok (.aload_n 0, 1) := by decide +kernel
theorem dX9_row_58 : decode cX9_row 58 = .ok (.getfield 38, 3) := by decide +kernel
theorem dX9_row_61 : decode cX9_row 61 = .ok (.iload_n 1, 1) := by decide +kernel
theorem dX9_row_62 : decode cX9_row 62 = .ok (.bipush 100, 2) := by decide +kernel
theorem dX9_row_64 : decode cX9_row 64 = .ok (.iload_n 2, 1) := by decide +kernel
theorem dX9_row_65 : decode cX9_row 65 = .ok (.iadd, 1) := by decide +kernel
theorem dX9_row_66 : decode cX9_row 66 = .ok (.iastore, 1) := by decide +kernel
theorem dX9_row_67 : decode cX9_row 67 = .ok (.aload_n 0, 1) := by decide +kernel
theorem dX9_row_68 : decode cX9_row 68 = .ok (.getfield 41, 3) := by decide +kernel
theorem dX9_row_71 : decode cX9_row 71 = .ok (.iload_n 1, 1) := by decide +kernel
theorem dX9_row_72 : decode cX9_row 72 = .ok (.iload_n 3, 1) := by decide +kernel
theorem dX9_row_73 : decode cX9_row 73 = .ok (.iastore, 1) := by decide +kernel
theorem dX9_row_74 : decode cX9_row 74 = .ok (.iconst 0, 1) := by decide +kernel
theorem dX9_row_75 : decode cX9_row 75 = .ok (.istore 4, 2) := by decide +kernel
theorem dX9_row_77 : decode cX9_row 77 = .ok (.iload 4, 2) := by decide +kernel
theorem dX9_row_79 : decode cX9_row 79 = .ok (.sipush 160, 3) := by decide +kernel
theorem dX9_row_82 : decode cX9_row 82 = .ok (.if_icmp .ge 23, 3) := by decide +kernel
theorem dX9_row_85 : decode cX9_row 85 = .ok (.aload_n 0, 1) := by decide +kernel
theorem dX9_row_86 : decode cX9_row 86 = .ok (.getfield 44, 3) := by decide +kernel
theorem dX9_row_89 : decode cX9_row 89 = .ok (.sipush 160, 3) := by decide +kernel
theorem dX9_row_92 : decode cX9_row 92 = .ok (.iload_n 1, 1) := by decide +kernel
theorem dX9_row_93 : decode cX9_row 93 = .ok (.imul, 1) := by decide +kernel
theorem dX9_row_94 : decode cX9_row 94 = .ok (.iload 4, 2) := by decide +kernel
theorem dX9_row_96 : decode cX9_row 96 = .ok (.iadd, 1) := by decide +kernel
theorem dX9_row_97 : decode cX9_row 97 = .ok (.lconst 0, 1) := by decide +kernel
theorem dX9_row_98 : decode cX9_row 98 = .ok (.lastore, 1) := by decide +kernel
theorem dX9_row_99 : decode cX9_row 99 = .ok (.iinc 4 1, 3) := by decide +kernel
theorem dX9_row_102 : decode cX9_row 102 = .ok (.goto (-25), 3) := by decide +kernel
theorem dX9_row_105 : decode cX9_row 105 = .ok (.iconst 1, 1) := by decide +kernel
theorem dX9_row_106 : decode cX9_row 106 = .ok (.ireturn, 1) := by decide +kernel
set_option maxRecDepth 20000 in
theorem l_X9_row {G : Gl} {d : Nat} {σ0 : Sg} {K : Option Value → Sg → Prop} {k : Nat} (k8 : k < 8) : ∀ (n i : Nat) (σ : Sg), i + n = 160 → Fr (fun a => a = 66) σ0 σ → σ.1 = σ0.1 → (∀ j, j < 8 → ∀ x, x < 160 → σ.2 66 (160 * j + x) = if j = k ∧ x < i then 0 else σ0.2 66 (160 * j + x)) → (∀ υ, Fr (fun a => a = 66) σ0 υ → υ.1 = σ0.1 → (∀ j, j < 8 → ∀ x, x < 160 → υ.2 66 (160 * j + x) = if j = k then 0 else σ0.2 66 (160 * j + x)) → K (some (.int (iI 1))) υ) → AW G d RX9 cX9_row 5 (some .int) 77 [(0, .ref (gA G 54)), (1, .int (iI (k : Int))), (4, .int (iI (i : Int)))] [] σ K := by
  intro n
  induction n using Nat.strongRecOn
  rename_i n ih
  intro i σ hn hF he hz hK
  refine A_iload (pc := 77) dX9_row_77 rfl ?_
  refine A_sipush (pc := 79) dX9_row_79 (by decide) ?_
  refine A_icmp_ge (pc := 82) 105 dX9_row_82 (by decide) (by omega) (by omega) (by omega) (by omega) (fun h82 => ?_) (fun h82 => ?_)
  · skip
    refine A_iconst (pc := 105) dX9_row_105 ?_
    refine A_iret (pc := 106) rfl dX9_row_106 ?_
    refine hK σ hF he (fun j hj x hx => ?_)
    rw [hz j hj x hx]
    by_cases q : j = k
    · rw [if_pos ⟨q, by omega⟩, if_pos q]
    · rw [if_neg (fun z => q z.1), if_neg q]
  · skip
    refine A_aload_n (pc := 85) dX9_row_85 rfl rfl ?_
    refine A_getR (pc := 86) fX9_44 rfl rfl dX9_row_86 ?_
    refine A_sipush (pc := 89) dX9_row_89 (by decide) ?_
    refine A_iload_n (pc := 92) dX9_row_92 rfl rfl ?_
    refine A_imul (pc := 93) dX9_row_93 ?_
    refine A_iload (pc := 94) dX9_row_94 rfl ?_
    refine A_iadd (pc := 96) dX9_row_96 ?_
    refine A_lconst (pc := 97) 0 dX9_row_97 rfl ?_
    refine A_last (pc := 98) (160 * k + i) rfl (by omega) (by omega) (Nat.le_of_ble_eq_true rfl) dX9_row_98 ?_
    refine A_iinc (pc := 99) dX9_row_99 rfl (Nat.le_of_ble_eq_true rfl) ?_
    refine A_goto (pc := 102) 77 dX9_row_102 (by decide) ?_
    obtain ⟨m, rfl⟩ : ∃ m, n = m + 1 := ⟨n - 1, by omega⟩
    refine A_loc (l2 := [(0, _), (1, _), (4, _)]) ⟨rfl, rfl, rfl, trivial⟩ ?_
    refine ih m (by omega) (i + 1) _ (by omega) (hF.uL rfl) he (fun j hj x hx => ?_) hK
    rw [uL_at]
    by_cases e : j = k ∧ x = i
    · rw [if_pos ⟨rfl, by omega⟩, if_pos ⟨e.1, by omega⟩]
    · rw [if_neg (by omega), hz j hj x hx]
      by_cases q : j = k ∧ x < i
      · rw [if_pos q, if_pos ⟨q.1, by omega⟩]
      · rw [if_neg q, if_neg (by omega)]
set_option maxRecDepth 20000 in
theorem c_X9_row {G : Gl} {d : Nat} {σ : Sg} {Z : Zt} (hZ : RelM Z σ) (hO : OkZ Z) {s : Int} (hs1 : -2147483648 ≤ s) (hs2 : s < 2147483648) {sort : Int} (hsort1 : -2147483648 ≤ sort) (hsort2 : sort < 2147483648) {n : Int} (hn1 : -2147483648 ≤ n) (hn2 : n < 2147483648) : CT G (d + 1) yX9_row cX9_row 5 (some .int) [.ref (gA G 54), .int (iI s), .int (iI sort), .int (iI n)] σ (RE (some (.int (iI (qRow Z s sort n).1))) (fun υ => RelM (qRow Z s sort n).2 υ ∧ Fr MC σ υ)) := by
  refine CT.of (by decide +kernel) (Nat.le_of_ble_eq_true rfl) ?_
  change AW G _ RX9 _ _ _ 0 [(0, .ref (gA G 54)), (1, .int (iI s)), (2, .int (iI sort)), (3, .int (iI n))] [] _ _
  refine A_iload_n (pc := 0) dX9_row_0 rfl rfl ?_
  refine A_iconst (pc := 1) dX9_row_1 ?_
  refine A_bipush (pc := 2) dX9_row_2 (by decide) ?_
  refine A_callS1 (pc := 4) kX9_86 (c_X9_within (v := s) (a := 0) (b := 7) (by omega) (by omega) (by omega) (by omega) (by omega) (by omega)) dX9_row_4 rfl rfl (Nat.le_of_ble_eq_true rfl) (Nat.le_of_ble_eq_true rfl) ?_
  refine A_ifb_ne (pc := 7) 16 dX9_row_7 (by decide) (fun h7 => ?_) (fun h7 => ?_)
  · skip
    refine A_iload_n (pc := 16) dX9_row_16 rfl rfl ?_
    refine A_if_ge (pc := 17) 27 dX9_row_17 (by decide) (by omega) (by omega) (fun h17 => ?_) (fun h17 => ?_)
    · skip
      refine A_iload_n (pc := 27) dX9_row_27 rfl rfl ?_
      refine A_iconst (pc := 28) dX9_row_28 ?_
      refine A_iconst (pc := 29) dX9_row_29 ?_
      refine A_callS1 (pc := 30) kX9_86 (c_X9_within (v := sort) (a := 0) (b := 3) (by omega) (by omega) (by omega) (by omega) (by omega) (by omega)) dX9_row_30 rfl rfl (Nat.le_of_ble_eq_true rfl) (Nat.le_of_ble_eq_true rfl) ?_
      refine A_ifb_ne (pc := 33) 43 dX9_row_33 (by decide) (fun h33 => ?_) (fun h33 => ?_)
      · skip
        refine A_iload_n (pc := 43) dX9_row_43 rfl rfl ?_
        refine A_sipush (pc := 44) dX9_row_44 (by decide) ?_
        refine A_icmp_le (pc := 47) 57 dX9_row_47 (by decide) (by omega) (by omega) (by omega) (by omega) (fun h47 => ?_) (fun h47 => ?_)
        · skip
          obtain ⟨k, rfl⟩ := Int.eq_ofNat_of_zero_le (show 0 ≤ s by omega)
          have k8 : k < 8 := by omega
          have ks := hZ.2.1 k k8
          have ko := hO.2.1 k k8
          obtain ⟨kb1, kb2, kb3, kb4⟩ := ko.1
          refine A_aload_n (pc := 57) dX9_row_57 rfl rfl ?_
          refine A_getR (pc := 58) fX9_38 rfl rfl dX9_row_58 ?_
          refine A_iload_n (pc := 61) dX9_row_61 rfl rfl ?_
          refine A_bipush (pc := 62) dX9_row_62 (by decide) ?_
          refine A_iload_n (pc := 64) dX9_row_64 rfl rfl ?_
          refine A_iadd (pc := 65) dX9_row_65 ?_
          refine A_iast (pc := 66) _ rfl rfl (by omega) (Nat.le_of_ble_eq_true rfl) dX9_row_66 ?_
          refine A_aload_n (pc := 67) dX9_row_67 rfl rfl ?_
          refine A_getR (pc := 68) fX9_41 rfl rfl dX9_row_68 ?_
          refine A_iload_n (pc := 71) dX9_row_71 rfl rfl ?_
          refine A_iload_n (pc := 72) dX9_row_72 rfl rfl ?_
          refine A_iast (pc := 73) _ rfl rfl (by omega) (Nat.le_of_ble_eq_true rfl) dX9_row_73 ?_
          refine A_iconst (pc := 74) dX9_row_74 ?_
          refine A_istore (pc := 75) dX9_row_75 (Nat.le_of_ble_eq_true rfl) ?_
          refine A_loc (l2 := [(0, _), (1, _), (4, _)]) ⟨rfl, rfl, rfl, trivial⟩ ?_
          refine l_X9_row (σ0 := uI (uI σ 64 k (100 + sort)) 65 k n) k8 160 0 _ (by omega) Fr.rf rfl (fun j hj x hx => by rw [if_neg (by omega)]) (fun υ g1 g2 g3 => ?_)
          have hFr : Fr (fun a => a = 64 ∨ a = 65 ∨ a = 66) σ υ := ((Fr.rf.uI (Or.inl rfl)).uI (Or.inr (Or.inl rfl))).tr (g1.mono (fun a h => Or.inr (Or.inr h)))
          refine RQM (by unfold qRow; rw [if_neg (by omega), if_neg (by omega), if_neg (by omega), if_neg (by omega)]; rfl) (hZ.shelf (k := k) (hd := 100 + sort) (n := n) (el := fun _ => 0) hFr (fun j hj => ?_) (fun j hj => ⟨fun e _ => ?_, fun e => ?_⟩) (fun j hj x hx => ?_)) (hFr.mono MC66)
          · rw [g2]; by_cases e : j = k
            · rw [uI_at, if_neg (by omega), uI_at, if_pos ⟨rfl, e⟩]; exact (if_pos e).symm
            · rw [uI_at, if_neg (by omega), uI_at, if_neg (by omega)]; exact (if_neg e).symm
          · rw [g2, e, uI_at, if_pos ⟨rfl, rfl⟩]
          · rw [g2, uI_at, if_neg (by omega), uI_at, if_neg (by omega)]
          · rw [g3 j hj x hx]; rfl
        · skip
          refine A_aload_n (pc := 50) dX9_row_50 rfl rfl ?_
          refine A_bipush (pc := 51) dX9_row_51 (by decide) ?_
          refine A_callVe (pc := 53) kX9_79 rfl rfl (c_X9_no hZ hO (t := -7) (by omega) (by omega)) dX9_row_53 rfl rfl (Nat.le_of_ble_eq_true rfl) (Nat.le_of_ble_eq_true rfl) (fun υ hυ => ?_)
          refine A_iret (pc := 56) rfl dX9_row_56 ?_
          exact RQM (by unfold qRow; rw [if_neg (by omega), if_neg (by omega), if_neg (by omega), if_pos (by omega)]; rfl) hυ.1 (hυ.2.mono MC70)
      · skip
        refine A_aload_n (pc := 36) dX9_row_36 rfl rfl ?_
        refine A_bipush (pc := 37) dX9_row_37 (by decide) ?_
        refine A_callVe (pc := 39) kX9_79 rfl rfl (c_X9_no hZ hO (t := -6) (by omega) (by omega)) dX9_row_39 rfl rfl (Nat.le_of_ble_eq_true rfl) (Nat.le_of_ble_eq_true rfl) (fun υ hυ => ?_)
        refine A_iret (pc := 42) rfl dX9_row_42 ?_
        exact RQM (by unfold qRow; rw [if_neg (by omega), if_neg (by omega), if_pos (by omega)]; rfl) hυ.1 (hυ.2.mono MC70)
    · skip
      refine A_aload_n (pc := 20) dX9_row_20 rfl rfl ?_
      refine A_bipush (pc := 21) dX9_row_21 (by decide) ?_
      refine A_callVe (pc := 23) kX9_79 rfl rfl (c_X9_no hZ hO (t := -4) (by omega) (by omega)) dX9_row_23 rfl rfl (Nat.le_of_ble_eq_true rfl) (Nat.le_of_ble_eq_true rfl) (fun υ hυ => ?_)
      refine A_iret (pc := 26) rfl dX9_row_26 ?_
      exact RQM (by unfold qRow; rw [if_neg (by omega), if_pos (by omega)]; rfl) hυ.1 (hυ.2.mono MC70)
  · skip
    refine A_aload_n (pc := 10) dX9_row_10 rfl rfl ?_
    refine A_iconst (pc := 11) dX9_row_11 ?_
    refine A_callVe (pc := 12) kX9_79 rfl rfl (c_X9_no hZ hO (t := -1) (by omega) (by omega)) dX9_row_12 rfl rfl (Nat.le_of_ble_eq_true rfl) (Nat.le_of_ble_eq_true rfl) (fun υ hυ => ?_)
    refine A_iret (pc := 15) rfl dX9_row_15 ?_
    exact RQM (by unfold qRow; rw [if_pos (by omega)]; rfl) hυ.1 (hυ.2.mono MC70)
theorem dX9_set_0 : decode cX9_set 0 = .ok (.aload_n 0, 1) := by decide +kernel
theorem dX9_set_1 : decode cX9_set 1 = .ok (.iload_n 1, 1) := by decide +kernel
theorem dX9_set_2 : decode cX9_set 2 = .ok (.invokevirtual 100, 3) := by decide +kernel
theorem dX9_set_5 : decode cX9_set 5 = .ok (.istore 5, 2) := by decide +kernel
theorem dX9_set_7 : decode cX9_set 7 = .ok (.iload 5, 2) := by decide +kernel
theorem dX9_set_9 : decode cX9_set 9 = .ok (.ifCond .ge 10, 3) := by decide +kernel
theorem dX9_set_12 : decode cX9_set 12 = .ok (.aload_n 0, 1) := by decide +kernel
theorem dX9_set_13 : decode cX9_set 13 = .ok (.iload 5, 2) := by decide +kernel
theorem dX9_set_15 : decode cX9_set 15 = .ok (.invokevirtual 79, 3) := by decide +kernel
theorem dX9_set_18 : decode cX9_set 18 = .ok (.ireturn, 1) := by decide +kernel
theorem dX9_set_19 : decode cX9_set 19 = .ok (.iload_n 2, 1) := by decide +kernel
theorem dX9_set_20 : decode cX9_set 20 = .ok (.iconst 0, 1) := by decide +kernel
theorem dX9_set_21 : decode cX9_set 21 = .ok (.aload_n 0, 1) := by decide +kernel
theorem dX9_set_22 : decode cX9_set 22 = .ok (.getfield 41, 3) := by decide +kernel
theorem dX9_set_25 : decode cX9_set 25 = .ok (.iload_n 1, 1) := by decide +kernel
theorem dX9_set_26 : decode cX9_set 26 = .ok (.iaload, 1) := by decide +kernel
theorem dX9_set_27 : decode cX9_set 27 = .ok (.iconst 1, 1) := by decide +kernel
theorem dX9_set_28 : decode cX9_set 28 = .ok (.isub, 1) := by decide +kernel
theorem dX9_set_29 : decode cX9_set 29 = .ok (.invokestatic 86, 3) := by decide +kernel
theorem dX9_set_32 : decode cX9_set 32 = .ok (.ifCond .ne 10, 3) := by decide +kernel
theorem dX9_set_35 : decode cX9_set 35 = .ok (.aload_n 0, 1) := by decide +kernel
theorem dX9_set_36 : decode cX9_set 36 = .ok (.bipush (-5), 2) := by decide +kernel
theorem dX9_set_38 : decode cX9_set 38 = .ok (.invokevirtual 79, 3) := by decide +kernel
theorem dX9_set_41 : decode cX9_set 41 = .ok (.ireturn, 1) := by decide +kernel
theorem dX9_set_42 : decode cX9_set 42 = .ok (.aload_n 0, 1) := by decide +kernel
theorem dX9_set_43 : decode cX9_set 43 = .ok (.getfield 38, 3) := by decide +kernel
theorem dX9_set_46 : decode cX9_set 46 = .ok (.iload_n 1, 1) := by decide +kernel
theorem dX9_set_47 : decode cX9_set 47 = .ok (.iaload, 1) := by decide +kernel
theorem dX9_set_48 : decode cX9_set 48 = .ok (.bipush 100, 2) := by decide +kernel
theorem dX9_set_50 : decode cX9_set 50 = .ok (.isub, 1) := by decide +kernel
theorem dX9_set_51 : decode cX9_set 51 = .ok (.istore 6, 2) := by decide +kernel
theorem dX9_set_53 : decode cX9_set 53 = .ok (.aload_n 0, 1) := by decide +kernel
theorem dX9_set_54 : decode cX9_set 54 = .ok (.getfield 44, 3) := by decide +kernel
theorem dX9_set_57 : decode cX9_set 57 = .ok (.sipush 160, 3) := by decide +kernel
theorem dX9_set_60 : decode cX9_set 60 = .ok (.iload_n 1, 1) := by decide +kernel
theorem dX9_set_61 : decode cX9_set 61 = .ok (.imul, 1) := by decide +kernel
theorem dX9_set_62 : decode cX9_set 62 = .ok (.iload_n 2, 1) := by decide +kernel
theorem dX9_set_63 : decode cX9_set 63 = .ok (.iadd, 1) := by decide +kernel
theorem dX9_set_64 : decode cX9_set 64 = .ok (.iload 6, 2) := by decide +kernel
theorem dX9_set_66 : decode cX9_set 66 = .ok (.ifCond .ne 10, 3) := by decide +kernel
theorem dX9_set_69 : decode cX9_set 69 = .ok (.lload_n 3, 1) := by decide +kernel
theorem dX9_set_70 : decode cX9_set 70 = .ok (.l2i, 1) := by decide +kernel
theorem dX9_set_71 : decode cX9_set 71 = .ok (.i2b, 1) := by decide +kernel
theorem dX9_set_72 : decode cX9_set 72 = .ok (.i2l, 1) := by decide +kernel
theorem dX9_set_73 : decode cX9_set 73 = .ok (.goto 29, 3) := by decide +kernel
theorem dX9_set_76 : decode cX9_set 76 = .ok (.iload 6, 2) := by decide +kernel
theorem dX9_set_78 : decode cX9_set 78 = .ok (.iconst 1, 1) := by decide +kernel
theorem dX9_set_79 : decode cX9_set 79 = .ok (.if_icmp .ne 10, 3) := by decide +kernel
theorem dX9_set_82 : decode cX9_set 82 = .ok (.lload_n 3, 1) := by decide +kernel
theorem dX9_set_83 : decode cX9_set 83 = .ok (.l2i, 1) := by decide +kernel
theorem dX9_set_84 : decode cX9_set 84 = .ok (.i2s, 1) := by decide +kernel
theorem dX9_set_85 : decode cX9_set 85 = .ok (.i2l, 1) := by decide +kernel
theorem dX9_set_86 : decode cX9_set 86 = .ok (.goto 16, 3) := by decide +kernel
theorem dX9_set_89 : decode cX9_set 89 = .ok (.iload 6, 2) := by decide +kernel
theorem dX9_set_91 : decode cX9_set 91 = .ok (.iconst 2, 1) := by decide +kernel
theorem dX9_set_92 : decode cX9_set 92 = .ok (.if_icmp .ne 9, 3) := by decide +kernel
theorem dX9_set_95 : decode cX9_set 95 = .ok (.lload_n 3, 1) := by decide +kernel
theorem dX9_set_96 : decode cX9_set 96 = .ok (.l2i, 1) := by decide +kernel
theorem dX9_set_97 : decode cX9_set 97 = .ok (.i2l, 1) := by decide +kernel
theorem dX9_set_98 : decode cX9_set 98 = .ok (.goto 4, 3) := by decide +kernel
theorem dX9_set_101 : decode cX9_set 101 = .ok (.lload_n 3, 1) := by decide +kernel
theorem dX9_set_102 : decode cX9_set 102 = .ok (.lastore, 1) := by decide +kernel
theorem dX9_set_103 : decode cX9_set 103 = .ok (.iconst 1, 1) := by decide +kernel
theorem dX9_set_104 : decode cX9_set 104 = .ok (.ireturn, 1) := by decide +kernel
set_option maxRecDepth 20000 in
theorem c_X9_set {G : Gl} {d : Nat} {σ : Sg} {Z : Zt} (hZ : RelM Z σ) (hO : OkZ Z) {s : Int} (hs1 : -2147483648 ≤ s) (hs2 : s < 2147483648) {i : Int} (hi1 : -2147483648 ≤ i) (hi2 : i < 2147483648) {v : Int64} : CT G (d + 2) yX9_set cX9_set 7 (some .int) [.ref (gA G 54), .int (iI s), .int (iI i), .long (v)] σ (RE (some (.int (iI (qSet Z s i v).1))) (fun υ => RelM (qSet Z s i v).2 υ ∧ Fr MC σ υ)) := by
  refine CT.of (by decide +kernel) (Nat.le_of_ble_eq_true rfl) ?_
  change AW G _ RX9 _ _ _ 0 [(0, .ref (gA G 54)), (1, .int (iI s)), (2, .int (iI i)), (3, .long (v))] [] _ _
  have hrt := rowT_rng Z s
  refine A_aload_n (pc := 0) dX9_set_0 rfl rfl ?_
  refine A_iload_n (pc := 1) dX9_set_1 rfl rfl ?_
  refine A_callV1 (pc := 2) kX9_100 rfl rfl (c_X9_noRow hZ hO hs1 hs2) dX9_set_2 rfl rfl (Nat.le_of_ble_eq_true rfl) (Nat.le_of_ble_eq_true rfl) ?_
  refine A_istore (pc := 5) dX9_set_5 (Nat.le_of_ble_eq_true rfl) ?_
  refine A_iload (pc := 7) dX9_set_7 rfl ?_
  refine A_if_ge (pc := 9) 19 dX9_set_9 (by decide) (by omega) (by omega) (fun h9 => ?_) (fun h9 => ?_)
  · skip
    have h90 : rowT Z s = 0 := by omega
    obtain ⟨h8, h100⟩ := rowT_0 h90
    obtain ⟨k, rfl⟩ := Int.eq_ofNat_of_zero_le (show 0 ≤ s by omega)
    have k8 : k < 8 := by omega
    have ks := hZ.2.1 k k8
    have ko := hO.2.1 k k8
    obtain ⟨kb1, kb2, kb3, kb4⟩ := ko.1
    simp only [Int.toNat_natCast] at h100
    refine A_iload_n (pc := 19) dX9_set_19 rfl rfl ?_
    refine A_iconst (pc := 20) dX9_set_20 ?_
    refine A_aload_n (pc := 21) dX9_set_21 rfl rfl ?_
    refine A_getR (pc := 22) fX9_41 rfl rfl dX9_set_22 ?_
    refine A_iload_n (pc := 25) dX9_set_25 rfl rfl ?_
    refine A_ialdv (pc := 26) _ rfl rfl (by omega) (Nat.le_of_ble_eq_true rfl) (ks.2.1 h100) dX9_set_26 ?_
    refine A_iconst (pc := 27) dX9_set_27 ?_
    refine A_isub (pc := 28) dX9_set_28 ?_
    refine A_callS1 (pc := 29) kX9_86 (c_X9_within (v := i) (a := 0) (b := Z.2.1.2.1 k - 1) (by omega) (by omega) (by omega) (by omega) (by omega) (by omega)) dX9_set_29 rfl rfl (Nat.le_of_ble_eq_true rfl) (Nat.le_of_ble_eq_true rfl) ?_
    refine A_ifb_ne (pc := 32) 42 dX9_set_32 (by decide) (fun h32 => ?_) (fun h32 => ?_)
    · skip
      obtain ⟨j, rfl⟩ := Int.eq_ofNat_of_zero_le (show 0 ≤ i by omega)
      refine A_aload_n (pc := 42) dX9_set_42 rfl rfl ?_
      refine A_getR (pc := 43) fX9_38 rfl rfl dX9_set_43 ?_
      refine A_iload_n (pc := 46) dX9_set_46 rfl rfl ?_
      refine A_ialdv (pc := 47) _ rfl rfl (by omega) (Nat.le_of_ble_eq_true rfl) ks.1 dX9_set_47 ?_
      refine A_bipush (pc := 48) dX9_set_48 (by decide) ?_
      refine A_isub (pc := 50) dX9_set_50 ?_
      refine A_istore (pc := 51) dX9_set_51 (Nat.le_of_ble_eq_true rfl) ?_
      refine A_aload_n (pc := 53) dX9_set_53 rfl rfl ?_
      refine A_getR (pc := 54) fX9_44 rfl rfl dX9_set_54 ?_
      refine A_sipush (pc := 57) dX9_set_57 (by decide) ?_
      refine A_iload_n (pc := 60) dX9_set_60 rfl rfl ?_
      refine A_imul (pc := 61) dX9_set_61 ?_
      refine A_iload_n (pc := 62) dX9_set_62 rfl rfl ?_
      refine A_iadd (pc := 63) dX9_set_63 ?_
      refine A_iload (pc := 64) dX9_set_64 rfl ?_
      refine A_if_ne (pc := 66) 76 dX9_set_66 (by decide) (by omega) (by omega) (fun h66 => ?_) (fun h66 => ?_)
      · skip
        refine A_iload (pc := 76) dX9_set_76 rfl ?_
        refine A_iconst (pc := 78) dX9_set_78 ?_
        refine A_icmp_ne (pc := 79) 89 dX9_set_79 (by decide) (by omega) (by omega) (by omega) (by omega) (fun h79 => ?_) (fun h79 => ?_)
        · skip
          refine A_iload (pc := 89) dX9_set_89 rfl ?_
          refine A_iconst (pc := 91) dX9_set_91 ?_
          refine A_icmp_ne (pc := 92) 101 dX9_set_92 (by decide) (by omega) (by omega) (by omega) (by omega) (fun h92 => ?_) (fun h92 => ?_)
          · skip
            refine A_lload_n (pc := 101) dX9_set_101 rfl rfl ?_
            refine A_last (pc := 102) (160 * k + j) rfl (by omega) (by omega) (Nat.le_of_ble_eq_true rfl) dX9_set_102 ?_
            refine A_iconst (pc := 103) dX9_set_103 ?_
            refine A_iret (pc := 104) rfl dX9_set_104 ?_
            refine RQM (by unfold qSet; rw [if_neg (by omega), if_neg (by simp only [Int.toNat_natCast]; omega)]; rfl) (hZ.shelf (k := k) (hd := Z.2.1.1 k) (n := Z.2.1.2.1 k) (el := fun x => if x = j then lowB (Z.2.1.1 k - 100) v else Z.2.1.2.2 k x) (Fr.rf.uL (Or.inr (Or.inr rfl))) (fun b hb => ?_) (fun b hb => ⟨fun e _ => ?_, fun e => rfl⟩) (fun b hb x hx => ?_)) ((Fr.rf.uL (Or.inr (Or.inr rfl)) : Fr (fun a => a = 64 ∨ a = 65 ∨ a = 66) σ _).mono MC66)
            · by_cases e : b = k
              · rw [if_pos e, e]; exact ks.1
              · rw [if_neg e]; rfl
            · rw [e]; exact ks.2.1 h100
            · rw [uL_at]
              by_cases e : b = k
              · rw [if_pos e]
                show _ = if x = j then lowB (Z.2.1.1 k - 100) v else Z.2.1.2.2 k x
                by_cases e2 : x = j
                · rw [if_pos ⟨rfl, by omega⟩, if_pos e2]; rw [lowB, if_neg (by omega), if_neg (by omega), if_neg (by omega)]
                · rw [if_neg (by omega), if_neg e2, e]; exact ks.2.2 x hx
              · rw [if_neg (by omega), if_neg e]
          · skip
            refine A_lload_n (pc := 95) dX9_set_95 rfl rfl ?_
            refine A_l2i (pc := 96) dX9_set_96 ?_
            refine A_i2l (pc := 97) dX9_set_97 ?_
            refine A_goto (pc := 98) 102 dX9_set_98 (by decide) ?_
            refine A_last (pc := 102) (160 * k + j) rfl (by omega) (by omega) (Nat.le_of_ble_eq_true rfl) dX9_set_102 ?_
            refine A_iconst (pc := 103) dX9_set_103 ?_
            refine A_iret (pc := 104) rfl dX9_set_104 ?_
            refine RQM (by unfold qSet; rw [if_neg (by omega), if_neg (by simp only [Int.toNat_natCast]; omega)]; rfl) (hZ.shelf (k := k) (hd := Z.2.1.1 k) (n := Z.2.1.2.1 k) (el := fun x => if x = j then lowB (Z.2.1.1 k - 100) v else Z.2.1.2.2 k x) (Fr.rf.uL (Or.inr (Or.inr rfl))) (fun b hb => ?_) (fun b hb => ⟨fun e _ => ?_, fun e => rfl⟩) (fun b hb x hx => ?_)) ((Fr.rf.uL (Or.inr (Or.inr rfl)) : Fr (fun a => a = 64 ∨ a = 65 ∨ a = 66) σ _).mono MC66)
            · by_cases e : b = k
              · rw [if_pos e, e]; exact ks.1
              · rw [if_neg e]; rfl
            · rw [e]; exact ks.2.1 h100
            · rw [uL_at]
              by_cases e : b = k
              · rw [if_pos e]
                show _ = if x = j then lowB (Z.2.1.1 k - 100) v else Z.2.1.2.2 k x
                by_cases e2 : x = j
                · rw [if_pos ⟨rfl, by omega⟩, if_pos e2]; rw [lowB, if_neg (by omega), if_neg (by omega), if_pos (by omega)]
                · rw [if_neg (by omega), if_neg e2, e]; exact ks.2.2 x hx
              · rw [if_neg (by omega), if_neg e]
        · skip
          refine A_lload_n (pc := 82) dX9_set_82 rfl rfl ?_
          refine A_l2i (pc := 83) dX9_set_83 ?_
          refine A_i2s (pc := 84) dX9_set_84 ?_
          refine A_i2l (pc := 85) dX9_set_85 ?_
          refine A_goto (pc := 86) 102 dX9_set_86 (by decide) ?_
          refine A_last (pc := 102) (160 * k + j) rfl (by omega) (by omega) (Nat.le_of_ble_eq_true rfl) dX9_set_102 ?_
          refine A_iconst (pc := 103) dX9_set_103 ?_
          refine A_iret (pc := 104) rfl dX9_set_104 ?_
          refine RQM (by unfold qSet; rw [if_neg (by omega), if_neg (by simp only [Int.toNat_natCast]; omega)]; rfl) (hZ.shelf (k := k) (hd := Z.2.1.1 k) (n := Z.2.1.2.1 k) (el := fun x => if x = j then lowB (Z.2.1.1 k - 100) v else Z.2.1.2.2 k x) (Fr.rf.uL (Or.inr (Or.inr rfl))) (fun b hb => ?_) (fun b hb => ⟨fun e _ => ?_, fun e => rfl⟩) (fun b hb x hx => ?_)) ((Fr.rf.uL (Or.inr (Or.inr rfl)) : Fr (fun a => a = 64 ∨ a = 65 ∨ a = 66) σ _).mono MC66)
          · by_cases e : b = k
            · rw [if_pos e, e]; exact ks.1
            · rw [if_neg e]; rfl
          · rw [e]; exact ks.2.1 h100
          · rw [uL_at]
            by_cases e : b = k
            · rw [if_pos e]
              show _ = if x = j then lowB (Z.2.1.1 k - 100) v else Z.2.1.2.2 k x
              by_cases e2 : x = j
              · rw [if_pos ⟨rfl, by omega⟩, if_pos e2]; rw [lowB, if_neg (by omega), if_pos (by omega)]
              · rw [if_neg (by omega), if_neg e2, e]; exact ks.2.2 x hx
            · rw [if_neg (by omega), if_neg e]
      · skip
        refine A_lload_n (pc := 69) dX9_set_69 rfl rfl ?_
        refine A_l2i (pc := 70) dX9_set_70 ?_
        refine A_i2b (pc := 71) dX9_set_71 ?_
        refine A_i2l (pc := 72) dX9_set_72 ?_
        refine A_goto (pc := 73) 102 dX9_set_73 (by decide) ?_
        refine A_last (pc := 102) (160 * k + j) rfl (by omega) (by omega) (Nat.le_of_ble_eq_true rfl) dX9_set_102 ?_
        refine A_iconst (pc := 103) dX9_set_103 ?_
        refine A_iret (pc := 104) rfl dX9_set_104 ?_
        refine RQM (by unfold qSet; rw [if_neg (by omega), if_neg (by simp only [Int.toNat_natCast]; omega)]; rfl) (hZ.shelf (k := k) (hd := Z.2.1.1 k) (n := Z.2.1.2.1 k) (el := fun x => if x = j then lowB (Z.2.1.1 k - 100) v else Z.2.1.2.2 k x) (Fr.rf.uL (Or.inr (Or.inr rfl))) (fun b hb => ?_) (fun b hb => ⟨fun e _ => ?_, fun e => rfl⟩) (fun b hb x hx => ?_)) ((Fr.rf.uL (Or.inr (Or.inr rfl)) : Fr (fun a => a = 64 ∨ a = 65 ∨ a = 66) σ _).mono MC66)
        · by_cases e : b = k
          · rw [if_pos e, e]; exact ks.1
          · rw [if_neg e]; rfl
        · rw [e]; exact ks.2.1 h100
        · rw [uL_at]
          by_cases e : b = k
          · rw [if_pos e]
            show _ = if x = j then lowB (Z.2.1.1 k - 100) v else Z.2.1.2.2 k x
            by_cases e2 : x = j
            · rw [if_pos ⟨rfl, by omega⟩, if_pos e2]; rw [lowB, if_pos (by omega)]
            · rw [if_neg (by omega), if_neg e2, e]; exact ks.2.2 x hx
          · rw [if_neg (by omega), if_neg e]
    · skip
      refine A_aload_n (pc := 35) dX9_set_35 rfl rfl ?_
      refine A_bipush (pc := 36) dX9_set_36 (by decide) ?_
      refine A_callVe (pc := 38) kX9_79 rfl rfl (c_X9_no hZ hO (t := -5) (by omega) (by omega)) dX9_set_38 rfl rfl (Nat.le_of_ble_eq_true rfl) (Nat.le_of_ble_eq_true rfl) (fun υ hυ => ?_)
      refine A_iret (pc := 41) rfl dX9_set_41 ?_
      exact RQM (by unfold qSet; rw [if_neg (by omega), if_pos (by simp only [Int.toNat_natCast]; omega)]; rfl) hυ.1 (hυ.2.mono MC70)
  · skip
    refine A_aload_n (pc := 12) dX9_set_12 rfl rfl ?_
    refine A_iload (pc := 13) dX9_set_13 rfl ?_
    refine A_callVe (pc := 15) kX9_79 rfl rfl (c_X9_no hZ hO (t := rowT Z s) (by omega) (by omega)) dX9_set_15 rfl rfl (Nat.le_of_ble_eq_true rfl) (Nat.le_of_ble_eq_true rfl) (fun υ hυ => ?_)
    refine A_iret (pc := 18) rfl dX9_set_18 ?_
    exact RQM (by unfold qSet; rw [if_pos (by omega)]; rfl) hυ.1 (hυ.2.mono MC70)
theorem dX9_element_0 : decode cX9_element 0 = .ok (.iload_n 1, 1) := by decide +kernel
theorem dX9_element_1 : decode cX9_element 1 = .ok (.iconst 0, 1) := by decide +kernel
theorem dX9_element_2 : decode cX9_element 2 = .ok (.bipush 7, 2) := by decide +kernel
theorem dX9_element_4 : decode cX9_element 4 = .ok (.invokestatic 86, 3) := by decide +kernel
theorem dX9_element_7 : decode cX9_element 7 = .ok (.ifCond .eq 42, 3) := by decide +kernel
theorem dX9_element_10 : decode cX9_element 10 = .ok (.aload_n 0, 1) := by decide +kernel
theorem dX9_element_11 : decode cX9_element 11 = .ok (.iload_n 1, 1) := by decide +kernel
theorem dX9_element_12 : decode cX9_element 12 = .ok (.invokevirtual 97, 3) := by decide +kernel
theorem dX9_element_15 : decode cX9_element 15 = .ok (.ifCond .eq 34, 3) := by decide +kernel
theorem dX9_element_18 : decode cX9_element 18 = .ok (.iload_n 2, 1) := by decide +kernel
theorem dX9_element_19 : decode cX9_element 19 = .ok (.iconst 0, 1) := by decide +kernel
theorem dX9_element_20 : decode cX9_element 20 = .ok (.aload_n 0, 1) := by decide +kernel
theorem dX9_element_21 : decode cX9_element 21 = .ok (.getfield 41, 3) := by decide +kernel
theorem dX9_element_24 : decode cX9_element 24 = .ok (.iload_n 1, 1) := by decide +kernel
theorem dX9_element_25 : decode cX9_element 25 = .ok (.iaload, 1) := by decide +kernel
theorem dX9_element_26 : decode cX9_element 26 = .ok (.iconst 1, 1) := by decide +kernel
theorem dX9_element_27 : decode cX9_element 27 = .ok (.isub, 1) := by decide +kernel
theorem dX9_element_28 : decode cX9_element 28 = .ok (.invokestatic 86, 3) := by decide +kernel
theorem dX9_element_31 : decode cX9_element 31 = .ok (.ifCond .eq 18, 3) := by decide +kernel
theorem dX9_element_34 : decode cX9_element 34 = .ok (.aload_n 0, 1) := by decide +kernel
theorem dX9_element_35 : decode cX9_element 35 = .ok (.getfield 44, 3) := by decide +kernel
theorem dX9_element_38 : decode cX9_element 38 = .ok (.sipush 160, 3) := by decide +kernel
theorem dX9_element_41 : decode cX9_element 41 = .ok (.iload_n 1, 1) := by decide +kernel
theorem dX9_element_42 : decode cX9_element 42 = .ok (.imul, 1) := by decide +kernel
theorem dX9_element_43 : decode cX9_element 43 = .ok (.iload_n 2, 1) := by decide +kernel
theorem dX9_element_44 : decode cX9_element 44 = .ok (.iadd, 1) := by decide +kernel
theorem dX9_element_45 : decode cX9_element 45 = .ok (.laload, 1) := by decide +kernel
theorem dX9_element_46 : decode cX9_element 46 = .ok (.goto 4, 3) := by decide +kernel
theorem dX9_element_49 : decode cX9_element 49 = .ok (.lconst 0, 1) := by decide +kernel
theorem dX9_element_50 : decode cX9_element 50 = .ok (.lreturn, 1) := by decide +kernel
set_option maxRecDepth 20000 in
theorem c_X9_element {G : Gl} {d : Nat} {σ : Sg} {Z : Zt} (hZ : RelM Z σ) (hO : OkZ Z) {s : Int} (hs1 : -2147483648 ≤ s) (hs2 : s < 2147483648) {i : Int} (hi1 : -2147483648 ≤ i) (hi2 : i < 2147483648) : CT G (d + 1) yX9_element cX9_element 3 (some .long) [.ref (gA G 54), .int (iI s), .int (iI i)] σ (R1 (.long (qElem Z s i)) σ) := by
  refine CT.of (by decide +kernel) (Nat.le_of_ble_eq_true rfl) ?_
  change AW G _ RX9 _ _ _ 0 [(0, .ref (gA G 54)), (1, .int (iI s)), (2, .int (iI i))] [] _ _
  refine A_iload_n (pc := 0) dX9_element_0 rfl rfl ?_
  refine A_iconst (pc := 1) dX9_element_1 ?_
  refine A_bipush (pc := 2) dX9_element_2 (by decide) ?_
  refine A_callS1 (pc := 4) kX9_86 (c_X9_within (v := s) (a := 0) (b := 7) (by omega) (by omega) (by omega) (by omega) (by omega) (by omega)) dX9_element_4 rfl rfl (Nat.le_of_ble_eq_true rfl) (Nat.le_of_ble_eq_true rfl) ?_
  refine A_ifb_eq (pc := 7) 49 dX9_element_7 (by decide) (fun h7 => ?_) (fun h7 => ?_)
  · skip
    refine A_lconst (pc := 49) 0 dX9_element_49 rfl ?_
    refine A_lret (pc := 50) rfl dX9_element_50 ?_
    exact ⟨by unfold qElem; rw [if_neg (by omega)], rfl⟩
  · skip
    obtain ⟨k, rfl⟩ := Int.eq_ofNat_of_zero_le (show 0 ≤ s by omega)
    have k8 : k < 8 := by omega
    have ks := hZ.2.1 k k8
    have ko := hO.2.1 k k8
    obtain ⟨kb1, kb2, kb3, kb4⟩ := ko.1
    refine A_aload_n (pc := 10) dX9_element_10 rfl rfl ?_
    refine A_iload_n (pc := 11) dX9_element_11 rfl rfl ?_
    refine A_callV1 (pc := 12) kX9_97 rfl rfl (c_X9_isRow hZ hO k8) dX9_element_12 rfl rfl (Nat.le_of_ble_eq_true rfl) (Nat.le_of_ble_eq_true rfl) ?_
    refine A_ifb_eq (pc := 15) 49 dX9_element_15 (by decide) (fun h15 => ?_) (fun h15 => ?_)
    · skip
      refine A_lconst (pc := 49) 0 dX9_element_49 rfl ?_
      refine A_lret (pc := 50) rfl dX9_element_50 ?_
      exact ⟨by unfold qElem; simp only [Int.toNat_natCast]; rw [if_pos (by omega), elI, if_neg (by have := ko.2 (by omega); omega)], rfl⟩
    · skip
      refine A_iload_n (pc := 18) dX9_element_18 rfl rfl ?_
      refine A_iconst (pc := 19) dX9_element_19 ?_
      refine A_aload_n (pc := 20) dX9_element_20 rfl rfl ?_
      refine A_getR (pc := 21) fX9_41 rfl rfl dX9_element_21 ?_
      refine A_iload_n (pc := 24) dX9_element_24 rfl rfl ?_
      refine A_ialdv (pc := 25) _ rfl rfl (by omega) (Nat.le_of_ble_eq_true rfl) (ks.2.1 h15) dX9_element_25 ?_
      refine A_iconst (pc := 26) dX9_element_26 ?_
      refine A_isub (pc := 27) dX9_element_27 ?_
      refine A_callS1 (pc := 28) kX9_86 (c_X9_within (v := i) (a := 0) (b := Z.2.1.2.1 k - 1) (by omega) (by omega) (by omega) (by omega) (by omega) (by omega)) dX9_element_28 rfl rfl (Nat.le_of_ble_eq_true rfl) (Nat.le_of_ble_eq_true rfl) ?_
      refine A_ifb_eq (pc := 31) 49 dX9_element_31 (by decide) (fun h31 => ?_) (fun h31 => ?_)
      · skip
        refine A_lconst (pc := 49) 0 dX9_element_49 rfl ?_
        refine A_lret (pc := 50) rfl dX9_element_50 ?_
        exact ⟨by unfold qElem; simp only [Int.toNat_natCast]; rw [if_pos (by omega), elI, if_neg (by omega)], rfl⟩
      · skip
        obtain ⟨j, rfl⟩ := Int.eq_ofNat_of_zero_le (show 0 ≤ i by omega)
        refine A_aload_n (pc := 34) dX9_element_34 rfl rfl ?_
        refine A_getR (pc := 35) fX9_44 rfl rfl dX9_element_35 ?_
        refine A_sipush (pc := 38) dX9_element_38 (by decide) ?_
        refine A_iload_n (pc := 41) dX9_element_41 rfl rfl ?_
        refine A_imul (pc := 42) dX9_element_42 ?_
        refine A_iload_n (pc := 43) dX9_element_43 rfl rfl ?_
        refine A_iadd (pc := 44) dX9_element_44 ?_
        refine A_laldv (pc := 45) (160 * k + j) rfl (by omega) (by omega) (Nat.le_of_ble_eq_true rfl) (ks.2.2 j (by omega)) dX9_element_45 ?_
        refine A_goto (pc := 46) 50 dX9_element_46 (by decide) ?_
        refine A_lret (pc := 50) rfl dX9_element_50 ?_
        exact ⟨by unfold qElem; simp only [Int.toNat_natCast]; rw [if_pos (by omega), elI, if_pos (by omega)]; rfl, rfl⟩
theorem dX9_show_0 : decode cX9_show 0 = .ok (.iload_n 1, 1) := by decide +kernel
theorem dX9_show_1 : decode cX9_show 1 = .ok (.iconst 0, 1) := by decide +kernel
theorem dX9_show_2 : decode cX9_show 2 = .ok (.bipush 7, 2) := by decide +kernel
theorem dX9_show_4 : decode cX9_show 4 = .ok (.invokestatic 86, 3) := by decide +kernel
theorem dX9_show_7 : decode cX9_show 7 = .ok (.ifCond .eq 16, 3) := by decide +kernel
theorem dX9_show_10 : decode cX9_show 10 = .ok (.iload_n 2, 1) := by decide +kernel
theorem dX9_show_11 : decode cX9_show 11 = .ok (.iconst (-1), 1) := by decide +kernel
theorem dX9_show_12 : decode cX9_show 12 = .ok (.if_icmp .eq 17, 3) := by decide +kernel
theorem dX9_show_15 : decode cX9_show 15 = .ok (.aload_n 0, 1) := by decide +kernel
theorem dX9_show_16 : decode cX9_show 16 = .ok (.iload_n 2, 1) := by decide +kernel
theorem dX9_show_17 : decode cX9_show 17 = .ok (.invokevirtual 103, 3) := by decide +kernel
theorem dX9_show_20 : decode cX9_show 20 = .ok (.ifCond .ne 9, 3) := by decide +kernel
theorem dX9_show_23 : decode cX9_show 23 = .ok (.aload_n 0, 1) := by decide +kernel
theorem dX9_show_24 : decode cX9_show 24 = .ok (.iconst (-1), 1) := by decide +kernel
theorem dX9_show_25 : decode cX9_show 25 = .ok (.invokevirtual 79, 3) := by decide +kernel
theorem dX9_show_28 : decode cX9_show 28 = .ok (.ireturn, 1) := by decide +kernel
theorem dX9_show_29 : decode cX9_show 29 = .ok (.aload_n 0, 1) := by decide +kernel
theorem dX9_show_30 : decode cX9_show 30 = .ok (.getfield 38, 3) := by decide +kernel
theorem dX9_show_33 : decode cX9_show 33 = .ok (.iload_n 1, 1) := by decide +kernel
theorem dX9_show_34 : decode cX9_show 34 = .ok (.iload_n 2, 1) := by decide +kernel
theorem dX9_show_35 : decode cX9_show 35 = .ok (.iastore, 1) := by decide +kernel
theorem dX9_show_36 : decode cX9_show 36 = .ok (.iload_n 2, 1) := by decide +kernel
theorem dX9_show_37 : decode cX9_show 37 = .ok (.iconst (-1), 1) := by decide +kernel
theorem dX9_show_38 : decode cX9_show 38 = .ok (.if_icmp .ne 7, 3) := by decide +kernel
theorem dX9_show_41 : decode cX9_show 41 = .ok (.iconst 0, 1) := by decide +kernel
theorem dX9_show_42 : decode cX9_show 42 = .ok (.goto 4, 3) := by decide +kernel
theorem dX9_show_45 : decode cX9_show 45 = .ok (.iconst 1, 1) := by decide +kernel
theorem dX9_show_46 : decode cX9_show 46 = .ok (.ireturn, 1) := by decide +kernel
set_option maxRecDepth 20000 in
theorem c_X9_show {G : Gl} {d : Nat} {σ : Sg} {Z : Zt} (hZ : RelM Z σ) (hO : OkZ Z) {s : Int} (hs1 : -2147483648 ≤ s) (hs2 : s < 2147483648) {p : Int} (hp1 : -2147483648 ≤ p) (hp2 : p < 2147483648) : CT G (d + 2) yX9_show cX9_show 3 (some .int) [.ref (gA G 54), .int (iI s), .int (iI p)] σ (RE (some (.int (iI (qShow Z s p).1))) (fun υ => RelM (qShow Z s p).2 υ ∧ Fr MC σ υ)) := by
  refine CT.of (by decide +kernel) (Nat.le_of_ble_eq_true rfl) ?_
  change AW G _ RX9 _ _ _ 0 [(0, .ref (gA G 54)), (1, .int (iI s)), (2, .int (iI p))] [] _ _
  refine A_iload_n (pc := 0) dX9_show_0 rfl rfl ?_
  refine A_iconst (pc := 1) dX9_show_1 ?_
  refine A_bipush (pc := 2) dX9_show_2 (by decide) ?_
  refine A_callS1 (pc := 4) kX9_86 (c_X9_within (v := s) (a := 0) (b := 7) (by omega) (by omega) (by omega) (by omega) (by omega) (by omega)) dX9_show_4 rfl rfl (Nat.le_of_ble_eq_true rfl) (Nat.le_of_ble_eq_true rfl) ?_
  refine A_ifb_eq (pc := 7) 23 dX9_show_7 (by decide) (fun h7 => ?_) (fun h7 => ?_)
  · skip
    refine A_aload_n (pc := 23) dX9_show_23 rfl rfl ?_
    refine A_iconst (pc := 24) dX9_show_24 ?_
    refine A_callVe (pc := 25) kX9_79 rfl rfl (c_X9_no hZ hO (t := -1) (by omega) (by omega)) dX9_show_25 rfl rfl (Nat.le_of_ble_eq_true rfl) (Nat.le_of_ble_eq_true rfl) (fun υ hυ => ?_)
    refine A_iret (pc := 28) rfl dX9_show_28 ?_
    exact RQM (by unfold qShow; rw [if_pos (by omega)]; rfl) hυ.1 (hυ.2.mono MC70)
  · skip
    refine A_iload_n (pc := 10) dX9_show_10 rfl rfl ?_
    refine A_iconst (pc := 11) dX9_show_11 ?_
    refine A_icmp_eq (pc := 12) 29 dX9_show_12 (by decide) (by omega) (by omega) (by omega) (by omega) (fun h12 => ?_) (fun h12 => ?_)
    · skip
      obtain ⟨k, rfl⟩ := Int.eq_ofNat_of_zero_le (show 0 ≤ s by omega)
      have k8 : k < 8 := by omega
      have ks := hZ.2.1 k k8
      have ko := hO.2.1 k k8
      obtain ⟨kb1, kb2, kb3, kb4⟩ := ko.1
      refine A_aload_n (pc := 29) dX9_show_29 rfl rfl ?_
      refine A_getR (pc := 30) fX9_38 rfl rfl dX9_show_30 ?_
      refine A_iload_n (pc := 33) dX9_show_33 rfl rfl ?_
      refine A_iload_n (pc := 34) dX9_show_34 rfl rfl ?_
      refine A_iast (pc := 35) _ rfl rfl (by omega) (Nat.le_of_ble_eq_true rfl) dX9_show_35 ?_
      refine A_iload_n (pc := 36) dX9_show_36 rfl rfl ?_
      refine A_iconst (pc := 37) dX9_show_37 ?_
      refine A_icmp_ne (pc := 38) 45 dX9_show_38 (by decide) (by omega) (by omega) (by omega) (by omega) (fun h38 => ?_) (fun h38 => ?_)
      · skip
        refine A_iconst (pc := 45) dX9_show_45 ?_
        refine A_iret (pc := 46) rfl dX9_show_46 ?_
        refine RQM (by unfold qShow; rw [if_neg (by omega), if_neg (by omega)]; rfl) (hZ.shelf (k := k) (hd := p) (n := 0) (el := Z.2.1.2.2 k) (Fr.rf.uI (Or.inl rfl)) (fun b hb => ?_) (fun b hb => ⟨fun e q => ?_, fun e => by rw [uI_at, if_neg (by omega)]⟩) (fun b hb x hx => ?_)) ((Fr.rf.uI (Or.inl rfl) : Fr (fun a => a = 64 ∨ a = 65 ∨ a = 66) σ _).mono MC66)
        · rw [uI_at]; by_cases e : b = k
          · rw [if_pos ⟨rfl, e⟩, if_pos e]
          · rw [if_neg (fun z => e z.2), if_neg e]
        · exfalso; have o3 := hO.1.2.2.1; omega
        · by_cases e : b = k
          · rw [if_pos e, e]; exact ks.2.2 x hx
          · rw [if_neg e]; rfl
      · skip
        refine A_iconst (pc := 41) dX9_show_41 ?_
        refine A_goto (pc := 42) 46 dX9_show_42 (by decide) ?_
        refine A_iret (pc := 46) rfl dX9_show_46 ?_
        refine RQM (by unfold qShow; rw [if_neg (by omega), if_pos (by omega)]; rfl) (hZ.shelf (k := k) (hd := p) (n := 0) (el := Z.2.1.2.2 k) (Fr.rf.uI (Or.inl rfl)) (fun b hb => ?_) (fun b hb => ⟨fun e q => ?_, fun e => by rw [uI_at, if_neg (by omega)]⟩) (fun b hb x hx => ?_)) ((Fr.rf.uI (Or.inl rfl) : Fr (fun a => a = 64 ∨ a = 65 ∨ a = 66) σ _).mono MC66)
        · rw [uI_at]; by_cases e : b = k
          · rw [if_pos ⟨rfl, e⟩, if_pos e]
          · rw [if_neg (fun z => e z.2), if_neg e]
        · exfalso; have o3 := hO.1.2.2.1; omega
        · by_cases e : b = k
          · rw [if_pos e, e]; exact ks.2.2 x hx
          · rw [if_neg e]; rfl
    · skip
      refine A_aload_n (pc := 15) dX9_show_15 rfl rfl ?_
      refine A_iload_n (pc := 16) dX9_show_16 rfl rfl ?_
      refine A_callV1 (pc := 17) kX9_103 rfl rfl (c_X9_isPane hZ.1 hO.1 hp1 hp2) dX9_show_17 rfl rfl (Nat.le_of_ble_eq_true rfl) (Nat.le_of_ble_eq_true rfl) ?_
      refine A_ifb_ne (pc := 20) 29 dX9_show_20 (by decide) (fun h20 => ?_) (fun h20 => ?_)
      · skip
        obtain ⟨k, rfl⟩ := Int.eq_ofNat_of_zero_le (show 0 ≤ s by omega)
        have k8 : k < 8 := by omega
        have ks := hZ.2.1 k k8
        have ko := hO.2.1 k k8
        obtain ⟨kb1, kb2, kb3, kb4⟩ := ko.1
        refine A_aload_n (pc := 29) dX9_show_29 rfl rfl ?_
        refine A_getR (pc := 30) fX9_38 rfl rfl dX9_show_30 ?_
        refine A_iload_n (pc := 33) dX9_show_33 rfl rfl ?_
        refine A_iload_n (pc := 34) dX9_show_34 rfl rfl ?_
        refine A_iast (pc := 35) _ rfl rfl (by omega) (Nat.le_of_ble_eq_true rfl) dX9_show_35 ?_
        refine A_iload_n (pc := 36) dX9_show_36 rfl rfl ?_
        refine A_iconst (pc := 37) dX9_show_37 ?_
        refine A_icmp_ne (pc := 38) 45 dX9_show_38 (by decide) (by omega) (by omega) (by omega) (by omega) (fun h38 => ?_) (fun h38 => ?_)
        · skip
          refine A_iconst (pc := 45) dX9_show_45 ?_
          refine A_iret (pc := 46) rfl dX9_show_46 ?_
          refine RQM (by unfold qShow; rw [if_neg (by omega), if_neg (by omega)]; rfl) (hZ.shelf (k := k) (hd := p) (n := 0) (el := Z.2.1.2.2 k) (Fr.rf.uI (Or.inl rfl)) (fun b hb => ?_) (fun b hb => ⟨fun e q => ?_, fun e => by rw [uI_at, if_neg (by omega)]⟩) (fun b hb x hx => ?_)) ((Fr.rf.uI (Or.inl rfl) : Fr (fun a => a = 64 ∨ a = 65 ∨ a = 66) σ _).mono MC66)
          · rw [uI_at]; by_cases e : b = k
            · rw [if_pos ⟨rfl, e⟩, if_pos e]
            · rw [if_neg (fun z => e z.2), if_neg e]
          · exfalso; have o3 := hO.1.2.2.1; omega
          · by_cases e : b = k
            · rw [if_pos e, e]; exact ks.2.2 x hx
            · rw [if_neg e]; rfl
        · skip
          refine A_iconst (pc := 41) dX9_show_41 ?_
          refine A_goto (pc := 42) 46 dX9_show_42 (by decide) ?_
          refine A_iret (pc := 46) rfl dX9_show_46 ?_
          refine RQM (by unfold qShow; rw [if_neg (by omega), if_pos (by omega)]; rfl) (hZ.shelf (k := k) (hd := p) (n := 0) (el := Z.2.1.2.2 k) (Fr.rf.uI (Or.inl rfl)) (fun b hb => ?_) (fun b hb => ⟨fun e q => ?_, fun e => by rw [uI_at, if_neg (by omega)]⟩) (fun b hb x hx => ?_)) ((Fr.rf.uI (Or.inl rfl) : Fr (fun a => a = 64 ∨ a = 65 ∨ a = 66) σ _).mono MC66)
          · rw [uI_at]; by_cases e : b = k
            · rw [if_pos ⟨rfl, e⟩, if_pos e]
            · rw [if_neg (fun z => e z.2), if_neg e]
          · exfalso; have o3 := hO.1.2.2.1; omega
          · by_cases e : b = k
            · rw [if_pos e, e]; exact ks.2.2 x hx
            · rw [if_neg e]; rfl
      · skip
        refine A_aload_n (pc := 23) dX9_show_23 rfl rfl ?_
        refine A_iconst (pc := 24) dX9_show_24 ?_
        refine A_callVe (pc := 25) kX9_79 rfl rfl (c_X9_no hZ hO (t := -1) (by omega) (by omega)) dX9_show_25 rfl rfl (Nat.le_of_ble_eq_true rfl) (Nat.le_of_ble_eq_true rfl) (fun υ hυ => ?_)
        refine A_iret (pc := 28) rfl dX9_show_28 ?_
        exact RQM (by unfold qShow; rw [if_pos (by omega)]; rfl) hυ.1 (hυ.2.mono MC70)
theorem dX9_holds_0 : decode cX9_holds 0 = .ok (.iload_n 1, 1) := by decide +kernel
theorem dX9_holds_1 : decode cX9_holds 1 = .ok (.iconst 0, 1) := by decide +kernel
theorem dX9_holds_2 : decode cX9_holds 2 = .ok (.bipush 7, 2) := by decide +kernel
theorem dX9_holds_4 : decode cX9_holds 4 = .ok (.invokestatic 86, 3) := by decide +kernel
theorem dX9_holds_7 : decode cX9_holds 7 = .ok (.ifCond .eq 12, 3) := by decide +kernel
theorem dX9_holds_10 : decode cX9_holds 10 = .ok (.aload_n 0, 1) := by decide +kernel
theorem dX9_holds_11 : decode cX9_holds 11 = .ok (.getfield 38, 3) := by decide +kernel
theorem dX9_holds_14 : decode cX9_holds 14 = .ok (.iload_n 1, 1) := by decide +kernel
theorem dX9_holds_15 : decode cX9_holds 15 = .ok (.iaload, 1) := by decide +kernel
theorem dX9_holds_16 : decode cX9_holds 16 = .ok (.goto 4, 3) := by decide +kernel
theorem dX9_holds_19 : decode cX9_holds 19 = .ok (.iconst (-1), 1) := by decide +kernel
theorem dX9_holds_20 : decode cX9_holds 20 = .ok (.ireturn, 1) := by decide +kernel
set_option maxRecDepth 20000 in
theorem c_X9_holds {G : Gl} {d : Nat} {σ : Sg} {Z : Zt} (hZ : RelM Z σ) (hO : OkZ Z) {s : Int} (hs1 : -2147483648 ≤ s) (hs2 : s < 2147483648) : CT G (d + 1) yX9_holds cX9_holds 2 (some .int) [.ref (gA G 54), .int (iI s)] σ (R1 (.int (iI (qHolds Z s))) σ) := by
  refine CT.of (by decide +kernel) (Nat.le_of_ble_eq_true rfl) ?_
  change AW G _ RX9 _ _ _ 0 [(0, .ref (gA G 54)), (1, .int (iI s))] [] _ _
  refine A_iload_n (pc := 0) dX9_holds_0 rfl rfl ?_
  refine A_iconst (pc := 1) dX9_holds_1 ?_
  refine A_bipush (pc := 2) dX9_holds_2 (by decide) ?_
  refine A_callS1 (pc := 4) kX9_86 (c_X9_within (v := s) (a := 0) (b := 7) (by omega) (by omega) (by omega) (by omega) (by omega) (by omega)) dX9_holds_4 rfl rfl (Nat.le_of_ble_eq_true rfl) (Nat.le_of_ble_eq_true rfl) ?_
  refine A_ifb_eq (pc := 7) 19 dX9_holds_7 (by decide) (fun h7 => ?_) (fun h7 => ?_)
  · skip
    refine A_iconst (pc := 19) dX9_holds_19 ?_
    refine A_iret (pc := 20) rfl dX9_holds_20 ?_
    exact R1_e (by unfold qHolds; rw [if_neg (by omega)])
  · skip
    obtain ⟨k, rfl⟩ := Int.eq_ofNat_of_zero_le (show 0 ≤ s by omega)
    have k8 : k < 8 := by omega
    have ks := hZ.2.1 k k8
    have ko := hO.2.1 k k8
    obtain ⟨kb1, kb2, kb3, kb4⟩ := ko.1
    refine A_aload_n (pc := 10) dX9_holds_10 rfl rfl ?_
    refine A_getR (pc := 11) fX9_38 rfl rfl dX9_holds_11 ?_
    refine A_iload_n (pc := 14) dX9_holds_14 rfl rfl ?_
    refine A_ialdv (pc := 15) _ rfl rfl (by omega) (Nat.le_of_ble_eq_true rfl) ks.1 dX9_holds_15 ?_
    refine A_goto (pc := 16) 20 dX9_holds_16 (by decide) ?_
    refine A_iret (pc := 20) rfl dX9_holds_20 ?_
    exact R1_e (by unfold qHolds; simp only [Int.toNat_natCast]; rw [if_pos (by omega)])
def abX (k : Int) : Int := if 0 ≤ k ∧ k < 7 then fAb.getD k.toNat 0 else -1
def unR : Nat → Int → Int → Bool
  | 0, _, _ => false
  | n + 1, k, w => if k = -1 then false else if k = w then true else unR n (abX k) w
abbrev undB (k w : Int) : Prop := k = w ∨ (0 < k ∧ (abv k = w ∨ (0 < abv k ∧ abv (abv k) = w)))
theorem unR_undr {k w : Int} (k1 : 0 ≤ k) (k2 : k < 7) (w1 : 0 ≤ w) (w2 : w < 7) : unR 7 k w = decide (undB k w) := by
  have hk : k = 0 ∨ k = 1 ∨ k = 2 ∨ k = 3 ∨ k = 4 ∨ k = 5 ∨ k = 6 := by omega
  have hw : w = 0 ∨ w = 1 ∨ w = 2 ∨ w = 3 ∨ w = 4 ∨ w = 5 ∨ w = 6 := by omega
  rcases hk with rfl | rfl | rfl | rfl | rfl | rfl | rfl <;> rcases hw with rfl | rfl | rfl | rfl | rfl | rfl | rfl <;> decide
theorem abX_rng (k : Int) : -1 ≤ abX k ∧ abX k < 7 := by
  unfold abX
  by_cases h : 0 ≤ k ∧ k < 7
  · rw [if_pos h]
    have hk : k = 0 ∨ k = 1 ∨ k = 2 ∨ k = 3 ∨ k = 4 ∨ k = 5 ∨ k = 6 := by omega
    rcases hk with rfl | rfl | rfl | rfl | rfl | rfl | rfl <;> decide
  · rw [if_neg h]; omega
theorem dX8_above_0 : decode cX8_above 0 = .ok (.iload_n 0, 1) := by decide +kernel
theorem dX8_above_1 : decode cX8_above 1 = .ok (.invokestatic 120, 3) := by decide +kernel
theorem dX8_above_4 : decode cX8_above 4 = .ok (.ifCond .eq 11, 3) := by decide +kernel
theorem dX8_above_7 : decode cX8_above 7 = .ok (.getstatic 383, 3) := by decide +kernel
theorem dX8_above_10 : decode cX8_above 10 = .ok (.iload_n 0, 1) := by decide +kernel
theorem dX8_above_11 : decode cX8_above 11 = .ok (.iaload, 1) := by decide +kernel
theorem dX8_above_12 : decode cX8_above 12 = .ok (.goto 4, 3) := by decide +kernel
theorem dX8_above_15 : decode cX8_above 15 = .ok (.iconst (-1), 1) := by decide +kernel
theorem dX8_above_16 : decode cX8_above 16 = .ok (.ireturn, 1) := by decide +kernel
set_option maxRecDepth 20000 in
theorem c_X8_above {G : Gl} {d : Nat} {σ : Sg} {k : Int} (hk1 : -2147483648 ≤ k) (hk2 : k < 2147483648) : CT G (d + 1) yX8_above cX8_above 1 (some .int) [.int (iI k)] σ (R1 (.int (iI (abX k))) σ) := by
  refine CT.of (by decide +kernel) (Nat.le_of_ble_eq_true rfl) ?_
  change AW G _ RX8 _ _ _ 0 [(0, .int (iI k))] [] _ _
  refine A_iload_n (pc := 0) dX8_above_0 rfl rfl ?_
  refine A_callS1 (pc := 1) kX8_120 (c_X8_isKind hk1 hk2) dX8_above_1 rfl rfl (Nat.le_of_ble_eq_true rfl) (Nat.le_of_ble_eq_true rfl) ?_
  refine A_ifb_eq (pc := 4) 15 dX8_above_4 (by decide) (fun h4 => ?_) (fun h4 => ?_)
  · skip
    refine A_iconst (pc := 15) dX8_above_15 ?_
    refine A_iret (pc := 16) rfl dX8_above_16 ?_
    exact R1_e (by unfold abX; rw [if_neg (by omega)])
  · skip
    obtain ⟨j, rfl⟩ := Int.eq_ofNat_of_zero_le (show 0 ≤ k by omega)
    refine A_getsA (pc := 7) fsX8_383 dX8_above_7 ?_
    refine A_iload_n (pc := 10) dX8_above_10 rfl rfl ?_
    refine A_taldA (pc := 11) _ rfl (by omega) dX8_above_11 ?_
    refine A_goto (pc := 12) 16 dX8_above_12 (by decide) ?_
    refine A_iret (pc := 16) rfl dX8_above_16 ?_
    exact R1_e (by unfold abX; rw [if_pos (by omega)]; rfl)
theorem dX8_isUnder_0 : decode cX8_isUnder 0 = .ok (.iload_n 0, 1) := by decide +kernel
theorem dX8_isUnder_1 : decode cX8_isUnder 1 = .ok (.istore_n 2, 1) := by decide +kernel
theorem dX8_isUnder_2 : decode cX8_isUnder 2 = .ok (.iconst 0, 1) := by decide +kernel
theorem dX8_isUnder_3 : decode cX8_isUnder 3 = .ok (.istore_n 3, 1) := by decide +kernel
theorem dX8_isUnder_4 : decode cX8_isUnder 4 = .ok (.iload_n 3, 1) := by decide +kernel
theorem dX8_isUnder_5 : decode cX8_isUnder 5 = .ok (.bipush 7, 2) := by decide +kernel
theorem dX8_isUnder_7 : decode cX8_isUnder 7 = .ok (.if_icmp .ge 26, 3) := by decide +kernel
theorem dX8_isUnder_10 : decode cX8_isUnder 10 = .ok (.iload_n 2, 1) := by decide +kernel
theorem dX8_isUnder_11 : decode cX8_isUnder 11 = .ok (.iconst (-1), 1) := by decide +kernel
theorem dX8_isUnder_12 : decode cX8_isUnder 12 = .ok (.if_icmp .eq 21, 3) := by decide +kernel
theorem dX8_isUnder_15 : decode cX8_isUnder 15 = .ok (.iload_n 2, 1) := by decide +kernel
theorem dX8_isUnder_16 : decode cX8_isUnder 16 = .ok (.iload_n 1, 1) := by decide +kernel
theorem dX8_isUnder_17 : decode cX8_isUnder 17 = .ok (.if_icmp .ne 5, 3) := by decide +kernel
theorem dX8_isUnder_20 : decode cX8_isUnder 20 = .ok (.iconst 1, 1) := by decide +kernel
theorem dX8_isUnder_21 : decode cX8_isUnder 21 = .ok (.ireturn, 1) := by decide +kernel
theorem dX8_isUnder_22 : decode cX8_isUnder 22 = .ok (.iload_n 2, 1) := by decide +kernel
theorem dX8_isUnder_23 : decode cX8_isUnder 23 = .ok (.invokestatic 386, 3) := by decide +kernel
theorem dX8_isUnder_26 : decode cX8_isUnder 26 = .ok (.istore_n 2, 1) := by decide +kernel
theorem dX8_isUnder_27 : decode cX8_isUnder 27 = .ok (.iinc 3 1, 3) := by decide +kernel
theorem dX8_isUnder_30 : decode cX8_isUnder 30 = .ok (.goto (-26), 3) := by decide +kernel
theorem dX8_isUnder_33 : decode cX8_isUnder 33 = .ok (.iconst 0, 1) := by decide +kernel
theorem dX8_isUnder_34 : decode cX8_isUnder 34 = .ok (.ireturn, 1) := by decide +kernel
set_option maxRecDepth 20000 in
theorem l_X8_isUnder {G : Gl} {d : Nat} {σ : Sg} {K : Option Value → Sg → Prop} {w : Int} (hw1 : -2147483648 ≤ w) (hw2 : w < 2147483648) : ∀ (n : Nat) (k i : Int), 0 ≤ i → i + n = 7 → -1 ≤ k → k < 7 → K (some (.int (iI (bI (unR n k w = true))))) σ → AW G (d + 2) RX8 cX8_isUnder 4 (some .boolean) 4 [(1, .int (iI w)), (2, .int (iI k)), (3, .int (iI i))] [] σ K := by
  intro n
  induction n using Nat.strongRecOn
  rename_i n ih
  intro k i i1 hn k1 k2 hK
  refine A_iload_n (pc := 4) dX8_isUnder_4 rfl rfl ?_
  refine A_bipush (pc := 5) dX8_isUnder_5 (by decide) ?_
  refine A_icmp_ge (pc := 7) 33 dX8_isUnder_7 (by decide) (by omega) (by omega) (by omega) (by omega) (fun h7 => ?_) (fun h7 => ?_)
  · skip
    refine A_iconst (pc := 33) dX8_isUnder_33 ?_
    refine A_zret (pc := 34) rfl rfl dX8_isUnder_34 ?_
    have hn0 : n = 0 := by omega
    subst hn0
    rw [unR, bI_f (by decide)] at hK
    exact hK
  · skip
    refine A_iload_n (pc := 10) dX8_isUnder_10 rfl rfl ?_
    refine A_iconst (pc := 11) dX8_isUnder_11 ?_
    refine A_icmp_eq (pc := 12) 33 dX8_isUnder_12 (by decide) (by omega) (by omega) (by omega) (by omega) (fun h12 => ?_) (fun h12 => ?_)
    · skip
      refine A_iconst (pc := 33) dX8_isUnder_33 ?_
      refine A_zret (pc := 34) rfl rfl dX8_isUnder_34 ?_
      obtain ⟨m, rfl⟩ : ∃ m, n = m + 1 := ⟨n - 1, by omega⟩
      rw [unR, if_pos (by omega), bI_f (by decide)] at hK
      exact hK
    · skip
      refine A_iload_n (pc := 15) dX8_isUnder_15 rfl rfl ?_
      refine A_iload_n (pc := 16) dX8_isUnder_16 rfl rfl ?_
      refine A_icmp_ne (pc := 17) 22 dX8_isUnder_17 (by decide) (by omega) (by omega) (by omega) (by omega) (fun h17 => ?_) (fun h17 => ?_)
      · skip
        have hr := abX_rng k
        refine A_iload_n (pc := 22) dX8_isUnder_22 rfl rfl ?_
        refine A_callS1 (pc := 23) kX8_386 (c_X8_above (by omega) (by omega)) dX8_isUnder_23 rfl rfl (Nat.le_of_ble_eq_true rfl) (Nat.le_of_ble_eq_true rfl) ?_
        refine A_istore_n (pc := 26) dX8_isUnder_26 rfl (Nat.le_of_ble_eq_true rfl) ?_
        refine A_iinc (pc := 27) dX8_isUnder_27 rfl (Nat.le_of_ble_eq_true rfl) ?_
        refine A_goto (pc := 30) 4 dX8_isUnder_30 (by decide) ?_
        obtain ⟨m, rfl⟩ : ∃ m, n = m + 1 := ⟨n - 1, by omega⟩
        refine A_loc (l2 := [(1, _), (2, _), (3, _)]) ⟨rfl, rfl, rfl, trivial⟩ ?_
        refine ih m (by omega) _ _ (by omega) (by omega) hr.1 hr.2 ?_
        rw [unR, if_neg (by omega), if_neg (by omega)] at hK
        exact hK
      · skip
        refine A_iconst (pc := 20) dX8_isUnder_20 ?_
        refine A_zret (pc := 21) rfl rfl dX8_isUnder_21 ?_
        obtain ⟨m, rfl⟩ : ∃ m, n = m + 1 := ⟨n - 1, by omega⟩
        rw [unR, if_neg (by omega), if_pos (by omega), bI_t rfl] at hK
        exact hK
set_option maxRecDepth 20000 in
theorem c_X8_isUnder {G : Gl} {d : Nat} {σ : Sg} {k w : Int} (k1 : 0 ≤ k) (k2 : k < 7) (w1 : 0 ≤ w) (w2 : w < 7) : CT G (d + 2) yX8_isUnder cX8_isUnder 4 (some .boolean) [.int (iI k), .int (iI w)] σ (R1 (.int (iI (bI (undB k w)))) σ) := by
  refine CT.of (by decide +kernel) (Nat.le_of_ble_eq_true rfl) ?_
  change AW G _ RX8 _ _ _ 0 [(0, .int (iI k)), (1, .int (iI w))] [] _ _
  refine A_iload_n (pc := 0) dX8_isUnder_0 rfl rfl ?_
  refine A_istore_n (pc := 1) dX8_isUnder_1 rfl (Nat.le_of_ble_eq_true rfl) ?_
  refine A_iconst (pc := 2) dX8_isUnder_2 ?_
  refine A_istore_n (pc := 3) dX8_isUnder_3 rfl (Nat.le_of_ble_eq_true rfl) ?_
  refine A_loc (l2 := [(1, _), (2, _), (3, _)]) ⟨rfl, rfl, rfl, trivial⟩ ?_
  refine l_X8_isUnder (by omega) (by omega) 7 k 0 (by omega) (by omega) (by omega) (by omega) ⟨?_, rfl⟩
  rw [unR_undr k1 k2 w1 w2, bI_congr (decide_eq_true_iff)]
theorem dX9_above_0 : decode cX9_above 0 = .ok (.iload_n 0, 1) := by decide +kernel
theorem dX9_above_1 : decode cX9_above 1 = .ok (.iconst 3, 1) := by decide +kernel
theorem dX9_above_2 : decode cX9_above 2 = .ok (.if_icmp .ne 7, 3) := by decide +kernel
theorem dX9_above_5 : decode cX9_above 5 = .ok (.iconst 1, 1) := by decide +kernel
theorem dX9_above_6 : decode cX9_above 6 = .ok (.goto 23, 3) := by decide +kernel
theorem dX9_above_9 : decode cX9_above 9 = .ok (.iload_n 0, 1) := by decide +kernel
theorem dX9_above_10 : decode cX9_above 10 = .ok (.iconst 5, 1) := by decide +kernel
theorem dX9_above_11 : decode cX9_above 11 = .ok (.if_icmp .ne 7, 3) := by decide +kernel
theorem dX9_above_14 : decode cX9_above 14 = .ok (.iconst 4, 1) := by decide +kernel
theorem dX9_above_15 : decode cX9_above 15 = .ok (.goto 14, 3) := by decide +kernel
theorem dX9_above_18 : decode cX9_above 18 = .ok (.iload_n 0, 1) := by decide +kernel
theorem dX9_above_19 : decode cX9_above 19 = .ok (.bipush 6, 2) := by decide +kernel
theorem dX9_above_21 : decode cX9_above 21 = .ok (.if_icmp .ne 7, 3) := by decide +kernel
theorem dX9_above_24 : decode cX9_above 24 = .ok (.iconst 2, 1) := by decide +kernel
theorem dX9_above_25 : decode cX9_above 25 = .ok (.goto 4, 3) := by decide +kernel
theorem dX9_above_28 : decode cX9_above 28 = .ok (.iconst 0, 1) := by decide +kernel
theorem dX9_above_29 : decode cX9_above 29 = .ok (.ireturn, 1) := by decide +kernel
set_option maxRecDepth 20000 in
theorem c_X9_above {G : Gl} {d : Nat} {σ : Sg} {k : Int} (hk1 : -2147483648 ≤ k) (hk2 : k < 2147483648) : CT G d yX9_above cX9_above 1 (some .int) [.int (iI k)] σ (R1 (.int (iI (if k = 3 then 1 else if k = 5 then 4 else if k = 6 then 2 else 0))) σ) := by
  refine CT.of (by decide +kernel) (Nat.le_of_ble_eq_true rfl) ?_
  change AW G _ RX9 _ _ _ 0 [(0, .int (iI k))] [] _ _
  refine A_iload_n (pc := 0) dX9_above_0 rfl rfl ?_
  refine A_iconst (pc := 1) dX9_above_1 ?_
  refine A_icmp_ne (pc := 2) 9 dX9_above_2 (by decide) (by omega) (by omega) (by omega) (by omega) (fun h2 => ?_) (fun h2 => ?_)
  · skip
    refine A_iload_n (pc := 9) dX9_above_9 rfl rfl ?_
    refine A_iconst (pc := 10) dX9_above_10 ?_
    refine A_icmp_ne (pc := 11) 18 dX9_above_11 (by decide) (by omega) (by omega) (by omega) (by omega) (fun h11 => ?_) (fun h11 => ?_)
    · skip
      refine A_iload_n (pc := 18) dX9_above_18 rfl rfl ?_
      refine A_bipush (pc := 19) dX9_above_19 (by decide) ?_
      refine A_icmp_ne (pc := 21) 28 dX9_above_21 (by decide) (by omega) (by omega) (by omega) (by omega) (fun h21 => ?_) (fun h21 => ?_)
      · skip
        refine A_iconst (pc := 28) dX9_above_28 ?_
        refine A_iret (pc := 29) rfl dX9_above_29 ?_
        exact R1_e (by (repeat' split) <;> omega)
      · skip
        refine A_iconst (pc := 24) dX9_above_24 ?_
        refine A_goto (pc := 25) 29 dX9_above_25 (by decide) ?_
        refine A_iret (pc := 29) rfl dX9_above_29 ?_
        exact R1_e (by (repeat' split) <;> omega)
    · skip
      refine A_iconst (pc := 14) dX9_above_14 ?_
      refine A_goto (pc := 15) 29 dX9_above_15 (by decide) ?_
      refine A_iret (pc := 29) rfl dX9_above_29 ?_
      exact R1_e (by (repeat' split) <;> omega)
  · skip
    refine A_iconst (pc := 5) dX9_above_5 ?_
    refine A_goto (pc := 6) 29 dX9_above_6 (by decide) ?_
    refine A_iret (pc := 29) rfl dX9_above_29 ?_
    exact R1_e (by (repeat' split) <;> omega)
theorem dX9_isUnder_0 : decode cX9_isUnder 0 = .ok (.iload_n 0, 1) := by decide +kernel
theorem dX9_isUnder_1 : decode cX9_isUnder 1 = .ok (.istore_n 2, 1) := by decide +kernel
theorem dX9_isUnder_2 : decode cX9_isUnder 2 = .ok (.iload_n 2, 1) := by decide +kernel
theorem dX9_isUnder_3 : decode cX9_isUnder 3 = .ok (.iload_n 1, 1) := by decide +kernel
theorem dX9_isUnder_4 : decode cX9_isUnder 4 = .ok (.if_icmp .eq 15, 3) := by decide +kernel
theorem dX9_isUnder_7 : decode cX9_isUnder 7 = .ok (.iload_n 2, 1) := by decide +kernel
theorem dX9_isUnder_8 : decode cX9_isUnder 8 = .ok (.ifCond .le 11, 3) := by decide +kernel
theorem dX9_isUnder_11 : decode cX9_isUnder 11 = .ok (.iload_n 2, 1) := by decide +kernel
theorem dX9_isUnder_12 : decode cX9_isUnder 12 = .ok (.invokestatic 106, 3) := by decide +kernel
theorem dX9_isUnder_15 : decode cX9_isUnder 15 = .ok (.istore_n 2, 1) := by decide +kernel
theorem dX9_isUnder_16 : decode cX9_isUnder 16 = .ok (.goto (-14), 3) := by decide +kernel
theorem dX9_isUnder_19 : decode cX9_isUnder 19 = .ok (.iload_n 2, 1) := by decide +kernel
theorem dX9_isUnder_20 : decode cX9_isUnder 20 = .ok (.iload_n 1, 1) := by decide +kernel
theorem dX9_isUnder_21 : decode cX9_isUnder 21 = .ok (.if_icmp .ne 7, 3) := by decide +kernel
theorem dX9_isUnder_24 : decode cX9_isUnder 24 = .ok (.iconst 1, 1) := by decide +kernel
theorem dX9_isUnder_25 : decode cX9_isUnder 25 = .ok (.goto 4, 3) := by decide +kernel
theorem dX9_isUnder_28 : decode cX9_isUnder 28 = .ok (.iconst 0, 1) := by decide +kernel
theorem dX9_isUnder_29 : decode cX9_isUnder 29 = .ok (.ireturn, 1) := by decide +kernel
set_option maxRecDepth 20000 in
theorem l_X9_isUnder {G : Gl} {d : Nat} {σ : Sg} {K : Option Value → Sg → Prop} {w : Int} (hw1 : -2147483648 ≤ w) (hw2 : w < 2147483648) : ∀ (n : Nat) (k : Int), 0 ≤ k → k < 7 → (if k = 0 then 0 else if k = 1 ∨ k = 2 ∨ k = 4 then 1 else 2) = n → K (some (.int (iI (bI (undB k w))))) σ → AW G (d + 1) RX9 cX9_isUnder 3 (some .boolean) 2 [(1, .int (iI w)), (2, .int (iI k))] [] σ K := by
  intro n
  induction n using Nat.strongRecOn
  rename_i n ih
  intro k k1 k2 hn hK
  refine A_iload_n (pc := 2) dX9_isUnder_2 rfl rfl ?_
  refine A_iload_n (pc := 3) dX9_isUnder_3 rfl rfl ?_
  refine A_icmp_eq (pc := 4) 19 dX9_isUnder_4 (by decide) (by omega) (by omega) (by omega) (by omega) (fun h4 => ?_) (fun h4 => ?_)
  · skip
    refine A_iload_n (pc := 19) dX9_isUnder_19 rfl rfl ?_
    refine A_iload_n (pc := 20) dX9_isUnder_20 rfl rfl ?_
    refine A_icmp_ne (pc := 21) 28 dX9_isUnder_21 (by decide) (by omega) (by omega) (by omega) (by omega) (fun h21 => ?_) (fun h21 => ?_)
    · skip
      refine A_iconst (pc := 28) dX9_isUnder_28 ?_
      refine A_zret (pc := 29) rfl rfl dX9_isUnder_29 ?_
      exfalso; omega
    · skip
      refine A_iconst (pc := 24) dX9_isUnder_24 ?_
      refine A_goto (pc := 25) 29 dX9_isUnder_25 (by decide) ?_
      refine A_zret (pc := 29) rfl rfl dX9_isUnder_29 ?_
      rw [bI_t (show undB k w from Or.inl h4)] at hK
      exact hK
  · skip
    refine A_iload_n (pc := 7) dX9_isUnder_7 rfl rfl ?_
    refine A_if_le (pc := 8) 19 dX9_isUnder_8 (by decide) (by omega) (by omega) (fun h8 => ?_) (fun h8 => ?_)
    · skip
      refine A_iload_n (pc := 19) dX9_isUnder_19 rfl rfl ?_
      refine A_iload_n (pc := 20) dX9_isUnder_20 rfl rfl ?_
      refine A_icmp_ne (pc := 21) 28 dX9_isUnder_21 (by decide) (by omega) (by omega) (by omega) (by omega) (fun h21 => ?_) (fun h21 => ?_)
      · skip
        refine A_iconst (pc := 28) dX9_isUnder_28 ?_
        refine A_zret (pc := 29) rfl rfl dX9_isUnder_29 ?_
        rw [bI_f (show ¬ undB k w from fun q => by omega)] at hK
        exact hK
      · skip
        refine A_iconst (pc := 24) dX9_isUnder_24 ?_
        refine A_goto (pc := 25) 29 dX9_isUnder_25 (by decide) ?_
        refine A_zret (pc := 29) rfl rfl dX9_isUnder_29 ?_
        exfalso; omega
    · skip
      refine A_iload_n (pc := 11) dX9_isUnder_11 rfl rfl ?_
      refine A_callS1 (pc := 12) kX9_106 (c_X9_above (by omega) (by omega)) dX9_isUnder_12 rfl rfl (Nat.le_of_ble_eq_true rfl) (Nat.le_of_ble_eq_true rfl) ?_
      refine A_istore_n (pc := 15) dX9_isUnder_15 rfl (Nat.le_of_ble_eq_true rfl) ?_
      refine A_goto (pc := 16) 2 dX9_isUnder_16 (by decide) ?_
      refine A_loc (l2 := [(1, _), (2, _)]) ⟨rfl, rfl, trivial⟩ ?_
      have hlt : (if (if k = 3 then (1 : Int) else if k = 5 then 4 else if k = 6 then 2 else 0) = 0 then (0 : Nat) else if (if k = 3 then (1 : Int) else if k = 5 then 4 else if k = 6 then 2 else 0) = 1 ∨ (if k = 3 then (1 : Int) else if k = 5 then 4 else if k = 6 then 2 else 0) = 2 ∨ (if k = 3 then (1 : Int) else if k = 5 then 4 else if k = 6 then 2 else 0) = 4 then 1 else 2) < n := by
        have hk : k = 1 ∨ k = 2 ∨ k = 3 ∨ k = 4 ∨ k = 5 ∨ k = 6 := by omega
        rw [← hn]
        rcases hk with rfl | rfl | rfl | rfl | rfl | rfl <;> decide
      refine ih _ hlt _ (by (repeat' split) <;> omega) (by (repeat' split) <;> omega) rfl ?_
      have e : bI (undB k w) = bI (undB (if k = 3 then 1 else if k = 5 then 4 else if k = 6 then 2 else 0) w) := by
        refine bI_congr ?_
        have hk : k = 1 ∨ k = 2 ∨ k = 3 ∨ k = 4 ∨ k = 5 ∨ k = 6 := by omega
        rcases hk with rfl | rfl | rfl | rfl | rfl | rfl <;> simp [undB, abv] <;> omega
      rw [e] at hK
      exact hK
set_option maxRecDepth 20000 in
theorem c_X9_isUnder {G : Gl} {d : Nat} {σ : Sg} {k w : Int} (k1 : 0 ≤ k) (k2 : k < 7) (hw1 : -2147483648 ≤ w) (hw2 : w < 2147483648) : CT G (d + 1) yX9_isUnder cX9_isUnder 3 (some .boolean) [.int (iI k), .int (iI w)] σ (R1 (.int (iI (bI (undB k w)))) σ) := by
  refine CT.of (by decide +kernel) (Nat.le_of_ble_eq_true rfl) ?_
  change AW G _ RX9 _ _ _ 0 [(0, .int (iI k)), (1, .int (iI w))] [] _ _
  refine A_iload_n (pc := 0) dX9_isUnder_0 rfl rfl ?_
  refine A_istore_n (pc := 1) dX9_isUnder_1 rfl (Nat.le_of_ble_eq_true rfl) ?_
  refine A_loc (l2 := [(1, _), (2, _)]) ⟨rfl, rfl, trivial⟩ ?_
  exact l_X9_isUnder hw1 hw2 _ k k1 k2 rfl ⟨rfl, rfl⟩
end
