-- ===== PART A: goes FIRST, ahead of the names: the tables' words, and 'selects' of the private methods out of them =====
/-- a private method of a class that the tables say can be made, by its rows of tables_1 -/
def lw_okq (q : MethodName × Nat) : Prop := (q.1.cls ≠ "java/lang/invoke/MethodHandle" ∧ q.1.cls ≠ "java/lang/invoke/VarHandle") ∧ Cond.instantiable q.1.cls q.2 ∈ tables_1 ∧ Cond.privateMethod q.1 ∈ tables_1 ∧ Cond.instanceMethod q.1 ∈ tables_1
theorem lw_p0 : lw_okq (⟨"LitWindows$LeastPains", "addLarger", "(II)I"⟩, 8) := ⟨⟨by decide +kernel, by decide +kernel⟩, List.mem_of_getElem? (i := 165) (by decide +kernel), List.mem_of_getElem? (i := 195) (by decide +kernel), List.mem_of_getElem? (i := 196) (by decide +kernel)⟩
theorem lw_p1 : lw_okq (⟨"LitWindows", "counted", "(I)I"⟩, 16) := ⟨⟨by decide +kernel, by decide +kernel⟩, List.mem_of_getElem? (i := 18) (by decide +kernel), List.mem_of_getElem? (i := 339) (by decide +kernel), List.mem_of_getElem? (i := 340) (by decide +kernel)⟩
theorem lw_p2 : lw_okq (⟨"LitWindows", "countedApart", "(I)I"⟩, 16) := ⟨⟨by decide +kernel, by decide +kernel⟩, List.mem_of_getElem? (i := 18) (by decide +kernel), List.mem_of_getElem? (i := 367) (by decide +kernel), List.mem_of_getElem? (i := 368) (by decide +kernel)⟩
theorem lw_p3 : lw_okq (⟨"LitWindows$Plan", "takeToken", "()V"⟩, 9) := ⟨⟨by decide +kernel, by decide +kernel⟩, List.mem_of_getElem? (i := 102) (by decide +kernel), List.mem_of_getElem? (i := 464) (by decide +kernel), List.mem_of_getElem? (i := 465) (by decide +kernel)⟩
theorem lw_p4 : lw_okq (⟨"LitWindows$Plan", "takeNumber", "()V"⟩, 9) := ⟨⟨by decide +kernel, by decide +kernel⟩, List.mem_of_getElem? (i := 102) (by decide +kernel), List.mem_of_getElem? (i := 471) (by decide +kernel), List.mem_of_getElem? (i := 472) (by decide +kernel)⟩
theorem lw_p5 : lw_okq (⟨"LitWindows$Plan", "takeWord", "()V"⟩, 9) := ⟨⟨by decide +kernel, by decide +kernel⟩, List.mem_of_getElem? (i := 102) (by decide +kernel), List.mem_of_getElem? (i := 478) (by decide +kernel), List.mem_of_getElem? (i := 479) (by decide +kernel)⟩
theorem lw_p6 : lw_okq (⟨"LitWindows$Plan", "isTokenText", "(Ljava/lang/String;)Z"⟩, 9) := ⟨⟨by decide +kernel, by decide +kernel⟩, List.mem_of_getElem? (i := 102) (by decide +kernel), List.mem_of_getElem? (i := 491) (by decide +kernel), List.mem_of_getElem? (i := 492) (by decide +kernel)⟩
theorem lw_p7 : lw_okq (⟨"LitWindows$Plan", "takeItem", "(I)Z"⟩, 9) := ⟨⟨by decide +kernel, by decide +kernel⟩, List.mem_of_getElem? (i := 102) (by decide +kernel), List.mem_of_getElem? (i := 543) (by decide +kernel), List.mem_of_getElem? (i := 544) (by decide +kernel)⟩
theorem lw_p8 : lw_okq (⟨"LitWindows$Plan", "tellItem", "(LLitWindows$Wall;II)I"⟩, 9) := ⟨⟨by decide +kernel, by decide +kernel⟩, List.mem_of_getElem? (i := 102) (by decide +kernel), List.mem_of_getElem? (i := 555) (by decide +kernel), List.mem_of_getElem? (i := 556) (by decide +kernel)⟩
theorem lw_p9 : lw_okq (⟨"LitWindows", "isAsked", "(II)Z"⟩, 16) := ⟨⟨by decide +kernel, by decide +kernel⟩, List.mem_of_getElem? (i := 18) (by decide +kernel), List.mem_of_getElem? (i := 618) (by decide +kernel), List.mem_of_getElem? (i := 619) (by decide +kernel)⟩
theorem lw_p10 : lw_okq (⟨"LitWindows$Places", "packFrom", "(II)V"⟩, 5) := ⟨⟨by decide +kernel, by decide +kernel⟩, List.mem_of_getElem? (i := 171) (by decide +kernel), List.mem_of_getElem? (i := 634) (by decide +kernel), List.mem_of_getElem? (i := 635) (by decide +kernel)⟩
theorem lw_p11 : lw_okq (⟨"LitWindows$LeastPains", "shapeAllBoxes", "(LLitWindows$Wall;LLitWindows$Word;I)V"⟩, 8) := ⟨⟨by decide +kernel, by decide +kernel⟩, List.mem_of_getElem? (i := 165) (by decide +kernel), List.mem_of_getElem? (i := 642) (by decide +kernel), List.mem_of_getElem? (i := 643) (by decide +kernel)⟩
theorem lw_p12 : lw_okq (⟨"LitWindows$LeastPains", "shapeBox", "(LLitWindows$Wall;IIIIJ)V"⟩, 8) := ⟨⟨by decide +kernel, by decide +kernel⟩, List.mem_of_getElem? (i := 165) (by decide +kernel), List.mem_of_getElem? (i := 651) (by decide +kernel), List.mem_of_getElem? (i := 652) (by decide +kernel)⟩
theorem lw_p13 : lw_okq (⟨"LitWindows$LeastPains", "tellCells", "(LLitWindows$Wall;II)V"⟩, 8) := ⟨⟨by decide +kernel, by decide +kernel⟩, List.mem_of_getElem? (i := 165) (by decide +kernel), List.mem_of_getElem? (i := 656) (by decide +kernel), List.mem_of_getElem? (i := 657) (by decide +kernel)⟩
theorem lw_p14 : lw_okq (⟨"LitWindows$LeastPains", "painsOfCells", "(I)I"⟩, 8) := ⟨⟨by decide +kernel, by decide +kernel⟩, List.mem_of_getElem? (i := 165) (by decide +kernel), List.mem_of_getElem? (i := 663) (by decide +kernel), List.mem_of_getElem? (i := 664) (by decide +kernel)⟩
theorem lw_p15 : lw_okq (⟨"LitWindows$LeastPains", "keepPlace", "(I)V"⟩, 8) := ⟨⟨by decide +kernel, by decide +kernel⟩, List.mem_of_getElem? (i := 165) (by decide +kernel), List.mem_of_getElem? (i := 672) (by decide +kernel), List.mem_of_getElem? (i := 673) (by decide +kernel)⟩
def lw_privs_1 : List (MethodName × Nat) := [(⟨"LitWindows$LeastPains", "addLarger", "(II)I"⟩, 8), (⟨"LitWindows", "counted", "(I)I"⟩, 16), (⟨"LitWindows", "countedApart", "(I)I"⟩, 16), (⟨"LitWindows$Plan", "takeToken", "()V"⟩, 9), (⟨"LitWindows$Plan", "takeNumber", "()V"⟩, 9), (⟨"LitWindows$Plan", "takeWord", "()V"⟩, 9), (⟨"LitWindows$Plan", "isTokenText", "(Ljava/lang/String;)Z"⟩, 9), (⟨"LitWindows$Plan", "takeItem", "(I)Z"⟩, 9), (⟨"LitWindows$Plan", "tellItem", "(LLitWindows$Wall;II)I"⟩, 9), (⟨"LitWindows", "isAsked", "(II)Z"⟩, 16), (⟨"LitWindows$Places", "packFrom", "(II)V"⟩, 5), (⟨"LitWindows$LeastPains", "shapeAllBoxes", "(LLitWindows$Wall;LLitWindows$Word;I)V"⟩, 8), (⟨"LitWindows$LeastPains", "shapeBox", "(LLitWindows$Wall;IIIIJ)V"⟩, 8), (⟨"LitWindows$LeastPains", "tellCells", "(LLitWindows$Wall;II)V"⟩, 8), (⟨"LitWindows$LeastPains", "painsOfCells", "(I)I"⟩, 8), (⟨"LitWindows$LeastPains", "keepPlace", "(I)V"⟩, 8)]
theorem lw_r1 : ∀ q ∈ lw_privs_1, lw_okq q := List.forall_mem_cons.mpr ⟨lw_p0, List.forall_mem_cons.mpr ⟨lw_p1, List.forall_mem_cons.mpr ⟨lw_p2, List.forall_mem_cons.mpr ⟨lw_p3, List.forall_mem_cons.mpr ⟨lw_p4, List.forall_mem_cons.mpr ⟨lw_p5, List.forall_mem_cons.mpr ⟨lw_p6, List.forall_mem_cons.mpr ⟨lw_p7, List.forall_mem_cons.mpr ⟨lw_p8, List.forall_mem_cons.mpr ⟨lw_p9, List.forall_mem_cons.mpr ⟨lw_p10, List.forall_mem_cons.mpr ⟨lw_p11, List.forall_mem_cons.mpr ⟨lw_p12, List.forall_mem_cons.mpr ⟨lw_p13, List.forall_mem_cons.mpr ⟨lw_p14, List.forall_mem_cons.mpr ⟨lw_p15, fun _ h => absurd h List.not_mem_nil⟩⟩⟩⟩⟩⟩⟩⟩⟩⟩⟩⟩⟩⟩⟩⟩
theorem lw_p16 : lw_okq (⟨"LitWindows$Pictures", "picture", "(LLitWindows$Wall;LLitWindows$Word;J)J"⟩, 3) := ⟨⟨by decide +kernel, by decide +kernel⟩, List.mem_of_getElem? (i := 227) (by decide +kernel), List.mem_of_getElem? (i := 694) (by decide +kernel), List.mem_of_getElem? (i := 695) (by decide +kernel)⟩
theorem lw_p17 : lw_okq (⟨"LitWindows$DarkLamps", "tellWindows", "(LLitWindows$Wall;)I"⟩, 7) := ⟨⟨by decide +kernel, by decide +kernel⟩, List.mem_of_getElem? (i := 245) (by decide +kernel), List.mem_of_getElem? (i := 771) (by decide +kernel), List.mem_of_getElem? (i := 772) (by decide +kernel)⟩
theorem lw_p18 : lw_okq (⟨"LitWindows$DarkLamps", "tellReadings", "(LLitWindows$Wall;)V"⟩, 7) := ⟨⟨by decide +kernel, by decide +kernel⟩, List.mem_of_getElem? (i := 245) (by decide +kernel), List.mem_of_getElem? (i := 776) (by decide +kernel), List.mem_of_getElem? (i := 777) (by decide +kernel)⟩
theorem lw_p19 : lw_okq (⟨"LitWindows$DarkLamps", "look", "(LLitWindows$Wall;III)V"⟩, 7) := ⟨⟨by decide +kernel, by decide +kernel⟩, List.mem_of_getElem? (i := 245) (by decide +kernel), List.mem_of_getElem? (i := 782) (by decide +kernel), List.mem_of_getElem? (i := 783) (by decide +kernel)⟩
theorem lw_p20 : lw_okq (⟨"LitWindows$DarkLamps", "tellsAll", "(LLitWindows$Wall;J)Z"⟩, 7) := ⟨⟨by decide +kernel, by decide +kernel⟩, List.mem_of_getElem? (i := 245) (by decide +kernel), List.mem_of_getElem? (i := 786) (by decide +kernel), List.mem_of_getElem? (i := 787) (by decide +kernel)⟩
theorem lw_p21 : lw_okq (⟨"LitWindows$DarkLamps", "tells", "(LLitWindows$Wall;IJ)Z"⟩, 7) := ⟨⟨by decide +kernel, by decide +kernel⟩, List.mem_of_getElem? (i := 245) (by decide +kernel), List.mem_of_getElem? (i := 790) (by decide +kernel), List.mem_of_getElem? (i := 791) (by decide +kernel)⟩
theorem lw_p22 : lw_okq (⟨"LitWindows", "howMany", "(I)I"⟩, 16) := ⟨⟨by decide +kernel, by decide +kernel⟩, List.mem_of_getElem? (i := 18) (by decide +kernel), List.mem_of_getElem? (i := 819) (by decide +kernel), List.mem_of_getElem? (i := 820) (by decide +kernel)⟩
theorem lw_p23 : lw_okq (⟨"LitWindowsModel", "anew", "(II)V"⟩, 32) := ⟨⟨by decide +kernel, by decide +kernel⟩, List.mem_of_getElem? (i := 838) (by decide +kernel), List.mem_of_getElem? (i := 844) (by decide +kernel), List.mem_of_getElem? (i := 845) (by decide +kernel)⟩
theorem lw_p24 : lw_okq (⟨"LitWindowsModel", "putWall", "(II)I"⟩, 32) := ⟨⟨by decide +kernel, by decide +kernel⟩, List.mem_of_getElem? (i := 838) (by decide +kernel), List.mem_of_getElem? (i := 949) (by decide +kernel), List.mem_of_getElem? (i := 950) (by decide +kernel)⟩
theorem lw_p25 : lw_okq (⟨"LitWindowsModel", "told", "(I)I"⟩, 32) := ⟨⟨by decide +kernel, by decide +kernel⟩, List.mem_of_getElem? (i := 838) (by decide +kernel), List.mem_of_getElem? (i := 956) (by decide +kernel), List.mem_of_getElem? (i := 957) (by decide +kernel)⟩
theorem lw_p26 : lw_okq (⟨"LitWindowsModel", "putMan", "(III)I"⟩, 32) := ⟨⟨by decide +kernel, by decide +kernel⟩, List.mem_of_getElem? (i := 838) (by decide +kernel), List.mem_of_getElem? (i := 964) (by decide +kernel), List.mem_of_getElem? (i := 965) (by decide +kernel)⟩
theorem lw_p27 : lw_okq (⟨"LitWindowsModel", "isMan", "(I)Z"⟩, 32) := ⟨⟨by decide +kernel, by decide +kernel⟩, List.mem_of_getElem? (i := 838) (by decide +kernel), List.mem_of_getElem? (i := 972) (by decide +kernel), List.mem_of_getElem? (i := 973) (by decide +kernel)⟩
theorem lw_p28 : lw_okq (⟨"LitWindowsModel", "isLetter", "(I)Z"⟩, 32) := ⟨⟨by decide +kernel, by decide +kernel⟩, List.mem_of_getElem? (i := 838) (by decide +kernel), List.mem_of_getElem? (i := 976) (by decide +kernel), List.mem_of_getElem? (i := 977) (by decide +kernel)⟩
theorem lw_p29 : lw_okq (⟨"LitWindowsModel", "putOwner", "(II)I"⟩, 32) := ⟨⟨by decide +kernel, by decide +kernel⟩, List.mem_of_getElem? (i := 838) (by decide +kernel), List.mem_of_getElem? (i := 984) (by decide +kernel), List.mem_of_getElem? (i := 985) (by decide +kernel)⟩
theorem lw_p30 : lw_okq (⟨"LitWindowsModel", "isWindow", "(I)Z"⟩, 32) := ⟨⟨by decide +kernel, by decide +kernel⟩, List.mem_of_getElem? (i := 838) (by decide +kernel), List.mem_of_getElem? (i := 988) (by decide +kernel), List.mem_of_getElem? (i := 989) (by decide +kernel)⟩
theorem lw_p31 : lw_okq (⟨"LitWindowsModel", "isPlace", "(II)Z"⟩, 32) := ⟨⟨by decide +kernel, by decide +kernel⟩, List.mem_of_getElem? (i := 838) (by decide +kernel), List.mem_of_getElem? (i := 992) (by decide +kernel), List.mem_of_getElem? (i := 993) (by decide +kernel)⟩
def lw_privs_2 : List (MethodName × Nat) := [(⟨"LitWindows$Pictures", "picture", "(LLitWindows$Wall;LLitWindows$Word;J)J"⟩, 3), (⟨"LitWindows$DarkLamps", "tellWindows", "(LLitWindows$Wall;)I"⟩, 7), (⟨"LitWindows$DarkLamps", "tellReadings", "(LLitWindows$Wall;)V"⟩, 7), (⟨"LitWindows$DarkLamps", "look", "(LLitWindows$Wall;III)V"⟩, 7), (⟨"LitWindows$DarkLamps", "tellsAll", "(LLitWindows$Wall;J)Z"⟩, 7), (⟨"LitWindows$DarkLamps", "tells", "(LLitWindows$Wall;IJ)Z"⟩, 7), (⟨"LitWindows", "howMany", "(I)I"⟩, 16), (⟨"LitWindowsModel", "anew", "(II)V"⟩, 32), (⟨"LitWindowsModel", "putWall", "(II)I"⟩, 32), (⟨"LitWindowsModel", "told", "(I)I"⟩, 32), (⟨"LitWindowsModel", "putMan", "(III)I"⟩, 32), (⟨"LitWindowsModel", "isMan", "(I)Z"⟩, 32), (⟨"LitWindowsModel", "isLetter", "(I)Z"⟩, 32), (⟨"LitWindowsModel", "putOwner", "(II)I"⟩, 32), (⟨"LitWindowsModel", "isWindow", "(I)Z"⟩, 32), (⟨"LitWindowsModel", "isPlace", "(II)Z"⟩, 32)]
theorem lw_r2 : ∀ q ∈ lw_privs_2, lw_okq q := List.forall_mem_cons.mpr ⟨lw_p16, List.forall_mem_cons.mpr ⟨lw_p17, List.forall_mem_cons.mpr ⟨lw_p18, List.forall_mem_cons.mpr ⟨lw_p19, List.forall_mem_cons.mpr ⟨lw_p20, List.forall_mem_cons.mpr ⟨lw_p21, List.forall_mem_cons.mpr ⟨lw_p22, List.forall_mem_cons.mpr ⟨lw_p23, List.forall_mem_cons.mpr ⟨lw_p24, List.forall_mem_cons.mpr ⟨lw_p25, List.forall_mem_cons.mpr ⟨lw_p26, List.forall_mem_cons.mpr ⟨lw_p27, List.forall_mem_cons.mpr ⟨lw_p28, List.forall_mem_cons.mpr ⟨lw_p29, List.forall_mem_cons.mpr ⟨lw_p30, List.forall_mem_cons.mpr ⟨lw_p31, fun _ h => absurd h List.not_mem_nil⟩⟩⟩⟩⟩⟩⟩⟩⟩⟩⟩⟩⟩⟩⟩⟩
theorem lw_p32 : lw_okq (⟨"LitWindowsModel", "putLetter", "(I)I"⟩, 32) := ⟨⟨by decide +kernel, by decide +kernel⟩, List.mem_of_getElem? (i := 838) (by decide +kernel), List.mem_of_getElem? (i := 1000) (by decide +kernel), List.mem_of_getElem? (i := 1001) (by decide +kernel)⟩
theorem lw_p33 : lw_okq (⟨"LitWindowsModel", "putLight", "(III)I"⟩, 32) := ⟨⟨by decide +kernel, by decide +kernel⟩, List.mem_of_getElem? (i := 838) (by decide +kernel), List.mem_of_getElem? (i := 1008) (by decide +kernel), List.mem_of_getElem? (i := 1009) (by decide +kernel)⟩
theorem lw_p34 : lw_okq (⟨"LitWindowsModel", "putSlack", "(I)I"⟩, 32) := ⟨⟨by decide +kernel, by decide +kernel⟩, List.mem_of_getElem? (i := 838) (by decide +kernel), List.mem_of_getElem? (i := 1019) (by decide +kernel), List.mem_of_getElem? (i := 1020) (by decide +kernel)⟩
theorem lw_p35 : lw_okq (⟨"LitWindowsModel", "price", "(III)I"⟩, 32) := ⟨⟨by decide +kernel, by decide +kernel⟩, List.mem_of_getElem? (i := 838) (by decide +kernel), List.mem_of_getElem? (i := 1027) (by decide +kernel), List.mem_of_getElem? (i := 1028) (by decide +kernel)⟩
theorem lw_p36 : lw_okq (⟨"LitWindowsModel", "willNot", "(II)Z"⟩, 32) := ⟨⟨by decide +kernel, by decide +kernel⟩, List.mem_of_getElem? (i := 838) (by decide +kernel), List.mem_of_getElem? (i := 1031) (by decide +kernel), List.mem_of_getElem? (i := 1032) (by decide +kernel)⟩
theorem lw_p37 : lw_okq (⟨"LitWindowsModel", "findFault", "()I"⟩, 32) := ⟨⟨by decide +kernel, by decide +kernel⟩, List.mem_of_getElem? (i := 838) (by decide +kernel), List.mem_of_getElem? (i := 1048) (by decide +kernel), List.mem_of_getElem? (i := 1049) (by decide +kernel)⟩
theorem lw_p38 : lw_okq (⟨"LitWindowsModel", "next", "()V"⟩, 32) := ⟨⟨by decide +kernel, by decide +kernel⟩, List.mem_of_getElem? (i := 838) (by decide +kernel), List.mem_of_getElem? (i := 1052) (by decide +kernel), List.mem_of_getElem? (i := 1053) (by decide +kernel)⟩
theorem lw_p39 : lw_okq (⟨"LitWindowsModel", "byteAt", "(I)I"⟩, 32) := ⟨⟨by decide +kernel, by decide +kernel⟩, List.mem_of_getElem? (i := 838) (by decide +kernel), List.mem_of_getElem? (i := 1056) (by decide +kernel), List.mem_of_getElem? (i := 1057) (by decide +kernel)⟩
theorem lw_p40 : lw_okq (⟨"LitWindowsModel", "readItem", "()I"⟩, 32) := ⟨⟨by decide +kernel, by decide +kernel⟩, List.mem_of_getElem? (i := 838) (by decide +kernel), List.mem_of_getElem? (i := 1060) (by decide +kernel), List.mem_of_getElem? (i := 1061) (by decide +kernel)⟩
theorem lw_p41 : lw_okq (⟨"LitWindowsModel", "item", "()I"⟩, 32) := ⟨⟨by decide +kernel, by decide +kernel⟩, List.mem_of_getElem? (i := 838) (by decide +kernel), List.mem_of_getElem? (i := 1064) (by decide +kernel), List.mem_of_getElem? (i := 1065) (by decide +kernel)⟩
theorem lw_p42 : lw_okq (⟨"LitWindowsModel", "isDone", "(I)Z"⟩, 32) := ⟨⟨by decide +kernel, by decide +kernel⟩, List.mem_of_getElem? (i := 838) (by decide +kernel), List.mem_of_getElem? (i := 1077) (by decide +kernel), List.mem_of_getElem? (i := 1078) (by decide +kernel)⟩
theorem lw_p43 : lw_okq (⟨"LitWindowsModel", "readAs", "(I)I"⟩, 32) := ⟨⟨by decide +kernel, by decide +kernel⟩, List.mem_of_getElem? (i := 838) (by decide +kernel), List.mem_of_getElem? (i := 1088) (by decide +kernel), List.mem_of_getElem? (i := 1089) (by decide +kernel)⟩
theorem lw_p44 : lw_okq (⟨"LitWindowsModel", "isBox", "(I)Z"⟩, 32) := ⟨⟨by decide +kernel, by decide +kernel⟩, List.mem_of_getElem? (i := 838) (by decide +kernel), List.mem_of_getElem? (i := 1096) (by decide +kernel), List.mem_of_getElem? (i := 1097) (by decide +kernel)⟩
theorem lw_p45 : lw_okq (⟨"LitWindowsModel", "shapeAt", "(II)I"⟩, 32) := ⟨⟨by decide +kernel, by decide +kernel⟩, List.mem_of_getElem? (i := 838) (by decide +kernel), List.mem_of_getElem? (i := 1100) (by decide +kernel), List.mem_of_getElem? (i := 1101) (by decide +kernel)⟩
theorem lw_p46 : lw_okq (⟨"LitWindowsModel", "isWord", "(I)Z"⟩, 32) := ⟨⟨by decide +kernel, by decide +kernel⟩, List.mem_of_getElem? (i := 838) (by decide +kernel), List.mem_of_getElem? (i := 1115) (by decide +kernel), List.mem_of_getElem? (i := 1116) (by decide +kernel)⟩
theorem lw_p47 : lw_okq (⟨"LitWindowsModel", "findWord", "(II)V"⟩, 32) := ⟨⟨by decide +kernel, by decide +kernel⟩, List.mem_of_getElem? (i := 838) (by decide +kernel), List.mem_of_getElem? (i := 1119) (by decide +kernel), List.mem_of_getElem? (i := 1120) (by decide +kernel)⟩
def lw_privs_3 : List (MethodName × Nat) := [(⟨"LitWindowsModel", "putLetter", "(I)I"⟩, 32), (⟨"LitWindowsModel", "putLight", "(III)I"⟩, 32), (⟨"LitWindowsModel", "putSlack", "(I)I"⟩, 32), (⟨"LitWindowsModel", "price", "(III)I"⟩, 32), (⟨"LitWindowsModel", "willNot", "(II)Z"⟩, 32), (⟨"LitWindowsModel", "findFault", "()I"⟩, 32), (⟨"LitWindowsModel", "next", "()V"⟩, 32), (⟨"LitWindowsModel", "byteAt", "(I)I"⟩, 32), (⟨"LitWindowsModel", "readItem", "()I"⟩, 32), (⟨"LitWindowsModel", "item", "()I"⟩, 32), (⟨"LitWindowsModel", "isDone", "(I)Z"⟩, 32), (⟨"LitWindowsModel", "readAs", "(I)I"⟩, 32), (⟨"LitWindowsModel", "isBox", "(I)Z"⟩, 32), (⟨"LitWindowsModel", "shapeAt", "(II)I"⟩, 32), (⟨"LitWindowsModel", "isWord", "(I)Z"⟩, 32), (⟨"LitWindowsModel", "findWord", "(II)V"⟩, 32)]
theorem lw_r3 : ∀ q ∈ lw_privs_3, lw_okq q := List.forall_mem_cons.mpr ⟨lw_p32, List.forall_mem_cons.mpr ⟨lw_p33, List.forall_mem_cons.mpr ⟨lw_p34, List.forall_mem_cons.mpr ⟨lw_p35, List.forall_mem_cons.mpr ⟨lw_p36, List.forall_mem_cons.mpr ⟨lw_p37, List.forall_mem_cons.mpr ⟨lw_p38, List.forall_mem_cons.mpr ⟨lw_p39, List.forall_mem_cons.mpr ⟨lw_p40, List.forall_mem_cons.mpr ⟨lw_p41, List.forall_mem_cons.mpr ⟨lw_p42, List.forall_mem_cons.mpr ⟨lw_p43, List.forall_mem_cons.mpr ⟨lw_p44, List.forall_mem_cons.mpr ⟨lw_p45, List.forall_mem_cons.mpr ⟨lw_p46, List.forall_mem_cons.mpr ⟨lw_p47, fun _ h => absurd h List.not_mem_nil⟩⟩⟩⟩⟩⟩⟩⟩⟩⟩⟩⟩⟩⟩⟩⟩
theorem lw_p48 : lw_okq (⟨"LitWindowsModel", "makeBoxes", "(II)V"⟩, 32) := ⟨⟨by decide +kernel, by decide +kernel⟩, List.mem_of_getElem? (i := 838) (by decide +kernel), List.mem_of_getElem? (i := 1123) (by decide +kernel), List.mem_of_getElem? (i := 1124) (by decide +kernel)⟩
theorem lw_p49 : lw_okq (⟨"LitWindowsModel", "findReads", "()V"⟩, 32) := ⟨⟨by decide +kernel, by decide +kernel⟩, List.mem_of_getElem? (i := 838) (by decide +kernel), List.mem_of_getElem? (i := 1127) (by decide +kernel), List.mem_of_getElem? (i := 1128) (by decide +kernel)⟩
theorem lw_p50 : lw_okq (⟨"LitWindowsModel", "makeBox", "(IIII)V"⟩, 32) := ⟨⟨by decide +kernel, by decide +kernel⟩, List.mem_of_getElem? (i := 838) (by decide +kernel), List.mem_of_getElem? (i := 1134) (by decide +kernel), List.mem_of_getElem? (i := 1135) (by decide +kernel)⟩
theorem lw_p51 : lw_okq (⟨"LitWindowsModel", "priceOf", "(IIII)I"⟩, 32) := ⟨⟨by decide +kernel, by decide +kernel⟩, List.mem_of_getElem? (i := 838) (by decide +kernel), List.mem_of_getElem? (i := 1141) (by decide +kernel), List.mem_of_getElem? (i := 1142) (by decide +kernel)⟩
theorem lw_p52 : lw_okq (⟨"LitWindowsModel", "firstRow", "(I)V"⟩, 32) := ⟨⟨by decide +kernel, by decide +kernel⟩, List.mem_of_getElem? (i := 838) (by decide +kernel), List.mem_of_getElem? (i := 1145) (by decide +kernel), List.mem_of_getElem? (i := 1146) (by decide +kernel)⟩
theorem lw_p53 : lw_okq (⟨"LitWindowsModel", "isRow", "(I)Z"⟩, 32) := ⟨⟨by decide +kernel, by decide +kernel⟩, List.mem_of_getElem? (i := 838) (by decide +kernel), List.mem_of_getElem? (i := 1149) (by decide +kernel), List.mem_of_getElem? (i := 1150) (by decide +kernel)⟩
theorem lw_p54 : lw_okq (⟨"LitWindowsModel", "nextRow", "(I)V"⟩, 32) := ⟨⟨by decide +kernel, by decide +kernel⟩, List.mem_of_getElem? (i := 838) (by decide +kernel), List.mem_of_getElem? (i := 1153) (by decide +kernel), List.mem_of_getElem? (i := 1154) (by decide +kernel)⟩
theorem lw_p55 : lw_okq (⟨"LitWindowsModel", "findWalls", "(III)V"⟩, 32) := ⟨⟨by decide +kernel, by decide +kernel⟩, List.mem_of_getElem? (i := 838) (by decide +kernel), List.mem_of_getElem? (i := 1165) (by decide +kernel), List.mem_of_getElem? (i := 1166) (by decide +kernel)⟩
theorem lw_p56 : lw_okq (⟨"LitWindowsModel", "wallOf", "(I)J"⟩, 32) := ⟨⟨by decide +kernel, by decide +kernel⟩, List.mem_of_getElem? (i := 838) (by decide +kernel), List.mem_of_getElem? (i := 1169) (by decide +kernel), List.mem_of_getElem? (i := 1170) (by decide +kernel)⟩
theorem lw_p57 : lw_okq (⟨"LitWindowsModel", "onesOf", "(J)I"⟩, 32) := ⟨⟨by decide +kernel, by decide +kernel⟩, List.mem_of_getElem? (i := 838) (by decide +kernel), List.mem_of_getElem? (i := 1174) (by decide +kernel), List.mem_of_getElem? (i := 1175) (by decide +kernel)⟩
theorem lw_p58 : lw_okq (⟨"LitWindowsModel", "findEnough", "(IIII)V"⟩, 32) := ⟨⟨by decide +kernel, by decide +kernel⟩, List.mem_of_getElem? (i := 838) (by decide +kernel), List.mem_of_getElem? (i := 1183) (by decide +kernel), List.mem_of_getElem? (i := 1184) (by decide +kernel)⟩
theorem lw_p59 : lw_okq (⟨"LitWindowsModel", "menOf", "(IIII)I"⟩, 32) := ⟨⟨by decide +kernel, by decide +kernel⟩, List.mem_of_getElem? (i := 838) (by decide +kernel), List.mem_of_getElem? (i := 1187) (by decide +kernel), List.mem_of_getElem? (i := 1188) (by decide +kernel)⟩
theorem lw_p60 : lw_okq (⟨"LitWindowsModel", "payOf", "(I)I"⟩, 32) := ⟨⟨by decide +kernel, by decide +kernel⟩, List.mem_of_getElem? (i := 838) (by decide +kernel), List.mem_of_getElem? (i := 1191) (by decide +kernel), List.mem_of_getElem? (i := 1192) (by decide +kernel)⟩
theorem lw_p61 : lw_okq (⟨"LitWindowsModel", "canBy", "(II)Z"⟩, 32) := ⟨⟨by decide +kernel, by decide +kernel⟩, List.mem_of_getElem? (i := 838) (by decide +kernel), List.mem_of_getElem? (i := 1195) (by decide +kernel), List.mem_of_getElem? (i := 1196) (by decide +kernel)⟩
theorem lw_p62 : lw_okq (⟨"LitWindowsModel", "tryDead", "(III)V"⟩, 32) := ⟨⟨by decide +kernel, by decide +kernel⟩, List.mem_of_getElem? (i := 838) (by decide +kernel), List.mem_of_getElem? (i := 1219) (by decide +kernel), List.mem_of_getElem? (i := 1220) (by decide +kernel)⟩
theorem lw_p63 : lw_okq (⟨"LitWindowsModel", "areSo", "(II)Z"⟩, 32) := ⟨⟨by decide +kernel, by decide +kernel⟩, List.mem_of_getElem? (i := 838) (by decide +kernel), List.mem_of_getElem? (i := 1223) (by decide +kernel), List.mem_of_getElem? (i := 1224) (by decide +kernel)⟩
def lw_privs_4 : List (MethodName × Nat) := [(⟨"LitWindowsModel", "makeBoxes", "(II)V"⟩, 32), (⟨"LitWindowsModel", "findReads", "()V"⟩, 32), (⟨"LitWindowsModel", "makeBox", "(IIII)V"⟩, 32), (⟨"LitWindowsModel", "priceOf", "(IIII)I"⟩, 32), (⟨"LitWindowsModel", "firstRow", "(I)V"⟩, 32), (⟨"LitWindowsModel", "isRow", "(I)Z"⟩, 32), (⟨"LitWindowsModel", "nextRow", "(I)V"⟩, 32), (⟨"LitWindowsModel", "findWalls", "(III)V"⟩, 32), (⟨"LitWindowsModel", "wallOf", "(I)J"⟩, 32), (⟨"LitWindowsModel", "onesOf", "(J)I"⟩, 32), (⟨"LitWindowsModel", "findEnough", "(IIII)V"⟩, 32), (⟨"LitWindowsModel", "menOf", "(IIII)I"⟩, 32), (⟨"LitWindowsModel", "payOf", "(I)I"⟩, 32), (⟨"LitWindowsModel", "canBy", "(II)Z"⟩, 32), (⟨"LitWindowsModel", "tryDead", "(III)V"⟩, 32), (⟨"LitWindowsModel", "areSo", "(II)Z"⟩, 32)]
theorem lw_r4 : ∀ q ∈ lw_privs_4, lw_okq q := List.forall_mem_cons.mpr ⟨lw_p48, List.forall_mem_cons.mpr ⟨lw_p49, List.forall_mem_cons.mpr ⟨lw_p50, List.forall_mem_cons.mpr ⟨lw_p51, List.forall_mem_cons.mpr ⟨lw_p52, List.forall_mem_cons.mpr ⟨lw_p53, List.forall_mem_cons.mpr ⟨lw_p54, List.forall_mem_cons.mpr ⟨lw_p55, List.forall_mem_cons.mpr ⟨lw_p56, List.forall_mem_cons.mpr ⟨lw_p57, List.forall_mem_cons.mpr ⟨lw_p58, List.forall_mem_cons.mpr ⟨lw_p59, List.forall_mem_cons.mpr ⟨lw_p60, List.forall_mem_cons.mpr ⟨lw_p61, List.forall_mem_cons.mpr ⟨lw_p62, List.forall_mem_cons.mpr ⟨lw_p63, fun _ h => absurd h List.not_mem_nil⟩⟩⟩⟩⟩⟩⟩⟩⟩⟩⟩⟩⟩⟩⟩⟩
theorem lw_p64 : lw_okq (⟨"LitWindowsModel", "isUnlike", "(III)Z"⟩, 32) := ⟨⟨by decide +kernel, by decide +kernel⟩, List.mem_of_getElem? (i := 838) (by decide +kernel), List.mem_of_getElem? (i := 1231) (by decide +kernel), List.mem_of_getElem? (i := 1232) (by decide +kernel)⟩
def lw_privs_5 : List (MethodName × Nat) := [(⟨"LitWindowsModel", "isUnlike", "(III)Z"⟩, 32)]
theorem lw_r5 : ∀ q ∈ lw_privs_5, lw_okq q := List.forall_mem_cons.mpr ⟨lw_p64, fun _ h => absurd h List.not_mem_nil⟩
def lw_privs : List (MethodName × Nat) := lw_privs_1 ++ (lw_privs_2 ++ (lw_privs_3 ++ (lw_privs_4 ++ (lw_privs_5))))
def lw_tbl : List Cond := k2_sels lw_privs ++ tables_1
theorem lw_privs_ok : ∀ q ∈ lw_privs, lw_okq q := by
  show ∀ q ∈ lw_privs_1 ++ (lw_privs_2 ++ (lw_privs_3 ++ (lw_privs_4 ++ (lw_privs_5)))), lw_okq q
  exact List.forall_mem_append.mpr ⟨lw_r1, List.forall_mem_append.mpr ⟨lw_r2, List.forall_mem_append.mpr ⟨lw_r3, List.forall_mem_append.mpr ⟨lw_r4, lw_r5⟩⟩⟩⟩
-- ===== end of PART A; then your names; then what follows =====
def RX0 : String := "LitWindows$DarkLamps"
def TX0 : u_T := fun k => match k with
  | 0 => ("LitWindows$DarkLamps", "sets", "I", false)
  | 1 => ("LitWindows$DarkLamps", "size", "I", false)
  | 2 => ("LitWindows$DarkLamps", "least", "I", false)
  | 3 => ("LitWindows$DarkLamps", "greatest", "I", false)
  | 4 => ("LitWindows$DarkLamps", "windows", "[I", true)
  | 5 => ("LitWindows$DarkLamps", "shown", "[J", true)
  | _ => ("LitWindows$DarkLamps", "soWithout", "[Z", true)
def tyX0 : Nat → FieldType := fun k => match k with
  | 0 => .int
  | 1 => .int
  | 2 => .int
  | 3 => .int
  | 4 => .array .int
  | 5 => .array .long
  | _ => .array .boolean
abbrev wsX00 : List Cond := u_ws RX0 TX0 7
theorem nmX0 : ∀ a, a < 7 → ∀ b, b < 7 → a ≠ b → (TX0 a).2.1 ≠ (TX0 b).2.1 := by decide +kernel
theorem tyX0_ok : ∀ k, k < 7 → parseFieldDescriptor (TX0 k).2.2.1 = some (tyX0 k) := by decide +kernel
abbrev cX0_init : ByteArray := prog_2_method_1_code
def yX0_init : MethodName := ⟨RX0, "<init>", "()V"⟩
abbrev cX0_find : ByteArray := prog_2_method_2_code
def yX0_find : MethodName := ⟨RX0, "find", "(LLitWindows$Wall;)V"⟩
abbrev cX0_tellWindows : ByteArray := prog_2_method_3_code
def yX0_tellWindows : MethodName := ⟨RX0, "tellWindows", "(LLitWindows$Wall;)I"⟩
abbrev cX0_tellReadings : ByteArray := prog_2_method_4_code
def yX0_tellReadings : MethodName := ⟨RX0, "tellReadings", "(LLitWindows$Wall;)V"⟩
abbrev cX0_look : ByteArray := prog_2_method_5_code
def yX0_look : MethodName := ⟨RX0, "look", "(LLitWindows$Wall;III)V"⟩
abbrev cX0_tellsAll : ByteArray := prog_2_method_6_code
def yX0_tellsAll : MethodName := ⟨RX0, "tellsAll", "(LLitWindows$Wall;J)Z"⟩
abbrev cX0_tells : ByteArray := prog_2_method_7_code
def yX0_tells : MethodName := ⟨RX0, "tells", "(LLitWindows$Wall;IJ)Z"⟩
def RX1 : String := "LitWindows$LeastPains"
def TX1 : u_T := fun k => match k with
  | 0 => ("LitWindows$LeastPains", "pains", "I", false)
  | 1 => ("LitWindows$LeastPains", "windows", "[I", true)
  | 2 => ("LitWindows$LeastPains", "shapes", "[I", true)
  | 3 => ("LitWindows$LeastPains", "places", "LLitWindows$Places;", true)
  | 4 => ("LitWindows$LeastPains", "deviations", "[I", true)
  | 5 => ("LitWindows$LeastPains", "painsOfCell", "[I", true)
  | 6 => ("LitWindows$LeastPains", "painsAt", "[[I", true)
  | _ => ("LitWindows$LeastPains", "shapeAt", "[[I", true)
def tyX1 : Nat → FieldType := fun k => match k with
  | 0 => .int
  | 1 => .array .int
  | 2 => .array .int
  | 3 => .object "LitWindows$Places"
  | 4 => .array .int
  | 5 => .array .int
  | 6 => .array (.array .int)
  | _ => .array (.array .int)
abbrev wsX10 : List Cond := u_ws RX1 TX1 8
theorem nmX1 : ∀ a, a < 8 → ∀ b, b < 8 → a ≠ b → (TX1 a).2.1 ≠ (TX1 b).2.1 := by decide +kernel
theorem tyX1_ok : ∀ k, k < 8 → parseFieldDescriptor (TX1 k).2.2.1 = some (tyX1 k) := by decide +kernel
abbrev cX1_init : ByteArray := prog_3_method_1_code
def yX1_init : MethodName := ⟨RX1, "<init>", "()V"⟩
abbrev cX1_addLarger : ByteArray := prog_3_method_2_code
def yX1_addLarger : MethodName := ⟨RX1, "addLarger", "(II)I"⟩
abbrev cX1_find : ByteArray := prog_3_method_3_code
def yX1_find : MethodName := ⟨RX1, "find", "(LLitWindows$Wall;LLitWindows$Word;I)V"⟩
abbrev cX1_shapeAllBoxes : ByteArray := prog_3_method_4_code
def yX1_shapeAllBoxes : MethodName := ⟨RX1, "shapeAllBoxes", "(LLitWindows$Wall;LLitWindows$Word;I)V"⟩
abbrev cX1_shapeBox : ByteArray := prog_3_method_5_code
def yX1_shapeBox : MethodName := ⟨RX1, "shapeBox", "(LLitWindows$Wall;IIIIJ)V"⟩
abbrev cX1_tellCells : ByteArray := prog_3_method_6_code
def yX1_tellCells : MethodName := ⟨RX1, "tellCells", "(LLitWindows$Wall;II)V"⟩
abbrev cX1_painsOfCells : ByteArray := prog_3_method_7_code
def yX1_painsOfCells : MethodName := ⟨RX1, "painsOfCells", "(I)I"⟩
abbrev cX1_keepPlace : ByteArray := prog_3_method_8_code
def yX1_keepPlace : MethodName := ⟨RX1, "keepPlace", "(I)V"⟩
def RX2 : String := "LitWindows$Pictures"
def TX2 : u_T := fun k => match k with
  | 0 => ("LitWindows$Pictures", "lights", "[J", true)
  | 1 => ("LitWindows$Pictures", "known", "I", false)
  | _ => ("LitWindows$Pictures", "places", "LLitWindows$Places;", true)
def tyX2 : Nat → FieldType := fun k => match k with
  | 0 => .array .long
  | 1 => .int
  | _ => .object "LitWindows$Places"
abbrev wsX20 : List Cond := u_ws RX2 TX2 3
theorem nmX2 : ∀ a, a < 3 → ∀ b, b < 3 → a ≠ b → (TX2 a).2.1 ≠ (TX2 b).2.1 := by decide +kernel
theorem tyX2_ok : ∀ k, k < 3 → parseFieldDescriptor (TX2 k).2.2.1 = some (tyX2 k) := by decide +kernel
abbrev cX2_init : ByteArray := prog_4_method_1_code
def yX2_init : MethodName := ⟨RX2, "<init>", "()V"⟩
abbrev cX2_find : ByteArray := prog_4_method_2_code
def yX2_find : MethodName := ⟨RX2, "find", "(LLitWindows$Wall;LLitWindows$Word;I)V"⟩
abbrev cX2_picture : ByteArray := prog_4_method_3_code
def yX2_picture : MethodName := ⟨RX2, "picture", "(LLitWindows$Wall;LLitWindows$Word;J)J"⟩
abbrev cX2_fewestUnlike : ByteArray := prog_4_method_4_code
def yX2_fewestUnlike : MethodName := ⟨RX2, "fewestUnlike", "(LLitWindows$Pictures;)I"⟩
def RX3 : String := "LitWindows$Places"
def TX3 : u_T := fun k => match k with
  | 0 => ("LitWindows$Places", "columns", "[I", true)
  | 1 => ("LitWindows$Places", "y", "I", false)
  | 2 => ("LitWindows$Places", "boxes", "I", false)
  | 3 => ("LitWindows$Places", "lastColumn", "I", false)
  | _ => ("LitWindows$Places", "lastTop", "I", false)
def tyX3 : Nat → FieldType := fun k => match k with
  | 0 => .array .int
  | 1 => .int
  | 2 => .int
  | 3 => .int
  | _ => .int
abbrev wsX30 : List Cond := u_ws RX3 TX3 5
theorem nmX3 : ∀ a, a < 5 → ∀ b, b < 5 → a ≠ b → (TX3 a).2.1 ≠ (TX3 b).2.1 := by decide +kernel
theorem tyX3_ok : ∀ k, k < 5 → parseFieldDescriptor (TX3 k).2.2.1 = some (tyX3 k) := by decide +kernel
abbrev cX3_init : ByteArray := prog_5_method_1_code
def yX3_init : MethodName := ⟨RX3, "<init>", "()V"⟩
abbrev cX3_begin : ByteArray := prog_5_method_2_code
def yX3_begin : MethodName := ⟨RX3, "begin", "(ILLitWindows$Wall;)Z"⟩
abbrev cX3_goOn : ByteArray := prog_5_method_3_code
def yX3_goOn : MethodName := ⟨RX3, "goOn", "()Z"⟩
abbrev cX3_window : ByteArray := prog_5_method_4_code
def yX3_window : MethodName := ⟨RX3, "window", "(I)I"⟩
abbrev cX3_mostToRight : ByteArray := prog_5_method_5_code
def yX3_mostToRight : MethodName := ⟨RX3, "mostToRight", "(I)I"⟩
abbrev cX3_packFrom : ByteArray := prog_5_method_6_code
def yX3_packFrom : MethodName := ⟨RX3, "packFrom", "(II)V"⟩
def RX4 : String := "LitWindows$Plan"
def TX4 : u_T := fun k => match k with
  | 0 => ("LitWindows$Plan", "length", "I", false)
  | 1 => ("LitWindows$Plan", "items", "I", false)
  | 2 => ("LitWindows$Plan", "bytes", "[I", true)
  | 3 => ("LitWindows$Plan", "words", "[I", true)
  | 4 => ("LitWindows$Plan", "numbers", "[I", true)
  | 5 => ("LitWindows$Plan", "place", "I", false)
  | 6 => ("LitWindows$Plan", "token", "I", false)
  | 7 => ("LitWindows$Plan", "tokenAt", "I", false)
  | _ => ("LitWindows$Plan", "tokenValue", "I", false)
def tyX4 : Nat → FieldType := fun k => match k with
  | 0 => .int
  | 1 => .int
  | 2 => .array .int
  | 3 => .array .int
  | 4 => .array .int
  | 5 => .int
  | 6 => .int
  | 7 => .int
  | _ => .int
abbrev wsX40 : List Cond := u_ws RX4 TX4 9
theorem nmX4 : ∀ a, a < 9 → ∀ b, b < 9 → a ≠ b → (TX4 a).2.1 ≠ (TX4 b).2.1 := by decide +kernel
theorem tyX4_ok : ∀ k, k < 9 → parseFieldDescriptor (TX4 k).2.2.1 = some (tyX4 k) := by decide +kernel
abbrev cX4_init : ByteArray := prog_6_method_1_code
def yX4_init : MethodName := ⟨RX4, "<init>", "()V"⟩
abbrev cX4_addBytes : ByteArray := prog_6_method_2_code
def yX4_addBytes : MethodName := ⟨RX4, "addBytes", "(JI)I"⟩
abbrev cX4_empty : ByteArray := prog_6_method_3_code
def yX4_empty : MethodName := ⟨RX4, "empty", "()I"⟩
abbrev cX4_parse : ByteArray := prog_6_method_4_code
def yX4_parse : MethodName := ⟨RX4, "parse", "()I"⟩
abbrev cX4_takeItem : ByteArray := prog_6_method_5_code
def yX4_takeItem : MethodName := ⟨RX4, "takeItem", "(I)Z"⟩
abbrev cX4_takeToken : ByteArray := prog_6_method_6_code
def yX4_takeToken : MethodName := ⟨RX4, "takeToken", "()V"⟩
abbrev cX4_takeNumber : ByteArray := prog_6_method_7_code
def yX4_takeNumber : MethodName := ⟨RX4, "takeNumber", "()V"⟩
abbrev cX4_takeWord : ByteArray := prog_6_method_8_code
def yX4_takeWord : MethodName := ⟨RX4, "takeWord", "()V"⟩
abbrev cX4_isTokenText : ByteArray := prog_6_method_9_code
def yX4_isTokenText : MethodName := ⟨RX4, "isTokenText", "(Ljava/lang/String;)Z"⟩
abbrev cX4_isFigure : ByteArray := prog_6_method_10_code
def yX4_isFigure : MethodName := ⟨RX4, "isFigure", "(I)Z"⟩
abbrev cX4_isSmallLetter : ByteArray := prog_6_method_11_code
def yX4_isSmallLetter : MethodName := ⟨RX4, "isSmallLetter", "(I)Z"⟩
abbrev cX4_wordOf : ByteArray := prog_6_method_12_code
def yX4_wordOf : MethodName := ⟨RX4, "wordOf", "(I)Ljava/lang/String;"⟩
abbrev cX4_numbersOf : ByteArray := prog_6_method_13_code
def yX4_numbersOf : MethodName := ⟨RX4, "numbersOf", "(I)I"⟩
abbrev cX4_tellTo : ByteArray := prog_6_method_14_code
def yX4_tellTo : MethodName := ⟨RX4, "tellTo", "(LLitWindows$Wall;)I"⟩
abbrev cX4_tellItem : ByteArray := prog_6_method_15_code
def yX4_tellItem : MethodName := ⟨RX4, "tellItem", "(LLitWindows$Wall;II)I"⟩
def RX5 : String := "LitWindows$Wall"
def TX5 : u_T := fun k => match k with
  | 0 => ("LitWindows$Wall", "wide", "I", false)
  | 1 => ("LitWindows$Wall", "high", "I", false)
  | 2 => ("LitWindows$Wall", "slackNow", "I", false)
  | 3 => ("LitWindows$Wall", "tenants", "I", false)
  | 4 => ("LitWindows$Wall", "letters", "I", false)
  | 5 => ("LitWindows$Wall", "readings", "I", false)
  | 6 => ("LitWindows$Wall", "kinds", "[I", true)
  | 7 => ("LitWindows$Wall", "painOf", "[I", true)
  | 8 => ("LitWindows$Wall", "payFor", "[I", true)
  | 9 => ("LitWindows$Wall", "refused", "[I", true)
  | 10 => ("LitWindows$Wall", "owned", "[J", true)
  | 11 => ("LitWindows$Wall", "litIn", "[J", true)
  | 12 => ("LitWindows$Wall", "shapes", "[I", true)
  | 13 => ("LitWindows$Wall", "readAt", "[I", true)
  | 14 => ("LitWindows$Wall", "meant", "[I", true)
  | _ => ("LitWindows$Wall", "readSo", "[I", true)
def tyX5 : Nat → FieldType := fun k => match k with
  | 0 => .int
  | 1 => .int
  | 2 => .int
  | 3 => .int
  | 4 => .int
  | 5 => .int
  | 6 => .array .int
  | 7 => .array .int
  | 8 => .array .int
  | 9 => .array .int
  | 10 => .array .long
  | 11 => .array .long
  | 12 => .array .int
  | 13 => .array .int
  | 14 => .array .int
  | _ => .array .int
abbrev wsX50 : List Cond := u_ws RX5 TX5 16
theorem nmX5 : ∀ a, a < 16 → ∀ b, b < 16 → a ≠ b → (TX5 a).2.1 ≠ (TX5 b).2.1 := by decide +kernel
theorem tyX5_ok : ∀ k, k < 16 → parseFieldDescriptor (TX5 k).2.2.1 = some (tyX5 k) := by decide +kernel
abbrev cX5_init : ByteArray := prog_7_method_1_code
def yX5_init : MethodName := ⟨RX5, "<init>", "()V"⟩
abbrev cX5_beAnew : ByteArray := prog_7_method_2_code
def yX5_beAnew : MethodName := ⟨RX5, "beAnew", "(II)V"⟩
abbrev cX5_beLike : ByteArray := prog_7_method_3_code
def yX5_beLike : MethodName := ⟨RX5, "beLike", "(LLitWindows$Wall;)V"⟩
abbrev cX5_isWindow : ByteArray := prog_7_method_4_code
def yX5_isWindow : MethodName := ⟨RX5, "isWindow", "(I)Z"⟩
abbrev cX5_isWindowAt : ByteArray := prog_7_method_5_code
def yX5_isWindowAt : MethodName := ⟨RX5, "isWindowAt", "(II)Z"⟩
abbrev cX5_isBox : ByteArray := prog_7_method_6_code
def yX5_isBox : MethodName := ⟨RX5, "isBox", "(I)Z"⟩
abbrev cX5_isTop : ByteArray := prog_7_method_7_code
def yX5_isTop : MethodName := ⟨RX5, "isTop", "(I)Z"⟩
abbrev cX5_isTenant : ByteArray := prog_7_method_8_code
def yX5_isTenant : MethodName := ⟨RX5, "isTenant", "(I)Z"⟩
abbrev cX5_isLetter : ByteArray := prog_7_method_9_code
def yX5_isLetter : MethodName := ⟨RX5, "isLetter", "(I)Z"⟩
abbrev cX5_setSize : ByteArray := prog_7_method_10_code
def yX5_setSize : MethodName := ⟨RX5, "setSize", "(II)I"⟩
abbrev cX5_addTenant : ByteArray := prog_7_method_11_code
def yX5_addTenant : MethodName := ⟨RX5, "addTenant", "(III)I"⟩
abbrev cX5_setRefused : ByteArray := prog_7_method_12_code
def yX5_setRefused : MethodName := ⟨RX5, "setRefused", "(II)I"⟩
abbrev cX5_setOwner : ByteArray := prog_7_method_13_code
def yX5_setOwner : MethodName := ⟨RX5, "setOwner", "(II)I"⟩
abbrev cX5_ownerOf : ByteArray := prog_7_method_14_code
def yX5_ownerOf : MethodName := ⟨RX5, "ownerOf", "(I)I"⟩
abbrev cX5_addLetter : ByteArray := prog_7_method_15_code
def yX5_addLetter : MethodName := ⟨RX5, "addLetter", "(I)I"⟩
abbrev cX5_setLit : ByteArray := prog_7_method_16_code
def yX5_setLit : MethodName := ⟨RX5, "setLit", "(IIZ)I"⟩
abbrev cX5_isLit : ByteArray := prog_7_method_17_code
def yX5_isLit : MethodName := ⟨RX5, "isLit", "(II)Z"⟩
abbrev cX5_setSlack : ByteArray := prog_7_method_18_code
def yX5_setSlack : MethodName := ⟨RX5, "setSlack", "(I)I"⟩
abbrev cX5_addReading : ByteArray := prog_7_method_19_code
def yX5_addReading : MethodName := ⟨RX5, "addReading", "(III)I"⟩
abbrev cX5_readAs : ByteArray := prog_7_method_20_code
def yX5_readAs : MethodName := ⟨RX5, "readAs", "(I)I"⟩
abbrev cX5_painsOfChange : ByteArray := prog_7_method_21_code
def yX5_painsOfChange : MethodName := ⟨RX5, "painsOfChange", "(II)I"⟩
abbrev cX5_painsOfTenant : ByteArray := prog_7_method_22_code
def yX5_painsOfTenant : MethodName := ⟨RX5, "painsOfTenant", "(III)I"⟩
abbrev cX5_changeable : ByteArray := prog_7_method_23_code
def yX5_changeable : MethodName := ⟨RX5, "changeable", "(III)J"⟩
abbrev cX5_payOf : ByteArray := prog_7_method_24_code
def yX5_payOf : MethodName := ⟨RX5, "payOf", "(I)I"⟩
abbrev cX5_fits : ByteArray := prog_7_method_25_code
def yX5_fits : MethodName := ⟨RX5, "fits", "(IIIJ)Z"⟩
abbrev cX5_firstColumn : ByteArray := prog_7_method_26_code
def yX5_firstColumn : MethodName := ⟨RX5, "firstColumn", "(IIIIJ)I"⟩
abbrev cX5_canBeSaid : ByteArray := prog_7_method_27_code
def yX5_canBeSaid : MethodName := ⟨RX5, "canBeSaid", "(LLitWindows$Word;IJ)Z"⟩
abbrev cX5_canBeSaidAt : ByteArray := prog_7_method_28_code
def yX5_canBeSaidAt : MethodName := ⟨RX5, "canBeSaidAt", "(LLitWindows$Word;IIJ)Z"⟩
abbrev cX5_digestOn : ByteArray := prog_7_method_29_code
def yX5_digestOn : MethodName := ⟨RX5, "digestOn", "(J)J"⟩
abbrev cX5_digestOfWindow : ByteArray := prog_7_method_30_code
def yX5_digestOfWindow : MethodName := ⟨RX5, "digestOfWindow", "(JI)J"⟩
def RX6 : String := "LitWindows$Word"
def TX6 : u_T := fun k => match k with
  | 0 => ("LitWindows$Word", "letters", "[I", true)
  | 1 => ("LitWindows$Word", "length", "I", false)
  | _ => ("LitWindows$Word", "bits", "I", false)
def tyX6 : Nat → FieldType := fun k => match k with
  | 0 => .array .int
  | 1 => .int
  | _ => .int
abbrev wsX60 : List Cond := u_ws RX6 TX6 3
theorem nmX6 : ∀ a, a < 3 → ∀ b, b < 3 → a ≠ b → (TX6 a).2.1 ≠ (TX6 b).2.1 := by decide +kernel
theorem tyX6_ok : ∀ k, k < 3 → parseFieldDescriptor (TX6 k).2.2.1 = some (tyX6 k) := by decide +kernel
abbrev cX6_init : ByteArray := prog_8_method_1_code
def yX6_init : MethodName := ⟨RX6, "<init>", "()V"⟩
abbrev cX6_spell : ByteArray := prog_8_method_2_code
def yX6_spell : MethodName := ⟨RX6, "spell", "(II)Z"⟩
def RX7 : String := "LitWindows"
def TX7 : u_T := fun k => match k with
  | 0 => ("LitWindows", "wall", "LLitWindows$Wall;", true)
  | 1 => ("LitWindows", "planned", "LLitWindows$Wall;", true)
  | 2 => ("LitWindows", "firstImage", "LLitWindows$Wall;", true)
  | 3 => ("LitWindows", "secondImage", "LLitWindows$Wall;", true)
  | 4 => ("LitWindows", "firstKept", "Z", false)
  | 5 => ("LitWindows", "secondKept", "Z", false)
  | 6 => ("LitWindows", "plan", "LLitWindows$Plan;", true)
  | 7 => ("LitWindows", "asked", "LLitWindows$Word;", true)
  | 8 => ("LitWindows", "askedBeside", "LLitWindows$Word;", true)
  | 9 => ("LitWindows", "leastPains", "LLitWindows$LeastPains;", true)
  | 10 => ("LitWindows", "pictures", "LLitWindows$Pictures;", true)
  | 11 => ("LitWindows", "otherPictures", "LLitWindows$Pictures;", true)
  | 12 => ("LitWindows", "darkLamps", "LLitWindows$DarkLamps;", true)
  | 13 => ("LitWindows", "wereBad", "I", false)
  | 14 => ("LitWindows", "wereNo", "I", false)
  | _ => ("LitWindows", "wereFull", "I", false)
def tyX7 : Nat → FieldType := fun k => match k with
  | 0 => .object "LitWindows$Wall"
  | 1 => .object "LitWindows$Wall"
  | 2 => .object "LitWindows$Wall"
  | 3 => .object "LitWindows$Wall"
  | 4 => .boolean
  | 5 => .boolean
  | 6 => .object "LitWindows$Plan"
  | 7 => .object "LitWindows$Word"
  | 8 => .object "LitWindows$Word"
  | 9 => .object "LitWindows$LeastPains"
  | 10 => .object "LitWindows$Pictures"
  | 11 => .object "LitWindows$Pictures"
  | 12 => .object "LitWindows$DarkLamps"
  | 13 => .int
  | 14 => .int
  | _ => .int
abbrev wsX70 : List Cond := u_ws RX7 TX7 16
theorem nmX7 : ∀ a, a < 16 → ∀ b, b < 16 → a ≠ b → (TX7 a).2.1 ≠ (TX7 b).2.1 := by decide +kernel
theorem tyX7_ok : ∀ k, k < 16 → parseFieldDescriptor (TX7 k).2.2.1 = some (tyX7 k) := by decide +kernel
abbrev cX7_init : ByteArray := prog_1_method_1_code
def yX7_init : MethodName := ⟨RX7, "<init>", "()V"⟩
abbrev cX7_wall : ByteArray := prog_1_method_2_code
def yX7_wall : MethodName := ⟨RX7, "wall", "(II)I"⟩
abbrev cX7_tenant : ByteArray := prog_1_method_3_code
def yX7_tenant : MethodName := ⟨RX7, "tenant", "(III)I"⟩
abbrev cX7_refuses : ByteArray := prog_1_method_4_code
def yX7_refuses : MethodName := ⟨RX7, "refuses", "(II)I"⟩
abbrev cX7_has : ByteArray := prog_1_method_5_code
def yX7_has : MethodName := ⟨RX7, "has", "(II)I"⟩
abbrev cX7_letter : ByteArray := prog_1_method_6_code
def yX7_letter : MethodName := ⟨RX7, "letter", "(I)I"⟩
abbrev cX7_lit : ByteArray := prog_1_method_7_code
def yX7_lit : MethodName := ⟨RX7, "lit", "(IIZ)I"⟩
abbrev cX7_slack : ByteArray := prog_1_method_8_code
def yX7_slack : MethodName := ⟨RX7, "slack", "(I)I"⟩
abbrev cX7_pains : ByteArray := prog_1_method_9_code
def yX7_pains : MethodName := ⟨RX7, "pains", "(II)I"⟩
abbrev cX7_type : ByteArray := prog_1_method_10_code
def yX7_type : MethodName := ⟨RX7, "type", "(JI)I"⟩
abbrev cX7_clear : ByteArray := prog_1_method_11_code
def yX7_clear : MethodName := ⟨RX7, "clear", "()I"⟩
abbrev cX7_read : ByteArray := prog_1_method_12_code
def yX7_read : MethodName := ⟨RX7, "read", "()I"⟩
abbrev cX7_reads : ByteArray := prog_1_method_13_code
def yX7_reads : MethodName := ⟨RX7, "reads", "(IZ)I"⟩
abbrev cX7_shape : ByteArray := prog_1_method_14_code
def yX7_shape : MethodName := ⟨RX7, "shape", "(II)I"⟩
abbrev cX7_says : ByteArray := prog_1_method_15_code
def yX7_says : MethodName := ⟨RX7, "says", "(IIIZ)I"⟩
abbrev cX7_least : ByteArray := prog_1_method_16_code
def yX7_least : MethodName := ⟨RX7, "least", "(II)I"⟩
abbrev cX7_box : ByteArray := prog_1_method_17_code
def yX7_box : MethodName := ⟨RX7, "box", "(IIII)I"⟩
abbrev cX7_two : ByteArray := prog_1_method_18_code
def yX7_two : MethodName := ⟨RX7, "two", "(IIII)I"⟩
abbrev cX7_bought : ByteArray := prog_1_method_19_code
def yX7_bought : MethodName := ⟨RX7, "bought", "(III)I"⟩
abbrev cX7_can : ByteArray := prog_1_method_20_code
def yX7_can : MethodName := ⟨RX7, "can", "(II)I"⟩
abbrev cX7_bars : ByteArray := prog_1_method_21_code
def yX7_bars : MethodName := ⟨RX7, "bars", "(II)I"⟩
abbrev cX7_reading : ByteArray := prog_1_method_22_code
def yX7_reading : MethodName := ⟨RX7, "reading", "(III)I"⟩
abbrev cX7_unread : ByteArray := prog_1_method_23_code
def yX7_unread : MethodName := ⟨RX7, "unread", "()I"⟩
abbrev cX7_dead : ByteArray := prog_1_method_24_code
def yX7_dead : MethodName := ⟨RX7, "dead", "(I)I"⟩
abbrev cX7_unlike : ByteArray := prog_1_method_25_code
def yX7_unlike : MethodName := ⟨RX7, "unlike", "(II)I"⟩
abbrev cX7_image : ByteArray := prog_1_method_26_code
def yX7_image : MethodName := ⟨RX7, "image", "(I)I"⟩
abbrev cX7_from : ByteArray := prog_1_method_27_code
def yX7_from : MethodName := ⟨RX7, "from", "(I)I"⟩
abbrev cX7_status : ByteArray := prog_1_method_28_code
def yX7_status : MethodName := ⟨RX7, "status", "(I)I"⟩
abbrev cX7_count : ByteArray := prog_1_method_29_code
def yX7_count : MethodName := ⟨RX7, "count", "(I)I"⟩
abbrev cX7_digest : ByteArray := prog_1_method_30_code
def yX7_digest : MethodName := ⟨RX7, "digest", "()J"⟩
abbrev cX7_howMany : ByteArray := prog_1_method_31_code
def yX7_howMany : MethodName := ⟨RX7, "howMany", "(I)I"⟩
abbrev cX7_counted : ByteArray := prog_1_method_32_code
def yX7_counted : MethodName := ⟨RX7, "counted", "(I)I"⟩
abbrev cX7_countedApart : ByteArray := prog_1_method_33_code
def yX7_countedApart : MethodName := ⟨RX7, "countedApart", "(I)I"⟩
abbrev cX7_isAsked : ByteArray := prog_1_method_34_code
def yX7_isAsked : MethodName := ⟨RX7, "isAsked", "(II)Z"⟩
abbrev cX7_isHour : ByteArray := prog_1_method_35_code
def yX7_isHour : MethodName := ⟨RX7, "isHour", "(I)Z"⟩
abbrev cX7_isShape : ByteArray := prog_1_method_36_code
def yX7_isShape : MethodName := ⟨RX7, "isShape", "(I)Z"⟩
abbrev cX7_seen : ByteArray := prog_1_method_37_code
def yX7_seen : MethodName := ⟨RX7, "seen", "(IZ)I"⟩
abbrev cX7_shapeIn : ByteArray := prog_1_method_38_code
def yX7_shapeIn : MethodName := ⟨RX7, "shapeIn", "(JI)I"⟩
abbrev cX7_windowsOf : ByteArray := prog_1_method_39_code
def yX7_windowsOf : MethodName := ⟨RX7, "windowsOf", "(II)J"⟩
abbrev cX7_mostUnlike : ByteArray := prog_1_method_40_code
def yX7_mostUnlike : MethodName := ⟨RX7, "mostUnlike", "(II)I"⟩
def RX8 : String := "LitWindowsModel"
def TX8 : u_T := fun k => match k with
  | 0 => ("LitWindowsModel", "st", "[I", true)
  | 1 => ("LitWindowsModel", "before", "[I", true)
  | 2 => ("LitWindowsModel", "kept", "[I", true)
  | 3 => ("LitWindowsModel", "isKept", "[Z", true)
  | 4 => ("LitWindowsModel", "refused", "[I", true)
  | 5 => ("LitWindowsModel", "text", "[I", true)
  | 6 => ("LitWindowsModel", "textSize", "I", false)
  | 7 => ("LitWindowsModel", "ones", "[I", true)
  | 8 => ("LitWindowsModel", "cursor", "I", false)
  | 9 => ("LitWindowsModel", "start", "I", false)
  | 10 => ("LitWindowsModel", "token", "I", false)
  | 11 => ("LitWindowsModel", "number", "I", false)
  | 12 => ("LitWindowsModel", "word", "J", false)
  | 13 => ("LitWindowsModel", "fault", "I", false)
  | 14 => ("LitWindowsModel", "said", "[I", true)
  | 15 => ("LitWindowsModel", "readTable", "[I", true)
  | 16 => ("LitWindowsModel", "least", "[I", true)
  | 17 => ("LitWindowsModel", "made", "[I", true)
  | 18 => ("LitWindowsModel", "enough", "[Z", true)
  | 19 => ("LitWindowsModel", "isWanted", "[Z", true)
  | 20 => ("LitWindowsModel", "line", "I", false)
  | 21 => ("LitWindowsModel", "column", "[I", true)
  | 22 => ("LitWindowsModel", "foundPains", "I", false)
  | 23 => ("LitWindowsModel", "foundLine", "I", false)
  | 24 => ("LitWindowsModel", "foundColumn", "[I", true)
  | 25 => ("LitWindowsModel", "walls", "[J", true)
  | 26 => ("LitWindowsModel", "wallMany", "[I", true)
  | 27 => ("LitWindowsModel", "deadMany", "I", false)
  | 28 => ("LitWindowsModel", "deadSize", "I", false)
  | 29 => ("LitWindowsModel", "deadLeast", "I", false)
  | 30 => ("LitWindowsModel", "deadMost", "I", false)
  | _ => ("LitWindowsModel", "chosen", "[I", true)
def tyX8 : Nat → FieldType := fun k => match k with
  | 0 => .array .int
  | 1 => .array .int
  | 2 => .array .int
  | 3 => .array .boolean
  | 4 => .array .int
  | 5 => .array .int
  | 6 => .int
  | 7 => .array .int
  | 8 => .int
  | 9 => .int
  | 10 => .int
  | 11 => .int
  | 12 => .long
  | 13 => .int
  | 14 => .array .int
  | 15 => .array .int
  | 16 => .array .int
  | 17 => .array .int
  | 18 => .array .boolean
  | 19 => .array .boolean
  | 20 => .int
  | 21 => .array .int
  | 22 => .int
  | 23 => .int
  | 24 => .array .int
  | 25 => .array .long
  | 26 => .array .int
  | 27 => .int
  | 28 => .int
  | 29 => .int
  | 30 => .int
  | _ => .array .int
abbrev wsX80 : List Cond := u_ws RX8 TX8 32
theorem nmX8 : ∀ a, a < 32 → ∀ b, b < 32 → a ≠ b → (TX8 a).2.1 ≠ (TX8 b).2.1 := by decide +kernel
theorem tyX8_ok : ∀ k, k < 32 → parseFieldDescriptor (TX8 k).2.2.1 = some (tyX8 k) := by decide +kernel
abbrev cX8_init : ByteArray := prog_10_method_1_code
def yX8_init : MethodName := ⟨RX8, "<init>", "()V"⟩
abbrev cX8_in : ByteArray := prog_10_method_3_code
def yX8_in : MethodName := ⟨RX8, "in", "(III)Z"⟩
abbrev cX8_told : ByteArray := prog_10_method_4_code
def yX8_told : MethodName := ⟨RX8, "told", "(I)I"⟩
abbrev cX8_anew : ByteArray := prog_10_method_5_code
def yX8_anew : MethodName := ⟨RX8, "anew", "(II)V"⟩
abbrev cX8_isPlace : ByteArray := prog_10_method_6_code
def yX8_isPlace : MethodName := ⟨RX8, "isPlace", "(II)Z"⟩
abbrev cX8_isWindow : ByteArray := prog_10_method_7_code
def yX8_isWindow : MethodName := ⟨RX8, "isWindow", "(I)Z"⟩
abbrev cX8_isBox : ByteArray := prog_10_method_8_code
def yX8_isBox : MethodName := ⟨RX8, "isBox", "(I)Z"⟩
abbrev cX8_isMan : ByteArray := prog_10_method_9_code
def yX8_isMan : MethodName := ⟨RX8, "isMan", "(I)Z"⟩
abbrev cX8_isLetter : ByteArray := prog_10_method_10_code
def yX8_isLetter : MethodName := ⟨RX8, "isLetter", "(I)Z"⟩
abbrev cX8_isHour : ByteArray := prog_10_method_11_code
def yX8_isHour : MethodName := ⟨RX8, "isHour", "(I)Z"⟩
abbrev cX8_putWall : ByteArray := prog_10_method_12_code
def yX8_putWall : MethodName := ⟨RX8, "putWall", "(II)I"⟩
abbrev cX8_putMan : ByteArray := prog_10_method_13_code
def yX8_putMan : MethodName := ⟨RX8, "putMan", "(III)I"⟩
abbrev cX8_putOwner : ByteArray := prog_10_method_14_code
def yX8_putOwner : MethodName := ⟨RX8, "putOwner", "(II)I"⟩
abbrev cX8_putLetter : ByteArray := prog_10_method_15_code
def yX8_putLetter : MethodName := ⟨RX8, "putLetter", "(I)I"⟩
abbrev cX8_putLight : ByteArray := prog_10_method_16_code
def yX8_putLight : MethodName := ⟨RX8, "putLight", "(III)I"⟩
abbrev cX8_putSlack : ByteArray := prog_10_method_17_code
def yX8_putSlack : MethodName := ⟨RX8, "putSlack", "(I)I"⟩
abbrev cX8_wall : ByteArray := prog_10_method_18_code
def yX8_wall : MethodName := ⟨RX8, "wall", "(II)I"⟩
abbrev cX8_tenant : ByteArray := prog_10_method_19_code
def yX8_tenant : MethodName := ⟨RX8, "tenant", "(III)I"⟩
abbrev cX8_refuses : ByteArray := prog_10_method_20_code
def yX8_refuses : MethodName := ⟨RX8, "refuses", "(II)I"⟩
abbrev cX8_has : ByteArray := prog_10_method_21_code
def yX8_has : MethodName := ⟨RX8, "has", "(II)I"⟩
abbrev cX8_letter : ByteArray := prog_10_method_22_code
def yX8_letter : MethodName := ⟨RX8, "letter", "(I)I"⟩
abbrev cX8_lit : ByteArray := prog_10_method_23_code
def yX8_lit : MethodName := ⟨RX8, "lit", "(IIZ)I"⟩
abbrev cX8_slack : ByteArray := prog_10_method_24_code
def yX8_slack : MethodName := ⟨RX8, "slack", "(I)I"⟩
abbrev cX8_willNot : ByteArray := prog_10_method_25_code
def yX8_willNot : MethodName := ⟨RX8, "willNot", "(II)Z"⟩
abbrev cX8_price : ByteArray := prog_10_method_26_code
def yX8_price : MethodName := ⟨RX8, "price", "(III)I"⟩
abbrev cX8_pains : ByteArray := prog_10_method_27_code
def yX8_pains : MethodName := ⟨RX8, "pains", "(II)I"⟩
abbrev cX8_type : ByteArray := prog_10_method_28_code
def yX8_type : MethodName := ⟨RX8, "type", "(JI)I"⟩
abbrev cX8_clear : ByteArray := prog_10_method_29_code
def yX8_clear : MethodName := ⟨RX8, "clear", "()I"⟩
abbrev cX8_byteAt : ByteArray := prog_10_method_30_code
def yX8_byteAt : MethodName := ⟨RX8, "byteAt", "(I)I"⟩
abbrev cX8_next : ByteArray := prog_10_method_31_code
def yX8_next : MethodName := ⟨RX8, "next", "()V"⟩
abbrev cX8_item : ByteArray := prog_10_method_32_code
def yX8_item : MethodName := ⟨RX8, "item", "()I"⟩
abbrev cX8_numbersOf : ByteArray := prog_10_method_33_code
def yX8_numbersOf : MethodName := ⟨RX8, "numbersOf", "(I)I"⟩
abbrev cX8_readItem : ByteArray := prog_10_method_34_code
def yX8_readItem : MethodName := ⟨RX8, "readItem", "()I"⟩
abbrev cX8_findFault : ByteArray := prog_10_method_35_code
def yX8_findFault : MethodName := ⟨RX8, "findFault", "()I"⟩
abbrev cX8_isDone : ByteArray := prog_10_method_36_code
def yX8_isDone : MethodName := ⟨RX8, "isDone", "(I)Z"⟩
abbrev cX8_read : ByteArray := prog_10_method_37_code
def yX8_read : MethodName := ⟨RX8, "read", "()I"⟩
abbrev cX8_readAs : ByteArray := prog_10_method_38_code
def yX8_readAs : MethodName := ⟨RX8, "readAs", "(I)I"⟩
abbrev cX8_findReads : ByteArray := prog_10_method_39_code
def yX8_findReads : MethodName := ⟨RX8, "findReads", "()V"⟩
abbrev cX8_turned : ByteArray := prog_10_method_40_code
def yX8_turned : MethodName := ⟨RX8, "turned", "(I)I"⟩
abbrev cX8_cellOf : ByteArray := prog_10_method_41_code
def yX8_cellOf : MethodName := ⟨RX8, "cellOf", "(II)I"⟩
abbrev cX8_shapeAt : ByteArray := prog_10_method_42_code
def yX8_shapeAt : MethodName := ⟨RX8, "shapeAt", "(II)I"⟩
abbrev cX8_reads : ByteArray := prog_10_method_43_code
def yX8_reads : MethodName := ⟨RX8, "reads", "(IZ)I"⟩
abbrev cX8_shape : ByteArray := prog_10_method_44_code
def yX8_shape : MethodName := ⟨RX8, "shape", "(II)I"⟩
abbrev cX8_says : ByteArray := prog_10_method_45_code
def yX8_says : MethodName := ⟨RX8, "says", "(IIIZ)I"⟩
abbrev cX8_isWord : ByteArray := prog_10_method_46_code
def yX8_isWord : MethodName := ⟨RX8, "isWord", "(I)Z"⟩
abbrev cX8_longOf : ByteArray := prog_10_method_47_code
def yX8_longOf : MethodName := ⟨RX8, "longOf", "(I)I"⟩
abbrev cX8_letterOf : ByteArray := prog_10_method_48_code
def yX8_letterOf : MethodName := ⟨RX8, "letterOf", "(II)I"⟩
abbrev cX8_priceOf : ByteArray := prog_10_method_49_code
def yX8_priceOf : MethodName := ⟨RX8, "priceOf", "(IIII)I"⟩
abbrev cX8_makeBox : ByteArray := prog_10_method_50_code
def yX8_makeBox : MethodName := ⟨RX8, "makeBox", "(IIII)V"⟩
abbrev cX8_makeBoxes : ByteArray := prog_10_method_51_code
def yX8_makeBoxes : MethodName := ⟨RX8, "makeBoxes", "(II)V"⟩
abbrev cX8_firstRow : ByteArray := prog_10_method_52_code
def yX8_firstRow : MethodName := ⟨RX8, "firstRow", "(I)V"⟩
abbrev cX8_isRow : ByteArray := prog_10_method_53_code
def yX8_isRow : MethodName := ⟨RX8, "isRow", "(I)Z"⟩
abbrev cX8_nextRow : ByteArray := prog_10_method_54_code
def yX8_nextRow : MethodName := ⟨RX8, "nextRow", "(I)V"⟩
abbrev cX8_findWord : ByteArray := prog_10_method_55_code
def yX8_findWord : MethodName := ⟨RX8, "findWord", "(II)V"⟩
abbrev cX8_least : ByteArray := prog_10_method_56_code
def yX8_least : MethodName := ⟨RX8, "least", "(II)I"⟩
abbrev cX8_box : ByteArray := prog_10_method_57_code
def yX8_box : MethodName := ⟨RX8, "box", "(IIII)I"⟩
abbrev cX8_wallOf : ByteArray := prog_10_method_58_code
def yX8_wallOf : MethodName := ⟨RX8, "wallOf", "(I)J"⟩
abbrev cX8_findWalls : ByteArray := prog_10_method_59_code
def yX8_findWalls : MethodName := ⟨RX8, "findWalls", "(III)V"⟩
abbrev cX8_onesOf : ByteArray := prog_10_method_60_code
def yX8_onesOf : MethodName := ⟨RX8, "onesOf", "(J)I"⟩
abbrev cX8_two : ByteArray := prog_10_method_61_code
def yX8_two : MethodName := ⟨RX8, "two", "(IIII)I"⟩
abbrev cX8_menOf : ByteArray := prog_10_method_62_code
def yX8_menOf : MethodName := ⟨RX8, "menOf", "(IIII)I"⟩
abbrev cX8_findEnough : ByteArray := prog_10_method_63_code
def yX8_findEnough : MethodName := ⟨RX8, "findEnough", "(IIII)V"⟩
abbrev cX8_canBy : ByteArray := prog_10_method_64_code
def yX8_canBy : MethodName := ⟨RX8, "canBy", "(II)Z"⟩
abbrev cX8_payOf : ByteArray := prog_10_method_65_code
def yX8_payOf : MethodName := ⟨RX8, "payOf", "(I)I"⟩
abbrev cX8_bought : ByteArray := prog_10_method_66_code
def yX8_bought : MethodName := ⟨RX8, "bought", "(III)I"⟩
abbrev cX8_can : ByteArray := prog_10_method_67_code
def yX8_can : MethodName := ⟨RX8, "can", "(II)I"⟩
abbrev cX8_bars : ByteArray := prog_10_method_68_code
def yX8_bars : MethodName := ⟨RX8, "bars", "(II)I"⟩
abbrev cX8_reading : ByteArray := prog_10_method_69_code
def yX8_reading : MethodName := ⟨RX8, "reading", "(III)I"⟩
abbrev cX8_unread : ByteArray := prog_10_method_70_code
def yX8_unread : MethodName := ⟨RX8, "unread", "()I"⟩
abbrev cX8_areSo : ByteArray := prog_10_method_71_code
def yX8_areSo : MethodName := ⟨RX8, "areSo", "(II)Z"⟩
abbrev cX8_tryDead : ByteArray := prog_10_method_72_code
def yX8_tryDead : MethodName := ⟨RX8, "tryDead", "(III)V"⟩
abbrev cX8_dead : ByteArray := prog_10_method_73_code
def yX8_dead : MethodName := ⟨RX8, "dead", "(I)I"⟩
abbrev cX8_isUnlike : ByteArray := prog_10_method_74_code
def yX8_isUnlike : MethodName := ⟨RX8, "isUnlike", "(III)Z"⟩
abbrev cX8_unlike : ByteArray := prog_10_method_75_code
def yX8_unlike : MethodName := ⟨RX8, "unlike", "(II)I"⟩
abbrev cX8_image : ByteArray := prog_10_method_76_code
def yX8_image : MethodName := ⟨RX8, "image", "(I)I"⟩
abbrev cX8_from : ByteArray := prog_10_method_77_code
def yX8_from : MethodName := ⟨RX8, "from", "(I)I"⟩
abbrev cX8_status : ByteArray := prog_10_method_78_code
def yX8_status : MethodName := ⟨RX8, "status", "(I)I"⟩
abbrev cX8_count : ByteArray := prog_10_method_79_code
def yX8_count : MethodName := ⟨RX8, "count", "(I)I"⟩
abbrev cX8_digest : ByteArray := prog_10_method_80_code
def yX8_digest : MethodName := ⟨RX8, "digest", "()J"⟩
def RJ6 : String := "java/lang/Integer"
def TJ6 : u_T := fun k => match k with
  | _ => ("", "", "", false)
def tyJ6 : Nat → FieldType := fun k => match k with
  | _ => .int
abbrev wsJ60 : List Cond := u_ws RJ6 TJ6 0
theorem nmJ6 : ∀ a, a < 0 → ∀ b, b < 0 → a ≠ b → (TJ6 a).2.1 ≠ (TJ6 b).2.1 := by decide +kernel
theorem tyJ6_ok : ∀ k, k < 0 → parseFieldDescriptor (TJ6 k).2.2.1 = some (tyJ6 k) := by decide +kernel
abbrev cJ6_bitCount_0f7a4 : ByteArray := prog_11_method_49_code
def yJ6_bitCount_0f7a4 : MethodName := ⟨RJ6, "bitCount", "(I)I"⟩
def RJ13 : String := "java/lang/Long"
def TJ13 : u_T := fun k => match k with
  | _ => ("", "", "", false)
def tyJ13 : Nat → FieldType := fun k => match k with
  | _ => .int
abbrev wsJ130 : List Cond := u_ws RJ13 TJ13 0
theorem nmJ13 : ∀ a, a < 0 → ∀ b, b < 0 → a ≠ b → (TJ13 a).2.1 ≠ (TJ13 b).2.1 := by decide +kernel
theorem tyJ13_ok : ∀ k, k < 0 → parseFieldDescriptor (TJ13 k).2.2.1 = some (tyJ13 k) := by decide +kernel
abbrev cJ13_bitCount_95d88 : ByteArray := prog_12_method_50_code
def yJ13_bitCount_95d88 : MethodName := ⟨RJ13, "bitCount", "(J)I"⟩
def RJ0 : String := "java/lang/String"
def TJ0 : u_T := fun k => match k with
  | _ => ("", "", "", false)
def tyJ0 : Nat → FieldType := fun k => match k with
  | _ => .int
abbrev wsJ00 : List Cond := u_ws RJ0 TJ0 0
theorem nmJ0 : ∀ a, a < 0 → ∀ b, b < 0 → a ≠ b → (TJ0 a).2.1 ≠ (TJ0 b).2.1 := by decide +kernel
theorem tyJ0_ok : ∀ k, k < 0 → parseFieldDescriptor (TJ0 k).2.2.1 = some (tyJ0 k) := by decide +kernel
abbrev cJ0_length_8abf5 : ByteArray := prog_13_method_54_code
def yJ0_length_8abf5 : MethodName := ⟨RJ0, "length", "()I"⟩
abbrev cJ0_charAt_5068e : ByteArray := prog_13_method_56_code
def yJ0_charAt_5068e : MethodName := ⟨RJ0, "charAt", "(I)C"⟩
abbrev cJ0_coder_7d493 : ByteArray := prog_13_method_152_code
def yJ0_coder_7d493 : MethodName := ⟨RJ0, "coder", "()B"⟩
abbrev cJ0_isLatin1_aae02 : ByteArray := prog_13_method_154_code
def yJ0_isLatin1_aae02 : MethodName := ⟨RJ0, "isLatin1", "()Z"⟩
abbrev cJ0_checkIndex_df160 : ByteArray := prog_13_method_155_code
def yJ0_checkIndex_df160 : MethodName := ⟨RJ0, "checkIndex", "(II)V"⟩
def RJ1 : String := "java/lang/StringLatin1"
def TJ1 : u_T := fun k => match k with
  | _ => ("", "", "", false)
def tyJ1 : Nat → FieldType := fun k => match k with
  | _ => .int
abbrev wsJ10 : List Cond := u_ws RJ1 TJ1 0
theorem nmJ1 : ∀ a, a < 0 → ∀ b, b < 0 → a ≠ b → (TJ1 a).2.1 ≠ (TJ1 b).2.1 := by decide +kernel
theorem tyJ1_ok : ∀ k, k < 0 → parseFieldDescriptor (TJ1 k).2.2.1 = some (tyJ1 k) := by decide +kernel
abbrev cJ1_charAt_3b067 : ByteArray := prog_14_method_2_code
def yJ1_charAt_3b067 : MethodName := ⟨RJ1, "charAt", "([BI)C"⟩
def RJ2 : String := "java/lang/StringUTF16"
def TJ2 : u_T := fun k => match k with
  | _ => ("", "", "", false)
def tyJ2 : Nat → FieldType := fun k => match k with
  | _ => .int
abbrev wsJ20 : List Cond := u_ws RJ2 TJ2 0
theorem nmJ2 : ∀ a, a < 0 → ∀ b, b < 0 → a ≠ b → (TJ2 a).2.1 ≠ (TJ2 b).2.1 := by decide +kernel
theorem tyJ2_ok : ∀ k, k < 0 → parseFieldDescriptor (TJ2 k).2.2.1 = some (tyJ2 k) := by decide +kernel
abbrev cJ2_getChar_3b067 : ByteArray := prog_15_method_5_code
def yJ2_getChar_3b067 : MethodName := ⟨RJ2, "getChar", "([BI)C"⟩
abbrev cJ2_length_9d52b : ByteArray := prog_15_method_6_code
def yJ2_length_9d52b : MethodName := ⟨RJ2, "length", "([B)I"⟩
abbrev cJ2_charAt_3b067 : ByteArray := prog_15_method_83_code
def yJ2_charAt_3b067 : MethodName := ⟨RJ2, "charAt", "([BI)C"⟩
abbrev cJ2_checkIndex_2214a : ByteArray := prog_15_method_91_code
def yJ2_checkIndex_2214a : MethodName := ⟨RJ2, "checkIndex", "(I[B)V"⟩
def RJ10 : String := "java/lang/System"
def TJ10 : u_T := fun k => match k with
  | _ => ("", "", "", false)
def tyJ10 : Nat → FieldType := fun k => match k with
  | _ => .int
abbrev wsJ100 : List Cond := u_ws RJ10 TJ10 0
theorem nmJ10 : ∀ a, a < 0 → ∀ b, b < 0 → a ≠ b → (TJ10 a).2.1 ≠ (TJ10 b).2.1 := by decide +kernel
theorem tyJ10_ok : ∀ k, k < 0 → parseFieldDescriptor (TJ10 k).2.2.1 = some (tyJ10 k) := by decide +kernel
def RJ3 : String := "jdk/internal/util/Preconditions"
def TJ3 : u_T := fun k => match k with
  | _ => ("", "", "", false)
def tyJ3 : Nat → FieldType := fun k => match k with
  | _ => .int
abbrev wsJ30 : List Cond := u_ws RJ3 TJ3 0
theorem nmJ3 : ∀ a, a < 0 → ∀ b, b < 0 → a ≠ b → (TJ3 a).2.1 ≠ (TJ3 b).2.1 := by decide +kernel
theorem tyJ3_ok : ∀ k, k < 0 → parseFieldDescriptor (TJ3 k).2.2.1 = some (tyJ3 k) := by decide +kernel
abbrev cJ3_checkIndex_8e157 : ByteArray := prog_17_method_11_code
def yJ3_checkIndex_8e157 : MethodName := ⟨RJ3, "checkIndex", "(IILjava/util/function/BiFunction;)I"⟩
def RL : String := "LitWindowsLaw"
abbrev cL_law : ByteArray := code
def yL_law : MethodName := ⟨RL, "law", "([I)Z"⟩
abbrev vwCl : List vw_C := [(RX0, TX0, 7), (RX1, TX1, 8), (RX2, TX2, 3), (RX3, TX3, 5), (RX4, TX4, 9), (RX5, TX5, 16), (RX6, TX6, 3), (RX7, TX7, 16), (RX8, TX8, 32)]
