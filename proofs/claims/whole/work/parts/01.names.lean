-- ===== PART A: goes FIRST, ahead of the names: the tables' words, and 'selects' of the private methods out of them =====
/-- a private method of a class that the tables say can be made, by its rows of tables_1 -/
def lw_okq (q : MethodName × Nat) : Prop := (q.1.cls ≠ "java/lang/invoke/MethodHandle" ∧ q.1.cls ≠ "java/lang/invoke/VarHandle") ∧ Cond.instantiable q.1.cls q.2 ∈ tables_1 ∧ Cond.privateMethod q.1 ∈ tables_1 ∧ Cond.instanceMethod q.1 ∈ tables_1
theorem lw_p0 : lw_okq (⟨"ToOneCrumb", "renewWorths", "()V"⟩, 16) := ⟨⟨by decide +kernel, by decide +kernel⟩, List.mem_of_getElem? (i := 27) (by decide +kernel), List.mem_of_getElem? (i := 428) (by decide +kernel), List.mem_of_getElem? (i := 429) (by decide +kernel)⟩
theorem lw_p1 : lw_okq (⟨"ToOneCrumb$Rule", "walk", "(LToOneCrumb$Loaf;II[II)I"⟩, 8) := ⟨⟨by decide +kernel, by decide +kernel⟩, List.mem_of_getElem? (i := 285) (by decide +kernel), List.mem_of_getElem? (i := 440) (by decide +kernel), List.mem_of_getElem? (i := 441) (by decide +kernel)⟩
theorem lw_p2 : lw_okq (⟨"ToOneCrumb$Party", "readDeed", "(LToOneCrumb$Text;)Z"⟩, 4) := ⟨⟨by decide +kernel, by decide +kernel⟩, List.mem_of_getElem? (i := 72) (by decide +kernel), List.mem_of_getElem? (i := 484) (by decide +kernel), List.mem_of_getElem? (i := 485) (by decide +kernel)⟩
theorem lw_p3 : lw_okq (⟨"ToOneCrumb$Rule", "readThing", "(LToOneCrumb$Text;)Z"⟩, 8) := ⟨⟨by decide +kernel, by decide +kernel⟩, List.mem_of_getElem? (i := 285) (by decide +kernel), List.mem_of_getElem? (i := 514) (by decide +kernel), List.mem_of_getElem? (i := 515) (by decide +kernel)⟩
theorem lw_p4 : lw_okq (⟨"ToOneCrumb$Rule", "addStep", "(I)V"⟩, 8) := ⟨⟨by decide +kernel, by decide +kernel⟩, List.mem_of_getElem? (i := 285) (by decide +kernel), List.mem_of_getElem? (i := 523) (by decide +kernel), List.mem_of_getElem? (i := 524) (by decide +kernel)⟩
theorem lw_p5 : lw_okq (⟨"ToOneCrumb$Rule", "hold", "(I)V"⟩, 8) := ⟨⟨by decide +kernel, by decide +kernel⟩, List.mem_of_getElem? (i := 285) (by decide +kernel), List.mem_of_getElem? (i := 527) (by decide +kernel), List.mem_of_getElem? (i := 528) (by decide +kernel)⟩
theorem lw_p6 : lw_okq (⟨"ToOneCrumb$Rule", "readJoint", "(LToOneCrumb$Text;)Z"⟩, 8) := ⟨⟨by decide +kernel, by decide +kernel⟩, List.mem_of_getElem? (i := 285) (by decide +kernel), List.mem_of_getElem? (i := 535) (by decide +kernel), List.mem_of_getElem? (i := 536) (by decide +kernel)⟩
theorem lw_p7 : lw_okq (⟨"ToOneCrumb$Rule", "release", "(I)V"⟩, 8) := ⟨⟨by decide +kernel, by decide +kernel⟩, List.mem_of_getElem? (i := 285) (by decide +kernel), List.mem_of_getElem? (i := 539) (by decide +kernel), List.mem_of_getElem? (i := 540) (by decide +kernel)⟩
theorem lw_p8 : lw_okq (⟨"ToOneCrumb", "isGuest", "(I)Z"⟩, 16) := ⟨⟨by decide +kernel, by decide +kernel⟩, List.mem_of_getElem? (i := 27) (by decide +kernel), List.mem_of_getElem? (i := 547) (by decide +kernel), List.mem_of_getElem? (i := 548) (by decide +kernel)⟩
theorem lw_p9 : lw_okq (⟨"ToOneCrumb", "isCell", "(I)Z"⟩, 16) := ⟨⟨by decide +kernel, by decide +kernel⟩, List.mem_of_getElem? (i := 27) (by decide +kernel), List.mem_of_getElem? (i := 551) (by decide +kernel), List.mem_of_getElem? (i := 552) (by decide +kernel)⟩
theorem lw_p10 : lw_okq (⟨"ToOneCrumb", "giveSlice", "(III)I"⟩, 16) := ⟨⟨by decide +kernel, by decide +kernel⟩, List.mem_of_getElem? (i := 27) (by decide +kernel), List.mem_of_getElem? (i := 580) (by decide +kernel), List.mem_of_getElem? (i := 581) (by decide +kernel)⟩
theorem lw_p11 : lw_okq (⟨"ToOneCrumb", "isSlice", "(II)Z"⟩, 16) := ⟨⟨by decide +kernel, by decide +kernel⟩, List.mem_of_getElem? (i := 27) (by decide +kernel), List.mem_of_getElem? (i := 584) (by decide +kernel), List.mem_of_getElem? (i := 585) (by decide +kernel)⟩
theorem lw_p12 : lw_okq (⟨"ToOneCrumb", "remembered", "(JI)I"⟩, 16) := ⟨⟨by decide +kernel, by decide +kernel⟩, List.mem_of_getElem? (i := 27) (by decide +kernel), List.mem_of_getElem? (i := 602) (by decide +kernel), List.mem_of_getElem? (i := 603) (by decide +kernel)⟩
theorem lw_p13 : lw_okq (⟨"ToOneCrumb", "takeBack", "(II)I"⟩, 16) := ⟨⟨by decide +kernel, by decide +kernel⟩, List.mem_of_getElem? (i := 27) (by decide +kernel), List.mem_of_getElem? (i := 617) (by decide +kernel), List.mem_of_getElem? (i := 618) (by decide +kernel)⟩
theorem lw_p14 : lw_okq (⟨"ToOneCrumb", "feedMouse", "(I)I"⟩, 16) := ⟨⟨by decide +kernel, by decide +kernel⟩, List.mem_of_getElem? (i := 27) (by decide +kernel), List.mem_of_getElem? (i := 625) (by decide +kernel), List.mem_of_getElem? (i := 626) (by decide +kernel)⟩
theorem lw_p15 : lw_okq (⟨"ToOneCrumb", "readActs", "()Z"⟩, 16) := ⟨⟨by decide +kernel, by decide +kernel⟩, List.mem_of_getElem? (i := 27) (by decide +kernel), List.mem_of_getElem? (i := 633) (by decide +kernel), List.mem_of_getElem? (i := 634) (by decide +kernel)⟩
def lw_privs_1 : List (MethodName × Nat) := [(⟨"ToOneCrumb", "renewWorths", "()V"⟩, 16), (⟨"ToOneCrumb$Rule", "walk", "(LToOneCrumb$Loaf;II[II)I"⟩, 8), (⟨"ToOneCrumb$Party", "readDeed", "(LToOneCrumb$Text;)Z"⟩, 4), (⟨"ToOneCrumb$Rule", "readThing", "(LToOneCrumb$Text;)Z"⟩, 8), (⟨"ToOneCrumb$Rule", "addStep", "(I)V"⟩, 8), (⟨"ToOneCrumb$Rule", "hold", "(I)V"⟩, 8), (⟨"ToOneCrumb$Rule", "readJoint", "(LToOneCrumb$Text;)Z"⟩, 8), (⟨"ToOneCrumb$Rule", "release", "(I)V"⟩, 8), (⟨"ToOneCrumb", "isGuest", "(I)Z"⟩, 16), (⟨"ToOneCrumb", "isCell", "(I)Z"⟩, 16), (⟨"ToOneCrumb", "giveSlice", "(III)I"⟩, 16), (⟨"ToOneCrumb", "isSlice", "(II)Z"⟩, 16), (⟨"ToOneCrumb", "remembered", "(JI)I"⟩, 16), (⟨"ToOneCrumb", "takeBack", "(II)I"⟩, 16), (⟨"ToOneCrumb", "feedMouse", "(I)I"⟩, 16), (⟨"ToOneCrumb", "readActs", "()Z"⟩, 16)]
theorem lw_r1 : ∀ q ∈ lw_privs_1, lw_okq q := List.forall_mem_cons.mpr ⟨lw_p0, List.forall_mem_cons.mpr ⟨lw_p1, List.forall_mem_cons.mpr ⟨lw_p2, List.forall_mem_cons.mpr ⟨lw_p3, List.forall_mem_cons.mpr ⟨lw_p4, List.forall_mem_cons.mpr ⟨lw_p5, List.forall_mem_cons.mpr ⟨lw_p6, List.forall_mem_cons.mpr ⟨lw_p7, List.forall_mem_cons.mpr ⟨lw_p8, List.forall_mem_cons.mpr ⟨lw_p9, List.forall_mem_cons.mpr ⟨lw_p10, List.forall_mem_cons.mpr ⟨lw_p11, List.forall_mem_cons.mpr ⟨lw_p12, List.forall_mem_cons.mpr ⟨lw_p13, List.forall_mem_cons.mpr ⟨lw_p14, List.forall_mem_cons.mpr ⟨lw_p15, fun _ h => absurd h List.not_mem_nil⟩⟩⟩⟩⟩⟩⟩⟩⟩⟩⟩⟩⟩⟩⟩⟩
theorem lw_p16 : lw_okq (⟨"ToOneCrumb", "readAct", "(I)Z"⟩, 16) := ⟨⟨by decide +kernel, by decide +kernel⟩, List.mem_of_getElem? (i := 27) (by decide +kernel), List.mem_of_getElem? (i := 639) (by decide +kernel), List.mem_of_getElem? (i := 640) (by decide +kernel)⟩
theorem lw_p17 : lw_okq (⟨"ToOneCrumb", "doAct", "(I)I"⟩, 16) := ⟨⟨by decide +kernel, by decide +kernel⟩, List.mem_of_getElem? (i := 27) (by decide +kernel), List.mem_of_getElem? (i := 647) (by decide +kernel), List.mem_of_getElem? (i := 648) (by decide +kernel)⟩
theorem lw_p18 : lw_okq (⟨"ToOneCrumb", "cellsWith", "(I)I"⟩, 16) := ⟨⟨by decide +kernel, by decide +kernel⟩, List.mem_of_getElem? (i := 27) (by decide +kernel), List.mem_of_getElem? (i := 659) (by decide +kernel), List.mem_of_getElem? (i := 660) (by decide +kernel)⟩
theorem lw_p19 : lw_okq (⟨"ToOneCrumb", "worthHeld", "(II)I"⟩, 16) := ⟨⟨by decide +kernel, by decide +kernel⟩, List.mem_of_getElem? (i := 27) (by decide +kernel), List.mem_of_getElem? (i := 675) (by decide +kernel), List.mem_of_getElem? (i := 676) (by decide +kernel)⟩
theorem lw_p20 : lw_okq (⟨"ToOneCrumb", "hasDue", "(I)Z"⟩, 16) := ⟨⟨by decide +kernel, by decide +kernel⟩, List.mem_of_getElem? (i := 27) (by decide +kernel), List.mem_of_getElem? (i := 687) (by decide +kernel), List.mem_of_getElem? (i := 688) (by decide +kernel)⟩
theorem lw_p21 : lw_okq (⟨"ToOneCrumb", "jointGain", "(IIII)I"⟩, 16) := ⟨⟨by decide +kernel, by decide +kernel⟩, List.mem_of_getElem? (i := 27) (by decide +kernel), List.mem_of_getElem? (i := 719) (by decide +kernel), List.mem_of_getElem? (i := 720) (by decide +kernel)⟩
theorem lw_p22 : lw_okq (⟨"ToOneCrumb", "areGuests", "(I)Z"⟩, 16) := ⟨⟨by decide +kernel, by decide +kernel⟩, List.mem_of_getElem? (i := 27) (by decide +kernel), List.mem_of_getElem? (i := 727) (by decide +kernel), List.mem_of_getElem? (i := 728) (by decide +kernel)⟩
theorem lw_p23 : lw_okq (⟨"ToOneCrumb", "everyone", "()I"⟩, 16) := ⟨⟨by decide +kernel, by decide +kernel⟩, List.mem_of_getElem? (i := 27) (by decide +kernel), List.mem_of_getElem? (i := 731) (by decide +kernel), List.mem_of_getElem? (i := 732) (by decide +kernel)⟩
theorem lw_p24 : lw_okq (⟨"ToOneCrumb", "placeGuests", "(I)V"⟩, 16) := ⟨⟨by decide +kernel, by decide +kernel⟩, List.mem_of_getElem? (i := 27) (by decide +kernel), List.mem_of_getElem? (i := 735) (by decide +kernel), List.mem_of_getElem? (i := 736) (by decide +kernel)⟩
theorem lw_p25 : lw_okq (⟨"ToOneCrumb$Placing", "shortest", "(LToOneCrumb$Worths;II)I"⟩, 8) := ⟨⟨by decide +kernel, by decide +kernel⟩, List.mem_of_getElem? (i := 172) (by decide +kernel), List.mem_of_getElem? (i := 752) (by decide +kernel), List.mem_of_getElem? (i := 753) (by decide +kernel)⟩
theorem lw_p26 : lw_okq (⟨"ToOneCrumb$Placing", "reached", "(II)I"⟩, 8) := ⟨⟨by decide +kernel, by decide +kernel⟩, List.mem_of_getElem? (i := 172) (by decide +kernel), List.mem_of_getElem? (i := 757) (by decide +kernel), List.mem_of_getElem? (i := 758) (by decide +kernel)⟩
theorem lw_p27 : lw_okq (⟨"ToOneCrumb$Placing", "findOrder", "(IIII)Z"⟩, 8) := ⟨⟨by decide +kernel, by decide +kernel⟩, List.mem_of_getElem? (i := 172) (by decide +kernel), List.mem_of_getElem? (i := 770) (by decide +kernel), List.mem_of_getElem? (i := 771) (by decide +kernel)⟩
theorem lw_p28 : lw_okq (⟨"ToOneCrumb", "bestOfLeasts", "(II)I"⟩, 16) := ⟨⟨by decide +kernel, by decide +kernel⟩, List.mem_of_getElem? (i := 27) (by decide +kernel), List.mem_of_getElem? (i := 793) (by decide +kernel), List.mem_of_getElem? (i := 794) (by decide +kernel)⟩
theorem lw_p29 : lw_okq (⟨"ToOneCrumb$Seating", "part", "(LToOneCrumb$Worths;III)V"⟩, 7) := ⟨⟨by decide +kernel, by decide +kernel⟩, List.mem_of_getElem? (i := 205) (by decide +kernel), List.mem_of_getElem? (i := 806) (by decide +kernel), List.mem_of_getElem? (i := 807) (by decide +kernel)⟩
theorem lw_p30 : lw_okq (⟨"ToOneCrumb$Seating", "othersAreCalm", "(LToOneCrumb$Worths;I)Z"⟩, 7) := ⟨⟨by decide +kernel, by decide +kernel⟩, List.mem_of_getElem? (i := 205) (by decide +kernel), List.mem_of_getElem? (i := 810) (by decide +kernel), List.mem_of_getElem? (i := 811) (by decide +kernel)⟩
theorem lw_p31 : lw_okq (⟨"ToOneCrumb$Seating", "note", "()V"⟩, 7) := ⟨⟨by decide +kernel, by decide +kernel⟩, List.mem_of_getElem? (i := 205) (by decide +kernel), List.mem_of_getElem? (i := 815) (by decide +kernel), List.mem_of_getElem? (i := 816) (by decide +kernel)⟩
def lw_privs_2 : List (MethodName × Nat) := [(⟨"ToOneCrumb", "readAct", "(I)Z"⟩, 16), (⟨"ToOneCrumb", "doAct", "(I)I"⟩, 16), (⟨"ToOneCrumb", "cellsWith", "(I)I"⟩, 16), (⟨"ToOneCrumb", "worthHeld", "(II)I"⟩, 16), (⟨"ToOneCrumb", "hasDue", "(I)Z"⟩, 16), (⟨"ToOneCrumb", "jointGain", "(IIII)I"⟩, 16), (⟨"ToOneCrumb", "areGuests", "(I)Z"⟩, 16), (⟨"ToOneCrumb", "everyone", "()I"⟩, 16), (⟨"ToOneCrumb", "placeGuests", "(I)V"⟩, 16), (⟨"ToOneCrumb$Placing", "shortest", "(LToOneCrumb$Worths;II)I"⟩, 8), (⟨"ToOneCrumb$Placing", "reached", "(II)I"⟩, 8), (⟨"ToOneCrumb$Placing", "findOrder", "(IIII)Z"⟩, 8), (⟨"ToOneCrumb", "bestOfLeasts", "(II)I"⟩, 16), (⟨"ToOneCrumb$Seating", "part", "(LToOneCrumb$Worths;III)V"⟩, 7), (⟨"ToOneCrumb$Seating", "othersAreCalm", "(LToOneCrumb$Worths;I)Z"⟩, 7), (⟨"ToOneCrumb$Seating", "note", "()V"⟩, 7)]
theorem lw_r2 : ∀ q ∈ lw_privs_2, lw_okq q := List.forall_mem_cons.mpr ⟨lw_p16, List.forall_mem_cons.mpr ⟨lw_p17, List.forall_mem_cons.mpr ⟨lw_p18, List.forall_mem_cons.mpr ⟨lw_p19, List.forall_mem_cons.mpr ⟨lw_p20, List.forall_mem_cons.mpr ⟨lw_p21, List.forall_mem_cons.mpr ⟨lw_p22, List.forall_mem_cons.mpr ⟨lw_p23, List.forall_mem_cons.mpr ⟨lw_p24, List.forall_mem_cons.mpr ⟨lw_p25, List.forall_mem_cons.mpr ⟨lw_p26, List.forall_mem_cons.mpr ⟨lw_p27, List.forall_mem_cons.mpr ⟨lw_p28, List.forall_mem_cons.mpr ⟨lw_p29, List.forall_mem_cons.mpr ⟨lw_p30, List.forall_mem_cons.mpr ⟨lw_p31, fun _ h => absurd h List.not_mem_nil⟩⟩⟩⟩⟩⟩⟩⟩⟩⟩⟩⟩⟩⟩⟩⟩
theorem lw_p32 : lw_okq (⟨"ToOneCrumb$Seating", "isLess", "()Z"⟩, 7) := ⟨⟨by decide +kernel, by decide +kernel⟩, List.mem_of_getElem? (i := 205) (by decide +kernel), List.mem_of_getElem? (i := 819) (by decide +kernel), List.mem_of_getElem? (i := 820) (by decide +kernel)⟩
theorem lw_p33 : lw_okq (⟨"ToOneCrumb$Seating", "isCalmWith", "(LToOneCrumb$Worths;II)Z"⟩, 7) := ⟨⟨by decide +kernel, by decide +kernel⟩, List.mem_of_getElem? (i := 205) (by decide +kernel), List.mem_of_getElem? (i := 824) (by decide +kernel), List.mem_of_getElem? (i := 825) (by decide +kernel)⟩
theorem lw_p34 : lw_okq (⟨"ToOneCrumb$Seating", "prefers", "(LToOneCrumb$Worths;II)Z"⟩, 7) := ⟨⟨by decide +kernel, by decide +kernel⟩, List.mem_of_getElem? (i := 205) (by decide +kernel), List.mem_of_getElem? (i := 828) (by decide +kernel), List.mem_of_getElem? (i := 829) (by decide +kernel)⟩
theorem lw_p35 : lw_okq (⟨"ToOneCrumb$Turns", "favourite", "(III)I"⟩, 4) := ⟨⟨by decide +kernel, by decide +kernel⟩, List.mem_of_getElem? (i := 233) (by decide +kernel), List.mem_of_getElem? (i := 862) (by decide +kernel), List.mem_of_getElem? (i := 863) (by decide +kernel)⟩
theorem lw_p36 : lw_okq (⟨"ToOneCrumb", "hasByLie", "(III)I"⟩, 16) := ⟨⟨by decide +kernel, by decide +kernel⟩, List.mem_of_getElem? (i := 27) (by decide +kernel), List.mem_of_getElem? (i := 871) (by decide +kernel), List.mem_of_getElem? (i := 872) (by decide +kernel)⟩
theorem lw_p37 : lw_okq (⟨"ToOneCrumb$Choices", "fits", "(ILToOneCrumb$Rule;LToOneCrumb$Loaf;I)Z"⟩, 8) := ⟨⟨by decide +kernel, by decide +kernel⟩, List.mem_of_getElem? (i := 139) (by decide +kernel), List.mem_of_getElem? (i := 896) (by decide +kernel), List.mem_of_getElem? (i := 897) (by decide +kernel)⟩
theorem lw_p38 : lw_okq (⟨"ToOneCrumb$Choices", "ask", "(ILToOneCrumb$Rule;LToOneCrumb$Loaf;I)I"⟩, 8) := ⟨⟨by decide +kernel, by decide +kernel⟩, List.mem_of_getElem? (i := 139) (by decide +kernel), List.mem_of_getElem? (i := 900) (by decide +kernel), List.mem_of_getElem? (i := 901) (by decide +kernel)⟩
theorem lw_p39 : lw_okq (⟨"ToOneCrumb$Choices", "countThisTime", "(I)V"⟩, 8) := ⟨⟨by decide +kernel, by decide +kernel⟩, List.mem_of_getElem? (i := 139) (by decide +kernel), List.mem_of_getElem? (i := 915) (by decide +kernel), List.mem_of_getElem? (i := 916) (by decide +kernel)⟩
theorem lw_p40 : lw_okq (⟨"java/lang/Throwable", "fillInStackTrace", "(I)Ljava/lang/Throwable;"⟩, 6) := ⟨⟨by decide +kernel, by decide +kernel⟩, List.mem_of_getElem? (i := 1045) (by decide +kernel), List.mem_of_getElem? (i := 1043) (by decide +kernel), List.mem_of_getElem? (i := 1044) (by decide +kernel)⟩
theorem lw_p41 : lw_okq (⟨"ToOneCrumbModel", "begins", "(I)I"⟩, 67) := ⟨⟨by decide +kernel, by decide +kernel⟩, List.mem_of_getElem? (i := 1091) (by decide +kernel), List.mem_of_getElem? (i := 1319) (by decide +kernel), List.mem_of_getElem? (i := 1320) (by decide +kernel)⟩
theorem lw_p42 : lw_okq (⟨"ToOneCrumbModel", "among", "(Ljava/lang/String;)I"⟩, 67) := ⟨⟨by decide +kernel, by decide +kernel⟩, List.mem_of_getElem? (i := 1091) (by decide +kernel), List.mem_of_getElem? (i := 1325) (by decide +kernel), List.mem_of_getElem? (i := 1326) (by decide +kernel)⟩
theorem lw_p43 : lw_okq (⟨"ToOneCrumbModel", "takesOf", "(Ljava/lang/String;)I"⟩, 67) := ⟨⟨by decide +kernel, by decide +kernel⟩, List.mem_of_getElem? (i := 1091) (by decide +kernel), List.mem_of_getElem? (i := 1377) (by decide +kernel), List.mem_of_getElem? (i := 1378) (by decide +kernel)⟩
theorem lw_p44 : lw_okq (⟨"ToOneCrumbModel", "takes", "(I)Z"⟩, 67) := ⟨⟨by decide +kernel, by decide +kernel⟩, List.mem_of_getElem? (i := 1091) (by decide +kernel), List.mem_of_getElem? (i := 1385) (by decide +kernel), List.mem_of_getElem? (i := 1386) (by decide +kernel)⟩
theorem lw_p45 : lw_okq (⟨"ToOneCrumbModel", "faultOf", "(IIZ)I"⟩, 67) := ⟨⟨by decide +kernel, by decide +kernel⟩, List.mem_of_getElem? (i := 1091) (by decide +kernel), List.mem_of_getElem? (i := 1389) (by decide +kernel), List.mem_of_getElem? (i := 1390) (by decide +kernel)⟩
theorem lw_p46 : lw_okq (⟨"ToOneCrumbModel", "readsGuest", "()Z"⟩, 67) := ⟨⟨by decide +kernel, by decide +kernel⟩, List.mem_of_getElem? (i := 1091) (by decide +kernel), List.mem_of_getElem? (i := 1397) (by decide +kernel), List.mem_of_getElem? (i := 1398) (by decide +kernel)⟩
theorem lw_p47 : lw_okq (⟨"ToOneCrumbModel", "number", "(I)I"⟩, 67) := ⟨⟨by decide +kernel, by decide +kernel⟩, List.mem_of_getElem? (i := 1091) (by decide +kernel), List.mem_of_getElem? (i := 1401) (by decide +kernel), List.mem_of_getElem? (i := 1402) (by decide +kernel)⟩
def lw_privs_3 : List (MethodName × Nat) := [(⟨"ToOneCrumb$Seating", "isLess", "()Z"⟩, 7), (⟨"ToOneCrumb$Seating", "isCalmWith", "(LToOneCrumb$Worths;II)Z"⟩, 7), (⟨"ToOneCrumb$Seating", "prefers", "(LToOneCrumb$Worths;II)Z"⟩, 7), (⟨"ToOneCrumb$Turns", "favourite", "(III)I"⟩, 4), (⟨"ToOneCrumb", "hasByLie", "(III)I"⟩, 16), (⟨"ToOneCrumb$Choices", "fits", "(ILToOneCrumb$Rule;LToOneCrumb$Loaf;I)Z"⟩, 8), (⟨"ToOneCrumb$Choices", "ask", "(ILToOneCrumb$Rule;LToOneCrumb$Loaf;I)I"⟩, 8), (⟨"ToOneCrumb$Choices", "countThisTime", "(I)V"⟩, 8), (⟨"java/lang/Throwable", "fillInStackTrace", "(I)Ljava/lang/Throwable;"⟩, 6), (⟨"ToOneCrumbModel", "begins", "(I)I"⟩, 67), (⟨"ToOneCrumbModel", "among", "(Ljava/lang/String;)I"⟩, 67), (⟨"ToOneCrumbModel", "takesOf", "(Ljava/lang/String;)I"⟩, 67), (⟨"ToOneCrumbModel", "takes", "(I)Z"⟩, 67), (⟨"ToOneCrumbModel", "faultOf", "(IIZ)I"⟩, 67), (⟨"ToOneCrumbModel", "readsGuest", "()Z"⟩, 67), (⟨"ToOneCrumbModel", "number", "(I)I"⟩, 67)]
theorem lw_r3 : ∀ q ∈ lw_privs_3, lw_okq q := List.forall_mem_cons.mpr ⟨lw_p32, List.forall_mem_cons.mpr ⟨lw_p33, List.forall_mem_cons.mpr ⟨lw_p34, List.forall_mem_cons.mpr ⟨lw_p35, List.forall_mem_cons.mpr ⟨lw_p36, List.forall_mem_cons.mpr ⟨lw_p37, List.forall_mem_cons.mpr ⟨lw_p38, List.forall_mem_cons.mpr ⟨lw_p39, List.forall_mem_cons.mpr ⟨lw_p40, List.forall_mem_cons.mpr ⟨lw_p41, List.forall_mem_cons.mpr ⟨lw_p42, List.forall_mem_cons.mpr ⟨lw_p43, List.forall_mem_cons.mpr ⟨lw_p44, List.forall_mem_cons.mpr ⟨lw_p45, List.forall_mem_cons.mpr ⟨lw_p46, List.forall_mem_cons.mpr ⟨lw_p47, fun _ h => absurd h List.not_mem_nil⟩⟩⟩⟩⟩⟩⟩⟩⟩⟩⟩⟩⟩⟩⟩⟩
theorem lw_p48 : lw_okq (⟨"ToOneCrumbModel", "isDigit", "()Z"⟩, 67) := ⟨⟨by decide +kernel, by decide +kernel⟩, List.mem_of_getElem? (i := 1091) (by decide +kernel), List.mem_of_getElem? (i := 1405) (by decide +kernel), List.mem_of_getElem? (i := 1406) (by decide +kernel)⟩
theorem lw_p49 : lw_okq (⟨"ToOneCrumbModel", "readsDeed", "()Z"⟩, 67) := ⟨⟨by decide +kernel, by decide +kernel⟩, List.mem_of_getElem? (i := 1091) (by decide +kernel), List.mem_of_getElem? (i := 1415) (by decide +kernel), List.mem_of_getElem? (i := 1416) (by decide +kernel)⟩
theorem lw_p50 : lw_okq (⟨"ToOneCrumbModel", "letter", "(I)I"⟩, 67) := ⟨⟨by decide +kernel, by decide +kernel⟩, List.mem_of_getElem? (i := 1091) (by decide +kernel), List.mem_of_getElem? (i := 1420) (by decide +kernel), List.mem_of_getElem? (i := 1421) (by decide +kernel)⟩
theorem lw_p51 : lw_okq (⟨"ToOneCrumbModel", "allDeserts", "()I"⟩, 67) := ⟨⟨by decide +kernel, by decide +kernel⟩, List.mem_of_getElem? (i := 1091) (by decide +kernel), List.mem_of_getElem? (i := 1426) (by decide +kernel), List.mem_of_getElem? (i := 1427) (by decide +kernel)⟩
theorem lw_p52 : lw_okq (⟨"ToOneCrumbModel", "readsRank", "(I)Z"⟩, 67) := ⟨⟨by decide +kernel, by decide +kernel⟩, List.mem_of_getElem? (i := 1091) (by decide +kernel), List.mem_of_getElem? (i := 1434) (by decide +kernel), List.mem_of_getElem? (i := 1435) (by decide +kernel)⟩
theorem lw_p53 : lw_okq (⟨"ToOneCrumbModel", "readsThing", "()Z"⟩, 67) := ⟨⟨by decide +kernel, by decide +kernel⟩, List.mem_of_getElem? (i := 1091) (by decide +kernel), List.mem_of_getElem? (i := 1438) (by decide +kernel), List.mem_of_getElem? (i := 1439) (by decide +kernel)⟩
theorem lw_p54 : lw_okq (⟨"ToOneCrumbModel", "codes", "(I)V"⟩, 67) := ⟨⟨by decide +kernel, by decide +kernel⟩, List.mem_of_getElem? (i := 1091) (by decide +kernel), List.mem_of_getElem? (i := 1442) (by decide +kernel), List.mem_of_getElem? (i := 1443) (by decide +kernel)⟩
theorem lw_p55 : lw_okq (⟨"ToOneCrumbModel", "isCell", "(I)Z"⟩, 67) := ⟨⟨by decide +kernel, by decide +kernel⟩, List.mem_of_getElem? (i := 1091) (by decide +kernel), List.mem_of_getElem? (i := 1454) (by decide +kernel), List.mem_of_getElem? (i := 1455) (by decide +kernel)⟩
theorem lw_p56 : lw_okq (⟨"ToOneCrumbModel", "refuse", "()I"⟩, 67) := ⟨⟨by decide +kernel, by decide +kernel⟩, List.mem_of_getElem? (i := 1091) (by decide +kernel), List.mem_of_getElem? (i := 1459) (by decide +kernel), List.mem_of_getElem? (i := 1460) (by decide +kernel)⟩
theorem lw_p57 : lw_okq (⟨"ToOneCrumbModel", "isGuest", "(I)Z"⟩, 67) := ⟨⟨by decide +kernel, by decide +kernel⟩, List.mem_of_getElem? (i := 1091) (by decide +kernel), List.mem_of_getElem? (i := 1467) (by decide +kernel), List.mem_of_getElem? (i := 1468) (by decide +kernel)⟩
theorem lw_p58 : lw_okq (⟨"ToOneCrumbModel", "laysTable", "()V"⟩, 67) := ⟨⟨by decide +kernel, by decide +kernel⟩, List.mem_of_getElem? (i := 1091) (by decide +kernel), List.mem_of_getElem? (i := 1472) (by decide +kernel), List.mem_of_getElem? (i := 1473) (by decide +kernel)⟩
theorem lw_p59 : lw_okq (⟨"ToOneCrumbModel", "worthOf", "(II)I"⟩, 67) := ⟨⟨by decide +kernel, by decide +kernel⟩, List.mem_of_getElem? (i := 1091) (by decide +kernel), List.mem_of_getElem? (i := 1476) (by decide +kernel), List.mem_of_getElem? (i := 1477) (by decide +kernel)⟩
theorem lw_p60 : lw_okq (⟨"ToOneCrumbModel", "worthBy", "(IIIII)I"⟩, 67) := ⟨⟨by decide +kernel, by decide +kernel⟩, List.mem_of_getElem? (i := 1091) (by decide +kernel), List.mem_of_getElem? (i := 1480) (by decide +kernel), List.mem_of_getElem? (i := 1481) (by decide +kernel)⟩
theorem lw_p61 : lw_okq (⟨"ToOneCrumbModel", "ruled", "()I"⟩, 67) := ⟨⟨by decide +kernel, by decide +kernel⟩, List.mem_of_getElem? (i := 1091) (by decide +kernel), List.mem_of_getElem? (i := 1484) (by decide +kernel), List.mem_of_getElem? (i := 1485) (by decide +kernel)⟩
theorem lw_p62 : lw_okq (⟨"ToOneCrumbModel", "holds", "(I)I"⟩, 67) := ⟨⟨by decide +kernel, by decide +kernel⟩, List.mem_of_getElem? (i := 1091) (by decide +kernel), List.mem_of_getElem? (i := 1491) (by decide +kernel), List.mem_of_getElem? (i := 1492) (by decide +kernel)⟩
theorem lw_p63 : lw_okq (⟨"ToOneCrumbModel", "held", "(II)I"⟩, 67) := ⟨⟨by decide +kernel, by decide +kernel⟩, List.mem_of_getElem? (i := 1091) (by decide +kernel), List.mem_of_getElem? (i := 1495) (by decide +kernel), List.mem_of_getElem? (i := 1496) (by decide +kernel)⟩
def lw_privs_4 : List (MethodName × Nat) := [(⟨"ToOneCrumbModel", "isDigit", "()Z"⟩, 67), (⟨"ToOneCrumbModel", "readsDeed", "()Z"⟩, 67), (⟨"ToOneCrumbModel", "letter", "(I)I"⟩, 67), (⟨"ToOneCrumbModel", "allDeserts", "()I"⟩, 67), (⟨"ToOneCrumbModel", "readsRank", "(I)Z"⟩, 67), (⟨"ToOneCrumbModel", "readsThing", "()Z"⟩, 67), (⟨"ToOneCrumbModel", "codes", "(I)V"⟩, 67), (⟨"ToOneCrumbModel", "isCell", "(I)Z"⟩, 67), (⟨"ToOneCrumbModel", "refuse", "()I"⟩, 67), (⟨"ToOneCrumbModel", "isGuest", "(I)Z"⟩, 67), (⟨"ToOneCrumbModel", "laysTable", "()V"⟩, 67), (⟨"ToOneCrumbModel", "worthOf", "(II)I"⟩, 67), (⟨"ToOneCrumbModel", "worthBy", "(IIIII)I"⟩, 67), (⟨"ToOneCrumbModel", "ruled", "()I"⟩, 67), (⟨"ToOneCrumbModel", "holds", "(I)I"⟩, 67), (⟨"ToOneCrumbModel", "held", "(II)I"⟩, 67)]
theorem lw_r4 : ∀ q ∈ lw_privs_4, lw_okq q := List.forall_mem_cons.mpr ⟨lw_p48, List.forall_mem_cons.mpr ⟨lw_p49, List.forall_mem_cons.mpr ⟨lw_p50, List.forall_mem_cons.mpr ⟨lw_p51, List.forall_mem_cons.mpr ⟨lw_p52, List.forall_mem_cons.mpr ⟨lw_p53, List.forall_mem_cons.mpr ⟨lw_p54, List.forall_mem_cons.mpr ⟨lw_p55, List.forall_mem_cons.mpr ⟨lw_p56, List.forall_mem_cons.mpr ⟨lw_p57, List.forall_mem_cons.mpr ⟨lw_p58, List.forall_mem_cons.mpr ⟨lw_p59, List.forall_mem_cons.mpr ⟨lw_p60, List.forall_mem_cons.mpr ⟨lw_p61, List.forall_mem_cons.mpr ⟨lw_p62, List.forall_mem_cons.mpr ⟨lw_p63, fun _ h => absurd h List.not_mem_nil⟩⟩⟩⟩⟩⟩⟩⟩⟩⟩⟩⟩⟩⟩⟩⟩
theorem lw_p64 : lw_okq (⟨"ToOneCrumbModel", "isDue", "(IJI)Z"⟩, 67) := ⟨⟨by decide +kernel, by decide +kernel⟩, List.mem_of_getElem? (i := 1091) (by decide +kernel), List.mem_of_getElem? (i := 1499) (by decide +kernel), List.mem_of_getElem? (i := 1500) (by decide +kernel)⟩
theorem lw_p65 : lw_okq (⟨"ToOneCrumbModel", "putsBy", "()V"⟩, 67) := ⟨⟨by decide +kernel, by decide +kernel⟩, List.mem_of_getElem? (i := 1091) (by decide +kernel), List.mem_of_getElem? (i := 1526) (by decide +kernel), List.mem_of_getElem? (i := 1527) (by decide +kernel)⟩
theorem lw_p66 : lw_okq (⟨"ToOneCrumbModel", "gives", "(III)I"⟩, 67) := ⟨⟨by decide +kernel, by decide +kernel⟩, List.mem_of_getElem? (i := 1091) (by decide +kernel), List.mem_of_getElem? (i := 1530) (by decide +kernel), List.mem_of_getElem? (i := 1531) (by decide +kernel)⟩
theorem lw_p67 : lw_okq (⟨"ToOneCrumbModel", "isSlice", "(II)Z"⟩, 67) := ⟨⟨by decide +kernel, by decide +kernel⟩, List.mem_of_getElem? (i := 1091) (by decide +kernel), List.mem_of_getElem? (i := 1534) (by decide +kernel), List.mem_of_getElem? (i := 1535) (by decide +kernel)⟩
theorem lw_p68 : lw_okq (⟨"ToOneCrumbModel", "counts", "(I)I"⟩, 67) := ⟨⟨by decide +kernel, by decide +kernel⟩, List.mem_of_getElem? (i := 1091) (by decide +kernel), List.mem_of_getElem? (i := 1538) (by decide +kernel), List.mem_of_getElem? (i := 1539) (by decide +kernel)⟩
theorem lw_p69 : lw_okq (⟨"ToOneCrumbModel", "adds", "(I)I"⟩, 67) := ⟨⟨by decide +kernel, by decide +kernel⟩, List.mem_of_getElem? (i := 1091) (by decide +kernel), List.mem_of_getElem? (i := 1542) (by decide +kernel), List.mem_of_getElem? (i := 1543) (by decide +kernel)⟩
theorem lw_p70 : lw_okq (⟨"ToOneCrumbModel", "backs", "(II)I"⟩, 67) := ⟨⟨by decide +kernel, by decide +kernel⟩, List.mem_of_getElem? (i := 1091) (by decide +kernel), List.mem_of_getElem? (i := 1550) (by decide +kernel), List.mem_of_getElem? (i := 1551) (by decide +kernel)⟩
theorem lw_p71 : lw_okq (⟨"ToOneCrumbModel", "eats", "(I)I"⟩, 67) := ⟨⟨by decide +kernel, by decide +kernel⟩, List.mem_of_getElem? (i := 1091) (by decide +kernel), List.mem_of_getElem? (i := 1558) (by decide +kernel), List.mem_of_getElem? (i := 1559) (by decide +kernel)⟩
theorem lw_p72 : lw_okq (⟨"ToOneCrumbModel", "readsAct", "()Z"⟩, 67) := ⟨⟨by decide +kernel, by decide +kernel⟩, List.mem_of_getElem? (i := 1091) (by decide +kernel), List.mem_of_getElem? (i := 1566) (by decide +kernel), List.mem_of_getElem? (i := 1567) (by decide +kernel)⟩
theorem lw_p73 : lw_okq (⟨"ToOneCrumbModel", "does", "(I)Z"⟩, 67) := ⟨⟨by decide +kernel, by decide +kernel⟩, List.mem_of_getElem? (i := 1091) (by decide +kernel), List.mem_of_getElem? (i := 1571) (by decide +kernel), List.mem_of_getElem? (i := 1572) (by decide +kernel)⟩
theorem lw_p74 : lw_okq (⟨"ToOneCrumbModel", "enters", "(J)V"⟩, 67) := ⟨⟨by decide +kernel, by decide +kernel⟩, List.mem_of_getElem? (i := 1091) (by decide +kernel), List.mem_of_getElem? (i := 1575) (by decide +kernel), List.mem_of_getElem? (i := 1576) (by decide +kernel)⟩
theorem lw_p75 : lw_okq (⟨"ToOneCrumbModel", "all", "()I"⟩, 67) := ⟨⟨by decide +kernel, by decide +kernel⟩, List.mem_of_getElem? (i := 1091) (by decide +kernel), List.mem_of_getElem? (i := 1611) (by decide +kernel), List.mem_of_getElem? (i := 1612) (by decide +kernel)⟩
theorem lw_p76 : lw_okq (⟨"ToOneCrumbModel", "canServe", "(II)Z"⟩, 67) := ⟨⟨by decide +kernel, by decide +kernel⟩, List.mem_of_getElem? (i := 1091) (by decide +kernel), List.mem_of_getElem? (i := 1615) (by decide +kernel), List.mem_of_getElem? (i := 1616) (by decide +kernel)⟩
theorem lw_p77 : lw_okq (⟨"ToOneCrumbModel", "serves", "(IIII)V"⟩, 67) := ⟨⟨by decide +kernel, by decide +kernel⟩, List.mem_of_getElem? (i := 1091) (by decide +kernel), List.mem_of_getElem? (i := 1619) (by decide +kernel), List.mem_of_getElem? (i := 1620) (by decide +kernel)⟩
theorem lw_p78 : lw_okq (⟨"ToOneCrumbModel", "isTurnLess", "(I)Z"⟩, 67) := ⟨⟨by decide +kernel, by decide +kernel⟩, List.mem_of_getElem? (i := 1091) (by decide +kernel), List.mem_of_getElem? (i := 1623) (by decide +kernel), List.mem_of_getElem? (i := 1624) (by decide +kernel)⟩
theorem lw_p79 : lw_okq (⟨"ToOneCrumbModel", "endFor", "(III)I"⟩, 67) := ⟨⟨by decide +kernel, by decide +kernel⟩, List.mem_of_getElem? (i := 1091) (by decide +kernel), List.mem_of_getElem? (i := 1630) (by decide +kernel), List.mem_of_getElem? (i := 1631) (by decide +kernel)⟩
def lw_privs_5 : List (MethodName × Nat) := [(⟨"ToOneCrumbModel", "isDue", "(IJI)Z"⟩, 67), (⟨"ToOneCrumbModel", "putsBy", "()V"⟩, 67), (⟨"ToOneCrumbModel", "gives", "(III)I"⟩, 67), (⟨"ToOneCrumbModel", "isSlice", "(II)Z"⟩, 67), (⟨"ToOneCrumbModel", "counts", "(I)I"⟩, 67), (⟨"ToOneCrumbModel", "adds", "(I)I"⟩, 67), (⟨"ToOneCrumbModel", "backs", "(II)I"⟩, 67), (⟨"ToOneCrumbModel", "eats", "(I)I"⟩, 67), (⟨"ToOneCrumbModel", "readsAct", "()Z"⟩, 67), (⟨"ToOneCrumbModel", "does", "(I)Z"⟩, 67), (⟨"ToOneCrumbModel", "enters", "(J)V"⟩, 67), (⟨"ToOneCrumbModel", "all", "()I"⟩, 67), (⟨"ToOneCrumbModel", "canServe", "(II)Z"⟩, 67), (⟨"ToOneCrumbModel", "serves", "(IIII)V"⟩, 67), (⟨"ToOneCrumbModel", "isTurnLess", "(I)Z"⟩, 67), (⟨"ToOneCrumbModel", "endFor", "(III)I"⟩, 67)]
theorem lw_r5 : ∀ q ∈ lw_privs_5, lw_okq q := List.forall_mem_cons.mpr ⟨lw_p64, List.forall_mem_cons.mpr ⟨lw_p65, List.forall_mem_cons.mpr ⟨lw_p66, List.forall_mem_cons.mpr ⟨lw_p67, List.forall_mem_cons.mpr ⟨lw_p68, List.forall_mem_cons.mpr ⟨lw_p69, List.forall_mem_cons.mpr ⟨lw_p70, List.forall_mem_cons.mpr ⟨lw_p71, List.forall_mem_cons.mpr ⟨lw_p72, List.forall_mem_cons.mpr ⟨lw_p73, List.forall_mem_cons.mpr ⟨lw_p74, List.forall_mem_cons.mpr ⟨lw_p75, List.forall_mem_cons.mpr ⟨lw_p76, List.forall_mem_cons.mpr ⟨lw_p77, List.forall_mem_cons.mpr ⟨lw_p78, List.forall_mem_cons.mpr ⟨lw_p79, fun _ h => absurd h List.not_mem_nil⟩⟩⟩⟩⟩⟩⟩⟩⟩⟩⟩⟩⟩⟩⟩⟩
theorem lw_p80 : lw_okq (⟨"ToOneCrumbModel", "sliceOf", "(III)I"⟩, 67) := ⟨⟨by decide +kernel, by decide +kernel⟩, List.mem_of_getElem? (i := 1091) (by decide +kernel), List.mem_of_getElem? (i := 1646) (by decide +kernel), List.mem_of_getElem? (i := 1647) (by decide +kernel)⟩
theorem lw_p81 : lw_okq (⟨"ToOneCrumbModel", "partsOn", "(IIIII)V"⟩, 67) := ⟨⟨by decide +kernel, by decide +kernel⟩, List.mem_of_getElem? (i := 1091) (by decide +kernel), List.mem_of_getElem? (i := 1656) (by decide +kernel), List.mem_of_getElem? (i := 1657) (by decide +kernel)⟩
theorem lw_p82 : lw_okq (⟨"ToOneCrumbModel", "calmsFrom", "(II)V"⟩, 67) := ⟨⟨by decide +kernel, by decide +kernel⟩, List.mem_of_getElem? (i := 1091) (by decide +kernel), List.mem_of_getElem? (i := 1664) (by decide +kernel), List.mem_of_getElem? (i := 1665) (by decide +kernel)⟩
theorem lw_p83 : lw_okq (⟨"ToOneCrumbModel", "isCalm", "()Z"⟩, 67) := ⟨⟨by decide +kernel, by decide +kernel⟩, List.mem_of_getElem? (i := 1091) (by decide +kernel), List.mem_of_getElem? (i := 1668) (by decide +kernel), List.mem_of_getElem? (i := 1669) (by decide +kernel)⟩
theorem lw_p84 : lw_okq (⟨"ToOneCrumbModel", "goesTo", "(III)V"⟩, 67) := ⟨⟨by decide +kernel, by decide +kernel⟩, List.mem_of_getElem? (i := 1091) (by decide +kernel), List.mem_of_getElem? (i := 1672) (by decide +kernel), List.mem_of_getElem? (i := 1673) (by decide +kernel)⟩
theorem lw_p85 : lw_okq (⟨"ToOneCrumbModel", "readsTurns", "()I"⟩, 67) := ⟨⟨by decide +kernel, by decide +kernel⟩, List.mem_of_getElem? (i := 1091) (by decide +kernel), List.mem_of_getElem? (i := 1685) (by decide +kernel), List.mem_of_getElem? (i := 1686) (by decide +kernel)⟩
theorem lw_p86 : lw_okq (⟨"ToOneCrumbModel", "picksAsWorth", "()V"⟩, 67) := ⟨⟨by decide +kernel, by decide +kernel⟩, List.mem_of_getElem? (i := 1091) (by decide +kernel), List.mem_of_getElem? (i := 1689) (by decide +kernel), List.mem_of_getElem? (i := 1690) (by decide +kernel)⟩
theorem lw_p87 : lw_okq (⟨"ToOneCrumbModel", "goesByTurns", "()V"⟩, 67) := ⟨⟨by decide +kernel, by decide +kernel⟩, List.mem_of_getElem? (i := 1091) (by decide +kernel), List.mem_of_getElem? (i := 1693) (by decide +kernel), List.mem_of_getElem? (i := 1694) (by decide +kernel)⟩
theorem lw_p88 : lw_okq (⟨"ToOneCrumbModel", "fitsBy", "(IIII)Z"⟩, 67) := ⟨⟨by decide +kernel, by decide +kernel⟩, List.mem_of_getElem? (i := 1091) (by decide +kernel), List.mem_of_getElem? (i := 1713) (by decide +kernel), List.mem_of_getElem? (i := 1714) (by decide +kernel)⟩
theorem lw_p89 : lw_okq (⟨"ToOneCrumbModel", "meets", "(II)V"⟩, 67) := ⟨⟨by decide +kernel, by decide +kernel⟩, List.mem_of_getElem? (i := 1091) (by decide +kernel), List.mem_of_getElem? (i := 1725) (by decide +kernel), List.mem_of_getElem? (i := 1726) (by decide +kernel)⟩
theorem lw_p90 : lw_okq (⟨"ToOneCrumbModel", "crumbsAll", "()I"⟩, 67) := ⟨⟨by decide +kernel, by decide +kernel⟩, List.mem_of_getElem? (i := 1091) (by decide +kernel), List.mem_of_getElem? (i := 1738) (by decide +kernel), List.mem_of_getElem? (i := 1739) (by decide +kernel)⟩
theorem lw_p91 : lw_okq (⟨"ToOneCrumbModel", "desertsOf", "(I)I"⟩, 67) := ⟨⟨by decide +kernel, by decide +kernel⟩, List.mem_of_getElem? (i := 1091) (by decide +kernel), List.mem_of_getElem? (i := 1747) (by decide +kernel), List.mem_of_getElem? (i := 1748) (by decide +kernel)⟩
theorem lw_p92 : lw_okq (⟨"ToOneCrumbModel", "bets", "(II)V"⟩, 67) := ⟨⟨by decide +kernel, by decide +kernel⟩, List.mem_of_getElem? (i := 1091) (by decide +kernel), List.mem_of_getElem? (i := 1756) (by decide +kernel), List.mem_of_getElem? (i := 1757) (by decide +kernel)⟩
def lw_privs_6 : List (MethodName × Nat) := [(⟨"ToOneCrumbModel", "sliceOf", "(III)I"⟩, 67), (⟨"ToOneCrumbModel", "partsOn", "(IIIII)V"⟩, 67), (⟨"ToOneCrumbModel", "calmsFrom", "(II)V"⟩, 67), (⟨"ToOneCrumbModel", "isCalm", "()Z"⟩, 67), (⟨"ToOneCrumbModel", "goesTo", "(III)V"⟩, 67), (⟨"ToOneCrumbModel", "readsTurns", "()I"⟩, 67), (⟨"ToOneCrumbModel", "picksAsWorth", "()V"⟩, 67), (⟨"ToOneCrumbModel", "goesByTurns", "()V"⟩, 67), (⟨"ToOneCrumbModel", "fitsBy", "(IIII)Z"⟩, 67), (⟨"ToOneCrumbModel", "meets", "(II)V"⟩, 67), (⟨"ToOneCrumbModel", "crumbsAll", "()I"⟩, 67), (⟨"ToOneCrumbModel", "desertsOf", "(I)I"⟩, 67), (⟨"ToOneCrumbModel", "bets", "(II)V"⟩, 67)]
theorem lw_r6 : ∀ q ∈ lw_privs_6, lw_okq q := List.forall_mem_cons.mpr ⟨lw_p80, List.forall_mem_cons.mpr ⟨lw_p81, List.forall_mem_cons.mpr ⟨lw_p82, List.forall_mem_cons.mpr ⟨lw_p83, List.forall_mem_cons.mpr ⟨lw_p84, List.forall_mem_cons.mpr ⟨lw_p85, List.forall_mem_cons.mpr ⟨lw_p86, List.forall_mem_cons.mpr ⟨lw_p87, List.forall_mem_cons.mpr ⟨lw_p88, List.forall_mem_cons.mpr ⟨lw_p89, List.forall_mem_cons.mpr ⟨lw_p90, List.forall_mem_cons.mpr ⟨lw_p91, List.forall_mem_cons.mpr ⟨lw_p92, fun _ h => absurd h List.not_mem_nil⟩⟩⟩⟩⟩⟩⟩⟩⟩⟩⟩⟩⟩
def lw_privs : List (MethodName × Nat) := lw_privs_1 ++ (lw_privs_2 ++ (lw_privs_3 ++ (lw_privs_4 ++ (lw_privs_5 ++ (lw_privs_6)))))
def lw_tbl : List Cond := k2_sels lw_privs ++ tables_1
theorem lw_privs_ok : ∀ q ∈ lw_privs, lw_okq q := by
  show ∀ q ∈ lw_privs_1 ++ (lw_privs_2 ++ (lw_privs_3 ++ (lw_privs_4 ++ (lw_privs_5 ++ (lw_privs_6))))), lw_okq q
  exact List.forall_mem_append.mpr ⟨lw_r1, List.forall_mem_append.mpr ⟨lw_r2, List.forall_mem_append.mpr ⟨lw_r3, List.forall_mem_append.mpr ⟨lw_r4, List.forall_mem_append.mpr ⟨lw_r5, lw_r6⟩⟩⟩⟩⟩
def RX0 : String := "ToOneCrumb$Board"
def TX0 : u_T := fun k => match k with
  | 0 => ("ToOneCrumb$Board", "past", "[J", true)
  | 1 => ("ToOneCrumb$Board", "kept", "[J", true)
  | 2 => ("ToOneCrumb$Board", "holders", "J", false)
  | 3 => ("ToOneCrumb$Board", "pasts", "I", false)
  | _ => ("ToOneCrumb$Board", "whichKept", "I", false)
def tyX0 : Nat → FieldType := fun k => match k with
  | 0 => .array .long
  | 1 => .array .long
  | 2 => .long
  | 3 => .int
  | _ => .int
abbrev wsX00 : List Cond := u_ws RX0 TX0 5
theorem nmX0 : ∀ a, a < 5 → ∀ b, b < 5 → a ≠ b → (TX0 a).2.1 ≠ (TX0 b).2.1 := by decide +kernel
theorem tyX0_ok : ∀ k, k < 5 → parseFieldDescriptor (TX0 k).2.2.1 = some (tyX0 k) := by decide +kernel
abbrev cX0_init : ByteArray := prog_2_method_1_code
def yX0_init : MethodName := ⟨RX0, "<init>", "()V"⟩
abbrev cX0_holderOf : ByteArray := prog_2_method_2_code
def yX0_holderOf : MethodName := ⟨RX0, "holderOf", "(I)I"⟩
abbrev cX0_put : ByteArray := prog_2_method_3_code
def yX0_put : MethodName := ⟨RX0, "put", "(II)V"⟩
abbrev cX0_startAnew : ByteArray := prog_2_method_4_code
def yX0_startAnew : MethodName := ⟨RX0, "startAnew", "()V"⟩
abbrev cX0_remember : ByteArray := prog_2_method_5_code
def yX0_remember : MethodName := ⟨RX0, "remember", "(J)V"⟩
abbrev cX0_stepBack : ByteArray := prog_2_method_6_code
def yX0_stepBack : MethodName := ⟨RX0, "stepBack", "()I"⟩
abbrev cX0_store : ByteArray := prog_2_method_7_code
def yX0_store : MethodName := ⟨RX0, "store", "(I)Z"⟩
abbrev cX0_restore : ByteArray := prog_2_method_8_code
def yX0_restore : MethodName := ⟨RX0, "restore", "(I)Z"⟩
def RX1 : String := "ToOneCrumb$Choices"
def TX1 : u_T := fun k => match k with
  | 0 => ("ToOneCrumb$Choices", "taken", "[I", true)
  | 1 => ("ToOneCrumb$Choices", "left", "[I", true)
  | 2 => ("ToOneCrumb$Choices", "tried", "[I", true)
  | 3 => ("ToOneCrumb$Choices", "leastTastes", "[I", true)
  | 4 => ("ToOneCrumb$Choices", "asked", "[I", true)
  | 5 => ("ToOneCrumb$Choices", "noLess", "[I", true)
  | 6 => ("ToOneCrumb$Choices", "known", "I", false)
  | _ => ("ToOneCrumb$Choices", "size", "I", false)
def tyX1 : Nat → FieldType := fun k => match k with
  | 0 => .array .int
  | 1 => .array .int
  | 2 => .array .int
  | 3 => .array .int
  | 4 => .array .int
  | 5 => .array .int
  | 6 => .int
  | _ => .int
abbrev wsX10 : List Cond := u_ws RX1 TX1 8
theorem nmX1 : ∀ a, a < 8 → ∀ b, b < 8 → a ≠ b → (TX1 a).2.1 ≠ (TX1 b).2.1 := by decide +kernel
theorem tyX1_ok : ∀ k, k < 8 → parseFieldDescriptor (TX1 k).2.2.1 = some (tyX1 k) := by decide +kernel
abbrev cX1_init : ByteArray := prog_3_method_1_code
def yX1_init : MethodName := ⟨RX1, "<init>", "()V"⟩
abbrev cX1_tell : ByteArray := prog_3_method_2_code
def yX1_tell : MethodName := ⟨RX1, "tell", "(II)I"⟩
abbrev cX1_countFitting : ByteArray := prog_3_method_3_code
def yX1_countFitting : MethodName := ⟨RX1, "countFitting", "(LToOneCrumb$Rule;LToOneCrumb$Loaf;I)I"⟩
abbrev cX1_countPairs : ByteArray := prog_3_method_4_code
def yX1_countPairs : MethodName := ⟨RX1, "countPairs", "(LToOneCrumb$Rule;LToOneCrumb$Loaf;I)V"⟩
abbrev cX1_countThisTime : ByteArray := prog_3_method_5_code
def yX1_countThisTime : MethodName := ⟨RX1, "countThisTime", "(I)V"⟩
abbrev cX1_leftAtMost : ByteArray := prog_3_method_6_code
def yX1_leftAtMost : MethodName := ⟨RX1, "leftAtMost", "(II)I"⟩
abbrev cX1_fits : ByteArray := prog_3_method_7_code
def yX1_fits : MethodName := ⟨RX1, "fits", "(ILToOneCrumb$Rule;LToOneCrumb$Loaf;I)Z"⟩
abbrev cX1_ask : ByteArray := prog_3_method_8_code
def yX1_ask : MethodName := ⟨RX1, "ask", "(ILToOneCrumb$Rule;LToOneCrumb$Loaf;I)I"⟩
def RX2 : String := "ToOneCrumb$Loaf"
def TX2 : u_T := fun k => match k with
  | 0 => ("ToOneCrumb$Loaf", "crumbs", "[I", true)
  | 1 => ("ToOneCrumb$Loaf", "raisins", "[I", true)
  | 2 => ("ToOneCrumb$Loaf", "crust", "[I", true)
  | _ => ("ToOneCrumb$Loaf", "cells", "I", false)
def tyX2 : Nat → FieldType := fun k => match k with
  | 0 => .array .int
  | 1 => .array .int
  | 2 => .array .int
  | _ => .int
abbrev wsX20 : List Cond := u_ws RX2 TX2 4
theorem nmX2 : ∀ a, a < 4 → ∀ b, b < 4 → a ≠ b → (TX2 a).2.1 ≠ (TX2 b).2.1 := by decide +kernel
theorem tyX2_ok : ∀ k, k < 4 → parseFieldDescriptor (TX2 k).2.2.1 = some (tyX2 k) := by decide +kernel
abbrev cX2_init : ByteArray := prog_4_method_1_code
def yX2_init : MethodName := ⟨RX2, "<init>", "()V"⟩
abbrev cX2_read : ByteArray := prog_4_method_2_code
def yX2_read : MethodName := ⟨RX2, "read", "(LToOneCrumb$Text;)Z"⟩
abbrev cX2_allCrumbs : ByteArray := prog_4_method_3_code
def yX2_allCrumbs : MethodName := ⟨RX2, "allCrumbs", "()I"⟩
def RX3 : String := "ToOneCrumb$Party"
def TX3 : u_T := fun k => match k with
  | 0 => ("ToOneCrumb$Party", "likes", "[I", true)
  | 1 => ("ToOneCrumb$Party", "deserts", "[I", true)
  | 2 => ("ToOneCrumb$Party", "earned", "[I", true)
  | _ => ("ToOneCrumb$Party", "size", "I", false)
def tyX3 : Nat → FieldType := fun k => match k with
  | 0 => .array .int
  | 1 => .array .int
  | 2 => .array .int
  | _ => .int
abbrev wsX30 : List Cond := u_ws RX3 TX3 4
theorem nmX3 : ∀ a, a < 4 → ∀ b, b < 4 → a ≠ b → (TX3 a).2.1 ≠ (TX3 b).2.1 := by decide +kernel
theorem tyX3_ok : ∀ k, k < 4 → parseFieldDescriptor (TX3 k).2.2.1 = some (tyX3 k) := by decide +kernel
abbrev cX3_init : ByteArray := prog_5_method_1_code
def yX3_init : MethodName := ⟨RX3, "<init>", "()V"⟩
abbrev cX3_tasteOf : ByteArray := prog_5_method_2_code
def yX3_tasteOf : MethodName := ⟨RX3, "tasteOf", "(II)I"⟩
abbrev cX3_readLines : ByteArray := prog_5_method_3_code
def yX3_readLines : MethodName := ⟨RX3, "readLines", "(LToOneCrumb$Text;)I"⟩
/-- the name that a row of the Statement's table gives a method -/
def zq_nameIn (w : Option Cond) : String := match w with
  | some (.instanceMethod m) => m.name
  | _ => ""
abbrev cX3_admit : ByteArray := prog_5_method_4_code
def yX3_admit : MethodName := ⟨RX3, zq_nameIn tables_1_2[229]?, "(I)V"⟩
abbrev cX3_readDeeds : ByteArray := prog_5_method_5_code
def yX3_readDeeds : MethodName := ⟨RX3, "readDeeds", "(LToOneCrumb$Text;)Z"⟩
abbrev cX3_readDeed : ByteArray := prog_5_method_6_code
def yX3_readDeed : MethodName := ⟨RX3, "readDeed", "(LToOneCrumb$Text;)Z"⟩
abbrev cX3_judge : ByteArray := prog_5_method_7_code
def yX3_judge : MethodName := ⟨RX3, "judge", "()V"⟩
abbrev cX3_desertsOf : ByteArray := prog_5_method_8_code
def yX3_desertsOf : MethodName := ⟨RX3, "desertsOf", "(I)I"⟩
abbrev cX3_allDeserts : ByteArray := prog_5_method_9_code
def yX3_allDeserts : MethodName := ⟨RX3, "allDeserts", "()I"⟩
abbrev cX3_canPart : ByteArray := prog_5_method_10_code
def yX3_canPart : MethodName := ⟨RX3, "canPart", "(II)Z"⟩
abbrev cX3_chanceOf : ByteArray := prog_5_method_11_code
def yX3_chanceOf : MethodName := ⟨RX3, "chanceOf", "(II)J"⟩
abbrev cX3_allChances : ByteArray := prog_5_method_12_code
def yX3_allChances : MethodName := ⟨RX3, "allChances", "()J"⟩
def RX4 : String := "ToOneCrumb$Placing"
def TX4 : u_T := fun k => match k with
  | 0 => ("ToOneCrumb$Placing", "who", "[I", true)
  | 1 => ("ToOneCrumb$Placing", "times", "[J", true)
  | 2 => ("ToOneCrumb$Placing", "need", "[J", true)
  | 3 => ("ToOneCrumb$Placing", "reach", "[I", true)
  | 4 => ("ToOneCrumb$Placing", "least", "[I", true)
  | 5 => ("ToOneCrumb$Placing", "order", "[I", true)
  | 6 => ("ToOneCrumb$Placing", "members", "I", false)
  | _ => ("ToOneCrumb$Placing", "cells", "I", false)
def tyX4 : Nat → FieldType := fun k => match k with
  | 0 => .array .int
  | 1 => .array .long
  | 2 => .array .long
  | 3 => .array .int
  | 4 => .array .int
  | 5 => .array .int
  | 6 => .int
  | _ => .int
abbrev wsX40 : List Cond := u_ws RX4 TX4 8
theorem nmX4 : ∀ a, a < 8 → ∀ b, b < 8 → a ≠ b → (TX4 a).2.1 ≠ (TX4 b).2.1 := by decide +kernel
theorem tyX4_ok : ∀ k, k < 8 → parseFieldDescriptor (TX4 k).2.2.1 = some (tyX4 k) := by decide +kernel
abbrev cX4_init : ByteArray := prog_6_method_1_code
def yX4_init : MethodName := ⟨RX4, "<init>", "()V"⟩
abbrev cX4_start : ByteArray := prog_6_method_2_code
def yX4_start : MethodName := ⟨RX4, "start", "(I)V"⟩
abbrev cX4_addMember : ByteArray := prog_6_method_3_code
def yX4_addMember : MethodName := ⟨RX4, "addMember", "(IJJ)V"⟩
abbrev cX4_readClaims : ByteArray := prog_6_method_4_code
def yX4_readClaims : MethodName := ⟨RX4, "readClaims", "(LToOneCrumb$Text;I)Z"⟩
abbrev cX4_spread : ByteArray := prog_6_method_5_code
def yX4_spread : MethodName := ⟨RX4, "spread", "(LToOneCrumb$Worths;)V"⟩
abbrev cX4_shortest : ByteArray := prog_6_method_6_code
def yX4_shortest : MethodName := ⟨RX4, "shortest", "(LToOneCrumb$Worths;II)I"⟩
abbrev cX4_reached : ByteArray := prog_6_method_7_code
def yX4_reached : MethodName := ⟨RX4, "reached", "(II)I"⟩
abbrev cX4_canServe : ByteArray := prog_6_method_8_code
def yX4_canServe : MethodName := ⟨RX4, "canServe", "(I)Z"⟩
abbrev cX4_tellOrder : ByteArray := prog_6_method_9_code
def yX4_tellOrder : MethodName := ⟨RX4, "tellOrder", "(ILToOneCrumb$Row;)V"⟩
abbrev cX4_findOrder : ByteArray := prog_6_method_10_code
def yX4_findOrder : MethodName := ⟨RX4, "findOrder", "(IIII)Z"⟩
def RX5 : String := "ToOneCrumb$Row"
def TX5 : u_T := fun k => match k with
  | 0 => ("ToOneCrumb$Row", "numbers", "[J", true)
  | _ => ("ToOneCrumb$Row", "size", "I", false)
def tyX5 : Nat → FieldType := fun k => match k with
  | 0 => .array .long
  | _ => .int
abbrev wsX50 : List Cond := u_ws RX5 TX5 2
theorem nmX5 : ∀ a, a < 2 → ∀ b, b < 2 → a ≠ b → (TX5 a).2.1 ≠ (TX5 b).2.1 := by decide +kernel
theorem tyX5_ok : ∀ k, k < 2 → parseFieldDescriptor (TX5 k).2.2.1 = some (tyX5 k) := by decide +kernel
abbrev cX5_init : ByteArray := prog_7_method_1_code
def yX5_init : MethodName := ⟨RX5, "<init>", "()V"⟩
abbrev cX5_clear : ByteArray := prog_7_method_2_code
def yX5_clear : MethodName := ⟨RX5, "clear", "()V"⟩
abbrev cX5_add : ByteArray := prog_7_method_3_code
def yX5_add : MethodName := ⟨RX5, "add", "(J)V"⟩
abbrev cX5_addFraction : ByteArray := prog_7_method_4_code
def yX5_addFraction : MethodName := ⟨RX5, "addFraction", "(JJ)V"⟩
def RX6 : String := "ToOneCrumb$Rule"
def TX6 : u_T := fun k => match k with
  | 0 => ("ToOneCrumb$Rule", "steps", "[I", true)
  | 1 => ("ToOneCrumb$Rule", "waiting", "[I", true)
  | 2 => ("ToOneCrumb$Rule", "values", "[I", true)
  | 3 => ("ToOneCrumb$Rule", "size", "I", false)
  | 4 => ("ToOneCrumb$Rule", "waits", "I", false)
  | 5 => ("ToOneCrumb$Rule", "depth", "I", false)
  | 6 => ("ToOneCrumb$Rule", "compared", "I", false)
  | _ => ("ToOneCrumb$Rule", "wantsThing", "Z", false)
def tyX6 : Nat → FieldType := fun k => match k with
  | 0 => .array .int
  | 1 => .array .int
  | 2 => .array .int
  | 3 => .int
  | 4 => .int
  | 5 => .int
  | 6 => .int
  | _ => .boolean
abbrev wsX60 : List Cond := u_ws RX6 TX6 8
theorem nmX6 : ∀ a, a < 8 → ∀ b, b < 8 → a ≠ b → (TX6 a).2.1 ≠ (TX6 b).2.1 := by decide +kernel
theorem tyX6_ok : ∀ k, k < 8 → parseFieldDescriptor (TX6 k).2.2.1 = some (tyX6 k) := by decide +kernel
abbrev cX6_init : ByteArray := prog_8_method_1_code
def yX6_init : MethodName := ⟨RX6, "<init>", "()V"⟩
abbrev cX6_read : ByteArray := prog_8_method_2_code
def yX6_read : MethodName := ⟨RX6, "read", "(LToOneCrumb$Text;)Z"⟩
abbrev cX6_readThing : ByteArray := prog_8_method_3_code
def yX6_readThing : MethodName := ⟨RX6, "readThing", "(LToOneCrumb$Text;)Z"⟩
abbrev cX6_readJoint : ByteArray := prog_8_method_4_code
def yX6_readJoint : MethodName := ⟨RX6, "readJoint", "(LToOneCrumb$Text;)Z"⟩
abbrev cX6_isLetter : ByteArray := prog_8_method_5_code
def yX6_isLetter : MethodName := ⟨RX6, "isLetter", "(I)Z"⟩
abbrev cX6_strengthOf : ByteArray := prog_8_method_6_code
def yX6_strengthOf : MethodName := ⟨RX6, "strengthOf", "(I)I"⟩
abbrev cX6_hold : ByteArray := prog_8_method_7_code
def yX6_hold : MethodName := ⟨RX6, "hold", "(I)V"⟩
abbrev cX6_addStep : ByteArray := prog_8_method_8_code
def yX6_addStep : MethodName := ⟨RX6, "addStep", "(I)V"⟩
abbrev cX6_release : ByteArray := prog_8_method_9_code
def yX6_release : MethodName := ⟨RX6, "release", "(I)V"⟩
abbrev cX6_worthOf : ByteArray := prog_8_method_10_code
def yX6_worthOf : MethodName := ⟨RX6, "worthOf", "(LToOneCrumb$Loaf;II[II)I"⟩
abbrev cX6_walk : ByteArray := prog_8_method_11_code
def yX6_walk : MethodName := ⟨RX6, "walk", "(LToOneCrumb$Loaf;II[II)I"⟩
abbrev cX6_valueOf : ByteArray := prog_8_method_12_code
def yX6_valueOf : MethodName := ⟨RX6, "valueOf", "(ILToOneCrumb$Loaf;II[II)I"⟩
abbrev cX6_joined : ByteArray := prog_8_method_13_code
def yX6_joined : MethodName := ⟨RX6, "joined", "(III)I"⟩
def RX7 : String := "ToOneCrumb$Seating"
def TX7 : u_T := fun k => match k with
  | 0 => ("ToOneCrumb$Seating", "starts", "[I", true)
  | 1 => ("ToOneCrumb$Seating", "stops", "[I", true)
  | 2 => ("ToOneCrumb$Seating", "owners", "[I", true)
  | 3 => ("ToOneCrumb$Seating", "best", "[I", true)
  | 4 => ("ToOneCrumb$Seating", "guests", "I", false)
  | 5 => ("ToOneCrumb$Seating", "cells", "I", false)
  | _ => ("ToOneCrumb$Seating", "found", "I", false)
def tyX7 : Nat → FieldType := fun k => match k with
  | 0 => .array .int
  | 1 => .array .int
  | 2 => .array .int
  | 3 => .array .int
  | 4 => .int
  | 5 => .int
  | _ => .int
abbrev wsX70 : List Cond := u_ws RX7 TX7 7
theorem nmX7 : ∀ a, a < 7 → ∀ b, b < 7 → a ≠ b → (TX7 a).2.1 ≠ (TX7 b).2.1 := by decide +kernel
theorem tyX7_ok : ∀ k, k < 7 → parseFieldDescriptor (TX7 k).2.2.1 = some (tyX7 k) := by decide +kernel
abbrev cX7_init : ByteArray := prog_9_method_1_code
def yX7_init : MethodName := ⟨RX7, "<init>", "()V"⟩
abbrev cX7_ways : ByteArray := prog_9_method_2_code
def yX7_ways : MethodName := ⟨RX7, "ways", "(LToOneCrumb$Worths;ILToOneCrumb$Row;)I"⟩
abbrev cX7_part : ByteArray := prog_9_method_3_code
def yX7_part : MethodName := ⟨RX7, "part", "(LToOneCrumb$Worths;III)V"⟩
abbrev cX7_isCalmWith : ByteArray := prog_9_method_4_code
def yX7_isCalmWith : MethodName := ⟨RX7, "isCalmWith", "(LToOneCrumb$Worths;II)Z"⟩
abbrev cX7_prefers : ByteArray := prog_9_method_5_code
def yX7_prefers : MethodName := ⟨RX7, "prefers", "(LToOneCrumb$Worths;II)Z"⟩
abbrev cX7_othersAreCalm : ByteArray := prog_9_method_6_code
def yX7_othersAreCalm : MethodName := ⟨RX7, "othersAreCalm", "(LToOneCrumb$Worths;I)Z"⟩
abbrev cX7_note : ByteArray := prog_9_method_7_code
def yX7_note : MethodName := ⟨RX7, "note", "()V"⟩
abbrev cX7_isLess : ByteArray := prog_9_method_8_code
def yX7_isLess : MethodName := ⟨RX7, "isLess", "()Z"⟩
def RX8 : String := "ToOneCrumb$Text"
def TX8 : u_T := fun k => match k with
  | 0 => ("ToOneCrumb$Text", "signs", "[I", true)
  | 1 => ("ToOneCrumb$Text", "size", "I", false)
  | 2 => ("ToOneCrumb$Text", "stop", "I", false)
  | _ => ("ToOneCrumb$Text", "place", "I", false)
def tyX8 : Nat → FieldType := fun k => match k with
  | 0 => .array .int
  | 1 => .int
  | 2 => .int
  | _ => .int
abbrev wsX80 : List Cond := u_ws RX8 TX8 4
theorem nmX8 : ∀ a, a < 4 → ∀ b, b < 4 → a ≠ b → (TX8 a).2.1 ≠ (TX8 b).2.1 := by decide +kernel
theorem tyX8_ok : ∀ k, k < 4 → parseFieldDescriptor (TX8 k).2.2.1 = some (tyX8 k) := by decide +kernel
abbrev cX8_init : ByteArray := prog_10_method_1_code
def yX8_init : MethodName := ⟨RX8, "<init>", "()V"⟩
abbrev cX8_addFour : ByteArray := prog_10_method_2_code
def yX8_addFour : MethodName := ⟨RX8, "addFour", "(I)I"⟩
abbrev cX8_shorten : ByteArray := prog_10_method_3_code
def yX8_shorten : MethodName := ⟨RX8, "shorten", "(I)Z"⟩
abbrev cX8_clear : ByteArray := prog_10_method_4_code
def yX8_clear : MethodName := ⟨RX8, "clear", "()V"⟩
abbrev cX8_start : ByteArray := prog_10_method_5_code
def yX8_start : MethodName := ⟨RX8, "start", "(I)V"⟩
abbrev cX8_isFinished : ByteArray := prog_10_method_6_code
def yX8_isFinished : MethodName := ⟨RX8, "isFinished", "()Z"⟩
abbrev cX8_fault : ByteArray := prog_10_method_7_code
def yX8_fault : MethodName := ⟨RX8, "fault", "()I"⟩
abbrev cX8_next : ByteArray := prog_10_method_8_code
def yX8_next : MethodName := ⟨RX8, "next", "()I"⟩
abbrev cX8_skip : ByteArray := prog_10_method_9_code
def yX8_skip : MethodName := ⟨RX8, "skip", "(I)Z"⟩
abbrev cX8_takeDigit : ByteArray := prog_10_method_10_code
def yX8_takeDigit : MethodName := ⟨RX8, "takeDigit", "(I)I"⟩
abbrev cX8_takeNumber : ByteArray := prog_10_method_11_code
def yX8_takeNumber : MethodName := ⟨RX8, "takeNumber", "(I)I"⟩
abbrev cX8_takeLetter : ByteArray := prog_10_method_12_code
def yX8_takeLetter : MethodName := ⟨RX8, "takeLetter", "(I)I"⟩
def RX9 : String := "ToOneCrumb$Turns"
def TX9 : u_T := fun k => match k with
  | 0 => ("ToOneCrumb$Turns", "whose", "[I", true)
  | 1 => ("ToOneCrumb$Turns", "told", "[I", true)
  | 2 => ("ToOneCrumb$Turns", "has", "[I", true)
  | _ => ("ToOneCrumb$Turns", "size", "I", false)
def tyX9 : Nat → FieldType := fun k => match k with
  | 0 => .array .int
  | 1 => .array .int
  | 2 => .array .int
  | _ => .int
abbrev wsX90 : List Cond := u_ws RX9 TX9 4
theorem nmX9 : ∀ a, a < 4 → ∀ b, b < 4 → a ≠ b → (TX9 a).2.1 ≠ (TX9 b).2.1 := by decide +kernel
theorem tyX9_ok : ∀ k, k < 4 → parseFieldDescriptor (TX9 k).2.2.1 = some (tyX9 k) := by decide +kernel
abbrev cX9_init : ByteArray := prog_11_method_1_code
def yX9_init : MethodName := ⟨RX9, "<init>", "()V"⟩
abbrev cX9_read : ByteArray := prog_11_method_2_code
def yX9_read : MethodName := ⟨RX9, "read", "(LToOneCrumb$Text;I)Z"⟩
abbrev cX9_startTaking : ByteArray := prog_11_method_3_code
def yX9_startTaking : MethodName := ⟨RX9, "startTaking", "(LToOneCrumb$Worths;)V"⟩
abbrev cX9_takeAll : ByteArray := prog_11_method_4_code
def yX9_takeAll : MethodName := ⟨RX9, "takeAll", "(LToOneCrumb$Worths;)I"⟩
abbrev cX9_favourite : ByteArray := prog_11_method_5_code
def yX9_favourite : MethodName := ⟨RX9, "favourite", "(III)I"⟩
def RX10 : String := "ToOneCrumb$Worths"
def TX10 : u_T := fun k => match k with
  | 0 => ("ToOneCrumb$Worths", "each", "[I", true)
  | 1 => ("ToOneCrumb$Worths", "ahead", "[I", true)
  | _ => ("ToOneCrumb$Worths", "cells", "I", false)
def tyX10 : Nat → FieldType := fun k => match k with
  | 0 => .array .int
  | 1 => .array .int
  | _ => .int
abbrev wsX100 : List Cond := u_ws RX10 TX10 3
theorem nmX10 : ∀ a, a < 3 → ∀ b, b < 3 → a ≠ b → (TX10 a).2.1 ≠ (TX10 b).2.1 := by decide +kernel
theorem tyX10_ok : ∀ k, k < 3 → parseFieldDescriptor (TX10 k).2.2.1 = some (tyX10 k) := by decide +kernel
abbrev cX10_init : ByteArray := prog_12_method_1_code
def yX10_init : MethodName := ⟨RX10, "<init>", "()V"⟩
abbrev cX10_renew : ByteArray := prog_12_method_2_code
def yX10_renew : MethodName := ⟨RX10, "renew", "(LToOneCrumb$Rule;LToOneCrumb$Loaf;LToOneCrumb$Party;)V"⟩
abbrev cX10_of : ByteArray := prog_12_method_3_code
def yX10_of : MethodName := ⟨RX10, "of", "(II)I"⟩
abbrev cX10_between : ByteArray := prog_12_method_4_code
def yX10_between : MethodName := ⟨RX10, "between", "(III)I"⟩
abbrev cX10_whole : ByteArray := prog_12_method_5_code
def yX10_whole : MethodName := ⟨RX10, "whole", "(I)I"⟩
def RX11 : String := "ToOneCrumb"
def TX11 : u_T := fun k => match k with
  | 0 => ("ToOneCrumb", "text", "LToOneCrumb$Text;", true)
  | 1 => ("ToOneCrumb", "row", "LToOneCrumb$Row;", true)
  | 2 => ("ToOneCrumb", "party", "LToOneCrumb$Party;", true)
  | 3 => ("ToOneCrumb", "worths", "LToOneCrumb$Worths;", true)
  | 4 => ("ToOneCrumb", "board", "LToOneCrumb$Board;", true)
  | 5 => ("ToOneCrumb", "choices", "LToOneCrumb$Choices;", true)
  | 6 => ("ToOneCrumb", "placing", "LToOneCrumb$Placing;", true)
  | 7 => ("ToOneCrumb", "seating", "LToOneCrumb$Seating;", true)
  | 8 => ("ToOneCrumb", "turns", "LToOneCrumb$Turns;", true)
  | 9 => ("ToOneCrumb", "acts", "[I", true)
  | 10 => ("ToOneCrumb", "leasts", "[I", true)
  | 11 => ("ToOneCrumb", "bread", "LToOneCrumb$Loaf;", false)
  | 12 => ("ToOneCrumb", "dough", "LToOneCrumb$Loaf;", false)
  | 13 => ("ToOneCrumb", "law", "LToOneCrumb$Rule;", false)
  | 14 => ("ToOneCrumb", "bill", "LToOneCrumb$Rule;", false)
  | _ => ("ToOneCrumb", "actCount", "I", false)
def tyX11 : Nat → FieldType := fun k => match k with
  | 0 => .object "ToOneCrumb$Text"
  | 1 => .object "ToOneCrumb$Row"
  | 2 => .object "ToOneCrumb$Party"
  | 3 => .object "ToOneCrumb$Worths"
  | 4 => .object "ToOneCrumb$Board"
  | 5 => .object "ToOneCrumb$Choices"
  | 6 => .object "ToOneCrumb$Placing"
  | 7 => .object "ToOneCrumb$Seating"
  | 8 => .object "ToOneCrumb$Turns"
  | 9 => .array .int
  | 10 => .array .int
  | 11 => .object "ToOneCrumb$Loaf"
  | 12 => .object "ToOneCrumb$Loaf"
  | 13 => .object "ToOneCrumb$Rule"
  | 14 => .object "ToOneCrumb$Rule"
  | _ => .int
abbrev wsX110 : List Cond := u_ws RX11 TX11 16
theorem nmX11 : ∀ a, a < 16 → ∀ b, b < 16 → a ≠ b → (TX11 a).2.1 ≠ (TX11 b).2.1 := by decide +kernel
theorem tyX11_ok : ∀ k, k < 16 → parseFieldDescriptor (TX11 k).2.2.1 = some (tyX11 k) := by decide +kernel
abbrev cX11_init : ByteArray := prog_1_method_1_code
def yX11_init : MethodName := ⟨RX11, "<init>", "()V"⟩
abbrev cX11_sign : ByteArray := prog_1_method_2_code
def yX11_sign : MethodName := ⟨RX11, "sign", "(I)I"⟩
abbrev cX11_end : ByteArray := prog_1_method_3_code
def yX11_end : MethodName := ⟨RX11, "end", "(I)Z"⟩
abbrev cX11_loaf : ByteArray := prog_1_method_4_code
def yX11_loaf : MethodName := ⟨RX11, "loaf", "()I"⟩
abbrev cX11_guests : ByteArray := prog_1_method_5_code
def yX11_guests : MethodName := ⟨RX11, "guests", "()I"⟩
abbrev cX11_deeds : ByteArray := prog_1_method_6_code
def yX11_deeds : MethodName := ⟨RX11, "deeds", "()I"⟩
abbrev cX11_rule : ByteArray := prog_1_method_7_code
def yX11_rule : MethodName := ⟨RX11, "rule", "()I"⟩
abbrev cX11_cell : ByteArray := prog_1_method_8_code
def yX11_cell : MethodName := ⟨RX11, "cell", "(II)I"⟩
abbrev cX11_guest : ByteArray := prog_1_method_9_code
def yX11_guest : MethodName := ⟨RX11, "guest", "(II)I"⟩
abbrev cX11_worth : ByteArray := prog_1_method_10_code
def yX11_worth : MethodName := ⟨RX11, "worth", "(II)I"⟩
abbrev cX11_taste : ByteArray := prog_1_method_11_code
def yX11_taste : MethodName := ⟨RX11, "taste", "(III)I"⟩
abbrev cX11_sheet : ByteArray := prog_1_method_12_code
def yX11_sheet : MethodName := ⟨RX11, "sheet", "(IIII)I"⟩
abbrev cX11_give : ByteArray := prog_1_method_13_code
def yX11_give : MethodName := ⟨RX11, "give", "(III)I"⟩
abbrev cX11_back : ByteArray := prog_1_method_14_code
def yX11_back : MethodName := ⟨RX11, "back", "(II)I"⟩
abbrev cX11_mouse : ByteArray := prog_1_method_15_code
def yX11_mouse : MethodName := ⟨RX11, "mouse", "(I)I"⟩
abbrev cX11_supper : ByteArray := prog_1_method_16_code
def yX11_supper : MethodName := ⟨RX11, "supper", "()I"⟩
abbrev cX11_undo : ByteArray := prog_1_method_17_code
def yX11_undo : MethodName := ⟨RX11, "undo", "()I"⟩
abbrev cX11_seen : ByteArray := prog_1_method_18_code
def yX11_seen : MethodName := ⟨RX11, "seen", "(II)I"⟩
abbrev cX11_envy : ByteArray := prog_1_method_19_code
def yX11_envy : MethodName := ⟨RX11, "envy", "()I"⟩
abbrev cX11_wronged : ByteArray := prog_1_method_20_code
def yX11_wronged : MethodName := ⟨RX11, "wronged", "()I"⟩
abbrev cX11_happiest : ByteArray := prog_1_method_21_code
def yX11_happiest : MethodName := ⟨RX11, "happiest", "()I"⟩
abbrev cX11_pieces : ByteArray := prog_1_method_22_code
def yX11_pieces : MethodName := ⟨RX11, "pieces", "(I)I"⟩
abbrev cX11_trade : ByteArray := prog_1_method_23_code
def yX11_trade : MethodName := ⟨RX11, "trade", "(II)I"⟩
abbrev cX11_slices : ByteArray := prog_1_method_24_code
def yX11_slices : MethodName := ⟨RX11, "slices", "(I)I"⟩
abbrev cX11_quarrel : ByteArray := prog_1_method_25_code
def yX11_quarrel : MethodName := ⟨RX11, "quarrel", "()I"⟩
abbrev cX11_stretch : ByteArray := prog_1_method_26_code
def yX11_stretch : MethodName := ⟨RX11, "stretch", "()I"⟩
abbrev cX11_richest : ByteArray := prog_1_method_27_code
def yX11_richest : MethodName := ⟨RX11, "richest", "(II)I"⟩
abbrev cX11_parts : ByteArray := prog_1_method_28_code
def yX11_parts : MethodName := ⟨RX11, "parts", "(II)I"⟩
abbrev cX11_calm : ByteArray := prog_1_method_29_code
def yX11_calm : MethodName := ⟨RX11, "calm", "()I"⟩
abbrev cX11_cuts : ByteArray := prog_1_method_30_code
def yX11_cuts : MethodName := ⟨RX11, "cuts", "(II)I"⟩
abbrev cX11_byturns : ByteArray := prog_1_method_31_code
def yX11_byturns : MethodName := ⟨RX11, "byturns", "()I"⟩
abbrev cX11_lies : ByteArray := prog_1_method_32_code
def yX11_lies : MethodName := ⟨RX11, "lies", "(I)I"⟩
abbrev cX11_chose : ByteArray := prog_1_method_33_code
def yX11_chose : MethodName := ⟨RX11, "chose", "(II)I"⟩
abbrev cX11_forget : ByteArray := prog_1_method_34_code
def yX11_forget : MethodName := ⟨RX11, "forget", "()I"⟩
abbrev cX11_tastes : ByteArray := prog_1_method_35_code
def yX11_tastes : MethodName := ⟨RX11, "tastes", "(I)I"⟩
abbrev cX11_offer : ByteArray := prog_1_method_36_code
def yX11_offer : MethodName := ⟨RX11, "offer", "(I)I"⟩
abbrev cX11_claims : ByteArray := prog_1_method_37_code
def yX11_claims : MethodName := ⟨RX11, "claims", "()I"⟩
abbrev cX11_settle : ByteArray := prog_1_method_38_code
def yX11_settle : MethodName := ⟨RX11, "settle", "(II)I"⟩
abbrev cX11_nothing : ByteArray := prog_1_method_39_code
def yX11_nothing : MethodName := ⟨RX11, "nothing", "()I"⟩
abbrev cX11_ate : ByteArray := prog_1_method_40_code
def yX11_ate : MethodName := ⟨RX11, "ate", "(I)I"⟩
abbrev cX11_enough : ByteArray := prog_1_method_41_code
def yX11_enough : MethodName := ⟨RX11, "enough", "(II)I"⟩
abbrev cX11_wide : ByteArray := prog_1_method_42_code
def yX11_wide : MethodName := ⟨RX11, "wide", "(II)I"⟩
abbrev cX11_suppers : ByteArray := prog_1_method_43_code
def yX11_suppers : MethodName := ⟨RX11, "suppers", "(II)I"⟩
abbrev cX11_keep : ByteArray := prog_1_method_44_code
def yX11_keep : MethodName := ⟨RX11, "keep", "(I)Z"⟩
abbrev cX11_again : ByteArray := prog_1_method_45_code
def yX11_again : MethodName := ⟨RX11, "again", "(I)Z"⟩
abbrev cX11_count : ByteArray := prog_1_method_46_code
def yX11_count : MethodName := ⟨RX11, "count", "(I)I"⟩
abbrev cX11_row : ByteArray := prog_1_method_47_code
def yX11_row : MethodName := ⟨RX11, "row", "(I)J"⟩
abbrev cX11_isCell : ByteArray := prog_1_method_48_code
def yX11_isCell : MethodName := ⟨RX11, "isCell", "(I)Z"⟩
abbrev cX11_isGuest : ByteArray := prog_1_method_49_code
def yX11_isGuest : MethodName := ⟨RX11, "isGuest", "(I)Z"⟩
abbrev cX11_everyone : ByteArray := prog_1_method_50_code
def yX11_everyone : MethodName := ⟨RX11, "everyone", "()I"⟩
abbrev cX11_areGuests : ByteArray := prog_1_method_51_code
def yX11_areGuests : MethodName := ⟨RX11, "areGuests", "(I)Z"⟩
abbrev cX11_renewWorths : ByteArray := prog_1_method_52_code
def yX11_renewWorths : MethodName := ⟨RX11, "renewWorths", "()V"⟩
abbrev cX11_sheetEntry : ByteArray := prog_1_method_53_code
def yX11_sheetEntry : MethodName := ⟨RX11, "sheetEntry", "(II)I"⟩
abbrev cX11_cellsWith : ByteArray := prog_1_method_54_code
def yX11_cellsWith : MethodName := ⟨RX11, "cellsWith", "(I)I"⟩
abbrev cX11_worthHeld : ByteArray := prog_1_method_55_code
def yX11_worthHeld : MethodName := ⟨RX11, "worthHeld", "(II)I"⟩
abbrev cX11_hasDue : ByteArray := prog_1_method_56_code
def yX11_hasDue : MethodName := ⟨RX11, "hasDue", "(I)Z"⟩
abbrev cX11_remembered : ByteArray := prog_1_method_57_code
def yX11_remembered : MethodName := ⟨RX11, "remembered", "(JI)I"⟩
abbrev cX11_isSlice : ByteArray := prog_1_method_58_code
def yX11_isSlice : MethodName := ⟨RX11, "isSlice", "(II)Z"⟩
abbrev cX11_giveSlice : ByteArray := prog_1_method_59_code
def yX11_giveSlice : MethodName := ⟨RX11, "giveSlice", "(III)I"⟩
abbrev cX11_takeBack : ByteArray := prog_1_method_60_code
def yX11_takeBack : MethodName := ⟨RX11, "takeBack", "(II)I"⟩
abbrev cX11_feedMouse : ByteArray := prog_1_method_61_code
def yX11_feedMouse : MethodName := ⟨RX11, "feedMouse", "(I)I"⟩
abbrev cX11_readActs : ByteArray := prog_1_method_62_code
def yX11_readActs : MethodName := ⟨RX11, "readActs", "()Z"⟩
abbrev cX11_readAct : ByteArray := prog_1_method_63_code
def yX11_readAct : MethodName := ⟨RX11, "readAct", "(I)Z"⟩
abbrev cX11_doAct : ByteArray := prog_1_method_64_code
def yX11_doAct : MethodName := ⟨RX11, "doAct", "(I)I"⟩
abbrev cX11_jointGain : ByteArray := prog_1_method_65_code
def yX11_jointGain : MethodName := ⟨RX11, "jointGain", "(IIII)I"⟩
abbrev cX11_placeGuests : ByteArray := prog_1_method_66_code
def yX11_placeGuests : MethodName := ⟨RX11, "placeGuests", "(I)V"⟩
abbrev cX11_bestOfLeasts : ByteArray := prog_1_method_67_code
def yX11_bestOfLeasts : MethodName := ⟨RX11, "bestOfLeasts", "(II)I"⟩
abbrev cX11_hasByLie : ByteArray := prog_1_method_68_code
def yX11_hasByLie : MethodName := ⟨RX11, "hasByLie", "(III)I"⟩
def RX12 : String := "ToOneCrumbModel"
def TX12 : u_T := fun k => match k with
  | 0 => ("ToOneCrumbModel", "thrown", "I", false)
  | 1 => ("ToOneCrumbModel", "rows", "I", false)
  | 2 => ("ToOneCrumbModel", "row", "[J", true)
  | 3 => ("ToOneCrumbModel", "cells", "I", false)
  | 4 => ("ToOneCrumbModel", "guests", "I", false)
  | 5 => ("ToOneCrumbModel", "loaves", "I", false)
  | 6 => ("ToOneCrumbModel", "crumbs", "[I", true)
  | 7 => ("ToOneCrumbModel", "raisins", "[I", true)
  | 8 => ("ToOneCrumbModel", "crust", "[Z", true)
  | 9 => ("ToOneCrumbModel", "tastes", "[I", true)
  | 10 => ("ToOneCrumbModel", "deserts", "[I", true)
  | 11 => ("ToOneCrumbModel", "now", "[I", true)
  | 12 => ("ToOneCrumbModel", "tape", "[I", true)
  | 13 => ("ToOneCrumbModel", "taped", "I", false)
  | 14 => ("ToOneCrumbModel", "at", "I", false)
  | 15 => ("ToOneCrumbModel", "to", "I", false)
  | 16 => ("ToOneCrumbModel", "nest", "I", false)
  | 17 => ("ToOneCrumbModel", "readCrumbs", "[I", true)
  | 18 => ("ToOneCrumbModel", "readRaisins", "[I", true)
  | 19 => ("ToOneCrumbModel", "readCrust", "[Z", true)
  | 20 => ("ToOneCrumbModel", "readTastes", "[I", true)
  | 21 => ("ToOneCrumbModel", "readGuests", "I", false)
  | 22 => ("ToOneCrumbModel", "readDeserts", "[I", true)
  | 23 => ("ToOneCrumbModel", "code", "[I", true)
  | 24 => ("ToOneCrumbModel", "readCode", "[I", true)
  | 25 => ("ToOneCrumbModel", "codeLong", "I", false)
  | 26 => ("ToOneCrumbModel", "readLong", "I", false)
  | 27 => ("ToOneCrumbModel", "stack", "[I", true)
  | 28 => ("ToOneCrumbModel", "asked", "[I", true)
  | 29 => ("ToOneCrumbModel", "table", "[I", true)
  | 30 => ("ToOneCrumbModel", "whole", "[I", true)
  | 31 => ("ToOneCrumbModel", "undos", "I", false)
  | 32 => ("ToOneCrumbModel", "undone", "[I", true)
  | 33 => ("ToOneCrumbModel", "actSign", "[I", true)
  | 34 => ("ToOneCrumbModel", "actOne", "[I", true)
  | 35 => ("ToOneCrumbModel", "actFrom", "[I", true)
  | 36 => ("ToOneCrumbModel", "actLast", "[I", true)
  | 37 => ("ToOneCrumbModel", "acts", "I", false)
  | 38 => ("ToOneCrumbModel", "turn", "[I", true)
  | 39 => ("ToOneCrumbModel", "bestTurn", "[I", true)
  | 40 => ("ToOneCrumbModel", "bestCells", "I", false)
  | 41 => ("ToOneCrumbModel", "partEnd", "[I", true)
  | 42 => ("ToOneCrumbModel", "bestEnd", "[I", true)
  | 43 => ("ToOneCrumbModel", "bestLeast", "I", false)
  | 44 => ("ToOneCrumbModel", "whose", "[I", true)
  | 45 => ("ToOneCrumbModel", "firstWhose", "[I", true)
  | 46 => ("ToOneCrumbModel", "sliceWorth", "[I", true)
  | 47 => ("ToOneCrumbModel", "calmMany", "I", false)
  | 48 => ("ToOneCrumbModel", "turns", "[I", true)
  | 49 => ("ToOneCrumbModel", "turnMany", "I", false)
  | 50 => ("ToOneCrumbModel", "taken", "I", false)
  | 51 => ("ToOneCrumbModel", "picks", "[I", true)
  | 52 => ("ToOneCrumbModel", "has", "[I", true)
  | 53 => ("ToOneCrumbModel", "choices", "I", false)
  | 54 => ("ToOneCrumbModel", "choseOne", "[I", true)
  | 55 => ("ToOneCrumbModel", "choseOther", "[I", true)
  | 56 => ("ToOneCrumbModel", "thought", "[I", true)
  | 57 => ("ToOneCrumbModel", "byFirst", "[I", true)
  | 58 => ("ToOneCrumbModel", "bySecond", "[I", true)
  | 59 => ("ToOneCrumbModel", "claimWho", "[I", true)
  | 60 => ("ToOneCrumbModel", "claimed", "[I", true)
  | 61 => ("ToOneCrumbModel", "up", "J", false)
  | 62 => ("ToOneCrumbModel", "down", "J", false)
  | 63 => ("ToOneCrumbModel", "hadAll", "[I", true)
  | 64 => ("ToOneCrumbModel", "isKept", "[Z", true)
  | 65 => ("ToOneCrumbModel", "keptLoaves", "[I", true)
  | _ => ("ToOneCrumbModel", "kept", "[I", true)
def tyX12 : Nat → FieldType := fun k => match k with
  | 0 => .int
  | 1 => .int
  | 2 => .array .long
  | 3 => .int
  | 4 => .int
  | 5 => .int
  | 6 => .array .int
  | 7 => .array .int
  | 8 => .array .boolean
  | 9 => .array .int
  | 10 => .array .int
  | 11 => .array .int
  | 12 => .array .int
  | 13 => .int
  | 14 => .int
  | 15 => .int
  | 16 => .int
  | 17 => .array .int
  | 18 => .array .int
  | 19 => .array .boolean
  | 20 => .array .int
  | 21 => .int
  | 22 => .array .int
  | 23 => .array .int
  | 24 => .array .int
  | 25 => .int
  | 26 => .int
  | 27 => .array .int
  | 28 => .array .int
  | 29 => .array .int
  | 30 => .array .int
  | 31 => .int
  | 32 => .array .int
  | 33 => .array .int
  | 34 => .array .int
  | 35 => .array .int
  | 36 => .array .int
  | 37 => .int
  | 38 => .array .int
  | 39 => .array .int
  | 40 => .int
  | 41 => .array .int
  | 42 => .array .int
  | 43 => .int
  | 44 => .array .int
  | 45 => .array .int
  | 46 => .array .int
  | 47 => .int
  | 48 => .array .int
  | 49 => .int
  | 50 => .int
  | 51 => .array .int
  | 52 => .array .int
  | 53 => .int
  | 54 => .array .int
  | 55 => .array .int
  | 56 => .array .int
  | 57 => .array .int
  | 58 => .array .int
  | 59 => .array .int
  | 60 => .array .int
  | 61 => .long
  | 62 => .long
  | 63 => .array .int
  | 64 => .array .boolean
  | 65 => .array .int
  | _ => .array .int
abbrev wsX120 : List Cond := u_ws RX12 TX12 67
theorem nmX12 : ∀ a, a < 67 → ∀ b, b < 67 → a ≠ b → (TX12 a).2.1 ≠ (TX12 b).2.1 := by decide +kernel
theorem tyX12_ok : ∀ k, k < 67 → parseFieldDescriptor (TX12 k).2.2.1 = some (tyX12 k) := by decide +kernel
abbrev cX12_init : ByteArray := prog_14_method_1_code
def yX12_init : MethodName := ⟨RX12, "<init>", "()V"⟩
abbrev cX12_thrown : ByteArray := prog_14_method_2_code
def yX12_thrown : MethodName := ⟨RX12, "thrown", "()I"⟩
abbrev cX12_refuse : ByteArray := prog_14_method_3_code
def yX12_refuse : MethodName := ⟨RX12, "refuse", "()I"⟩
abbrev cX12_in : ByteArray := prog_14_method_4_code
def yX12_in : MethodName := ⟨RX12, "in", "(JJJ)Z"⟩
abbrev cX12_has : ByteArray := prog_14_method_5_code
def yX12_has : MethodName := ⟨RX12, "has", "(II)Z"⟩
abbrev cX12_flag : ByteArray := prog_14_method_6_code
def yX12_flag : MethodName := ⟨RX12, "flag", "(Z)I"⟩
abbrev cX12_common : ByteArray := prog_14_method_7_code
def yX12_common : MethodName := ⟨RX12, "common", "(JJ)J"⟩
abbrev cX12_enters : ByteArray := prog_14_method_8_code
def yX12_enters : MethodName := ⟨RX12, "enters", "(J)V"⟩
abbrev cX12_isCell : ByteArray := prog_14_method_9_code
def yX12_isCell : MethodName := ⟨RX12, "isCell", "(I)Z"⟩
abbrev cX12_isGuest : ByteArray := prog_14_method_10_code
def yX12_isGuest : MethodName := ⟨RX12, "isGuest", "(I)Z"⟩
abbrev cX12_all : ByteArray := prog_14_method_11_code
def yX12_all : MethodName := ⟨RX12, "all", "()I"⟩
abbrev cX12_isSlice : ByteArray := prog_14_method_12_code
def yX12_isSlice : MethodName := ⟨RX12, "isSlice", "(II)Z"⟩
abbrev cX12_sign : ByteArray := prog_14_method_13_code
def yX12_sign : MethodName := ⟨RX12, "sign", "(I)I"⟩
abbrev cX12_end : ByteArray := prog_14_method_14_code
def yX12_end : MethodName := ⟨RX12, "end", "(I)Z"⟩
abbrev cX12_begins : ByteArray := prog_14_method_15_code
def yX12_begins : MethodName := ⟨RX12, "begins", "(I)I"⟩
abbrev cX12_takes : ByteArray := prog_14_method_16_code
def yX12_takes : MethodName := ⟨RX12, "takes", "(I)Z"⟩
abbrev cX12_isDigit : ByteArray := prog_14_method_17_code
def yX12_isDigit : MethodName := ⟨RX12, "isDigit", "()Z"⟩
abbrev cX12_among : ByteArray := prog_14_method_18_code
def yX12_among : MethodName := ⟨RX12, "among", "(Ljava/lang/String;)I"⟩
abbrev cX12_takesOf : ByteArray := prog_14_method_19_code
def yX12_takesOf : MethodName := ⟨RX12, "takesOf", "(Ljava/lang/String;)I"⟩
abbrev cX12_number : ByteArray := prog_14_method_20_code
def yX12_number : MethodName := ⟨RX12, "number", "(I)I"⟩
abbrev cX12_letter : ByteArray := prog_14_method_21_code
def yX12_letter : MethodName := ⟨RX12, "letter", "(I)I"⟩
abbrev cX12_faultOf : ByteArray := prog_14_method_22_code
def yX12_faultOf : MethodName := ⟨RX12, "faultOf", "(IIZ)I"⟩
abbrev cX12_loaf : ByteArray := prog_14_method_23_code
def yX12_loaf : MethodName := ⟨RX12, "loaf", "()I"⟩
abbrev cX12_readsGuest : ByteArray := prog_14_method_24_code
def yX12_readsGuest : MethodName := ⟨RX12, "readsGuest", "()Z"⟩
abbrev cX12_guests : ByteArray := prog_14_method_25_code
def yX12_guests : MethodName := ⟨RX12, "guests", "()I"⟩
abbrev cX12_readsDeed : ByteArray := prog_14_method_26_code
def yX12_readsDeed : MethodName := ⟨RX12, "readsDeed", "()Z"⟩
abbrev cX12_allDeserts : ByteArray := prog_14_method_27_code
def yX12_allDeserts : MethodName := ⟨RX12, "allDeserts", "()I"⟩
abbrev cX12_deeds : ByteArray := prog_14_method_28_code
def yX12_deeds : MethodName := ⟨RX12, "deeds", "()I"⟩
abbrev cX12_codes : ByteArray := prog_14_method_29_code
def yX12_codes : MethodName := ⟨RX12, "codes", "(I)V"⟩
abbrev cX12_readsThing : ByteArray := prog_14_method_30_code
def yX12_readsThing : MethodName := ⟨RX12, "readsThing", "()Z"⟩
abbrev cX12_readsRank : ByteArray := prog_14_method_31_code
def yX12_readsRank : MethodName := ⟨RX12, "readsRank", "(I)Z"⟩
abbrev cX12_rule : ByteArray := prog_14_method_32_code
def yX12_rule : MethodName := ⟨RX12, "rule", "()I"⟩
abbrev cX12_worked : ByteArray := prog_14_method_33_code
def yX12_worked : MethodName := ⟨RX12, "worked", "(III)I"⟩
abbrev cX12_ruled : ByteArray := prog_14_method_34_code
def yX12_ruled : MethodName := ⟨RX12, "ruled", "()I"⟩
abbrev cX12_worthBy : ByteArray := prog_14_method_35_code
def yX12_worthBy : MethodName := ⟨RX12, "worthBy", "(IIIII)I"⟩
abbrev cX12_worthOf : ByteArray := prog_14_method_36_code
def yX12_worthOf : MethodName := ⟨RX12, "worthOf", "(II)I"⟩
abbrev cX12_laysTable : ByteArray := prog_14_method_37_code
def yX12_laysTable : MethodName := ⟨RX12, "laysTable", "()V"⟩
abbrev cX12_held : ByteArray := prog_14_method_38_code
def yX12_held : MethodName := ⟨RX12, "held", "(II)I"⟩
abbrev cX12_isDue : ByteArray := prog_14_method_39_code
def yX12_isDue : MethodName := ⟨RX12, "isDue", "(IJI)Z"⟩
abbrev cX12_holds : ByteArray := prog_14_method_40_code
def yX12_holds : MethodName := ⟨RX12, "holds", "(I)I"⟩
abbrev cX12_cell : ByteArray := prog_14_method_41_code
def yX12_cell : MethodName := ⟨RX12, "cell", "(II)I"⟩
abbrev cX12_guest : ByteArray := prog_14_method_42_code
def yX12_guest : MethodName := ⟨RX12, "guest", "(II)I"⟩
abbrev cX12_worth : ByteArray := prog_14_method_43_code
def yX12_worth : MethodName := ⟨RX12, "worth", "(II)I"⟩
abbrev cX12_taste : ByteArray := prog_14_method_44_code
def yX12_taste : MethodName := ⟨RX12, "taste", "(III)I"⟩
abbrev cX12_sheet : ByteArray := prog_14_method_45_code
def yX12_sheet : MethodName := ⟨RX12, "sheet", "(IIII)I"⟩
abbrev cX12_putsBy : ByteArray := prog_14_method_46_code
def yX12_putsBy : MethodName := ⟨RX12, "putsBy", "()V"⟩
abbrev cX12_adds : ByteArray := prog_14_method_47_code
def yX12_adds : MethodName := ⟨RX12, "adds", "(I)I"⟩
abbrev cX12_counts : ByteArray := prog_14_method_48_code
def yX12_counts : MethodName := ⟨RX12, "counts", "(I)I"⟩
abbrev cX12_undo : ByteArray := prog_14_method_49_code
def yX12_undo : MethodName := ⟨RX12, "undo", "()I"⟩
abbrev cX12_gives : ByteArray := prog_14_method_50_code
def yX12_gives : MethodName := ⟨RX12, "gives", "(III)I"⟩
abbrev cX12_backs : ByteArray := prog_14_method_51_code
def yX12_backs : MethodName := ⟨RX12, "backs", "(II)I"⟩
abbrev cX12_eats : ByteArray := prog_14_method_52_code
def yX12_eats : MethodName := ⟨RX12, "eats", "(I)I"⟩
abbrev cX12_give : ByteArray := prog_14_method_53_code
def yX12_give : MethodName := ⟨RX12, "give", "(III)I"⟩
abbrev cX12_back : ByteArray := prog_14_method_54_code
def yX12_back : MethodName := ⟨RX12, "back", "(II)I"⟩
abbrev cX12_mouse : ByteArray := prog_14_method_55_code
def yX12_mouse : MethodName := ⟨RX12, "mouse", "(I)I"⟩
abbrev cX12_readsAct : ByteArray := prog_14_method_56_code
def yX12_readsAct : MethodName := ⟨RX12, "readsAct", "()Z"⟩
abbrev cX12_does : ByteArray := prog_14_method_57_code
def yX12_does : MethodName := ⟨RX12, "does", "(I)Z"⟩
abbrev cX12_supper : ByteArray := prog_14_method_58_code
def yX12_supper : MethodName := ⟨RX12, "supper", "()I"⟩
abbrev cX12_seen : ByteArray := prog_14_method_59_code
def yX12_seen : MethodName := ⟨RX12, "seen", "(II)I"⟩
abbrev cX12_envy : ByteArray := prog_14_method_60_code
def yX12_envy : MethodName := ⟨RX12, "envy", "()I"⟩
abbrev cX12_wronged : ByteArray := prog_14_method_61_code
def yX12_wronged : MethodName := ⟨RX12, "wronged", "()I"⟩
abbrev cX12_happiest : ByteArray := prog_14_method_62_code
def yX12_happiest : MethodName := ⟨RX12, "happiest", "()I"⟩
abbrev cX12_pieces : ByteArray := prog_14_method_63_code
def yX12_pieces : MethodName := ⟨RX12, "pieces", "(I)I"⟩
abbrev cX12_trade : ByteArray := prog_14_method_64_code
def yX12_trade : MethodName := ⟨RX12, "trade", "(II)I"⟩
abbrev cX12_endFor : ByteArray := prog_14_method_65_code
def yX12_endFor : MethodName := ⟨RX12, "endFor", "(III)I"⟩
abbrev cX12_isTurnLess : ByteArray := prog_14_method_66_code
def yX12_isTurnLess : MethodName := ⟨RX12, "isTurnLess", "(I)Z"⟩
abbrev cX12_serves : ByteArray := prog_14_method_67_code
def yX12_serves : MethodName := ⟨RX12, "serves", "(IIII)V"⟩
abbrev cX12_canServe : ByteArray := prog_14_method_68_code
def yX12_canServe : MethodName := ⟨RX12, "canServe", "(II)Z"⟩
abbrev cX12_slices : ByteArray := prog_14_method_69_code
def yX12_slices : MethodName := ⟨RX12, "slices", "(I)I"⟩
abbrev cX12_quarrel : ByteArray := prog_14_method_70_code
def yX12_quarrel : MethodName := ⟨RX12, "quarrel", "()I"⟩
abbrev cX12_stretch : ByteArray := prog_14_method_71_code
def yX12_stretch : MethodName := ⟨RX12, "stretch", "()I"⟩
abbrev cX12_sliceOf : ByteArray := prog_14_method_72_code
def yX12_sliceOf : MethodName := ⟨RX12, "sliceOf", "(III)I"⟩
abbrev cX12_richest : ByteArray := prog_14_method_73_code
def yX12_richest : MethodName := ⟨RX12, "richest", "(II)I"⟩
abbrev cX12_partsOn : ByteArray := prog_14_method_74_code
def yX12_partsOn : MethodName := ⟨RX12, "partsOn", "(IIIII)V"⟩
abbrev cX12_parts : ByteArray := prog_14_method_75_code
def yX12_parts : MethodName := ⟨RX12, "parts", "(II)I"⟩
abbrev cX12_isCalm : ByteArray := prog_14_method_76_code
def yX12_isCalm : MethodName := ⟨RX12, "isCalm", "()Z"⟩
abbrev cX12_goesTo : ByteArray := prog_14_method_77_code
def yX12_goesTo : MethodName := ⟨RX12, "goesTo", "(III)V"⟩
abbrev cX12_calmsFrom : ByteArray := prog_14_method_78_code
def yX12_calmsFrom : MethodName := ⟨RX12, "calmsFrom", "(II)V"⟩
abbrev cX12_calm : ByteArray := prog_14_method_79_code
def yX12_calm : MethodName := ⟨RX12, "calm", "()I"⟩
abbrev cX12_cuts : ByteArray := prog_14_method_80_code
def yX12_cuts : MethodName := ⟨RX12, "cuts", "(II)I"⟩
abbrev cX12_readsTurns : ByteArray := prog_14_method_81_code
def yX12_readsTurns : MethodName := ⟨RX12, "readsTurns", "()I"⟩
abbrev cX12_picksAsWorth : ByteArray := prog_14_method_82_code
def yX12_picksAsWorth : MethodName := ⟨RX12, "picksAsWorth", "()V"⟩
abbrev cX12_goesByTurns : ByteArray := prog_14_method_83_code
def yX12_goesByTurns : MethodName := ⟨RX12, "goesByTurns", "()V"⟩
abbrev cX12_byturns : ByteArray := prog_14_method_84_code
def yX12_byturns : MethodName := ⟨RX12, "byturns", "()I"⟩
abbrev cX12_lies : ByteArray := prog_14_method_85_code
def yX12_lies : MethodName := ⟨RX12, "lies", "(I)I"⟩
abbrev cX12_chose : ByteArray := prog_14_method_86_code
def yX12_chose : MethodName := ⟨RX12, "chose", "(II)I"⟩
abbrev cX12_forget : ByteArray := prog_14_method_87_code
def yX12_forget : MethodName := ⟨RX12, "forget", "()I"⟩
abbrev cX12_fitsBy : ByteArray := prog_14_method_88_code
def yX12_fitsBy : MethodName := ⟨RX12, "fitsBy", "(IIII)Z"⟩
abbrev cX12_tastes : ByteArray := prog_14_method_89_code
def yX12_tastes : MethodName := ⟨RX12, "tastes", "(I)I"⟩
abbrev cX12_offer : ByteArray := prog_14_method_90_code
def yX12_offer : MethodName := ⟨RX12, "offer", "(I)I"⟩
abbrev cX12_meets : ByteArray := prog_14_method_91_code
def yX12_meets : MethodName := ⟨RX12, "meets", "(II)V"⟩
abbrev cX12_claims : ByteArray := prog_14_method_92_code
def yX12_claims : MethodName := ⟨RX12, "claims", "()I"⟩
abbrev cX12_settle : ByteArray := prog_14_method_93_code
def yX12_settle : MethodName := ⟨RX12, "settle", "(II)I"⟩
abbrev cX12_crumbsAll : ByteArray := prog_14_method_94_code
def yX12_crumbsAll : MethodName := ⟨RX12, "crumbsAll", "()I"⟩
abbrev cX12_nothing : ByteArray := prog_14_method_95_code
def yX12_nothing : MethodName := ⟨RX12, "nothing", "()I"⟩
abbrev cX12_desertsOf : ByteArray := prog_14_method_96_code
def yX12_desertsOf : MethodName := ⟨RX12, "desertsOf", "(I)I"⟩
abbrev cX12_ate : ByteArray := prog_14_method_97_code
def yX12_ate : MethodName := ⟨RX12, "ate", "(I)I"⟩
abbrev cX12_bets : ByteArray := prog_14_method_98_code
def yX12_bets : MethodName := ⟨RX12, "bets", "(II)V"⟩
abbrev cX12_enough : ByteArray := prog_14_method_99_code
def yX12_enough : MethodName := ⟨RX12, "enough", "(II)I"⟩
abbrev cX12_wide : ByteArray := prog_14_method_100_code
def yX12_wide : MethodName := ⟨RX12, "wide", "(II)I"⟩
abbrev cX12_suppers : ByteArray := prog_14_method_101_code
def yX12_suppers : MethodName := ⟨RX12, "suppers", "(II)I"⟩
abbrev cX12_keep : ByteArray := prog_14_method_102_code
def yX12_keep : MethodName := ⟨RX12, "keep", "(I)Z"⟩
abbrev cX12_again : ByteArray := prog_14_method_103_code
def yX12_again : MethodName := ⟨RX12, "again", "(I)Z"⟩
abbrev cX12_count : ByteArray := prog_14_method_104_code
def yX12_count : MethodName := ⟨RX12, "count", "(I)I"⟩
abbrev cX12_row : ByteArray := prog_14_method_105_code
def yX12_row : MethodName := ⟨RX12, "row", "(I)J"⟩
def RJx145de : String := "java/io/Serializable"
def TJx145de : u_T := fun k => match k with
  | _ => ("", "", "", false)
def tyJx145de : Nat → FieldType := fun k => match k with
  | _ => .int
def RJx9f9b0 : String := "java/lang/CharSequence"
def TJx9f9b0 : u_T := fun k => match k with
  | _ => ("", "", "", false)
def tyJx9f9b0 : Nat → FieldType := fun k => match k with
  | _ => .int
def RJxb160c : String := "java/lang/Comparable"
def TJxb160c : u_T := fun k => match k with
  | _ => ("", "", "", false)
def tyJxb160c : Nat → FieldType := fun k => match k with
  | _ => .int
def RJ6 : String := "java/lang/Integer"
def TJ6 : u_T := fun k => match k with
  | _ => ("", "", "", false)
def tyJ6 : Nat → FieldType := fun k => match k with
  | _ => .int
abbrev cJ6_bitCount_0f7a4 : ByteArray := prog_19_method_49_code
def yJ6_bitCount_0f7a4 : MethodName := ⟨RJ6, "bitCount", "(I)I"⟩
def RJ9 : String := "java/lang/Math"
def TJ9 : u_T := fun k => match k with
  | _ => ("", "", "", false)
def tyJ9 : Nat → FieldType := fun k => match k with
  | _ => .int
abbrev cJ9_abs_0f7a4 : ByteArray := prog_20_method_59_code
def yJ9_abs_0f7a4 : MethodName := ⟨RJ9, "abs", "(I)I"⟩
abbrev cJ9_max_7cf53 : ByteArray := prog_20_method_65_code
def yJ9_max_7cf53 : MethodName := ⟨RJ9, "max", "(II)I"⟩
abbrev cJ9_min_7cf53 : ByteArray := prog_20_method_69_code
def yJ9_min_7cf53 : MethodName := ⟨RJ9, "min", "(II)I"⟩
def RJ0 : String := "java/lang/String"
def TJ0 : u_T := fun k => match k with
  | _ => ("", "", "", false)
def tyJ0 : Nat → FieldType := fun k => match k with
  | _ => .int
abbrev cJ0_length_8abf5 : ByteArray := prog_22_method_54_code
def yJ0_length_8abf5 : MethodName := ⟨RJ0, "length", "()I"⟩
abbrev cJ0_charAt_5068e : ByteArray := prog_22_method_56_code
def yJ0_charAt_5068e : MethodName := ⟨RJ0, "charAt", "(I)C"⟩
abbrev cJ0_coder_7d493 : ByteArray := prog_22_method_152_code
def yJ0_coder_7d493 : MethodName := ⟨RJ0, "coder", "()B"⟩
abbrev cJ0_isLatin1_aae02 : ByteArray := prog_22_method_154_code
def yJ0_isLatin1_aae02 : MethodName := ⟨RJ0, "isLatin1", "()Z"⟩
abbrev cJ0_checkIndex_df160 : ByteArray := prog_22_method_155_code
def yJ0_checkIndex_df160 : MethodName := ⟨RJ0, "checkIndex", "(II)V"⟩
def RJ1 : String := "java/lang/StringLatin1"
def TJ1 : u_T := fun k => match k with
  | _ => ("", "", "", false)
def tyJ1 : Nat → FieldType := fun k => match k with
  | _ => .int
abbrev cJ1_charAt_3b067 : ByteArray := prog_23_method_2_code
def yJ1_charAt_3b067 : MethodName := ⟨RJ1, "charAt", "([BI)C"⟩
def RJ2 : String := "java/lang/StringUTF16"
def TJ2 : u_T := fun k => match k with
  | _ => ("", "", "", false)
def tyJ2 : Nat → FieldType := fun k => match k with
  | _ => .int
abbrev cJ2_getChar_3b067 : ByteArray := prog_24_method_5_code
def yJ2_getChar_3b067 : MethodName := ⟨RJ2, "getChar", "([BI)C"⟩
abbrev cJ2_length_9d52b : ByteArray := prog_24_method_6_code
def yJ2_length_9d52b : MethodName := ⟨RJ2, "length", "([B)I"⟩
abbrev cJ2_charAt_3b067 : ByteArray := prog_24_method_83_code
def yJ2_charAt_3b067 : MethodName := ⟨RJ2, "charAt", "([BI)C"⟩
abbrev cJ2_checkIndex_2214a : ByteArray := prog_24_method_91_code
def yJ2_checkIndex_2214a : MethodName := ⟨RJ2, "checkIndex", "(I[B)V"⟩
def RJ10 : String := "java/lang/System"
def TJ10 : u_T := fun k => match k with
  | _ => ("", "", "", false)
def tyJ10 : Nat → FieldType := fun k => match k with
  | _ => .int
def RJxfd54e : String := "java/lang/constant/Constable"
def TJxfd54e : u_T := fun k => match k with
  | _ => ("", "", "", false)
def tyJxfd54e : Nat → FieldType := fun k => match k with
  | _ => .int
def RJx3cf43 : String := "java/lang/constant/ConstantDesc"
def TJx3cf43 : u_T := fun k => match k with
  | _ => ("", "", "", false)
def tyJx3cf43 : Nat → FieldType := fun k => match k with
  | _ => .int
def RJ7 : String := "java/util/Arrays"
def TJ7 : u_T := fun k => match k with
  | _ => ("", "", "", false)
def tyJ7 : Nat → FieldType := fun k => match k with
  | _ => .int
abbrev cJ7_fill_53178 : ByteArray := prog_29_method_103_code
def yJ7_fill_53178 : MethodName := ⟨RJ7, "fill", "([II)V"⟩
def RJ3 : String := "jdk/internal/util/Preconditions"
def TJ3 : u_T := fun k => match k with
  | _ => ("", "", "", false)
def tyJ3 : Nat → FieldType := fun k => match k with
  | _ => .int
abbrev cJ3_checkIndex_8e157 : ByteArray := prog_31_method_11_code
def yJ3_checkIndex_8e157 : MethodName := ⟨RJ3, "checkIndex", "(IILjava/util/function/BiFunction;)I"⟩
def RL : String := "ToOneCrumbLaw"
abbrev cL_cell : ByteArray := method_3_code
def yL_cell : MethodName := ⟨RL, "cell", "(LToOneCrumb;II[J)I"⟩
abbrev cL_guest : ByteArray := method_4_code
def yL_guest : MethodName := ⟨RL, "guest", "(LToOneCrumb;II[J)I"⟩
abbrev cL_row : ByteArray := method_5_code
def yL_row : MethodName := ⟨RL, "row", "(LToOneCrumb;I[J)I"⟩
abbrev cL_law : ByteArray := code
def yL_law : MethodName := ⟨RL, "law", "([I)Z"⟩
abbrev vwCl : List vw_C := [(RX0, TX0, 5), (RX1, TX1, 8), (RX2, TX2, 4), (RX3, TX3, 4), (RX4, TX4, 8), (RX5, TX5, 2), (RX6, TX6, 8), (RX7, TX7, 7), (RX8, TX8, 4), (RX9, TX9, 4), (RX10, TX10, 3), (RX11, TX11, 16), (RX12, TX12, 67)]
/-! the world: a thing a place: (0, the number of its kind in vwCl, its fields: 0 an int, 1 a long, k + 2 the thing at place k), (1, n, []) n ints, (2, n, []) n longs, (3, n, []) n booleans -/
def zq_S : List (Nat × Nat × List Nat) := [(0, 11, [3, 5, 7, 11, 14, 17, 24, 31, 36, 40, 41, 42, 46, 50, 54, 0]), (0, 8, [4, 0, 0, 0]), (1, 80, []), (0, 5, [6, 0]), (2, 16, []), (0, 3, [8, 9, 10, 0]), (1, 18, []), (1, 6, []), (1, 6, []), (0, 10, [12, 13, 0]), (1, 96, []), (1, 102, []), (0, 0, [15, 16, 1, 0, 0]), (2, 15, []), (2, 3, []), (0, 1, [18, 19, 20, 21, 22, 23, 0, 0]), (1, 12, []), (1, 12, []), (1, 3, []), (1, 3, []), (1, 16, []), (1, 256, []), (0, 4, [25, 26, 27, 28, 29, 30, 0, 0]), (1, 6, []), (2, 6, []), (2, 6, []), (1, 102, []), (1, 64, []), (1, 6, []), (0, 7, [32, 33, 34, 35, 0, 0, 0]), (1, 4, []), (1, 4, []), (1, 16, []), (1, 16, []), (0, 9, [37, 38, 39, 0]), (1, 16, []), (1, 96, []), (1, 6, []), (1, 80, []), (1, 17, []), (0, 2, [43, 44, 45, 0]), (1, 16, []), (1, 16, []), (1, 16, []), (0, 2, [47, 48, 49, 0]), (1, 16, []), (1, 16, []), (1, 16, []), (0, 6, [51, 52, 53, 0, 0, 0, 0, 0]), (1, 40, []), (1, 40, []), (1, 40, []), (0, 6, [55, 56, 57, 0, 0, 0, 0, 0]), (1, 40, []), (1, 40, []), (1, 40, []), (0, 12, [0, 0, 59, 0, 0, 0, 60, 61, 62, 63, 64, 65, 66, 0, 0, 0, 0, 67, 68, 69, 70, 0, 71, 72, 73, 0, 0, 74, 75, 76, 77, 0, 78, 79, 80, 81, 82, 0, 83, 84, 0, 85, 86, 0, 87, 88, 89, 0, 90, 0, 0, 91, 92, 0, 93, 94, 95, 96, 97, 98, 99, 1, 1, 100, 101, 102, 103]), (2, 24, []), (1, 16, []), (1, 16, []), (3, 16, []), (1, 18, []), (1, 6, []), (1, 16, []), (1, 80, []), (1, 16, []), (1, 16, []), (3, 16, []), (1, 18, []), (1, 6, []), (1, 80, []), (1, 80, []), (1, 80, []), (1, 9, []), (1, 96, []), (1, 6, []), (1, 256, []), (1, 60, []), (1, 60, []), (1, 60, []), (1, 60, []), (1, 12, []), (1, 12, []), (1, 6, []), (1, 6, []), (1, 16, []), (1, 16, []), (1, 36, []), (1, 16, []), (1, 96, []), (1, 6, []), (1, 12, []), (1, 12, []), (1, 16, []), (1, 256, []), (1, 256, []), (1, 6, []), (1, 6, []), (1, 6, []), (3, 3, []), (1, 3, []), (1, 48, []), (2, 1, [])]
