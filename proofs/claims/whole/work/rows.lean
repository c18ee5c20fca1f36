section
-- ===== PART A: goes FIRST, ahead of the names: the tables' words, and 'selects' of the private methods out of them =====
/-- a private method of a class that the tables say can be made, by its rows of tables_1 -/
def lw_okq (q : MethodName × Nat) : Prop := (q.1.cls ≠ "java/lang/invoke/MethodHandle" ∧ q.1.cls ≠ "java/lang/invoke/VarHandle") ∧ Cond.instantiable q.1.cls q.2 ∈ tables_1 ∧ Cond.privateMethod q.1 ∈ tables_1 ∧ Cond.instanceMethod q.1 ∈ tables_1
theorem lw_p0 : lw_okq (⟨"ToOneCrumb", "renewWorths", "()V"⟩, 16) := ⟨⟨by decide +kernel, by decide +kernel⟩, List.mem_of_getElem? (i := 27) (by decide +kernel), List.mem_of_getElem? (i := 430) (by decide +kernel), List.mem_of_getElem? (i := 431) (by decide +kernel)⟩
theorem lw_p1 : lw_okq (⟨"ToOneCrumb$Rule", "walk", "(LToOneCrumb$Loaf;II[II)I"⟩, 8) := ⟨⟨by decide +kernel, by decide +kernel⟩, List.mem_of_getElem? (i := 287) (by decide +kernel), List.mem_of_getElem? (i := 442) (by decide +kernel), List.mem_of_getElem? (i := 443) (by decide +kernel)⟩
theorem lw_p2 : lw_okq (⟨"ToOneCrumb$Party", "readDeed", "(LToOneCrumb$Text;)Z"⟩, 4) := ⟨⟨by decide +kernel, by decide +kernel⟩, List.mem_of_getElem? (i := 72) (by decide +kernel), List.mem_of_getElem? (i := 486) (by decide +kernel), List.mem_of_getElem? (i := 487) (by decide +kernel)⟩
theorem lw_p3 : lw_okq (⟨"ToOneCrumb$Rule", "readThing", "(LToOneCrumb$Text;)Z"⟩, 8) := ⟨⟨by decide +kernel, by decide +kernel⟩, List.mem_of_getElem? (i := 287) (by decide +kernel), List.mem_of_getElem? (i := 516) (by decide +kernel), List.mem_of_getElem? (i := 517) (by decide +kernel)⟩
theorem lw_p4 : lw_okq (⟨"ToOneCrumb$Rule", "addStep", "(I)V"⟩, 8) := ⟨⟨by decide +kernel, by decide +kernel⟩, List.mem_of_getElem? (i := 287) (by decide +kernel), List.mem_of_getElem? (i := 525) (by decide +kernel), List.mem_of_getElem? (i := 526) (by decide +kernel)⟩
theorem lw_p5 : lw_okq (⟨"ToOneCrumb$Rule", "hold", "(I)V"⟩, 8) := ⟨⟨by decide +kernel, by decide +kernel⟩, List.mem_of_getElem? (i := 287) (by decide +kernel), List.mem_of_getElem? (i := 529) (by decide +kernel), List.mem_of_getElem? (i := 530) (by decide +kernel)⟩
theorem lw_p6 : lw_okq (⟨"ToOneCrumb$Rule", "readJoint", "(LToOneCrumb$Text;)Z"⟩, 8) := ⟨⟨by decide +kernel, by decide +kernel⟩, List.mem_of_getElem? (i := 287) (by decide +kernel), List.mem_of_getElem? (i := 537) (by decide +kernel), List.mem_of_getElem? (i := 538) (by decide +kernel)⟩
theorem lw_p7 : lw_okq (⟨"ToOneCrumb$Rule", "release", "(I)V"⟩, 8) := ⟨⟨by decide +kernel, by decide +kernel⟩, List.mem_of_getElem? (i := 287) (by decide +kernel), List.mem_of_getElem? (i := 541) (by decide +kernel), List.mem_of_getElem? (i := 542) (by decide +kernel)⟩
theorem lw_p8 : lw_okq (⟨"ToOneCrumb", "isGuest", "(I)Z"⟩, 16) := ⟨⟨by decide +kernel, by decide +kernel⟩, List.mem_of_getElem? (i := 27) (by decide +kernel), List.mem_of_getElem? (i := 549) (by decide +kernel), List.mem_of_getElem? (i := 550) (by decide +kernel)⟩
theorem lw_p9 : lw_okq (⟨"ToOneCrumb", "isCell", "(I)Z"⟩, 16) := ⟨⟨by decide +kernel, by decide +kernel⟩, List.mem_of_getElem? (i := 27) (by decide +kernel), List.mem_of_getElem? (i := 553) (by decide +kernel), List.mem_of_getElem? (i := 554) (by decide +kernel)⟩
theorem lw_p10 : lw_okq (⟨"ToOneCrumb", "giveSlice", "(III)I"⟩, 16) := ⟨⟨by decide +kernel, by decide +kernel⟩, List.mem_of_getElem? (i := 27) (by decide +kernel), List.mem_of_getElem? (i := 582) (by decide +kernel), List.mem_of_getElem? (i := 583) (by decide +kernel)⟩
theorem lw_p11 : lw_okq (⟨"ToOneCrumb", "isSlice", "(II)Z"⟩, 16) := ⟨⟨by decide +kernel, by decide +kernel⟩, List.mem_of_getElem? (i := 27) (by decide +kernel), List.mem_of_getElem? (i := 586) (by decide +kernel), List.mem_of_getElem? (i := 587) (by decide +kernel)⟩
theorem lw_p12 : lw_okq (⟨"ToOneCrumb", "remembered", "(JI)I"⟩, 16) := ⟨⟨by decide +kernel, by decide +kernel⟩, List.mem_of_getElem? (i := 27) (by decide +kernel), List.mem_of_getElem? (i := 604) (by decide +kernel), List.mem_of_getElem? (i := 605) (by decide +kernel)⟩
theorem lw_p13 : lw_okq (⟨"ToOneCrumb", "takeBack", "(II)I"⟩, 16) := ⟨⟨by decide +kernel, by decide +kernel⟩, List.mem_of_getElem? (i := 27) (by decide +kernel), List.mem_of_getElem? (i := 619) (by decide +kernel), List.mem_of_getElem? (i := 620) (by decide +kernel)⟩
theorem lw_p14 : lw_okq (⟨"ToOneCrumb", "feedMouse", "(I)I"⟩, 16) := ⟨⟨by decide +kernel, by decide +kernel⟩, List.mem_of_getElem? (i := 27) (by decide +kernel), List.mem_of_getElem? (i := 627) (by decide +kernel), List.mem_of_getElem? (i := 628) (by decide +kernel)⟩
theorem lw_p15 : lw_okq (⟨"ToOneCrumb", "readActs", "()Z"⟩, 16) := ⟨⟨by decide +kernel, by decide +kernel⟩, List.mem_of_getElem? (i := 27) (by decide +kernel), List.mem_of_getElem? (i := 635) (by decide +kernel), List.mem_of_getElem? (i := 636) (by decide +kernel)⟩
def lw_privs_1 : List (MethodName × Nat) := [(⟨"ToOneCrumb", "renewWorths", "()V"⟩, 16), (⟨"ToOneCrumb$Rule", "walk", "(LToOneCrumb$Loaf;II[II)I"⟩, 8), (⟨"ToOneCrumb$Party", "readDeed", "(LToOneCrumb$Text;)Z"⟩, 4), (⟨"ToOneCrumb$Rule", "readThing", "(LToOneCrumb$Text;)Z"⟩, 8), (⟨"ToOneCrumb$Rule", "addStep", "(I)V"⟩, 8), (⟨"ToOneCrumb$Rule", "hold", "(I)V"⟩, 8), (⟨"ToOneCrumb$Rule", "readJoint", "(LToOneCrumb$Text;)Z"⟩, 8), (⟨"ToOneCrumb$Rule", "release", "(I)V"⟩, 8), (⟨"ToOneCrumb", "isGuest", "(I)Z"⟩, 16), (⟨"ToOneCrumb", "isCell", "(I)Z"⟩, 16), (⟨"ToOneCrumb", "giveSlice", "(III)I"⟩, 16), (⟨"ToOneCrumb", "isSlice", "(II)Z"⟩, 16), (⟨"ToOneCrumb", "remembered", "(JI)I"⟩, 16), (⟨"ToOneCrumb", "takeBack", "(II)I"⟩, 16), (⟨"ToOneCrumb", "feedMouse", "(I)I"⟩, 16), (⟨"ToOneCrumb", "readActs", "()Z"⟩, 16)]
theorem lw_r1 : ∀ q ∈ lw_privs_1, lw_okq q := List.forall_mem_cons.mpr ⟨lw_p0, List.forall_mem_cons.mpr ⟨lw_p1, List.forall_mem_cons.mpr ⟨lw_p2, List.forall_mem_cons.mpr ⟨lw_p3, List.forall_mem_cons.mpr ⟨lw_p4, List.forall_mem_cons.mpr ⟨lw_p5, List.forall_mem_cons.mpr ⟨lw_p6, List.forall_mem_cons.mpr ⟨lw_p7, List.forall_mem_cons.mpr ⟨lw_p8, List.forall_mem_cons.mpr ⟨lw_p9, List.forall_mem_cons.mpr ⟨lw_p10, List.forall_mem_cons.mpr ⟨lw_p11, List.forall_mem_cons.mpr ⟨lw_p12, List.forall_mem_cons.mpr ⟨lw_p13, List.forall_mem_cons.mpr ⟨lw_p14, List.forall_mem_cons.mpr ⟨lw_p15, fun _ h => absurd h List.not_mem_nil⟩⟩⟩⟩⟩⟩⟩⟩⟩⟩⟩⟩⟩⟩⟩⟩
theorem lw_p16 : lw_okq (⟨"ToOneCrumb", "readAct", "(I)Z"⟩, 16) := ⟨⟨by decide +kernel, by decide +kernel⟩, List.mem_of_getElem? (i := 27) (by decide +kernel), List.mem_of_getElem? (i := 641) (by decide +kernel), List.mem_of_getElem? (i := 642) (by decide +kernel)⟩
theorem lw_p17 : lw_okq (⟨"ToOneCrumb", "doAct", "(I)I"⟩, 16) := ⟨⟨by decide +kernel, by decide +kernel⟩, List.mem_of_getElem? (i := 27) (by decide +kernel), List.mem_of_getElem? (i := 649) (by decide +kernel), List.mem_of_getElem? (i := 650) (by decide +kernel)⟩
theorem lw_p18 : lw_okq (⟨"ToOneCrumb", "cellsWith", "(I)I"⟩, 16) := ⟨⟨by decide +kernel, by decide +kernel⟩, List.mem_of_getElem? (i := 27) (by decide +kernel), List.mem_of_getElem? (i := 661) (by decide +kernel), List.mem_of_getElem? (i := 662) (by decide +kernel)⟩
theorem lw_p19 : lw_okq (⟨"ToOneCrumb", "worthHeld", "(II)I"⟩, 16) := ⟨⟨by decide +kernel, by decide +kernel⟩, List.mem_of_getElem? (i := 27) (by decide +kernel), List.mem_of_getElem? (i := 677) (by decide +kernel), List.mem_of_getElem? (i := 678) (by decide +kernel)⟩
theorem lw_p20 : lw_okq (⟨"ToOneCrumb", "hasDue", "(I)Z"⟩, 16) := ⟨⟨by decide +kernel, by decide +kernel⟩, List.mem_of_getElem? (i := 27) (by decide +kernel), List.mem_of_getElem? (i := 689) (by decide +kernel), List.mem_of_getElem? (i := 690) (by decide +kernel)⟩
theorem lw_p21 : lw_okq (⟨"ToOneCrumb", "jointGain", "(IIII)I"⟩, 16) := ⟨⟨by decide +kernel, by decide +kernel⟩, List.mem_of_getElem? (i := 27) (by decide +kernel), List.mem_of_getElem? (i := 721) (by decide +kernel), List.mem_of_getElem? (i := 722) (by decide +kernel)⟩
theorem lw_p22 : lw_okq (⟨"ToOneCrumb", "areGuests", "(I)Z"⟩, 16) := ⟨⟨by decide +kernel, by decide +kernel⟩, List.mem_of_getElem? (i := 27) (by decide +kernel), List.mem_of_getElem? (i := 729) (by decide +kernel), List.mem_of_getElem? (i := 730) (by decide +kernel)⟩
theorem lw_p23 : lw_okq (⟨"ToOneCrumb", "everyone", "()I"⟩, 16) := ⟨⟨by decide +kernel, by decide +kernel⟩, List.mem_of_getElem? (i := 27) (by decide +kernel), List.mem_of_getElem? (i := 733) (by decide +kernel), List.mem_of_getElem? (i := 734) (by decide +kernel)⟩
theorem lw_p24 : lw_okq (⟨"ToOneCrumb", "placeGuests", "(I)V"⟩, 16) := ⟨⟨by decide +kernel, by decide +kernel⟩, List.mem_of_getElem? (i := 27) (by decide +kernel), List.mem_of_getElem? (i := 737) (by decide +kernel), List.mem_of_getElem? (i := 738) (by decide +kernel)⟩
theorem lw_p25 : lw_okq (⟨"ToOneCrumb$Placing", "shortest", "(LToOneCrumb$Worths;II)I"⟩, 8) := ⟨⟨by decide +kernel, by decide +kernel⟩, List.mem_of_getElem? (i := 171) (by decide +kernel), List.mem_of_getElem? (i := 754) (by decide +kernel), List.mem_of_getElem? (i := 755) (by decide +kernel)⟩
theorem lw_p26 : lw_okq (⟨"ToOneCrumb$Placing", "reached", "(II)I"⟩, 8) := ⟨⟨by decide +kernel, by decide +kernel⟩, List.mem_of_getElem? (i := 171) (by decide +kernel), List.mem_of_getElem? (i := 759) (by decide +kernel), List.mem_of_getElem? (i := 760) (by decide +kernel)⟩
theorem lw_p27 : lw_okq (⟨"ToOneCrumb$Placing", "findOrder", "(IIII)Z"⟩, 8) := ⟨⟨by decide +kernel, by decide +kernel⟩, List.mem_of_getElem? (i := 171) (by decide +kernel), List.mem_of_getElem? (i := 772) (by decide +kernel), List.mem_of_getElem? (i := 773) (by decide +kernel)⟩
theorem lw_p28 : lw_okq (⟨"ToOneCrumb", "bestOfLeasts", "(II)I"⟩, 16) := ⟨⟨by decide +kernel, by decide +kernel⟩, List.mem_of_getElem? (i := 27) (by decide +kernel), List.mem_of_getElem? (i := 795) (by decide +kernel), List.mem_of_getElem? (i := 796) (by decide +kernel)⟩
theorem lw_p29 : lw_okq (⟨"ToOneCrumb$Seating", "part", "(III)V"⟩, 8) := ⟨⟨by decide +kernel, by decide +kernel⟩, List.mem_of_getElem? (i := 204) (by decide +kernel), List.mem_of_getElem? (i := 808) (by decide +kernel), List.mem_of_getElem? (i := 809) (by decide +kernel)⟩
theorem lw_p30 : lw_okq (⟨"ToOneCrumb$Seating", "othersAreCalm", "(I)Z"⟩, 8) := ⟨⟨by decide +kernel, by decide +kernel⟩, List.mem_of_getElem? (i := 204) (by decide +kernel), List.mem_of_getElem? (i := 812) (by decide +kernel), List.mem_of_getElem? (i := 813) (by decide +kernel)⟩
theorem lw_p31 : lw_okq (⟨"ToOneCrumb$Seating", "note", "()V"⟩, 8) := ⟨⟨by decide +kernel, by decide +kernel⟩, List.mem_of_getElem? (i := 204) (by decide +kernel), List.mem_of_getElem? (i := 817) (by decide +kernel), List.mem_of_getElem? (i := 818) (by decide +kernel)⟩
def lw_privs_2 : List (MethodName × Nat) := [(⟨"ToOneCrumb", "readAct", "(I)Z"⟩, 16), (⟨"ToOneCrumb", "doAct", "(I)I"⟩, 16), (⟨"ToOneCrumb", "cellsWith", "(I)I"⟩, 16), (⟨"ToOneCrumb", "worthHeld", "(II)I"⟩, 16), (⟨"ToOneCrumb", "hasDue", "(I)Z"⟩, 16), (⟨"ToOneCrumb", "jointGain", "(IIII)I"⟩, 16), (⟨"ToOneCrumb", "areGuests", "(I)Z"⟩, 16), (⟨"ToOneCrumb", "everyone", "()I"⟩, 16), (⟨"ToOneCrumb", "placeGuests", "(I)V"⟩, 16), (⟨"ToOneCrumb$Placing", "shortest", "(LToOneCrumb$Worths;II)I"⟩, 8), (⟨"ToOneCrumb$Placing", "reached", "(II)I"⟩, 8), (⟨"ToOneCrumb$Placing", "findOrder", "(IIII)Z"⟩, 8), (⟨"ToOneCrumb", "bestOfLeasts", "(II)I"⟩, 16), (⟨"ToOneCrumb$Seating", "part", "(III)V"⟩, 8), (⟨"ToOneCrumb$Seating", "othersAreCalm", "(I)Z"⟩, 8), (⟨"ToOneCrumb$Seating", "note", "()V"⟩, 8)]
theorem lw_r2 : ∀ q ∈ lw_privs_2, lw_okq q := List.forall_mem_cons.mpr ⟨lw_p16, List.forall_mem_cons.mpr ⟨lw_p17, List.forall_mem_cons.mpr ⟨lw_p18, List.forall_mem_cons.mpr ⟨lw_p19, List.forall_mem_cons.mpr ⟨lw_p20, List.forall_mem_cons.mpr ⟨lw_p21, List.forall_mem_cons.mpr ⟨lw_p22, List.forall_mem_cons.mpr ⟨lw_p23, List.forall_mem_cons.mpr ⟨lw_p24, List.forall_mem_cons.mpr ⟨lw_p25, List.forall_mem_cons.mpr ⟨lw_p26, List.forall_mem_cons.mpr ⟨lw_p27, List.forall_mem_cons.mpr ⟨lw_p28, List.forall_mem_cons.mpr ⟨lw_p29, List.forall_mem_cons.mpr ⟨lw_p30, List.forall_mem_cons.mpr ⟨lw_p31, fun _ h => absurd h List.not_mem_nil⟩⟩⟩⟩⟩⟩⟩⟩⟩⟩⟩⟩⟩⟩⟩⟩
theorem lw_p32 : lw_okq (⟨"ToOneCrumb$Seating", "isLess", "()Z"⟩, 8) := ⟨⟨by decide +kernel, by decide +kernel⟩, List.mem_of_getElem? (i := 204) (by decide +kernel), List.mem_of_getElem? (i := 821) (by decide +kernel), List.mem_of_getElem? (i := 822) (by decide +kernel)⟩
theorem lw_p33 : lw_okq (⟨"ToOneCrumb$Seating", "isCalmWith", "(II)Z"⟩, 8) := ⟨⟨by decide +kernel, by decide +kernel⟩, List.mem_of_getElem? (i := 204) (by decide +kernel), List.mem_of_getElem? (i := 826) (by decide +kernel), List.mem_of_getElem? (i := 827) (by decide +kernel)⟩
theorem lw_p34 : lw_okq (⟨"ToOneCrumb$Seating", "prefers", "(II)Z"⟩, 8) := ⟨⟨by decide +kernel, by decide +kernel⟩, List.mem_of_getElem? (i := 204) (by decide +kernel), List.mem_of_getElem? (i := 830) (by decide +kernel), List.mem_of_getElem? (i := 831) (by decide +kernel)⟩
theorem lw_p35 : lw_okq (⟨"ToOneCrumb$Turns", "favourite", "(III)I"⟩, 4) := ⟨⟨by decide +kernel, by decide +kernel⟩, List.mem_of_getElem? (i := 235) (by decide +kernel), List.mem_of_getElem? (i := 864) (by decide +kernel), List.mem_of_getElem? (i := 865) (by decide +kernel)⟩
theorem lw_p36 : lw_okq (⟨"ToOneCrumb", "hasByLie", "(III)I"⟩, 16) := ⟨⟨by decide +kernel, by decide +kernel⟩, List.mem_of_getElem? (i := 27) (by decide +kernel), List.mem_of_getElem? (i := 873) (by decide +kernel), List.mem_of_getElem? (i := 874) (by decide +kernel)⟩
theorem lw_p37 : lw_okq (⟨"ToOneCrumb$Choices", "fits", "(ILToOneCrumb$Rule;LToOneCrumb$Loaf;I)Z"⟩, 8) := ⟨⟨by decide +kernel, by decide +kernel⟩, List.mem_of_getElem? (i := 138) (by decide +kernel), List.mem_of_getElem? (i := 898) (by decide +kernel), List.mem_of_getElem? (i := 899) (by decide +kernel)⟩
theorem lw_p38 : lw_okq (⟨"ToOneCrumb$Choices", "ask", "(ILToOneCrumb$Rule;LToOneCrumb$Loaf;I)I"⟩, 8) := ⟨⟨by decide +kernel, by decide +kernel⟩, List.mem_of_getElem? (i := 138) (by decide +kernel), List.mem_of_getElem? (i := 902) (by decide +kernel), List.mem_of_getElem? (i := 903) (by decide +kernel)⟩
theorem lw_p39 : lw_okq (⟨"ToOneCrumb$Choices", "countThisTime", "(I)V"⟩, 8) := ⟨⟨by decide +kernel, by decide +kernel⟩, List.mem_of_getElem? (i := 138) (by decide +kernel), List.mem_of_getElem? (i := 917) (by decide +kernel), List.mem_of_getElem? (i := 918) (by decide +kernel)⟩
theorem lw_p40 : lw_okq (⟨"java/lang/Throwable", "fillInStackTrace", "(I)Ljava/lang/Throwable;"⟩, 6) := ⟨⟨by decide +kernel, by decide +kernel⟩, List.mem_of_getElem? (i := 1047) (by decide +kernel), List.mem_of_getElem? (i := 1045) (by decide +kernel), List.mem_of_getElem? (i := 1046) (by decide +kernel)⟩
theorem lw_p41 : lw_okq (⟨"ToOneCrumbModel", "begins", "(I)I"⟩, 67) := ⟨⟨by decide +kernel, by decide +kernel⟩, List.mem_of_getElem? (i := 1093) (by decide +kernel), List.mem_of_getElem? (i := 1321) (by decide +kernel), List.mem_of_getElem? (i := 1322) (by decide +kernel)⟩
theorem lw_p42 : lw_okq (⟨"ToOneCrumbModel", "among", "(Ljava/lang/String;)I"⟩, 67) := ⟨⟨by decide +kernel, by decide +kernel⟩, List.mem_of_getElem? (i := 1093) (by decide +kernel), List.mem_of_getElem? (i := 1327) (by decide +kernel), List.mem_of_getElem? (i := 1328) (by decide +kernel)⟩
theorem lw_p43 : lw_okq (⟨"ToOneCrumbModel", "takesOf", "(Ljava/lang/String;)I"⟩, 67) := ⟨⟨by decide +kernel, by decide +kernel⟩, List.mem_of_getElem? (i := 1093) (by decide +kernel), List.mem_of_getElem? (i := 1379) (by decide +kernel), List.mem_of_getElem? (i := 1380) (by decide +kernel)⟩
theorem lw_p44 : lw_okq (⟨"ToOneCrumbModel", "takes", "(I)Z"⟩, 67) := ⟨⟨by decide +kernel, by decide +kernel⟩, List.mem_of_getElem? (i := 1093) (by decide +kernel), List.mem_of_getElem? (i := 1387) (by decide +kernel), List.mem_of_getElem? (i := 1388) (by decide +kernel)⟩
theorem lw_p45 : lw_okq (⟨"ToOneCrumbModel", "faultOf", "(IIZ)I"⟩, 67) := ⟨⟨by decide +kernel, by decide +kernel⟩, List.mem_of_getElem? (i := 1093) (by decide +kernel), List.mem_of_getElem? (i := 1391) (by decide +kernel), List.mem_of_getElem? (i := 1392) (by decide +kernel)⟩
theorem lw_p46 : lw_okq (⟨"ToOneCrumbModel", "readsGuest", "()Z"⟩, 67) := ⟨⟨by decide +kernel, by decide +kernel⟩, List.mem_of_getElem? (i := 1093) (by decide +kernel), List.mem_of_getElem? (i := 1399) (by decide +kernel), List.mem_of_getElem? (i := 1400) (by decide +kernel)⟩
theorem lw_p47 : lw_okq (⟨"ToOneCrumbModel", "number", "(I)I"⟩, 67) := ⟨⟨by decide +kernel, by decide +kernel⟩, List.mem_of_getElem? (i := 1093) (by decide +kernel), List.mem_of_getElem? (i := 1403) (by decide +kernel), List.mem_of_getElem? (i := 1404) (by decide +kernel)⟩
def lw_privs_3 : List (MethodName × Nat) := [(⟨"ToOneCrumb$Seating", "isLess", "()Z"⟩, 8), (⟨"ToOneCrumb$Seating", "isCalmWith", "(II)Z"⟩, 8), (⟨"ToOneCrumb$Seating", "prefers", "(II)Z"⟩, 8), (⟨"ToOneCrumb$Turns", "favourite", "(III)I"⟩, 4), (⟨"ToOneCrumb", "hasByLie", "(III)I"⟩, 16), (⟨"ToOneCrumb$Choices", "fits", "(ILToOneCrumb$Rule;LToOneCrumb$Loaf;I)Z"⟩, 8), (⟨"ToOneCrumb$Choices", "ask", "(ILToOneCrumb$Rule;LToOneCrumb$Loaf;I)I"⟩, 8), (⟨"ToOneCrumb$Choices", "countThisTime", "(I)V"⟩, 8), (⟨"java/lang/Throwable", "fillInStackTrace", "(I)Ljava/lang/Throwable;"⟩, 6), (⟨"ToOneCrumbModel", "begins", "(I)I"⟩, 67), (⟨"ToOneCrumbModel", "among", "(Ljava/lang/String;)I"⟩, 67), (⟨"ToOneCrumbModel", "takesOf", "(Ljava/lang/String;)I"⟩, 67), (⟨"ToOneCrumbModel", "takes", "(I)Z"⟩, 67), (⟨"ToOneCrumbModel", "faultOf", "(IIZ)I"⟩, 67), (⟨"ToOneCrumbModel", "readsGuest", "()Z"⟩, 67), (⟨"ToOneCrumbModel", "number", "(I)I"⟩, 67)]
theorem lw_r3 : ∀ q ∈ lw_privs_3, lw_okq q := List.forall_mem_cons.mpr ⟨lw_p32, List.forall_mem_cons.mpr ⟨lw_p33, List.forall_mem_cons.mpr ⟨lw_p34, List.forall_mem_cons.mpr ⟨lw_p35, List.forall_mem_cons.mpr ⟨lw_p36, List.forall_mem_cons.mpr ⟨lw_p37, List.forall_mem_cons.mpr ⟨lw_p38, List.forall_mem_cons.mpr ⟨lw_p39, List.forall_mem_cons.mpr ⟨lw_p40, List.forall_mem_cons.mpr ⟨lw_p41, List.forall_mem_cons.mpr ⟨lw_p42, List.forall_mem_cons.mpr ⟨lw_p43, List.forall_mem_cons.mpr ⟨lw_p44, List.forall_mem_cons.mpr ⟨lw_p45, List.forall_mem_cons.mpr ⟨lw_p46, List.forall_mem_cons.mpr ⟨lw_p47, fun _ h => absurd h List.not_mem_nil⟩⟩⟩⟩⟩⟩⟩⟩⟩⟩⟩⟩⟩⟩⟩⟩
theorem lw_p48 : lw_okq (⟨"ToOneCrumbModel", "isDigit", "()Z"⟩, 67) := ⟨⟨by decide +kernel, by decide +kernel⟩, List.mem_of_getElem? (i := 1093) (by decide +kernel), List.mem_of_getElem? (i := 1407) (by decide +kernel), List.mem_of_getElem? (i := 1408) (by decide +kernel)⟩
theorem lw_p49 : lw_okq (⟨"ToOneCrumbModel", "readsDeed", "()Z"⟩, 67) := ⟨⟨by decide +kernel, by decide +kernel⟩, List.mem_of_getElem? (i := 1093) (by decide +kernel), List.mem_of_getElem? (i := 1417) (by decide +kernel), List.mem_of_getElem? (i := 1418) (by decide +kernel)⟩
theorem lw_p50 : lw_okq (⟨"ToOneCrumbModel", "letter", "(I)I"⟩, 67) := ⟨⟨by decide +kernel, by decide +kernel⟩, List.mem_of_getElem? (i := 1093) (by decide +kernel), List.mem_of_getElem? (i := 1422) (by decide +kernel), List.mem_of_getElem? (i := 1423) (by decide +kernel)⟩
theorem lw_p51 : lw_okq (⟨"ToOneCrumbModel", "allDeserts", "()I"⟩, 67) := ⟨⟨by decide +kernel, by decide +kernel⟩, List.mem_of_getElem? (i := 1093) (by decide +kernel), List.mem_of_getElem? (i := 1428) (by decide +kernel), List.mem_of_getElem? (i := 1429) (by decide +kernel)⟩
theorem lw_p52 : lw_okq (⟨"ToOneCrumbModel", "readsRank", "(I)Z"⟩, 67) := ⟨⟨by decide +kernel, by decide +kernel⟩, List.mem_of_getElem? (i := 1093) (by decide +kernel), List.mem_of_getElem? (i := 1436) (by decide +kernel), List.mem_of_getElem? (i := 1437) (by decide +kernel)⟩
theorem lw_p53 : lw_okq (⟨"ToOneCrumbModel", "readsThing", "()Z"⟩, 67) := ⟨⟨by decide +kernel, by decide +kernel⟩, List.mem_of_getElem? (i := 1093) (by decide +kernel), List.mem_of_getElem? (i := 1440) (by decide +kernel), List.mem_of_getElem? (i := 1441) (by decide +kernel)⟩
theorem lw_p54 : lw_okq (⟨"ToOneCrumbModel", "codes", "(I)V"⟩, 67) := ⟨⟨by decide +kernel, by decide +kernel⟩, List.mem_of_getElem? (i := 1093) (by decide +kernel), List.mem_of_getElem? (i := 1444) (by decide +kernel), List.mem_of_getElem? (i := 1445) (by decide +kernel)⟩
theorem lw_p55 : lw_okq (⟨"ToOneCrumbModel", "isCell", "(I)Z"⟩, 67) := ⟨⟨by decide +kernel, by decide +kernel⟩, List.mem_of_getElem? (i := 1093) (by decide +kernel), List.mem_of_getElem? (i := 1456) (by decide +kernel), List.mem_of_getElem? (i := 1457) (by decide +kernel)⟩
theorem lw_p56 : lw_okq (⟨"ToOneCrumbModel", "refuse", "()I"⟩, 67) := ⟨⟨by decide +kernel, by decide +kernel⟩, List.mem_of_getElem? (i := 1093) (by decide +kernel), List.mem_of_getElem? (i := 1461) (by decide +kernel), List.mem_of_getElem? (i := 1462) (by decide +kernel)⟩
theorem lw_p57 : lw_okq (⟨"ToOneCrumbModel", "isGuest", "(I)Z"⟩, 67) := ⟨⟨by decide +kernel, by decide +kernel⟩, List.mem_of_getElem? (i := 1093) (by decide +kernel), List.mem_of_getElem? (i := 1469) (by decide +kernel), List.mem_of_getElem? (i := 1470) (by decide +kernel)⟩
theorem lw_p58 : lw_okq (⟨"ToOneCrumbModel", "laysTable", "()V"⟩, 67) := ⟨⟨by decide +kernel, by decide +kernel⟩, List.mem_of_getElem? (i := 1093) (by decide +kernel), List.mem_of_getElem? (i := 1474) (by decide +kernel), List.mem_of_getElem? (i := 1475) (by decide +kernel)⟩
theorem lw_p59 : lw_okq (⟨"ToOneCrumbModel", "worthOf", "(II)I"⟩, 67) := ⟨⟨by decide +kernel, by decide +kernel⟩, List.mem_of_getElem? (i := 1093) (by decide +kernel), List.mem_of_getElem? (i := 1478) (by decide +kernel), List.mem_of_getElem? (i := 1479) (by decide +kernel)⟩
theorem lw_p60 : lw_okq (⟨"ToOneCrumbModel", "worthBy", "(IIIII)I"⟩, 67) := ⟨⟨by decide +kernel, by decide +kernel⟩, List.mem_of_getElem? (i := 1093) (by decide +kernel), List.mem_of_getElem? (i := 1482) (by decide +kernel), List.mem_of_getElem? (i := 1483) (by decide +kernel)⟩
theorem lw_p61 : lw_okq (⟨"ToOneCrumbModel", "ruled", "()I"⟩, 67) := ⟨⟨by decide +kernel, by decide +kernel⟩, List.mem_of_getElem? (i := 1093) (by decide +kernel), List.mem_of_getElem? (i := 1486) (by decide +kernel), List.mem_of_getElem? (i := 1487) (by decide +kernel)⟩
theorem lw_p62 : lw_okq (⟨"ToOneCrumbModel", "holds", "(I)I"⟩, 67) := ⟨⟨by decide +kernel, by decide +kernel⟩, List.mem_of_getElem? (i := 1093) (by decide +kernel), List.mem_of_getElem? (i := 1493) (by decide +kernel), List.mem_of_getElem? (i := 1494) (by decide +kernel)⟩
theorem lw_p63 : lw_okq (⟨"ToOneCrumbModel", "held", "(II)I"⟩, 67) := ⟨⟨by decide +kernel, by decide +kernel⟩, List.mem_of_getElem? (i := 1093) (by decide +kernel), List.mem_of_getElem? (i := 1497) (by decide +kernel), List.mem_of_getElem? (i := 1498) (by decide +kernel)⟩
def lw_privs_4 : List (MethodName × Nat) := [(⟨"ToOneCrumbModel", "isDigit", "()Z"⟩, 67), (⟨"ToOneCrumbModel", "readsDeed", "()Z"⟩, 67), (⟨"ToOneCrumbModel", "letter", "(I)I"⟩, 67), (⟨"ToOneCrumbModel", "allDeserts", "()I"⟩, 67), (⟨"ToOneCrumbModel", "readsRank", "(I)Z"⟩, 67), (⟨"ToOneCrumbModel", "readsThing", "()Z"⟩, 67), (⟨"ToOneCrumbModel", "codes", "(I)V"⟩, 67), (⟨"ToOneCrumbModel", "isCell", "(I)Z"⟩, 67), (⟨"ToOneCrumbModel", "refuse", "()I"⟩, 67), (⟨"ToOneCrumbModel", "isGuest", "(I)Z"⟩, 67), (⟨"ToOneCrumbModel", "laysTable", "()V"⟩, 67), (⟨"ToOneCrumbModel", "worthOf", "(II)I"⟩, 67), (⟨"ToOneCrumbModel", "worthBy", "(IIIII)I"⟩, 67), (⟨"ToOneCrumbModel", "ruled", "()I"⟩, 67), (⟨"ToOneCrumbModel", "holds", "(I)I"⟩, 67), (⟨"ToOneCrumbModel", "held", "(II)I"⟩, 67)]
theorem lw_r4 : ∀ q ∈ lw_privs_4, lw_okq q := List.forall_mem_cons.mpr ⟨lw_p48, List.forall_mem_cons.mpr ⟨lw_p49, List.forall_mem_cons.mpr ⟨lw_p50, List.forall_mem_cons.mpr ⟨lw_p51, List.forall_mem_cons.mpr ⟨lw_p52, List.forall_mem_cons.mpr ⟨lw_p53, List.forall_mem_cons.mpr ⟨lw_p54, List.forall_mem_cons.mpr ⟨lw_p55, List.forall_mem_cons.mpr ⟨lw_p56, List.forall_mem_cons.mpr ⟨lw_p57, List.forall_mem_cons.mpr ⟨lw_p58, List.forall_mem_cons.mpr ⟨lw_p59, List.forall_mem_cons.mpr ⟨lw_p60, List.forall_mem_cons.mpr ⟨lw_p61, List.forall_mem_cons.mpr ⟨lw_p62, List.forall_mem_cons.mpr ⟨lw_p63, fun _ h => absurd h List.not_mem_nil⟩⟩⟩⟩⟩⟩⟩⟩⟩⟩⟩⟩⟩⟩⟩⟩
theorem lw_p64 : lw_okq (⟨"ToOneCrumbModel", "isDue", "(IJI)Z"⟩, 67) := ⟨⟨by decide +kernel, by decide +kernel⟩, List.mem_of_getElem? (i := 1093) (by decide +kernel), List.mem_of_getElem? (i := 1501) (by decide +kernel), List.mem_of_getElem? (i := 1502) (by decide +kernel)⟩
theorem lw_p65 : lw_okq (⟨"ToOneCrumbModel", "putsBy", "()V"⟩, 67) := ⟨⟨by decide +kernel, by decide +kernel⟩, List.mem_of_getElem? (i := 1093) (by decide +kernel), List.mem_of_getElem? (i := 1528) (by decide +kernel), List.mem_of_getElem? (i := 1529) (by decide +kernel)⟩
theorem lw_p66 : lw_okq (⟨"ToOneCrumbModel", "gives", "(III)I"⟩, 67) := ⟨⟨by decide +kernel, by decide +kernel⟩, List.mem_of_getElem? (i := 1093) (by decide +kernel), List.mem_of_getElem? (i := 1532) (by decide +kernel), List.mem_of_getElem? (i := 1533) (by decide +kernel)⟩
theorem lw_p67 : lw_okq (⟨"ToOneCrumbModel", "isSlice", "(II)Z"⟩, 67) := ⟨⟨by decide +kernel, by decide +kernel⟩, List.mem_of_getElem? (i := 1093) (by decide +kernel), List.mem_of_getElem? (i := 1536) (by decide +kernel), List.mem_of_getElem? (i := 1537) (by decide +kernel)⟩
theorem lw_p68 : lw_okq (⟨"ToOneCrumbModel", "counts", "(I)I"⟩, 67) := ⟨⟨by decide +kernel, by decide +kernel⟩, List.mem_of_getElem? (i := 1093) (by decide +kernel), List.mem_of_getElem? (i := 1540) (by decide +kernel), List.mem_of_getElem? (i := 1541) (by decide +kernel)⟩
theorem lw_p69 : lw_okq (⟨"ToOneCrumbModel", "adds", "(I)I"⟩, 67) := ⟨⟨by decide +kernel, by decide +kernel⟩, List.mem_of_getElem? (i := 1093) (by decide +kernel), List.mem_of_getElem? (i := 1544) (by decide +kernel), List.mem_of_getElem? (i := 1545) (by decide +kernel)⟩
theorem lw_p70 : lw_okq (⟨"ToOneCrumbModel", "backs", "(II)I"⟩, 67) := ⟨⟨by decide +kernel, by decide +kernel⟩, List.mem_of_getElem? (i := 1093) (by decide +kernel), List.mem_of_getElem? (i := 1552) (by decide +kernel), List.mem_of_getElem? (i := 1553) (by decide +kernel)⟩
theorem lw_p71 : lw_okq (⟨"ToOneCrumbModel", "eats", "(I)I"⟩, 67) := ⟨⟨by decide +kernel, by decide +kernel⟩, List.mem_of_getElem? (i := 1093) (by decide +kernel), List.mem_of_getElem? (i := 1560) (by decide +kernel), List.mem_of_getElem? (i := 1561) (by decide +kernel)⟩
theorem lw_p72 : lw_okq (⟨"ToOneCrumbModel", "readsAct", "()Z"⟩, 67) := ⟨⟨by decide +kernel, by decide +kernel⟩, List.mem_of_getElem? (i := 1093) (by decide +kernel), List.mem_of_getElem? (i := 1568) (by decide +kernel), List.mem_of_getElem? (i := 1569) (by decide +kernel)⟩
theorem lw_p73 : lw_okq (⟨"ToOneCrumbModel", "does", "(I)Z"⟩, 67) := ⟨⟨by decide +kernel, by decide +kernel⟩, List.mem_of_getElem? (i := 1093) (by decide +kernel), List.mem_of_getElem? (i := 1573) (by decide +kernel), List.mem_of_getElem? (i := 1574) (by decide +kernel)⟩
theorem lw_p74 : lw_okq (⟨"ToOneCrumbModel", "enters", "(J)V"⟩, 67) := ⟨⟨by decide +kernel, by decide +kernel⟩, List.mem_of_getElem? (i := 1093) (by decide +kernel), List.mem_of_getElem? (i := 1577) (by decide +kernel), List.mem_of_getElem? (i := 1578) (by decide +kernel)⟩
theorem lw_p75 : lw_okq (⟨"ToOneCrumbModel", "all", "()I"⟩, 67) := ⟨⟨by decide +kernel, by decide +kernel⟩, List.mem_of_getElem? (i := 1093) (by decide +kernel), List.mem_of_getElem? (i := 1613) (by decide +kernel), List.mem_of_getElem? (i := 1614) (by decide +kernel)⟩
theorem lw_p76 : lw_okq (⟨"ToOneCrumbModel", "canServe", "(II)Z"⟩, 67) := ⟨⟨by decide +kernel, by decide +kernel⟩, List.mem_of_getElem? (i := 1093) (by decide +kernel), List.mem_of_getElem? (i := 1617) (by decide +kernel), List.mem_of_getElem? (i := 1618) (by decide +kernel)⟩
theorem lw_p77 : lw_okq (⟨"ToOneCrumbModel", "serves", "(IIII)V"⟩, 67) := ⟨⟨by decide +kernel, by decide +kernel⟩, List.mem_of_getElem? (i := 1093) (by decide +kernel), List.mem_of_getElem? (i := 1621) (by decide +kernel), List.mem_of_getElem? (i := 1622) (by decide +kernel)⟩
theorem lw_p78 : lw_okq (⟨"ToOneCrumbModel", "isTurnLess", "(I)Z"⟩, 67) := ⟨⟨by decide +kernel, by decide +kernel⟩, List.mem_of_getElem? (i := 1093) (by decide +kernel), List.mem_of_getElem? (i := 1625) (by decide +kernel), List.mem_of_getElem? (i := 1626) (by decide +kernel)⟩
theorem lw_p79 : lw_okq (⟨"ToOneCrumbModel", "endFor", "(III)I"⟩, 67) := ⟨⟨by decide +kernel, by decide +kernel⟩, List.mem_of_getElem? (i := 1093) (by decide +kernel), List.mem_of_getElem? (i := 1632) (by decide +kernel), List.mem_of_getElem? (i := 1633) (by decide +kernel)⟩
def lw_privs_5 : List (MethodName × Nat) := [(⟨"ToOneCrumbModel", "isDue", "(IJI)Z"⟩, 67), (⟨"ToOneCrumbModel", "putsBy", "()V"⟩, 67), (⟨"ToOneCrumbModel", "gives", "(III)I"⟩, 67), (⟨"ToOneCrumbModel", "isSlice", "(II)Z"⟩, 67), (⟨"ToOneCrumbModel", "counts", "(I)I"⟩, 67), (⟨"ToOneCrumbModel", "adds", "(I)I"⟩, 67), (⟨"ToOneCrumbModel", "backs", "(II)I"⟩, 67), (⟨"ToOneCrumbModel", "eats", "(I)I"⟩, 67), (⟨"ToOneCrumbModel", "readsAct", "()Z"⟩, 67), (⟨"ToOneCrumbModel", "does", "(I)Z"⟩, 67), (⟨"ToOneCrumbModel", "enters", "(J)V"⟩, 67), (⟨"ToOneCrumbModel", "all", "()I"⟩, 67), (⟨"ToOneCrumbModel", "canServe", "(II)Z"⟩, 67), (⟨"ToOneCrumbModel", "serves", "(IIII)V"⟩, 67), (⟨"ToOneCrumbModel", "isTurnLess", "(I)Z"⟩, 67), (⟨"ToOneCrumbModel", "endFor", "(III)I"⟩, 67)]
theorem lw_r5 : ∀ q ∈ lw_privs_5, lw_okq q := List.forall_mem_cons.mpr ⟨lw_p64, List.forall_mem_cons.mpr ⟨lw_p65, List.forall_mem_cons.mpr ⟨lw_p66, List.forall_mem_cons.mpr ⟨lw_p67, List.forall_mem_cons.mpr ⟨lw_p68, List.forall_mem_cons.mpr ⟨lw_p69, List.forall_mem_cons.mpr ⟨lw_p70, List.forall_mem_cons.mpr ⟨lw_p71, List.forall_mem_cons.mpr ⟨lw_p72, List.forall_mem_cons.mpr ⟨lw_p73, List.forall_mem_cons.mpr ⟨lw_p74, List.forall_mem_cons.mpr ⟨lw_p75, List.forall_mem_cons.mpr ⟨lw_p76, List.forall_mem_cons.mpr ⟨lw_p77, List.forall_mem_cons.mpr ⟨lw_p78, List.forall_mem_cons.mpr ⟨lw_p79, fun _ h => absurd h List.not_mem_nil⟩⟩⟩⟩⟩⟩⟩⟩⟩⟩⟩⟩⟩⟩⟩⟩
theorem lw_p80 : lw_okq (⟨"ToOneCrumbModel", "sliceOf", "(III)I"⟩, 67) := ⟨⟨by decide +kernel, by decide +kernel⟩, List.mem_of_getElem? (i := 1093) (by decide +kernel), List.mem_of_getElem? (i := 1648) (by decide +kernel), List.mem_of_getElem? (i := 1649) (by decide +kernel)⟩
theorem lw_p81 : lw_okq (⟨"ToOneCrumbModel", "partsOn", "(IIIII)V"⟩, 67) := ⟨⟨by decide +kernel, by decide +kernel⟩, List.mem_of_getElem? (i := 1093) (by decide +kernel), List.mem_of_getElem? (i := 1658) (by decide +kernel), List.mem_of_getElem? (i := 1659) (by decide +kernel)⟩
theorem lw_p82 : lw_okq (⟨"ToOneCrumbModel", "calmsFrom", "(II)V"⟩, 67) := ⟨⟨by decide +kernel, by decide +kernel⟩, List.mem_of_getElem? (i := 1093) (by decide +kernel), List.mem_of_getElem? (i := 1666) (by decide +kernel), List.mem_of_getElem? (i := 1667) (by decide +kernel)⟩
theorem lw_p83 : lw_okq (⟨"ToOneCrumbModel", "isCalm", "()Z"⟩, 67) := ⟨⟨by decide +kernel, by decide +kernel⟩, List.mem_of_getElem? (i := 1093) (by decide +kernel), List.mem_of_getElem? (i := 1670) (by decide +kernel), List.mem_of_getElem? (i := 1671) (by decide +kernel)⟩
theorem lw_p84 : lw_okq (⟨"ToOneCrumbModel", "goesTo", "(III)V"⟩, 67) := ⟨⟨by decide +kernel, by decide +kernel⟩, List.mem_of_getElem? (i := 1093) (by decide +kernel), List.mem_of_getElem? (i := 1674) (by decide +kernel), List.mem_of_getElem? (i := 1675) (by decide +kernel)⟩
theorem lw_p85 : lw_okq (⟨"ToOneCrumbModel", "readsTurns", "()I"⟩, 67) := ⟨⟨by decide +kernel, by decide +kernel⟩, List.mem_of_getElem? (i := 1093) (by decide +kernel), List.mem_of_getElem? (i := 1687) (by decide +kernel), List.mem_of_getElem? (i := 1688) (by decide +kernel)⟩
theorem lw_p86 : lw_okq (⟨"ToOneCrumbModel", "picksAsWorth", "()V"⟩, 67) := ⟨⟨by decide +kernel, by decide +kernel⟩, List.mem_of_getElem? (i := 1093) (by decide +kernel), List.mem_of_getElem? (i := 1691) (by decide +kernel), List.mem_of_getElem? (i := 1692) (by decide +kernel)⟩
theorem lw_p87 : lw_okq (⟨"ToOneCrumbModel", "goesByTurns", "()V"⟩, 67) := ⟨⟨by decide +kernel, by decide +kernel⟩, List.mem_of_getElem? (i := 1093) (by decide +kernel), List.mem_of_getElem? (i := 1695) (by decide +kernel), List.mem_of_getElem? (i := 1696) (by decide +kernel)⟩
theorem lw_p88 : lw_okq (⟨"ToOneCrumbModel", "fitsBy", "(IIII)Z"⟩, 67) := ⟨⟨by decide +kernel, by decide +kernel⟩, List.mem_of_getElem? (i := 1093) (by decide +kernel), List.mem_of_getElem? (i := 1715) (by decide +kernel), List.mem_of_getElem? (i := 1716) (by decide +kernel)⟩
theorem lw_p89 : lw_okq (⟨"ToOneCrumbModel", "meets", "(II)V"⟩, 67) := ⟨⟨by decide +kernel, by decide +kernel⟩, List.mem_of_getElem? (i := 1093) (by decide +kernel), List.mem_of_getElem? (i := 1727) (by decide +kernel), List.mem_of_getElem? (i := 1728) (by decide +kernel)⟩
theorem lw_p90 : lw_okq (⟨"ToOneCrumbModel", "crumbsAll", "()I"⟩, 67) := ⟨⟨by decide +kernel, by decide +kernel⟩, List.mem_of_getElem? (i := 1093) (by decide +kernel), List.mem_of_getElem? (i := 1740) (by decide +kernel), List.mem_of_getElem? (i := 1741) (by decide +kernel)⟩
theorem lw_p91 : lw_okq (⟨"ToOneCrumbModel", "desertsOf", "(I)I"⟩, 67) := ⟨⟨by decide +kernel, by decide +kernel⟩, List.mem_of_getElem? (i := 1093) (by decide +kernel), List.mem_of_getElem? (i := 1749) (by decide +kernel), List.mem_of_getElem? (i := 1750) (by decide +kernel)⟩
theorem lw_p92 : lw_okq (⟨"ToOneCrumbModel", "bets", "(II)V"⟩, 67) := ⟨⟨by decide +kernel, by decide +kernel⟩, List.mem_of_getElem? (i := 1093) (by decide +kernel), List.mem_of_getElem? (i := 1758) (by decide +kernel), List.mem_of_getElem? (i := 1759) (by decide +kernel)⟩
def lw_privs_6 : List (MethodName × Nat) := [(⟨"ToOneCrumbModel", "sliceOf", "(III)I"⟩, 67), (⟨"ToOneCrumbModel", "partsOn", "(IIIII)V"⟩, 67), (⟨"ToOneCrumbModel", "calmsFrom", "(II)V"⟩, 67), (⟨"ToOneCrumbModel", "isCalm", "()Z"⟩, 67), (⟨"ToOneCrumbModel", "goesTo", "(III)V"⟩, 67), (⟨"ToOneCrumbModel", "readsTurns", "()I"⟩, 67), (⟨"ToOneCrumbModel", "picksAsWorth", "()V"⟩, 67), (⟨"ToOneCrumbModel", "goesByTurns", "()V"⟩, 67), (⟨"ToOneCrumbModel", "fitsBy", "(IIII)Z"⟩, 67), (⟨"ToOneCrumbModel", "meets", "(II)V"⟩, 67), (⟨"ToOneCrumbModel", "crumbsAll", "()I"⟩, 67), (⟨"ToOneCrumbModel", "desertsOf", "(I)I"⟩, 67), (⟨"ToOneCrumbModel", "bets", "(II)V"⟩, 67)]
theorem lw_r6 : ∀ q ∈ lw_privs_6, lw_okq q := List.forall_mem_cons.mpr ⟨lw_p80, List.forall_mem_cons.mpr ⟨lw_p81, List.forall_mem_cons.mpr ⟨lw_p82, List.forall_mem_cons.mpr ⟨lw_p83, List.forall_mem_cons.mpr ⟨lw_p84, List.forall_mem_cons.mpr ⟨lw_p85, List.forall_mem_cons.mpr ⟨lw_p86, List.forall_mem_cons.mpr ⟨lw_p87, List.forall_mem_cons.mpr ⟨lw_p88, List.forall_mem_cons.mpr ⟨lw_p89, List.forall_mem_cons.mpr ⟨lw_p90, List.forall_mem_cons.mpr ⟨lw_p91, List.forall_mem_cons.mpr ⟨lw_p92, fun _ h => absurd h List.not_mem_nil⟩⟩⟩⟩⟩⟩⟩⟩⟩⟩⟩⟩⟩
def lw_privs : List (MethodName × Nat) := lw_privs_1 ++ (lw_privs_2 ++ (lw_privs_3 ++ (lw_privs_4 ++ (lw_privs_5 ++ (lw_privs_6)))))
def lw_tbl : List Cond := k2_sels lw_privs ++ tables_1
theorem lw_privs_ok : ∀ q ∈ lw_privs, lw_okq q := by
  show ∀ q ∈ lw_privs_1 ++ (lw_privs_2 ++ (lw_privs_3 ++ (lw_privs_4 ++ (lw_privs_5 ++ (lw_privs_6))))), lw_okq q
  exact List.forall_mem_append.mpr ⟨lw_r1, List.forall_mem_append.mpr ⟨lw_r2, List.forall_mem_append.mpr ⟨lw_r3, List.forall_mem_append.mpr ⟨lw_r4, List.forall_mem_append.mpr ⟨lw_r5, lw_r6⟩⟩⟩⟩⟩
def RX0 : String := "ToOneCrumb$Board"
def TX0 : u_T := fun k => match k with
  | 0 => ("ToOneCrumb$Board", "past", "[J", true)
  | 1 => ("ToOneCrumb$Board", "kept", "[J", true)
  | 2 => ("ToOneCrumb$Board", "holders", "J", false)
  | 3 => ("ToOneCrumb$Board", "pasts", "I", false)
  | _ => ("ToOneCrumb$Board", "whichKept", "I", false)
def tyX0 : Nat → FieldType := fun k => match k with
  | 0 => .array .long
  | 1 => .array .long
  | 2 => .long
  | 3 => .int
  | _ => .int
abbrev wsX00 : List Cond := u_ws RX0 TX0 5
theorem nmX0 : ∀ a, a < 5 → ∀ b, b < 5 → a ≠ b → (TX0 a).2.1 ≠ (TX0 b).2.1 := by decide +kernel
theorem tyX0_ok : ∀ k, k < 5 → parseFieldDescriptor (TX0 k).2.2.1 = some (tyX0 k) := by decide +kernel
abbrev cX0_init : ByteArray := prog_2_method_1_code
def yX0_init : MethodName := ⟨RX0, "<init>", "()V"⟩
abbrev cX0_holderOf : ByteArray := prog_2_method_2_code
def yX0_holderOf : MethodName := ⟨RX0, "holderOf", "(I)I"⟩
abbrev cX0_put : ByteArray := prog_2_method_3_code
def yX0_put : MethodName := ⟨RX0, "put", "(II)V"⟩
abbrev cX0_startAnew : ByteArray := prog_2_method_4_code
def yX0_startAnew : MethodName := ⟨RX0, "startAnew", "()V"⟩
abbrev cX0_remember : ByteArray := prog_2_method_5_code
def yX0_remember : MethodName := ⟨RX0, "remember", "(J)V"⟩
abbrev cX0_stepBack : ByteArray := prog_2_method_6_code
def yX0_stepBack : MethodName := ⟨RX0, "stepBack", "()I"⟩
abbrev cX0_store : ByteArray := prog_2_method_7_code
def yX0_store : MethodName := ⟨RX0, "store", "(I)Z"⟩
abbrev cX0_restore : ByteArray := prog_2_method_8_code
def yX0_restore : MethodName := ⟨RX0, "restore", "(I)Z"⟩
def RX1 : String := "ToOneCrumb$Choices"
def TX1 : u_T := fun k => match k with
  | 0 => ("ToOneCrumb$Choices", "taken", "[I", true)
  | 1 => ("ToOneCrumb$Choices", "left", "[I", true)
  | 2 => ("ToOneCrumb$Choices", "tried", "[I", true)
  | 3 => ("ToOneCrumb$Choices", "leastTastes", "[I", true)
  | 4 => ("ToOneCrumb$Choices", "asked", "[I", true)
  | 5 => ("ToOneCrumb$Choices", "noLess", "[I", true)
  | 6 => ("ToOneCrumb$Choices", "known", "I", false)
  | _ => ("ToOneCrumb$Choices", "size", "I", false)
def tyX1 : Nat → FieldType := fun k => match k with
  | 0 => .array .int
  | 1 => .array .int
  | 2 => .array .int
  | 3 => .array .int
  | 4 => .array .int
  | 5 => .array .int
  | 6 => .int
  | _ => .int
abbrev wsX10 : List Cond := u_ws RX1 TX1 8
theorem nmX1 : ∀ a, a < 8 → ∀ b, b < 8 → a ≠ b → (TX1 a).2.1 ≠ (TX1 b).2.1 := by decide +kernel
theorem tyX1_ok : ∀ k, k < 8 → parseFieldDescriptor (TX1 k).2.2.1 = some (tyX1 k) := by decide +kernel
abbrev cX1_init : ByteArray := prog_3_method_1_code
def yX1_init : MethodName := ⟨RX1, "<init>", "()V"⟩
abbrev cX1_tell : ByteArray := prog_3_method_2_code
def yX1_tell : MethodName := ⟨RX1, "tell", "(II)I"⟩
abbrev cX1_countFitting : ByteArray := prog_3_method_3_code
def yX1_countFitting : MethodName := ⟨RX1, "countFitting", "(LToOneCrumb$Rule;LToOneCrumb$Loaf;I)I"⟩
abbrev cX1_countPairs : ByteArray := prog_3_method_4_code
def yX1_countPairs : MethodName := ⟨RX1, "countPairs", "(LToOneCrumb$Rule;LToOneCrumb$Loaf;I)V"⟩
abbrev cX1_countThisTime : ByteArray := prog_3_method_5_code
def yX1_countThisTime : MethodName := ⟨RX1, "countThisTime", "(I)V"⟩
abbrev cX1_leftAtMost : ByteArray := prog_3_method_6_code
def yX1_leftAtMost : MethodName := ⟨RX1, "leftAtMost", "(II)I"⟩
abbrev cX1_fits : ByteArray := prog_3_method_7_code
def yX1_fits : MethodName := ⟨RX1, "fits", "(ILToOneCrumb$Rule;LToOneCrumb$Loaf;I)Z"⟩
abbrev cX1_ask : ByteArray := prog_3_method_8_code
def yX1_ask : MethodName := ⟨RX1, "ask", "(ILToOneCrumb$Rule;LToOneCrumb$Loaf;I)I"⟩
def RX2 : String := "ToOneCrumb$Loaf"
def TX2 : u_T := fun k => match k with
  | 0 => ("ToOneCrumb$Loaf", "crumbs", "[I", true)
  | 1 => ("ToOneCrumb$Loaf", "raisins", "[I", true)
  | 2 => ("ToOneCrumb$Loaf", "crust", "[I", true)
  | _ => ("ToOneCrumb$Loaf", "cells", "I", false)
def tyX2 : Nat → FieldType := fun k => match k with
  | 0 => .array .int
  | 1 => .array .int
  | 2 => .array .int
  | _ => .int
abbrev wsX20 : List Cond := u_ws RX2 TX2 4
theorem nmX2 : ∀ a, a < 4 → ∀ b, b < 4 → a ≠ b → (TX2 a).2.1 ≠ (TX2 b).2.1 := by decide +kernel
theorem tyX2_ok : ∀ k, k < 4 → parseFieldDescriptor (TX2 k).2.2.1 = some (tyX2 k) := by decide +kernel
abbrev cX2_init : ByteArray := prog_4_method_1_code
def yX2_init : MethodName := ⟨RX2, "<init>", "()V"⟩
abbrev cX2_read : ByteArray := prog_4_method_2_code
def yX2_read : MethodName := ⟨RX2, "read", "(LToOneCrumb$Text;)Z"⟩
abbrev cX2_allCrumbs : ByteArray := prog_4_method_3_code
def yX2_allCrumbs : MethodName := ⟨RX2, "allCrumbs", "()I"⟩
def RX3 : String := "ToOneCrumb$Party"
def TX3 : u_T := fun k => match k with
  | 0 => ("ToOneCrumb$Party", "likes", "[I", true)
  | 1 => ("ToOneCrumb$Party", "deserts", "[I", true)
  | 2 => ("ToOneCrumb$Party", "earned", "[I", true)
  | _ => ("ToOneCrumb$Party", "size", "I", false)
def tyX3 : Nat → FieldType := fun k => match k with
  | 0 => .array .int
  | 1 => .array .int
  | 2 => .array .int
  | _ => .int
abbrev wsX30 : List Cond := u_ws RX3 TX3 4
theorem nmX3 : ∀ a, a < 4 → ∀ b, b < 4 → a ≠ b → (TX3 a).2.1 ≠ (TX3 b).2.1 := by decide +kernel
theorem tyX3_ok : ∀ k, k < 4 → parseFieldDescriptor (TX3 k).2.2.1 = some (tyX3 k) := by decide +kernel
abbrev cX3_init : ByteArray := prog_5_method_1_code
def yX3_init : MethodName := ⟨RX3, "<init>", "()V"⟩
abbrev cX3_tasteOf : ByteArray := prog_5_method_2_code
def yX3_tasteOf : MethodName := ⟨RX3, "tasteOf", "(II)I"⟩
abbrev cX3_readLines : ByteArray := prog_5_method_3_code
def yX3_readLines : MethodName := ⟨RX3, "readLines", "(LToOneCrumb$Text;)I"⟩
abbrev cX3_admit : ByteArray := prog_5_method_4_code
def yX3_admit : MethodName := ⟨RX3, "admit", "(I)V"⟩
abbrev cX3_readDeeds : ByteArray := prog_5_method_5_code
def yX3_readDeeds : MethodName := ⟨RX3, "readDeeds", "(LToOneCrumb$Text;)Z"⟩
abbrev cX3_readDeed : ByteArray := prog_5_method_6_code
def yX3_readDeed : MethodName := ⟨RX3, "readDeed", "(LToOneCrumb$Text;)Z"⟩
abbrev cX3_judge : ByteArray := prog_5_method_7_code
def yX3_judge : MethodName := ⟨RX3, "judge", "()V"⟩
abbrev cX3_desertsOf : ByteArray := prog_5_method_8_code
def yX3_desertsOf : MethodName := ⟨RX3, "desertsOf", "(I)I"⟩
abbrev cX3_allDeserts : ByteArray := prog_5_method_9_code
def yX3_allDeserts : MethodName := ⟨RX3, "allDeserts", "()I"⟩
abbrev cX3_canPart : ByteArray := prog_5_method_10_code
def yX3_canPart : MethodName := ⟨RX3, "canPart", "(II)Z"⟩
abbrev cX3_chanceOf : ByteArray := prog_5_method_11_code
def yX3_chanceOf : MethodName := ⟨RX3, "chanceOf", "(II)J"⟩
abbrev cX3_allChances : ByteArray := prog_5_method_12_code
def yX3_allChances : MethodName := ⟨RX3, "allChances", "()J"⟩
def RX4 : String := "ToOneCrumb$Placing"
def TX4 : u_T := fun k => match k with
  | 0 => ("ToOneCrumb$Placing", "who", "[I", true)
  | 1 => ("ToOneCrumb$Placing", "times", "[J", true)
  | 2 => ("ToOneCrumb$Placing", "need", "[J", true)
  | 3 => ("ToOneCrumb$Placing", "reach", "[I", true)
  | 4 => ("ToOneCrumb$Placing", "least", "[I", true)
  | 5 => ("ToOneCrumb$Placing", "order", "[I", true)
  | 6 => ("ToOneCrumb$Placing", "members", "I", false)
  | _ => ("ToOneCrumb$Placing", "cells", "I", false)
def tyX4 : Nat → FieldType := fun k => match k with
  | 0 => .array .int
  | 1 => .array .long
  | 2 => .array .long
  | 3 => .array .int
  | 4 => .array .int
  | 5 => .array .int
  | 6 => .int
  | _ => .int
abbrev wsX40 : List Cond := u_ws RX4 TX4 8
theorem nmX4 : ∀ a, a < 8 → ∀ b, b < 8 → a ≠ b → (TX4 a).2.1 ≠ (TX4 b).2.1 := by decide +kernel
theorem tyX4_ok : ∀ k, k < 8 → parseFieldDescriptor (TX4 k).2.2.1 = some (tyX4 k) := by decide +kernel
abbrev cX4_init : ByteArray := prog_6_method_1_code
def yX4_init : MethodName := ⟨RX4, "<init>", "()V"⟩
abbrev cX4_start : ByteArray := prog_6_method_2_code
def yX4_start : MethodName := ⟨RX4, "start", "(I)V"⟩
abbrev cX4_addMember : ByteArray := prog_6_method_3_code
def yX4_addMember : MethodName := ⟨RX4, "addMember", "(IJJ)V"⟩
abbrev cX4_readClaims : ByteArray := prog_6_method_4_code
def yX4_readClaims : MethodName := ⟨RX4, "readClaims", "(LToOneCrumb$Text;I)Z"⟩
abbrev cX4_spread : ByteArray := prog_6_method_5_code
def yX4_spread : MethodName := ⟨RX4, "spread", "(LToOneCrumb$Worths;)V"⟩
abbrev cX4_shortest : ByteArray := prog_6_method_6_code
def yX4_shortest : MethodName := ⟨RX4, "shortest", "(LToOneCrumb$Worths;II)I"⟩
abbrev cX4_reached : ByteArray := prog_6_method_7_code
def yX4_reached : MethodName := ⟨RX4, "reached", "(II)I"⟩
abbrev cX4_canServe : ByteArray := prog_6_method_8_code
def yX4_canServe : MethodName := ⟨RX4, "canServe", "(I)Z"⟩
abbrev cX4_tellOrder : ByteArray := prog_6_method_9_code
def yX4_tellOrder : MethodName := ⟨RX4, "tellOrder", "(ILToOneCrumb$Row;)V"⟩
abbrev cX4_findOrder : ByteArray := prog_6_method_10_code
def yX4_findOrder : MethodName := ⟨RX4, "findOrder", "(IIII)Z"⟩
def RX5 : String := "ToOneCrumb$Row"
def TX5 : u_T := fun k => match k with
  | 0 => ("ToOneCrumb$Row", "numbers", "[J", true)
  | _ => ("ToOneCrumb$Row", "size", "I", false)
def tyX5 : Nat → FieldType := fun k => match k with
  | 0 => .array .long
  | _ => .int
abbrev wsX50 : List Cond := u_ws RX5 TX5 2
theorem nmX5 : ∀ a, a < 2 → ∀ b, b < 2 → a ≠ b → (TX5 a).2.1 ≠ (TX5 b).2.1 := by decide +kernel
theorem tyX5_ok : ∀ k, k < 2 → parseFieldDescriptor (TX5 k).2.2.1 = some (tyX5 k) := by decide +kernel
abbrev cX5_init : ByteArray := prog_7_method_1_code
def yX5_init : MethodName := ⟨RX5, "<init>", "()V"⟩
abbrev cX5_clear : ByteArray := prog_7_method_2_code
def yX5_clear : MethodName := ⟨RX5, "clear", "()V"⟩
abbrev cX5_add : ByteArray := prog_7_method_3_code
def yX5_add : MethodName := ⟨RX5, "add", "(J)V"⟩
abbrev cX5_addFraction : ByteArray := prog_7_method_4_code
def yX5_addFraction : MethodName := ⟨RX5, "addFraction", "(JJ)V"⟩
def RX6 : String := "ToOneCrumb$Rule"
def TX6 : u_T := fun k => match k with
  | 0 => ("ToOneCrumb$Rule", "steps", "[I", true)
  | 1 => ("ToOneCrumb$Rule", "waiting", "[I", true)
  | 2 => ("ToOneCrumb$Rule", "values", "[I", true)
  | 3 => ("ToOneCrumb$Rule", "size", "I", false)
  | 4 => ("ToOneCrumb$Rule", "waits", "I", false)
  | 5 => ("ToOneCrumb$Rule", "depth", "I", false)
  | 6 => ("ToOneCrumb$Rule", "compared", "I", false)
  | _ => ("ToOneCrumb$Rule", "wantsThing", "Z", false)
def tyX6 : Nat → FieldType := fun k => match k with
  | 0 => .array .int
  | 1 => .array .int
  | 2 => .array .int
  | 3 => .int
  | 4 => .int
  | 5 => .int
  | 6 => .int
  | _ => .boolean
abbrev wsX60 : List Cond := u_ws RX6 TX6 8
theorem nmX6 : ∀ a, a < 8 → ∀ b, b < 8 → a ≠ b → (TX6 a).2.1 ≠ (TX6 b).2.1 := by decide +kernel
theorem tyX6_ok : ∀ k, k < 8 → parseFieldDescriptor (TX6 k).2.2.1 = some (tyX6 k) := by decide +kernel
abbrev cX6_init : ByteArray := prog_8_method_1_code
def yX6_init : MethodName := ⟨RX6, "<init>", "()V"⟩
abbrev cX6_read : ByteArray := prog_8_method_2_code
def yX6_read : MethodName := ⟨RX6, "read", "(LToOneCrumb$Text;)Z"⟩
abbrev cX6_readThing : ByteArray := prog_8_method_3_code
def yX6_readThing : MethodName := ⟨RX6, "readThing", "(LToOneCrumb$Text;)Z"⟩
abbrev cX6_readJoint : ByteArray := prog_8_method_4_code
def yX6_readJoint : MethodName := ⟨RX6, "readJoint", "(LToOneCrumb$Text;)Z"⟩
abbrev cX6_isLetter : ByteArray := prog_8_method_5_code
def yX6_isLetter : MethodName := ⟨RX6, "isLetter", "(I)Z"⟩
abbrev cX6_strengthOf : ByteArray := prog_8_method_6_code
def yX6_strengthOf : MethodName := ⟨RX6, "strengthOf", "(I)I"⟩
abbrev cX6_hold : ByteArray := prog_8_method_7_code
def yX6_hold : MethodName := ⟨RX6, "hold", "(I)V"⟩
abbrev cX6_addStep : ByteArray := prog_8_method_8_code
def yX6_addStep : MethodName := ⟨RX6, "addStep", "(I)V"⟩
abbrev cX6_release : ByteArray := prog_8_method_9_code
def yX6_release : MethodName := ⟨RX6, "release", "(I)V"⟩
abbrev cX6_worthOf : ByteArray := prog_8_method_10_code
def yX6_worthOf : MethodName := ⟨RX6, "worthOf", "(LToOneCrumb$Loaf;II[II)I"⟩
abbrev cX6_walk : ByteArray := prog_8_method_11_code
def yX6_walk : MethodName := ⟨RX6, "walk", "(LToOneCrumb$Loaf;II[II)I"⟩
abbrev cX6_valueOf : ByteArray := prog_8_method_12_code
def yX6_valueOf : MethodName := ⟨RX6, "valueOf", "(ILToOneCrumb$Loaf;II[II)I"⟩
abbrev cX6_joined : ByteArray := prog_8_method_13_code
def yX6_joined : MethodName := ⟨RX6, "joined", "(III)I"⟩
def RX7 : String := "ToOneCrumb$Seating"
def TX7 : u_T := fun k => match k with
  | 0 => ("ToOneCrumb$Seating", "starts", "[I", true)
  | 1 => ("ToOneCrumb$Seating", "stops", "[I", true)
  | 2 => ("ToOneCrumb$Seating", "owners", "[I", true)
  | 3 => ("ToOneCrumb$Seating", "best", "[I", true)
  | 4 => ("ToOneCrumb$Seating", "worths", "LToOneCrumb$Worths;", true)
  | 5 => ("ToOneCrumb$Seating", "guests", "I", false)
  | 6 => ("ToOneCrumb$Seating", "cells", "I", false)
  | _ => ("ToOneCrumb$Seating", "found", "I", false)
def tyX7 : Nat → FieldType := fun k => match k with
  | 0 => .array .int
  | 1 => .array .int
  | 2 => .array .int
  | 3 => .array .int
  | 4 => .object "ToOneCrumb$Worths"
  | 5 => .int
  | 6 => .int
  | _ => .int
abbrev wsX70 : List Cond := u_ws RX7 TX7 8
theorem nmX7 : ∀ a, a < 8 → ∀ b, b < 8 → a ≠ b → (TX7 a).2.1 ≠ (TX7 b).2.1 := by decide +kernel
theorem tyX7_ok : ∀ k, k < 8 → parseFieldDescriptor (TX7 k).2.2.1 = some (tyX7 k) := by decide +kernel
abbrev cX7_init : ByteArray := prog_9_method_1_code
def yX7_init : MethodName := ⟨RX7, "<init>", "(LToOneCrumb$Worths;)V"⟩
abbrev cX7_ways : ByteArray := prog_9_method_2_code
def yX7_ways : MethodName := ⟨RX7, "ways", "(IILToOneCrumb$Row;)I"⟩
abbrev cX7_part : ByteArray := prog_9_method_3_code
def yX7_part : MethodName := ⟨RX7, "part", "(III)V"⟩
abbrev cX7_isCalmWith : ByteArray := prog_9_method_4_code
def yX7_isCalmWith : MethodName := ⟨RX7, "isCalmWith", "(II)Z"⟩
abbrev cX7_prefers : ByteArray := prog_9_method_5_code
def yX7_prefers : MethodName := ⟨RX7, "prefers", "(II)Z"⟩
abbrev cX7_othersAreCalm : ByteArray := prog_9_method_6_code
def yX7_othersAreCalm : MethodName := ⟨RX7, "othersAreCalm", "(I)Z"⟩
abbrev cX7_note : ByteArray := prog_9_method_7_code
def yX7_note : MethodName := ⟨RX7, "note", "()V"⟩
abbrev cX7_isLess : ByteArray := prog_9_method_8_code
def yX7_isLess : MethodName := ⟨RX7, "isLess", "()Z"⟩
def RX8 : String := "ToOneCrumb$Text"
def TX8 : u_T := fun k => match k with
  | 0 => ("ToOneCrumb$Text", "signs", "[I", true)
  | 1 => ("ToOneCrumb$Text", "size", "I", false)
  | 2 => ("ToOneCrumb$Text", "stop", "I", false)
  | _ => ("ToOneCrumb$Text", "place", "I", false)
def tyX8 : Nat → FieldType := fun k => match k with
  | 0 => .array .int
  | 1 => .int
  | 2 => .int
  | _ => .int
abbrev wsX80 : List Cond := u_ws RX8 TX8 4
theorem nmX8 : ∀ a, a < 4 → ∀ b, b < 4 → a ≠ b → (TX8 a).2.1 ≠ (TX8 b).2.1 := by decide +kernel
theorem tyX8_ok : ∀ k, k < 4 → parseFieldDescriptor (TX8 k).2.2.1 = some (tyX8 k) := by decide +kernel
abbrev cX8_init : ByteArray := prog_10_method_1_code
def yX8_init : MethodName := ⟨RX8, "<init>", "()V"⟩
abbrev cX8_addFour : ByteArray := prog_10_method_2_code
def yX8_addFour : MethodName := ⟨RX8, "addFour", "(I)I"⟩
abbrev cX8_shorten : ByteArray := prog_10_method_3_code
def yX8_shorten : MethodName := ⟨RX8, "shorten", "(I)Z"⟩
abbrev cX8_clear : ByteArray := prog_10_method_4_code
def yX8_clear : MethodName := ⟨RX8, "clear", "()V"⟩
abbrev cX8_start : ByteArray := prog_10_method_5_code
def yX8_start : MethodName := ⟨RX8, "start", "(I)V"⟩
abbrev cX8_isFinished : ByteArray := prog_10_method_6_code
def yX8_isFinished : MethodName := ⟨RX8, "isFinished", "()Z"⟩
abbrev cX8_fault : ByteArray := prog_10_method_7_code
def yX8_fault : MethodName := ⟨RX8, "fault", "()I"⟩
abbrev cX8_next : ByteArray := prog_10_method_8_code
def yX8_next : MethodName := ⟨RX8, "next", "()I"⟩
abbrev cX8_skip : ByteArray := prog_10_method_9_code
def yX8_skip : MethodName := ⟨RX8, "skip", "(I)Z"⟩
abbrev cX8_takeDigit : ByteArray := prog_10_method_10_code
def yX8_takeDigit : MethodName := ⟨RX8, "takeDigit", "(I)I"⟩
abbrev cX8_takeNumber : ByteArray := prog_10_method_11_code
def yX8_takeNumber : MethodName := ⟨RX8, "takeNumber", "(I)I"⟩
abbrev cX8_takeLetter : ByteArray := prog_10_method_12_code
def yX8_takeLetter : MethodName := ⟨RX8, "takeLetter", "(I)I"⟩
def RX9 : String := "ToOneCrumb$Turns"
def TX9 : u_T := fun k => match k with
  | 0 => ("ToOneCrumb$Turns", "whose", "[I", true)
  | 1 => ("ToOneCrumb$Turns", "told", "[I", true)
  | 2 => ("ToOneCrumb$Turns", "has", "[I", true)
  | _ => ("ToOneCrumb$Turns", "size", "I", false)
def tyX9 : Nat → FieldType := fun k => match k with
  | 0 => .array .int
  | 1 => .array .int
  | 2 => .array .int
  | _ => .int
abbrev wsX90 : List Cond := u_ws RX9 TX9 4
theorem nmX9 : ∀ a, a < 4 → ∀ b, b < 4 → a ≠ b → (TX9 a).2.1 ≠ (TX9 b).2.1 := by decide +kernel
theorem tyX9_ok : ∀ k, k < 4 → parseFieldDescriptor (TX9 k).2.2.1 = some (tyX9 k) := by decide +kernel
abbrev cX9_init : ByteArray := prog_11_method_1_code
def yX9_init : MethodName := ⟨RX9, "<init>", "()V"⟩
abbrev cX9_read : ByteArray := prog_11_method_2_code
def yX9_read : MethodName := ⟨RX9, "read", "(LToOneCrumb$Text;I)Z"⟩
abbrev cX9_startTaking : ByteArray := prog_11_method_3_code
def yX9_startTaking : MethodName := ⟨RX9, "startTaking", "(LToOneCrumb$Worths;)V"⟩
abbrev cX9_takeAll : ByteArray := prog_11_method_4_code
def yX9_takeAll : MethodName := ⟨RX9, "takeAll", "(LToOneCrumb$Worths;)I"⟩
abbrev cX9_favourite : ByteArray := prog_11_method_5_code
def yX9_favourite : MethodName := ⟨RX9, "favourite", "(III)I"⟩
def RX10 : String := "ToOneCrumb$Worths"
def TX10 : u_T := fun k => match k with
  | 0 => ("ToOneCrumb$Worths", "each", "[I", true)
  | 1 => ("ToOneCrumb$Worths", "ahead", "[I", true)
  | _ => ("ToOneCrumb$Worths", "cells", "I", false)
def tyX10 : Nat → FieldType := fun k => match k with
  | 0 => .array .int
  | 1 => .array .int
  | _ => .int
abbrev wsX100 : List Cond := u_ws RX10 TX10 3
theorem nmX10 : ∀ a, a < 3 → ∀ b, b < 3 → a ≠ b → (TX10 a).2.1 ≠ (TX10 b).2.1 := by decide +kernel
theorem tyX10_ok : ∀ k, k < 3 → parseFieldDescriptor (TX10 k).2.2.1 = some (tyX10 k) := by decide +kernel
abbrev cX10_init : ByteArray := prog_12_method_1_code
def yX10_init : MethodName := ⟨RX10, "<init>", "()V"⟩
abbrev cX10_renew : ByteArray := prog_12_method_2_code
def yX10_renew : MethodName := ⟨RX10, "renew", "(LToOneCrumb$Rule;LToOneCrumb$Loaf;LToOneCrumb$Party;)V"⟩
abbrev cX10_of : ByteArray := prog_12_method_3_code
def yX10_of : MethodName := ⟨RX10, "of", "(II)I"⟩
abbrev cX10_between : ByteArray := prog_12_method_4_code
def yX10_between : MethodName := ⟨RX10, "between", "(III)I"⟩
abbrev cX10_whole : ByteArray := prog_12_method_5_code
def yX10_whole : MethodName := ⟨RX10, "whole", "(I)I"⟩
def RX11 : String := "ToOneCrumb"
def TX11 : u_T := fun k => match k with
  | 0 => ("ToOneCrumb", "text", "LToOneCrumb$Text;", true)
  | 1 => ("ToOneCrumb", "row", "LToOneCrumb$Row;", true)
  | 2 => ("ToOneCrumb", "party", "LToOneCrumb$Party;", true)
  | 3 => ("ToOneCrumb", "worths", "LToOneCrumb$Worths;", true)
  | 4 => ("ToOneCrumb", "board", "LToOneCrumb$Board;", true)
  | 5 => ("ToOneCrumb", "choices", "LToOneCrumb$Choices;", true)
  | 6 => ("ToOneCrumb", "placing", "LToOneCrumb$Placing;", true)
  | 7 => ("ToOneCrumb", "seating", "LToOneCrumb$Seating;", true)
  | 8 => ("ToOneCrumb", "turns", "LToOneCrumb$Turns;", true)
  | 9 => ("ToOneCrumb", "acts", "[I", true)
  | 10 => ("ToOneCrumb", "leasts", "[I", true)
  | 11 => ("ToOneCrumb", "bread", "LToOneCrumb$Loaf;", false)
  | 12 => ("ToOneCrumb", "dough", "LToOneCrumb$Loaf;", false)
  | 13 => ("ToOneCrumb", "law", "LToOneCrumb$Rule;", false)
  | 14 => ("ToOneCrumb", "bill", "LToOneCrumb$Rule;", false)
  | _ => ("ToOneCrumb", "actCount", "I", false)
def tyX11 : Nat → FieldType := fun k => match k with
  | 0 => .object "ToOneCrumb$Text"
  | 1 => .object "ToOneCrumb$Row"
  | 2 => .object "ToOneCrumb$Party"
  | 3 => .object "ToOneCrumb$Worths"
  | 4 => .object "ToOneCrumb$Board"
  | 5 => .object "ToOneCrumb$Choices"
  | 6 => .object "ToOneCrumb$Placing"
  | 7 => .object "ToOneCrumb$Seating"
  | 8 => .object "ToOneCrumb$Turns"
  | 9 => .array .int
  | 10 => .array .int
  | 11 => .object "ToOneCrumb$Loaf"
  | 12 => .object "ToOneCrumb$Loaf"
  | 13 => .object "ToOneCrumb$Rule"
  | 14 => .object "ToOneCrumb$Rule"
  | _ => .int
abbrev wsX110 : List Cond := u_ws RX11 TX11 16
theorem nmX11 : ∀ a, a < 16 → ∀ b, b < 16 → a ≠ b → (TX11 a).2.1 ≠ (TX11 b).2.1 := by decide +kernel
theorem tyX11_ok : ∀ k, k < 16 → parseFieldDescriptor (TX11 k).2.2.1 = some (tyX11 k) := by decide +kernel
abbrev cX11_init : ByteArray := prog_1_method_1_code
def yX11_init : MethodName := ⟨RX11, "<init>", "()V"⟩
abbrev cX11_sign : ByteArray := prog_1_method_2_code
def yX11_sign : MethodName := ⟨RX11, "sign", "(I)I"⟩
abbrev cX11_end : ByteArray := prog_1_method_3_code
def yX11_end : MethodName := ⟨RX11, "end", "(I)Z"⟩
abbrev cX11_loaf : ByteArray := prog_1_method_4_code
def yX11_loaf : MethodName := ⟨RX11, "loaf", "()I"⟩
abbrev cX11_guests : ByteArray := prog_1_method_5_code
def yX11_guests : MethodName := ⟨RX11, "guests", "()I"⟩
abbrev cX11_deeds : ByteArray := prog_1_method_6_code
def yX11_deeds : MethodName := ⟨RX11, "deeds", "()I"⟩
abbrev cX11_rule : ByteArray := prog_1_method_7_code
def yX11_rule : MethodName := ⟨RX11, "rule", "()I"⟩
abbrev cX11_cell : ByteArray := prog_1_method_8_code
def yX11_cell : MethodName := ⟨RX11, "cell", "(II)I"⟩
abbrev cX11_guest : ByteArray := prog_1_method_9_code
def yX11_guest : MethodName := ⟨RX11, "guest", "(II)I"⟩
abbrev cX11_worth : ByteArray := prog_1_method_10_code
def yX11_worth : MethodName := ⟨RX11, "worth", "(II)I"⟩
abbrev cX11_taste : ByteArray := prog_1_method_11_code
def yX11_taste : MethodName := ⟨RX11, "taste", "(III)I"⟩
abbrev cX11_sheet : ByteArray := prog_1_method_12_code
def yX11_sheet : MethodName := ⟨RX11, "sheet", "(IIII)I"⟩
abbrev cX11_give : ByteArray := prog_1_method_13_code
def yX11_give : MethodName := ⟨RX11, "give", "(III)I"⟩
abbrev cX11_back : ByteArray := prog_1_method_14_code
def yX11_back : MethodName := ⟨RX11, "back", "(II)I"⟩
abbrev cX11_mouse : ByteArray := prog_1_method_15_code
def yX11_mouse : MethodName := ⟨RX11, "mouse", "(I)I"⟩
abbrev cX11_supper : ByteArray := prog_1_method_16_code
def yX11_supper : MethodName := ⟨RX11, "supper", "()I"⟩
abbrev cX11_undo : ByteArray := prog_1_method_17_code
def yX11_undo : MethodName := ⟨RX11, "undo", "()I"⟩
abbrev cX11_seen : ByteArray := prog_1_method_18_code
def yX11_seen : MethodName := ⟨RX11, "seen", "(II)I"⟩
abbrev cX11_envy : ByteArray := prog_1_method_19_code
def yX11_envy : MethodName := ⟨RX11, "envy", "()I"⟩
abbrev cX11_wronged : ByteArray := prog_1_method_20_code
def yX11_wronged : MethodName := ⟨RX11, "wronged", "()I"⟩
abbrev cX11_happiest : ByteArray := prog_1_method_21_code
def yX11_happiest : MethodName := ⟨RX11, "happiest", "()I"⟩
abbrev cX11_pieces : ByteArray := prog_1_method_22_code
def yX11_pieces : MethodName := ⟨RX11, "pieces", "(I)I"⟩
abbrev cX11_trade : ByteArray := prog_1_method_23_code
def yX11_trade : MethodName := ⟨RX11, "trade", "(II)I"⟩
abbrev cX11_slices : ByteArray := prog_1_method_24_code
def yX11_slices : MethodName := ⟨RX11, "slices", "(I)I"⟩
abbrev cX11_quarrel : ByteArray := prog_1_method_25_code
def yX11_quarrel : MethodName := ⟨RX11, "quarrel", "()I"⟩
abbrev cX11_stretch : ByteArray := prog_1_method_26_code
def yX11_stretch : MethodName := ⟨RX11, "stretch", "()I"⟩
abbrev cX11_richest : ByteArray := prog_1_method_27_code
def yX11_richest : MethodName := ⟨RX11, "richest", "(II)I"⟩
abbrev cX11_parts : ByteArray := prog_1_method_28_code
def yX11_parts : MethodName := ⟨RX11, "parts", "(II)I"⟩
abbrev cX11_calm : ByteArray := prog_1_method_29_code
def yX11_calm : MethodName := ⟨RX11, "calm", "()I"⟩
abbrev cX11_cuts : ByteArray := prog_1_method_30_code
def yX11_cuts : MethodName := ⟨RX11, "cuts", "(II)I"⟩
abbrev cX11_byturns : ByteArray := prog_1_method_31_code
def yX11_byturns : MethodName := ⟨RX11, "byturns", "()I"⟩
abbrev cX11_lies : ByteArray := prog_1_method_32_code
def yX11_lies : MethodName := ⟨RX11, "lies", "(I)I"⟩
abbrev cX11_chose : ByteArray := prog_1_method_33_code
def yX11_chose : MethodName := ⟨RX11, "chose", "(II)I"⟩
abbrev cX11_forget : ByteArray := prog_1_method_34_code
def yX11_forget : MethodName := ⟨RX11, "forget", "()I"⟩
abbrev cX11_tastes : ByteArray := prog_1_method_35_code
def yX11_tastes : MethodName := ⟨RX11, "tastes", "(I)I"⟩
abbrev cX11_offer : ByteArray := prog_1_method_36_code
def yX11_offer : MethodName := ⟨RX11, "offer", "(I)I"⟩
abbrev cX11_claims : ByteArray := prog_1_method_37_code
def yX11_claims : MethodName := ⟨RX11, "claims", "()I"⟩
abbrev cX11_settle : ByteArray := prog_1_method_38_code
def yX11_settle : MethodName := ⟨RX11, "settle", "(II)I"⟩
abbrev cX11_nothing : ByteArray := prog_1_method_39_code
def yX11_nothing : MethodName := ⟨RX11, "nothing", "()I"⟩
abbrev cX11_ate : ByteArray := prog_1_method_40_code
def yX11_ate : MethodName := ⟨RX11, "ate", "(I)I"⟩
abbrev cX11_enough : ByteArray := prog_1_method_41_code
def yX11_enough : MethodName := ⟨RX11, "enough", "(II)I"⟩
abbrev cX11_wide : ByteArray := prog_1_method_42_code
def yX11_wide : MethodName := ⟨RX11, "wide", "(II)I"⟩
abbrev cX11_suppers : ByteArray := prog_1_method_43_code
def yX11_suppers : MethodName := ⟨RX11, "suppers", "(II)I"⟩
abbrev cX11_keep : ByteArray := prog_1_method_44_code
def yX11_keep : MethodName := ⟨RX11, "keep", "(I)Z"⟩
abbrev cX11_again : ByteArray := prog_1_method_45_code
def yX11_again : MethodName := ⟨RX11, "again", "(I)Z"⟩
abbrev cX11_count : ByteArray := prog_1_method_46_code
def yX11_count : MethodName := ⟨RX11, "count", "(I)I"⟩
abbrev cX11_row : ByteArray := prog_1_method_47_code
def yX11_row : MethodName := ⟨RX11, "row", "(I)J"⟩
abbrev cX11_isCell : ByteArray := prog_1_method_48_code
def yX11_isCell : MethodName := ⟨RX11, "isCell", "(I)Z"⟩
abbrev cX11_isGuest : ByteArray := prog_1_method_49_code
def yX11_isGuest : MethodName := ⟨RX11, "isGuest", "(I)Z"⟩
abbrev cX11_everyone : ByteArray := prog_1_method_50_code
def yX11_everyone : MethodName := ⟨RX11, "everyone", "()I"⟩
abbrev cX11_areGuests : ByteArray := prog_1_method_51_code
def yX11_areGuests : MethodName := ⟨RX11, "areGuests", "(I)Z"⟩
abbrev cX11_renewWorths : ByteArray := prog_1_method_52_code
def yX11_renewWorths : MethodName := ⟨RX11, "renewWorths", "()V"⟩
abbrev cX11_sheetEntry : ByteArray := prog_1_method_53_code
def yX11_sheetEntry : MethodName := ⟨RX11, "sheetEntry", "(II)I"⟩
abbrev cX11_cellsWith : ByteArray := prog_1_method_54_code
def yX11_cellsWith : MethodName := ⟨RX11, "cellsWith", "(I)I"⟩
abbrev cX11_worthHeld : ByteArray := prog_1_method_55_code
def yX11_worthHeld : MethodName := ⟨RX11, "worthHeld", "(II)I"⟩
abbrev cX11_hasDue : ByteArray := prog_1_method_56_code
def yX11_hasDue : MethodName := ⟨RX11, "hasDue", "(I)Z"⟩
abbrev cX11_remembered : ByteArray := prog_1_method_57_code
def yX11_remembered : MethodName := ⟨RX11, "remembered", "(JI)I"⟩
abbrev cX11_isSlice : ByteArray := prog_1_method_58_code
def yX11_isSlice : MethodName := ⟨RX11, "isSlice", "(II)Z"⟩
abbrev cX11_giveSlice : ByteArray := prog_1_method_59_code
def yX11_giveSlice : MethodName := ⟨RX11, "giveSlice", "(III)I"⟩
abbrev cX11_takeBack : ByteArray := prog_1_method_60_code
def yX11_takeBack : MethodName := ⟨RX11, "takeBack", "(II)I"⟩
abbrev cX11_feedMouse : ByteArray := prog_1_method_61_code
def yX11_feedMouse : MethodName := ⟨RX11, "feedMouse", "(I)I"⟩
abbrev cX11_readActs : ByteArray := prog_1_method_62_code
def yX11_readActs : MethodName := ⟨RX11, "readActs", "()Z"⟩
abbrev cX11_readAct : ByteArray := prog_1_method_63_code
def yX11_readAct : MethodName := ⟨RX11, "readAct", "(I)Z"⟩
abbrev cX11_doAct : ByteArray := prog_1_method_64_code
def yX11_doAct : MethodName := ⟨RX11, "doAct", "(I)I"⟩
abbrev cX11_jointGain : ByteArray := prog_1_method_65_code
def yX11_jointGain : MethodName := ⟨RX11, "jointGain", "(IIII)I"⟩
abbrev cX11_placeGuests : ByteArray := prog_1_method_66_code
def yX11_placeGuests : MethodName := ⟨RX11, "placeGuests", "(I)V"⟩
abbrev cX11_bestOfLeasts : ByteArray := prog_1_method_67_code
def yX11_bestOfLeasts : MethodName := ⟨RX11, "bestOfLeasts", "(II)I"⟩
abbrev cX11_hasByLie : ByteArray := prog_1_method_68_code
def yX11_hasByLie : MethodName := ⟨RX11, "hasByLie", "(III)I"⟩
def RX12 : String := "ToOneCrumbModel"
def TX12 : u_T := fun k => match k with
  | 0 => ("ToOneCrumbModel", "thrown", "I", false)
  | 1 => ("ToOneCrumbModel", "rows", "I", false)
  | 2 => ("ToOneCrumbModel", "row", "[J", true)
  | 3 => ("ToOneCrumbModel", "cells", "I", false)
  | 4 => ("ToOneCrumbModel", "guests", "I", false)
  | 5 => ("ToOneCrumbModel", "loaves", "I", false)
  | 6 => ("ToOneCrumbModel", "crumbs", "[I", true)
  | 7 => ("ToOneCrumbModel", "raisins", "[I", true)
  | 8 => ("ToOneCrumbModel", "crust", "[Z", true)
  | 9 => ("ToOneCrumbModel", "tastes", "[I", true)
  | 10 => ("ToOneCrumbModel", "deserts", "[I", true)
  | 11 => ("ToOneCrumbModel", "now", "[I", true)
  | 12 => ("ToOneCrumbModel", "tape", "[I", true)
  | 13 => ("ToOneCrumbModel", "taped", "I", false)
  | 14 => ("ToOneCrumbModel", "at", "I", false)
  | 15 => ("ToOneCrumbModel", "to", "I", false)
  | 16 => ("ToOneCrumbModel", "nest", "I", false)
  | 17 => ("ToOneCrumbModel", "readCrumbs", "[I", true)
  | 18 => ("ToOneCrumbModel", "readRaisins", "[I", true)
  | 19 => ("ToOneCrumbModel", "readCrust", "[Z", true)
  | 20 => ("ToOneCrumbModel", "readTastes", "[I", true)
  | 21 => ("ToOneCrumbModel", "readGuests", "I", false)
  | 22 => ("ToOneCrumbModel", "readDeserts", "[I", true)
  | 23 => ("ToOneCrumbModel", "code", "[I", true)
  | 24 => ("ToOneCrumbModel", "readCode", "[I", true)
  | 25 => ("ToOneCrumbModel", "codeLong", "I", false)
  | 26 => ("ToOneCrumbModel", "readLong", "I", false)
  | 27 => ("ToOneCrumbModel", "stack", "[I", true)
  | 28 => ("ToOneCrumbModel", "asked", "[I", true)
  | 29 => ("ToOneCrumbModel", "table", "[I", true)
  | 30 => ("ToOneCrumbModel", "whole", "[I", true)
  | 31 => ("ToOneCrumbModel", "undos", "I", false)
  | 32 => ("ToOneCrumbModel", "undone", "[I", true)
  | 33 => ("ToOneCrumbModel", "actSign", "[I", true)
  | 34 => ("ToOneCrumbModel", "actOne", "[I", true)
  | 35 => ("ToOneCrumbModel", "actFrom", "[I", true)
  | 36 => ("ToOneCrumbModel", "actLast", "[I", true)
  | 37 => ("ToOneCrumbModel", "acts", "I", false)
  | 38 => ("ToOneCrumbModel", "turn", "[I", true)
  | 39 => ("ToOneCrumbModel", "bestTurn", "[I", true)
  | 40 => ("ToOneCrumbModel", "bestCells", "I", false)
  | 41 => ("ToOneCrumbModel", "partEnd", "[I", true)
  | 42 => ("ToOneCrumbModel", "bestEnd", "[I", true)
  | 43 => ("ToOneCrumbModel", "bestLeast", "I", false)
  | 44 => ("ToOneCrumbModel", "whose", "[I", true)
  | 45 => ("ToOneCrumbModel", "firstWhose", "[I", true)
  | 46 => ("ToOneCrumbModel", "sliceWorth", "[I", true)
  | 47 => ("ToOneCrumbModel", "calmMany", "I", false)
  | 48 => ("ToOneCrumbModel", "turns", "[I", true)
  | 49 => ("ToOneCrumbModel", "turnMany", "I", false)
  | 50 => ("ToOneCrumbModel", "taken", "I", false)
  | 51 => ("ToOneCrumbModel", "picks", "[I", true)
  | 52 => ("ToOneCrumbModel", "has", "[I", true)
  | 53 => ("ToOneCrumbModel", "choices", "I", false)
  | 54 => ("ToOneCrumbModel", "choseOne", "[I", true)
  | 55 => ("ToOneCrumbModel", "choseOther", "[I", true)
  | 56 => ("ToOneCrumbModel", "thought", "[I", true)
  | 57 => ("ToOneCrumbModel", "byFirst", "[I", true)
  | 58 => ("ToOneCrumbModel", "bySecond", "[I", true)
  | 59 => ("ToOneCrumbModel", "claimWho", "[I", true)
  | 60 => ("ToOneCrumbModel", "claimed", "[I", true)
  | 61 => ("ToOneCrumbModel", "up", "J", false)
  | 62 => ("ToOneCrumbModel", "down", "J", false)
  | 63 => ("ToOneCrumbModel", "hadAll", "[I", true)
  | 64 => ("ToOneCrumbModel", "isKept", "[Z", true)
  | 65 => ("ToOneCrumbModel", "keptLoaves", "[I", true)
  | _ => ("ToOneCrumbModel", "kept", "[I", true)
def tyX12 : Nat → FieldType := fun k => match k with
  | 0 => .int
  | 1 => .int
  | 2 => .array .long
  | 3 => .int
  | 4 => .int
  | 5 => .int
  | 6 => .array .int
  | 7 => .array .int
  | 8 => .array .boolean
  | 9 => .array .int
  | 10 => .array .int
  | 11 => .array .int
  | 12 => .array .int
  | 13 => .int
  | 14 => .int
  | 15 => .int
  | 16 => .int
  | 17 => .array .int
  | 18 => .array .int
  | 19 => .array .boolean
  | 20 => .array .int
  | 21 => .int
  | 22 => .array .int
  | 23 => .array .int
  | 24 => .array .int
  | 25 => .int
  | 26 => .int
  | 27 => .array .int
  | 28 => .array .int
  | 29 => .array .int
  | 30 => .array .int
  | 31 => .int
  | 32 => .array .int
  | 33 => .array .int
  | 34 => .array .int
  | 35 => .array .int
  | 36 => .array .int
  | 37 => .int
  | 38 => .array .int
  | 39 => .array .int
  | 40 => .int
  | 41 => .array .int
  | 42 => .array .int
  | 43 => .int
  | 44 => .array .int
  | 45 => .array .int
  | 46 => .array .int
  | 47 => .int
  | 48 => .array .int
  | 49 => .int
  | 50 => .int
  | 51 => .array .int
  | 52 => .array .int
  | 53 => .int
  | 54 => .array .int
  | 55 => .array .int
  | 56 => .array .int
  | 57 => .array .int
  | 58 => .array .int
  | 59 => .array .int
  | 60 => .array .int
  | 61 => .long
  | 62 => .long
  | 63 => .array .int
  | 64 => .array .boolean
  | 65 => .array .int
  | _ => .array .int
abbrev wsX120 : List Cond := u_ws RX12 TX12 67
theorem nmX12 : ∀ a, a < 67 → ∀ b, b < 67 → a ≠ b → (TX12 a).2.1 ≠ (TX12 b).2.1 := by decide +kernel
theorem tyX12_ok : ∀ k, k < 67 → parseFieldDescriptor (TX12 k).2.2.1 = some (tyX12 k) := by decide +kernel
abbrev cX12_init : ByteArray := prog_14_method_1_code
def yX12_init : MethodName := ⟨RX12, "<init>", "()V"⟩
abbrev cX12_thrown : ByteArray := prog_14_method_2_code
def yX12_thrown : MethodName := ⟨RX12, "thrown", "()I"⟩
abbrev cX12_refuse : ByteArray := prog_14_method_3_code
def yX12_refuse : MethodName := ⟨RX12, "refuse", "()I"⟩
abbrev cX12_in : ByteArray := prog_14_method_4_code
def yX12_in : MethodName := ⟨RX12, "in", "(JJJ)Z"⟩
abbrev cX12_has : ByteArray := prog_14_method_5_code
def yX12_has : MethodName := ⟨RX12, "has", "(II)Z"⟩
abbrev cX12_flag : ByteArray := prog_14_method_6_code
def yX12_flag : MethodName := ⟨RX12, "flag", "(Z)I"⟩
abbrev cX12_common : ByteArray := prog_14_method_7_code
def yX12_common : MethodName := ⟨RX12, "common", "(JJ)J"⟩
abbrev cX12_enters : ByteArray := prog_14_method_8_code
def yX12_enters : MethodName := ⟨RX12, "enters", "(J)V"⟩
abbrev cX12_isCell : ByteArray := prog_14_method_9_code
def yX12_isCell : MethodName := ⟨RX12, "isCell", "(I)Z"⟩
abbrev cX12_isGuest : ByteArray := prog_14_method_10_code
def yX12_isGuest : MethodName := ⟨RX12, "isGuest", "(I)Z"⟩
abbrev cX12_all : ByteArray := prog_14_method_11_code
def yX12_all : MethodName := ⟨RX12, "all", "()I"⟩
abbrev cX12_isSlice : ByteArray := prog_14_method_12_code
def yX12_isSlice : MethodName := ⟨RX12, "isSlice", "(II)Z"⟩
abbrev cX12_sign : ByteArray := prog_14_method_13_code
def yX12_sign : MethodName := ⟨RX12, "sign", "(I)I"⟩
abbrev cX12_end : ByteArray := prog_14_method_14_code
def yX12_end : MethodName := ⟨RX12, "end", "(I)Z"⟩
abbrev cX12_begins : ByteArray := prog_14_method_15_code
def yX12_begins : MethodName := ⟨RX12, "begins", "(I)I"⟩
abbrev cX12_takes : ByteArray := prog_14_method_16_code
def yX12_takes : MethodName := ⟨RX12, "takes", "(I)Z"⟩
abbrev cX12_isDigit : ByteArray := prog_14_method_17_code
def yX12_isDigit : MethodName := ⟨RX12, "isDigit", "()Z"⟩
abbrev cX12_among : ByteArray := prog_14_method_18_code
def yX12_among : MethodName := ⟨RX12, "among", "(Ljava/lang/String;)I"⟩
abbrev cX12_takesOf : ByteArray := prog_14_method_19_code
def yX12_takesOf : MethodName := ⟨RX12, "takesOf", "(Ljava/lang/String;)I"⟩
abbrev cX12_number : ByteArray := prog_14_method_20_code
def yX12_number : MethodName := ⟨RX12, "number", "(I)I"⟩
abbrev cX12_letter : ByteArray := prog_14_method_21_code
def yX12_letter : MethodName := ⟨RX12, "letter", "(I)I"⟩
abbrev cX12_faultOf : ByteArray := prog_14_method_22_code
def yX12_faultOf : MethodName := ⟨RX12, "faultOf", "(IIZ)I"⟩
abbrev cX12_loaf : ByteArray := prog_14_method_23_code
def yX12_loaf : MethodName := ⟨RX12, "loaf", "()I"⟩
abbrev cX12_readsGuest : ByteArray := prog_14_method_24_code
def yX12_readsGuest : MethodName := ⟨RX12, "readsGuest", "()Z"⟩
abbrev cX12_guests : ByteArray := prog_14_method_25_code
def yX12_guests : MethodName := ⟨RX12, "guests", "()I"⟩
abbrev cX12_readsDeed : ByteArray := prog_14_method_26_code
def yX12_readsDeed : MethodName := ⟨RX12, "readsDeed", "()Z"⟩
abbrev cX12_allDeserts : ByteArray := prog_14_method_27_code
def yX12_allDeserts : MethodName := ⟨RX12, "allDeserts", "()I"⟩
abbrev cX12_deeds : ByteArray := prog_14_method_28_code
def yX12_deeds : MethodName := ⟨RX12, "deeds", "()I"⟩
abbrev cX12_codes : ByteArray := prog_14_method_29_code
def yX12_codes : MethodName := ⟨RX12, "codes", "(I)V"⟩
abbrev cX12_readsThing : ByteArray := prog_14_method_30_code
def yX12_readsThing : MethodName := ⟨RX12, "readsThing", "()Z"⟩
abbrev cX12_readsRank : ByteArray := prog_14_method_31_code
def yX12_readsRank : MethodName := ⟨RX12, "readsRank", "(I)Z"⟩
abbrev cX12_rule : ByteArray := prog_14_method_32_code
def yX12_rule : MethodName := ⟨RX12, "rule", "()I"⟩
abbrev cX12_worked : ByteArray := prog_14_method_33_code
def yX12_worked : MethodName := ⟨RX12, "worked", "(III)I"⟩
abbrev cX12_ruled : ByteArray := prog_14_method_34_code
def yX12_ruled : MethodName := ⟨RX12, "ruled", "()I"⟩
abbrev cX12_worthBy : ByteArray := prog_14_method_35_code
def yX12_worthBy : MethodName := ⟨RX12, "worthBy", "(IIIII)I"⟩
abbrev cX12_worthOf : ByteArray := prog_14_method_36_code
def yX12_worthOf : MethodName := ⟨RX12, "worthOf", "(II)I"⟩
abbrev cX12_laysTable : ByteArray := prog_14_method_37_code
def yX12_laysTable : MethodName := ⟨RX12, "laysTable", "()V"⟩
abbrev cX12_held : ByteArray := prog_14_method_38_code
def yX12_held : MethodName := ⟨RX12, "held", "(II)I"⟩
abbrev cX12_isDue : ByteArray := prog_14_method_39_code
def yX12_isDue : MethodName := ⟨RX12, "isDue", "(IJI)Z"⟩
abbrev cX12_holds : ByteArray := prog_14_method_40_code
def yX12_holds : MethodName := ⟨RX12, "holds", "(I)I"⟩
abbrev cX12_cell : ByteArray := prog_14_method_41_code
def yX12_cell : MethodName := ⟨RX12, "cell", "(II)I"⟩
abbrev cX12_guest : ByteArray := prog_14_method_42_code
def yX12_guest : MethodName := ⟨RX12, "guest", "(II)I"⟩
abbrev cX12_worth : ByteArray := prog_14_method_43_code
def yX12_worth : MethodName := ⟨RX12, "worth", "(II)I"⟩
abbrev cX12_taste : ByteArray := prog_14_method_44_code
def yX12_taste : MethodName := ⟨RX12, "taste", "(III)I"⟩
abbrev cX12_sheet : ByteArray := prog_14_method_45_code
def yX12_sheet : MethodName := ⟨RX12, "sheet", "(IIII)I"⟩
abbrev cX12_putsBy : ByteArray := prog_14_method_46_code
def yX12_putsBy : MethodName := ⟨RX12, "putsBy", "()V"⟩
abbrev cX12_adds : ByteArray := prog_14_method_47_code
def yX12_adds : MethodName := ⟨RX12, "adds", "(I)I"⟩
abbrev cX12_counts : ByteArray := prog_14_method_48_code
def yX12_counts : MethodName := ⟨RX12, "counts", "(I)I"⟩
abbrev cX12_undo : ByteArray := prog_14_method_49_code
def yX12_undo : MethodName := ⟨RX12, "undo", "()I"⟩
abbrev cX12_gives : ByteArray := prog_14_method_50_code
def yX12_gives : MethodName := ⟨RX12, "gives", "(III)I"⟩
abbrev cX12_backs : ByteArray := prog_14_method_51_code
def yX12_backs : MethodName := ⟨RX12, "backs", "(II)I"⟩
abbrev cX12_eats : ByteArray := prog_14_method_52_code
def yX12_eats : MethodName := ⟨RX12, "eats", "(I)I"⟩
abbrev cX12_give : ByteArray := prog_14_method_53_code
def yX12_give : MethodName := ⟨RX12, "give", "(III)I"⟩
abbrev cX12_back : ByteArray := prog_14_method_54_code
def yX12_back : MethodName := ⟨RX12, "back", "(II)I"⟩
abbrev cX12_mouse : ByteArray := prog_14_method_55_code
def yX12_mouse : MethodName := ⟨RX12, "mouse", "(I)I"⟩
abbrev cX12_readsAct : ByteArray := prog_14_method_56_code
def yX12_readsAct : MethodName := ⟨RX12, "readsAct", "()Z"⟩
abbrev cX12_does : ByteArray := prog_14_method_57_code
def yX12_does : MethodName := ⟨RX12, "does", "(I)Z"⟩
abbrev cX12_supper : ByteArray := prog_14_method_58_code
def yX12_supper : MethodName := ⟨RX12, "supper", "()I"⟩
abbrev cX12_seen : ByteArray := prog_14_method_59_code
def yX12_seen : MethodName := ⟨RX12, "seen", "(II)I"⟩
abbrev cX12_envy : ByteArray := prog_14_method_60_code
def yX12_envy : MethodName := ⟨RX12, "envy", "()I"⟩
abbrev cX12_wronged : ByteArray := prog_14_method_61_code
def yX12_wronged : MethodName := ⟨RX12, "wronged", "()I"⟩
abbrev cX12_happiest : ByteArray := prog_14_method_62_code
def yX12_happiest : MethodName := ⟨RX12, "happiest", "()I"⟩
abbrev cX12_pieces : ByteArray := prog_14_method_63_code
def yX12_pieces : MethodName := ⟨RX12, "pieces", "(I)I"⟩
abbrev cX12_trade : ByteArray := prog_14_method_64_code
def yX12_trade : MethodName := ⟨RX12, "trade", "(II)I"⟩
abbrev cX12_endFor : ByteArray := prog_14_method_65_code
def yX12_endFor : MethodName := ⟨RX12, "endFor", "(III)I"⟩
abbrev cX12_isTurnLess : ByteArray := prog_14_method_66_code
def yX12_isTurnLess : MethodName := ⟨RX12, "isTurnLess", "(I)Z"⟩
abbrev cX12_serves : ByteArray := prog_14_method_67_code
def yX12_serves : MethodName := ⟨RX12, "serves", "(IIII)V"⟩
abbrev cX12_canServe : ByteArray := prog_14_method_68_code
def yX12_canServe : MethodName := ⟨RX12, "canServe", "(II)Z"⟩
abbrev cX12_slices : ByteArray := prog_14_method_69_code
def yX12_slices : MethodName := ⟨RX12, "slices", "(I)I"⟩
abbrev cX12_quarrel : ByteArray := prog_14_method_70_code
def yX12_quarrel : MethodName := ⟨RX12, "quarrel", "()I"⟩
abbrev cX12_stretch : ByteArray := prog_14_method_71_code
def yX12_stretch : MethodName := ⟨RX12, "stretch", "()I"⟩
abbrev cX12_sliceOf : ByteArray := prog_14_method_72_code
def yX12_sliceOf : MethodName := ⟨RX12, "sliceOf", "(III)I"⟩
abbrev cX12_richest : ByteArray := prog_14_method_73_code
def yX12_richest : MethodName := ⟨RX12, "richest", "(II)I"⟩
abbrev cX12_partsOn : ByteArray := prog_14_method_74_code
def yX12_partsOn : MethodName := ⟨RX12, "partsOn", "(IIIII)V"⟩
abbrev cX12_parts : ByteArray := prog_14_method_75_code
def yX12_parts : MethodName := ⟨RX12, "parts", "(II)I"⟩
abbrev cX12_isCalm : ByteArray := prog_14_method_76_code
def yX12_isCalm : MethodName := ⟨RX12, "isCalm", "()Z"⟩
abbrev cX12_goesTo : ByteArray := prog_14_method_77_code
def yX12_goesTo : MethodName := ⟨RX12, "goesTo", "(III)V"⟩
abbrev cX12_calmsFrom : ByteArray := prog_14_method_78_code
def yX12_calmsFrom : MethodName := ⟨RX12, "calmsFrom", "(II)V"⟩
abbrev cX12_calm : ByteArray := prog_14_method_79_code
def yX12_calm : MethodName := ⟨RX12, "calm", "()I"⟩
abbrev cX12_cuts : ByteArray := prog_14_method_80_code
def yX12_cuts : MethodName := ⟨RX12, "cuts", "(II)I"⟩
abbrev cX12_readsTurns : ByteArray := prog_14_method_81_code
def yX12_readsTurns : MethodName := ⟨RX12, "readsTurns", "()I"⟩
abbrev cX12_picksAsWorth : ByteArray := prog_14_method_82_code
def yX12_picksAsWorth : MethodName := ⟨RX12, "picksAsWorth", "()V"⟩
abbrev cX12_goesByTurns : ByteArray := prog_14_method_83_code
def yX12_goesByTurns : MethodName := ⟨RX12, "goesByTurns", "()V"⟩
abbrev cX12_byturns : ByteArray := prog_14_method_84_code
def yX12_byturns : MethodName := ⟨RX12, "byturns", "()I"⟩
abbrev cX12_lies : ByteArray := prog_14_method_85_code
def yX12_lies : MethodName := ⟨RX12, "lies", "(I)I"⟩
abbrev cX12_chose : ByteArray := prog_14_method_86_code
def yX12_chose : MethodName := ⟨RX12, "chose", "(II)I"⟩
abbrev cX12_forget : ByteArray := prog_14_method_87_code
def yX12_forget : MethodName := ⟨RX12, "forget", "()I"⟩
abbrev cX12_fitsBy : ByteArray := prog_14_method_88_code
def yX12_fitsBy : MethodName := ⟨RX12, "fitsBy", "(IIII)Z"⟩
abbrev cX12_tastes : ByteArray := prog_14_method_89_code
def yX12_tastes : MethodName := ⟨RX12, "tastes", "(I)I"⟩
abbrev cX12_offer : ByteArray := prog_14_method_90_code
def yX12_offer : MethodName := ⟨RX12, "offer", "(I)I"⟩
abbrev cX12_meets : ByteArray := prog_14_method_91_code
def yX12_meets : MethodName := ⟨RX12, "meets", "(II)V"⟩
abbrev cX12_claims : ByteArray := prog_14_method_92_code
def yX12_claims : MethodName := ⟨RX12, "claims", "()I"⟩
abbrev cX12_settle : ByteArray := prog_14_method_93_code
def yX12_settle : MethodName := ⟨RX12, "settle", "(II)I"⟩
abbrev cX12_crumbsAll : ByteArray := prog_14_method_94_code
def yX12_crumbsAll : MethodName := ⟨RX12, "crumbsAll", "()I"⟩
abbrev cX12_nothing : ByteArray := prog_14_method_95_code
def yX12_nothing : MethodName := ⟨RX12, "nothing", "()I"⟩
abbrev cX12_desertsOf : ByteArray := prog_14_method_96_code
def yX12_desertsOf : MethodName := ⟨RX12, "desertsOf", "(I)I"⟩
abbrev cX12_ate : ByteArray := prog_14_method_97_code
def yX12_ate : MethodName := ⟨RX12, "ate", "(I)I"⟩
abbrev cX12_bets : ByteArray := prog_14_method_98_code
def yX12_bets : MethodName := ⟨RX12, "bets", "(II)V"⟩
abbrev cX12_enough : ByteArray := prog_14_method_99_code
def yX12_enough : MethodName := ⟨RX12, "enough", "(II)I"⟩
abbrev cX12_wide : ByteArray := prog_14_method_100_code
def yX12_wide : MethodName := ⟨RX12, "wide", "(II)I"⟩
abbrev cX12_suppers : ByteArray := prog_14_method_101_code
def yX12_suppers : MethodName := ⟨RX12, "suppers", "(II)I"⟩
abbrev cX12_keep : ByteArray := prog_14_method_102_code
def yX12_keep : MethodName := ⟨RX12, "keep", "(I)Z"⟩
abbrev cX12_again : ByteArray := prog_14_method_103_code
def yX12_again : MethodName := ⟨RX12, "again", "(I)Z"⟩
abbrev cX12_count : ByteArray := prog_14_method_104_code
def yX12_count : MethodName := ⟨RX12, "count", "(I)I"⟩
abbrev cX12_row : ByteArray := prog_14_method_105_code
def yX12_row : MethodName := ⟨RX12, "row", "(I)J"⟩
def RJx145de : String := "java/io/Serializable"
def TJx145de : u_T := fun k => match k with
  | _ => ("", "", "", false)
def tyJx145de : Nat → FieldType := fun k => match k with
  | _ => .int
def RJx9f9b0 : String := "java/lang/CharSequence"
def TJx9f9b0 : u_T := fun k => match k with
  | _ => ("", "", "", false)
def tyJx9f9b0 : Nat → FieldType := fun k => match k with
  | _ => .int
def RJxb160c : String := "java/lang/Comparable"
def TJxb160c : u_T := fun k => match k with
  | _ => ("", "", "", false)
def tyJxb160c : Nat → FieldType := fun k => match k with
  | _ => .int
def RJ6 : String := "java/lang/Integer"
def TJ6 : u_T := fun k => match k with
  | _ => ("", "", "", false)
def tyJ6 : Nat → FieldType := fun k => match k with
  | _ => .int
abbrev cJ6_bitCount_0f7a4 : ByteArray := prog_19_method_49_code
def yJ6_bitCount_0f7a4 : MethodName := ⟨RJ6, "bitCount", "(I)I"⟩
def RJ9 : String := "java/lang/Math"
def TJ9 : u_T := fun k => match k with
  | _ => ("", "", "", false)
def tyJ9 : Nat → FieldType := fun k => match k with
  | _ => .int
abbrev cJ9_abs_0f7a4 : ByteArray := prog_20_method_59_code
def yJ9_abs_0f7a4 : MethodName := ⟨RJ9, "abs", "(I)I"⟩
abbrev cJ9_max_7cf53 : ByteArray := prog_20_method_65_code
def yJ9_max_7cf53 : MethodName := ⟨RJ9, "max", "(II)I"⟩
abbrev cJ9_min_7cf53 : ByteArray := prog_20_method_69_code
def yJ9_min_7cf53 : MethodName := ⟨RJ9, "min", "(II)I"⟩
def RJ0 : String := "java/lang/String"
def TJ0 : u_T := fun k => match k with
  | _ => ("", "", "", false)
def tyJ0 : Nat → FieldType := fun k => match k with
  | _ => .int
abbrev cJ0_length_8abf5 : ByteArray := prog_22_method_54_code
def yJ0_length_8abf5 : MethodName := ⟨RJ0, "length", "()I"⟩
abbrev cJ0_charAt_5068e : ByteArray := prog_22_method_56_code
def yJ0_charAt_5068e : MethodName := ⟨RJ0, "charAt", "(I)C"⟩
abbrev cJ0_coder_7d493 : ByteArray := prog_22_method_152_code
def yJ0_coder_7d493 : MethodName := ⟨RJ0, "coder", "()B"⟩
abbrev cJ0_isLatin1_aae02 : ByteArray := prog_22_method_154_code
def yJ0_isLatin1_aae02 : MethodName := ⟨RJ0, "isLatin1", "()Z"⟩
abbrev cJ0_checkIndex_df160 : ByteArray := prog_22_method_155_code
def yJ0_checkIndex_df160 : MethodName := ⟨RJ0, "checkIndex", "(II)V"⟩
def RJ1 : String := "java/lang/StringLatin1"
def TJ1 : u_T := fun k => match k with
  | _ => ("", "", "", false)
def tyJ1 : Nat → FieldType := fun k => match k with
  | _ => .int
abbrev cJ1_charAt_3b067 : ByteArray := prog_23_method_2_code
def yJ1_charAt_3b067 : MethodName := ⟨RJ1, "charAt", "([BI)C"⟩
def RJ2 : String := "java/lang/StringUTF16"
def TJ2 : u_T := fun k => match k with
  | _ => ("", "", "", false)
def tyJ2 : Nat → FieldType := fun k => match k with
  | _ => .int
abbrev cJ2_getChar_3b067 : ByteArray := prog_24_method_5_code
def yJ2_getChar_3b067 : MethodName := ⟨RJ2, "getChar", "([BI)C"⟩
abbrev cJ2_length_9d52b : ByteArray := prog_24_method_6_code
def yJ2_length_9d52b : MethodName := ⟨RJ2, "length", "([B)I"⟩
abbrev cJ2_charAt_3b067 : ByteArray := prog_24_method_83_code
def yJ2_charAt_3b067 : MethodName := ⟨RJ2, "charAt", "([BI)C"⟩
abbrev cJ2_checkIndex_2214a : ByteArray := prog_24_method_91_code
def yJ2_checkIndex_2214a : MethodName := ⟨RJ2, "checkIndex", "(I[B)V"⟩
def RJ10 : String := "java/lang/System"
def TJ10 : u_T := fun k => match k with
  | _ => ("", "", "", false)
def tyJ10 : Nat → FieldType := fun k => match k with
  | _ => .int
def RJxfd54e : String := "java/lang/constant/Constable"
def TJxfd54e : u_T := fun k => match k with
  | _ => ("", "", "", false)
def tyJxfd54e : Nat → FieldType := fun k => match k with
  | _ => .int
def RJx3cf43 : String := "java/lang/constant/ConstantDesc"
def TJx3cf43 : u_T := fun k => match k with
  | _ => ("", "", "", false)
def tyJx3cf43 : Nat → FieldType := fun k => match k with
  | _ => .int
def RJ7 : String := "java/util/Arrays"
def TJ7 : u_T := fun k => match k with
  | _ => ("", "", "", false)
def tyJ7 : Nat → FieldType := fun k => match k with
  | _ => .int
abbrev cJ7_fill_53178 : ByteArray := prog_29_method_103_code
def yJ7_fill_53178 : MethodName := ⟨RJ7, "fill", "([II)V"⟩
def RJ3 : String := "jdk/internal/util/Preconditions"
def TJ3 : u_T := fun k => match k with
  | _ => ("", "", "", false)
def tyJ3 : Nat → FieldType := fun k => match k with
  | _ => .int
abbrev cJ3_checkIndex_8e157 : ByteArray := prog_31_method_11_code
def yJ3_checkIndex_8e157 : MethodName := ⟨RJ3, "checkIndex", "(IILjava/util/function/BiFunction;)I"⟩
def RL : String := "ToOneCrumbLaw"
abbrev cL_cell : ByteArray := method_3_code
def yL_cell : MethodName := ⟨RL, "cell", "(LToOneCrumb;II[J)I"⟩
abbrev cL_guest : ByteArray := method_4_code
def yL_guest : MethodName := ⟨RL, "guest", "(LToOneCrumb;II[J)I"⟩
abbrev cL_row : ByteArray := method_5_code
def yL_row : MethodName := ⟨RL, "row", "(LToOneCrumb;I[J)I"⟩
abbrev cL_law : ByteArray := code
def yL_law : MethodName := ⟨RL, "law", "([I)Z"⟩
abbrev vwCl : List vw_C := [(RX0, TX0, 5), (RX1, TX1, 8), (RX2, TX2, 4), (RX3, TX3, 4), (RX4, TX4, 8), (RX5, TX5, 2), (RX6, TX6, 8), (RX7, TX7, 8), (RX8, TX8, 4), (RX9, TX9, 4), (RX10, TX10, 3), (RX11, TX11, 16), (RX12, TX12, 67)]
/-! the world: a thing a place: (0, the number of its kind in vwCl, its fields: 0 an int, 1 a long, k + 2 the thing at place k), (1, n, []) n ints, (2, n, []) n longs, (3, n, []) n booleans -/
def zq_S : List (Nat × Nat × List Nat) := [(0, 11, [3, 5, 7, 11, 14, 17, 24, 31, 36, 40, 41, 42, 46, 50, 54, 0]), (0, 8, [4, 0, 0, 0]), (1, 80, []), (0, 5, [6, 0]), (2, 16, []), (0, 3, [8, 9, 10, 0]), (1, 18, []), (1, 6, []), (1, 6, []), (0, 10, [12, 13, 0]), (1, 96, []), (1, 102, []), (0, 0, [15, 16, 1, 0, 0]), (2, 15, []), (2, 3, []), (0, 1, [18, 19, 20, 21, 22, 23, 0, 0]), (1, 12, []), (1, 12, []), (1, 3, []), (1, 3, []), (1, 16, []), (1, 256, []), (0, 4, [25, 26, 27, 28, 29, 30, 0, 0]), (1, 6, []), (2, 6, []), (2, 6, []), (1, 102, []), (1, 64, []), (1, 6, []), (0, 7, [32, 33, 34, 35, 11, 0, 0, 0]), (1, 4, []), (1, 4, []), (1, 16, []), (1, 16, []), (0, 9, [37, 38, 39, 0]), (1, 16, []), (1, 96, []), (1, 6, []), (1, 80, []), (1, 17, []), (0, 2, [43, 44, 45, 0]), (1, 16, []), (1, 16, []), (1, 16, []), (0, 2, [47, 48, 49, 0]), (1, 16, []), (1, 16, []), (1, 16, []), (0, 6, [51, 52, 53, 0, 0, 0, 0, 0]), (1, 40, []), (1, 40, []), (1, 40, []), (0, 6, [55, 56, 57, 0, 0, 0, 0, 0]), (1, 40, []), (1, 40, []), (1, 40, []), (0, 12, [0, 0, 59, 0, 0, 0, 60, 61, 62, 63, 64, 65, 66, 0, 0, 0, 0, 67, 68, 69, 70, 0, 71, 72, 73, 0, 0, 74, 75, 76, 77, 0, 78, 79, 80, 81, 82, 0, 83, 84, 0, 85, 86, 0, 87, 88, 89, 0, 90, 0, 0, 91, 92, 0, 93, 94, 95, 96, 97, 98, 99, 1, 1, 100, 101, 102, 103]), (2, 24, []), (1, 16, []), (1, 16, []), (3, 16, []), (1, 18, []), (1, 6, []), (1, 16, []), (1, 80, []), (1, 16, []), (1, 16, []), (3, 16, []), (1, 18, []), (1, 6, []), (1, 80, []), (1, 80, []), (1, 80, []), (1, 9, []), (1, 96, []), (1, 6, []), (1, 256, []), (1, 60, []), (1, 60, []), (1, 60, []), (1, 60, []), (1, 12, []), (1, 12, []), (1, 6, []), (1, 6, []), (1, 16, []), (1, 16, []), (1, 36, []), (1, 16, []), (1, 96, []), (1, 6, []), (1, 12, []), (1, 12, []), (1, 16, []), (1, 256, []), (1, 256, []), (1, 6, []), (1, 6, []), (1, 6, []), (3, 3, []), (1, 3, []), (1, 48, []), (2, 1, [])]
end
section
/-! ===== the engine: assertions at points of a method; a transformer an instruction, each proved over the machine by the kit's rows ===== -/
abbrev zq_H : Type := (Nat → Nat → Int32) × (Nat → Nat → Int64)
abbrev zq_Y : Type := ClassId × ClassId × ClassId
abbrev zq_L : Type := List (Option Value)
abbrev zq_Q : Type := Option Value → zq_H → Prop
abbrev zq_P : Type := zq_L → List Value → zq_H → Prop
abbrev zq_Sp : Type := List Value → zq_H → zq_Q → Prop
def zq_cv (ad : Nat → Nat) (v : Value) : Value := match v with
  | .ref k => .ref (ad k)
  | w => w
theorem zq_cv_cat (ad : Nat → Nat) (v : Value) : (zq_cv ad v).category = v.category := by cases v <;> rfl
def zq_nth : zq_L → Nat → Option Value
  | [], _ => none
  | v :: _, 0 => v
  | _ :: l, n + 1 => zq_nth l n
def zq_nl (u : Option Value) : Option Value := match u with
  | some (.long _) => none
  | some (.double _) => none
  | w => w
def zq_put1 : zq_L → Nat → Value → zq_L
  | [], _, _ => []
  | _ :: l, 0, v => some v :: l
  | u :: l, 1, v => zq_nl u :: zq_put1 l 0 v
  | u :: l, n + 2, v => u :: zq_put1 l (n + 1) v
def zq_clr : zq_L → Nat → zq_L
  | [], _ => []
  | _ :: l, 0 => none :: l
  | u :: l, n + 1 => u :: zq_clr l n
def zq_put2 (l : zq_L) (i : Nat) (v : Value) : zq_L := zq_clr (zq_put1 l i v) (i + 1)
theorem zq_nth_nl {u : Option Value} {w : Value} (h : zq_nl u = some w) : u = some w ∧ ¬ w.category = 2 := by
  unfold zq_nl at h
  split at h
  · cases h
  · cases h
  · next h1 h2 =>
    refine ⟨h, ?_⟩
    subst h
    cases w <;> first | (intro q; cases q; done) | (exact absurd rfl (h1 _)) | (exact absurd rfl (h2 _))
theorem zq_nth_put1 : ∀ (l : zq_L) (i j : Nat) (v w : Value), zq_nth (zq_put1 l i v) j = some w → (j = i ∧ w = v) ∨ (j ≠ i ∧ zq_nth l j = some w ∧ ¬ (j + 1 = i ∧ w.category = 2))
  | [], i, j, v, w, h => by simp [zq_put1, zq_nth] at h
  | u :: l, 0, 0, v, w, h => by
    simp only [zq_put1, zq_nth, Option.some.injEq] at h
    exact Or.inl ⟨rfl, h.symm⟩
  | u :: l, 0, j + 1, v, w, h => Or.inr ⟨by omega, h, by omega⟩
  | u :: l, 1, 0, v, w, h => by
    obtain ⟨h1, h2⟩ := zq_nth_nl (show zq_nl u = some w from h)
    exact Or.inr ⟨by omega, h1, fun q => h2 q.2⟩
  | u :: l, 1, j + 1, v, w, h => by
    rcases zq_nth_put1 l 0 j v w h with ⟨h1, h2⟩ | ⟨h1, h2, h3⟩
    · exact Or.inl ⟨by omega, h2⟩
    · exact Or.inr ⟨by omega, h2, by omega⟩
  | u :: l, n + 2, 0, v, w, h => Or.inr ⟨by omega, h, by omega⟩
  | u :: l, n + 2, j + 1, v, w, h => by
    rcases zq_nth_put1 l (n + 1) j v w h with ⟨h1, h2⟩ | ⟨h1, h2, h3⟩
    · exact Or.inl ⟨by omega, h2⟩
    · exact Or.inr ⟨by omega, h2, fun q => h3 ⟨by omega, q.2⟩⟩
theorem zq_nth_clr : ∀ (l : zq_L) (i j : Nat) (w : Value), zq_nth (zq_clr l i) j = some w → j ≠ i ∧ zq_nth l j = some w
  | [], i, j, w, h => by simp [zq_clr, zq_nth] at h
  | u :: l, 0, 0, w, h => by cases h
  | u :: l, 0, j + 1, w, h => ⟨by omega, h⟩
  | u :: l, i + 1, 0, w, h => ⟨by omega, h⟩
  | u :: l, i + 1, j + 1, w, h => by
    obtain ⟨h1, h2⟩ := zq_nth_clr l i j w h
    exact ⟨by omega, h2⟩
theorem zq_nth_lt : ∀ (l : zq_L) (i : Nat) (v : Value), zq_nth l i = some v → i < l.length
  | [], i, v, h => by simp [zq_nth] at h
  | u :: l, 0, v, h => by simp
  | u :: l, i + 1, v, h => by
    have := zq_nth_lt l i v h
    simp; omega
def zq_en (ad : Nat → Nat) (l : zq_L) : List (Nat × Value) := (List.range l.length).filterMap (fun i => (zq_nth l i).map (fun v => (i, zq_cv ad v)))
theorem zq_en_mem {ad : Nat → Nat} {l : zq_L} {i : Nat} {v : Value} (h : zq_nth l i = some v) : (i, zq_cv ad v) ∈ zq_en ad l :=
  List.mem_filterMap.mpr ⟨i, List.mem_range.mpr (zq_nth_lt l i v h), by rw [h]; rfl⟩
theorem zq_en_of {ad : Nat → Nat} {l : zq_L} {q : Nat × Value} (h : q ∈ zq_en ad l) : ∃ v, zq_nth l q.1 = some v ∧ q.2 = zq_cv ad v := by
  obtain ⟨i, -, hi⟩ := List.mem_filterMap.mp h
  cases hn : zq_nth l i with
  | none => rw [hn] at hi; cases hi
  | some v => rw [hn] at hi; cases hi; exact ⟨v, hn, rfl⟩
def zq_lr (ad : Nat → Nat) (nL : Nat) (l : zq_L) (a : Array Slot) : Prop := lv_has a nL (zq_en ad l)
theorem zq_lr.at {ad : Nat → Nat} {nL : Nat} {l : zq_L} {a : Array Slot} (h : zq_lr ad nL l a) {i : Nat} {v : Value} (hi : zq_nth l i = some v) : a[i]? = some (.val (zq_cv ad v)) := h.2.2 _ (zq_en_mem hi)
theorem zq_lr.of {ad : Nat → Nat} {nL : Nat} {l : zq_L} {a : Array Slot} {lv : List (Nat × Value)} (h : lv_has a nL lv) (k : ∀ i v, zq_nth l i = some v → (i, zq_cv ad v) ∈ lv) : zq_lr ad nL l a := by
  refine ⟨h.1, h.2.1, fun q hq => ?_⟩
  obtain ⟨v, h1, h2⟩ := zq_en_of hq
  have h3 := h.2.2 _ (k _ _ h1)
  rw [h2]
  exact h3
theorem zq_lr.put1 {ad : Nat → Nat} {nL : Nat} {l : zq_L} {a : Array Slot} {i : Nat} {v : Value} (h : lv_has a nL ((i, zq_cv ad v) :: (zq_en ad l).filter (fun q => !(q.1 == i) && !(q.1 + 1 == i && q.2.category == 2)))) : zq_lr ad nL (zq_put1 l i v) a := by
  refine zq_lr.of h fun j w hw => ?_
  rcases zq_nth_put1 l i j v w hw with ⟨rfl, rfl⟩ | ⟨h1, h2, h3⟩
  · exact List.mem_cons_self
  · refine List.mem_cons_of_mem _ (List.mem_filter.mpr ⟨zq_en_mem h2, ?_⟩)
    simp only [Bool.and_eq_true, Bool.not_eq_true', beq_eq_false_iff_ne, ne_eq, Bool.and_eq_false_iff, zq_cv_cat]
    refine ⟨h1, ?_⟩
    by_cases q : j + 1 = i
    · exact Or.inr (fun z => h3 ⟨q, z⟩)
    · exact Or.inl q
theorem zq_lr.put2 {ad : Nat → Nat} {nL : Nat} {l : zq_L} {a : Array Slot} {i : Nat} {v : Value} (h : lv_has a nL ((i, zq_cv ad v) :: (zq_en ad l).filter (fun q => !(q.1 == i) && (!(q.1 == i + 1) && !(q.1 + 1 == i && q.2.category == 2))))) : zq_lr ad nL (zq_put2 l i v) a := by
  refine zq_lr.of h fun j w hw => ?_
  obtain ⟨h0, hw⟩ := zq_nth_clr _ _ _ _ hw
  rcases zq_nth_put1 l i j v w hw with ⟨rfl, rfl⟩ | ⟨h1, h2, h3⟩
  · exact List.mem_cons_self
  · refine List.mem_cons_of_mem _ (List.mem_filter.mpr ⟨zq_en_mem h2, ?_⟩)
    simp only [Bool.and_eq_true, Bool.not_eq_true', beq_eq_false_iff_ne, ne_eq, Bool.and_eq_false_iff, zq_cv_cat]
    refine ⟨h1, h0, ?_⟩
    by_cases q : j + 1 = i
    · exact Or.inr (fun z => h3 ⟨q, z⟩)
    · exact Or.inl q
/-! the world -/
def zq_fv (ad : Nat → Nat) (h : zq_H) (p j : Nat) (kd : Nat) : Value := match kd with
  | 0 => .int (h.1 p j)
  | 1 => .long (h.2 p j)
  | k + 2 => .ref (ad k)
def zq_fs (ad : Nat → Nat) (h : zq_H) (p : Nat) (kd : List Nat) : List Value := (List.range kd.length).map (fun j => zq_fv ad h p j (kd.getD j 0))
def zq_ent (Y : zq_Y) (ad : Nat → Nat) (h : zq_H) (p : Nat) (e : Nat × Nat × List Nat) : va_E := match e with
  | (0, ci, kd) => .inr (ci, zq_fs ad h p kd)
  | (1, n, _) => .inl (Y.1, n, .inl (h.1 p))
  | (2, n, _) => .inl (Y.2.1, n, .inr (.inl (h.2 p)))
  | (_, n, _) => .inl (Y.2.2, n, .inl (h.1 p))
def zq_ws (Y : zq_Y) (ad : Nat → Nat) (h : zq_H) : va_W := (List.range zq_S.length).map (fun p => (ad p, zq_ent Y ad h p (zq_S.getD p (0, 0, []))))
abbrev zq_ty (Y : zq_Y) : List (ClassId × FieldType) := [(Y.1, .int), (Y.2.1, .long), (Y.2.2, .boolean)]
theorem zq_ws_at {Y : zq_Y} {ad : Nat → Nat} {h : zq_H} {p : Nat} {e : Nat × Nat × List Nat} (hp : zq_S[p]? = some e) : (zq_ws Y ad h)[p]? = some (ad p, zq_ent Y ad h p e) := by
  have hl : p < zq_S.length := (List.getElem?_eq_some_iff.mp hp).1
  unfold zq_ws
  rw [List.getElem?_map, List.getElem?_range hl]
  simp [List.getD, hp]
theorem zq_ws_of {Y : zq_Y} {ad : Nat → Nat} {h : zq_H} {p : Nat} {q : Nat × va_E} (hp : (zq_ws Y ad h)[p]? = some q) : p < zq_S.length ∧ q.1 = ad p := by
  unfold zq_ws at hp
  rw [List.getElem?_map] at hp
  cases hr : (List.range zq_S.length)[p]? with
  | none => rw [hr] at hp; cases hp
  | some i =>
    rw [hr] at hp
    obtain ⟨h1, h2⟩ := List.getElem?_eq_some_iff.mp hr
    rw [List.getElem_range] at h2
    subst h2
    cases hp
    exact ⟨by simpa using h1, rfl⟩
theorem zq_fs_at {ad : Nat → Nat} {h : zq_H} {p j k : Nat} {kd : List Nat} (hj : kd[j]? = some k) : (zq_fs ad h p kd)[j]? = some (zq_fv ad h p j k) := by
  have hl : j < kd.length := (List.getElem?_eq_some_iff.mp hj).1
  unfold zq_fs
  rw [List.getElem?_map, List.getElem?_range hl]
  simp [List.getD, hj]
def zq_setI (h : zq_H) (p j : Nat) (x : Int32) : zq_H := (fun q i => if q = p ∧ i = j then x else h.1 q i, h.2)
def zq_setL (h : zq_H) (p j : Nat) (x : Int64) : zq_H := (h.1, fun q i => if q = p ∧ i = j then x else h.2 q i)
theorem zq_ws_set {Y : zq_Y} {ad : Nat → Nat} {h h' : zq_H} {p : Nat} {e : Nat × Nat × List Nat} (hp : zq_S[p]? = some e) {v : va_E} (hv : zq_ent Y ad h' p e = v) (ho : ∀ q, q ≠ p → h'.1 q = h.1 q ∧ h'.2 q = h.2 q) : (zq_ws Y ad h).set p (ad p, v) = zq_ws Y ad h' := by
  have hl : p < zq_S.length := (List.getElem?_eq_some_iff.mp hp).1
  apply List.ext_getElem?
  intro k
  by_cases hk : k = p
  · subst hk
    rw [List.getElem?_set_self (by simpa [zq_ws] using hl), zq_ws_at hp, hv]
  · rw [List.getElem?_set_ne (Ne.symm hk)]
    unfold zq_ws
    rw [List.getElem?_map, List.getElem?_map]
    cases hr : (List.range zq_S.length)[k]? with
    | none => rfl
    | some i =>
      obtain ⟨h1, h2⟩ := List.getElem?_eq_some_iff.mp hr
      rw [List.getElem_range] at h2
      subst h2
      obtain ⟨o1, o2⟩ := ho k hk
      have he : ∀ e : Nat × Nat × List Nat, zq_ent Y ad h k e = zq_ent Y ad h' k e := by
        intro e
        unfold zq_ent
        split
        · have : ∀ kd, zq_fs ad h k kd = zq_fs ad h' k kd := by
            intro kd
            unfold zq_fs zq_fv
            rw [o1, o2]
          rw [this]
        · rw [o1]
        · rw [o2]
        · rw [o1]
      exact congrArg (fun z => some (ad k, z)) (he _)
theorem zq_ws_setI {Y : zq_Y} {ad : Nat → Nat} {h : zq_H} {p n : Nat} {kd : List Nat} (hp : zq_S[p]? = some (1, n, kd)) (i : Nat) (x : Int32) : (zq_ws Y ad h).set p (ad p, .inl (Y.1, n, .inl (upd (h.1 p) i x))) = zq_ws Y ad (zq_setI h p i x) := by
  refine zq_ws_set hp ?_ (fun q hq => ⟨?_, rfl⟩)
  · show Sum.inl (Y.1, n, Sum.inl _) = _
    congr 4
    funext j
    simp only [zq_setI, upd, true_and]
  · funext j
    simp [zq_setI, hq]
theorem zq_ws_setZ {Y : zq_Y} {ad : Nat → Nat} {h : zq_H} {p n : Nat} {kd : List Nat} (hp : zq_S[p]? = some (3, n, kd)) (i : Nat) (x : Int32) : (zq_ws Y ad h).set p (ad p, .inl (Y.2.2, n, .inl (upd (h.1 p) i x))) = zq_ws Y ad (zq_setI h p i x) := by
  refine zq_ws_set hp ?_ (fun q hq => ⟨?_, rfl⟩)
  · show Sum.inl (Y.2.2, n, Sum.inl _) = _
    congr 4
    funext j
    simp only [zq_setI, upd, true_and]
  · funext j
    simp [zq_setI, hq]
theorem zq_ws_setL {Y : zq_Y} {ad : Nat → Nat} {h : zq_H} {p n : Nat} {kd : List Nat} (hp : zq_S[p]? = some (2, n, kd)) (i : Nat) (x : Int64) : (zq_ws Y ad h).set p (ad p, .inl (Y.2.1, n, .inr (.inl (vp_updL (h.2 p) i x)))) = zq_ws Y ad (zq_setL h p i x) := by
  refine zq_ws_set hp ?_ (fun q hq => ⟨rfl, ?_⟩)
  · show Sum.inl (Y.2.1, n, Sum.inr (Sum.inl _)) = _
    congr 5
    funext j
    simp only [zq_setL, vp_updL, true_and]
  · funext j
    simp [zq_setL, hq]
end
section
theorem zq_fs_setI {ad : Nat → Nat} {h : zq_H} {p j : Nat} {kd : List Nat} (hj : kd[j]? = some 0) (x : Int32) : zq_fs ad (zq_setI h p j x) p kd = (zq_fs ad h p kd).set j (.int x) := by
  have hl : j < kd.length := (List.getElem?_eq_some_iff.mp hj).1
  apply List.ext_getElem?
  intro k
  by_cases hk : k = j
  · subst hk
    rw [List.getElem?_set_self (by simpa [zq_fs] using hl), zq_fs_at hj]
    simp [zq_fv, zq_setI]
  · rw [List.getElem?_set_ne (Ne.symm hk)]
    cases hd : kd[k]? with
    | none =>
      have : kd.length ≤ k := by simpa using hd
      rw [List.getElem?_eq_none (by simpa [zq_fs] using this), List.getElem?_eq_none (by simpa [zq_fs] using this)]
    | some d =>
      rw [zq_fs_at hd, zq_fs_at hd]
      unfold zq_fv
      split <;> simp [zq_setI, hk]
theorem zq_fs_setL {ad : Nat → Nat} {h : zq_H} {p j : Nat} {kd : List Nat} (hj : kd[j]? = some 1) (x : Int64) : zq_fs ad (zq_setL h p j x) p kd = (zq_fs ad h p kd).set j (.long x) := by
  have hl : j < kd.length := (List.getElem?_eq_some_iff.mp hj).1
  apply List.ext_getElem?
  intro k
  by_cases hk : k = j
  · subst hk
    rw [List.getElem?_set_self (by simpa [zq_fs] using hl), zq_fs_at hj]
    simp [zq_fv, zq_setL]
  · rw [List.getElem?_set_ne (Ne.symm hk)]
    cases hd : kd[k]? with
    | none =>
      have : kd.length ≤ k := by simpa using hd
      rw [List.getElem?_eq_none (by simpa [zq_fs] using this), List.getElem?_eq_none (by simpa [zq_fs] using this)]
    | some d =>
      rw [zq_fs_at hd, zq_fs_at hd]
      unfold zq_fv
      split <;> simp [zq_setL, hk]
theorem zq_ws_putI {Y : zq_Y} {ad : Nat → Nat} {h : zq_H} {p ci : Nat} {kd : List Nat} (hp : zq_S[p]? = some (0, ci, kd)) {j : Nat} (hj : kd[j]? = some 0) (x : Int32) : (zq_ws Y ad h).set p (ad p, .inr (ci, (zq_fs ad h p kd).set j (.int x))) = zq_ws Y ad (zq_setI h p j x) := by
  refine zq_ws_set hp ?_ (fun q hq => ⟨?_, rfl⟩)
  · show Sum.inr (ci, zq_fs _ _ _ _) = _
    rw [zq_fs_setI hj]
  · funext i
    simp [zq_setI, hq]
theorem zq_ws_putL {Y : zq_Y} {ad : Nat → Nat} {h : zq_H} {p ci : Nat} {kd : List Nat} (hp : zq_S[p]? = some (0, ci, kd)) {j : Nat} (hj : kd[j]? = some 1) (x : Int64) : (zq_ws Y ad h).set p (ad p, .inr (ci, (zq_fs ad h p kd).set j (.long x))) = zq_ws Y ad (zq_setL h p j x) := by
  refine zq_ws_set hp ?_ (fun q hq => ⟨rfl, ?_⟩)
  · show Sum.inr (ci, zq_fs _ _ _ _) = _
    rw [zq_fs_setL hj]
  · funext i
    simp [zq_setL, hq]
/-! where a method stands, what it may use, what it owes at its end -/
abbrev zq_X : Type := Program × Launch × Env × Room × State × MethodId × Array Value × List Frame × Method × Code × va_G × zq_Y × (Nat → Nat) × (Nat → Prop) × Nat × Nat × (State → Prop)
def zq_tb : List Cond := lw_tbl.filter goodWord
/-- the text constants of the reference, by their places: pool number and text -/
def zq_str : List (Nat × String) := [(222, "123456789"), (227, "abcdefghi"), (254, "fyxg"), (278, "crkabdipe"), (283, "<>="), (285, "+-"), (287, "*/"), (360, "gbm")]
def zq_len : List Nat := [9, 9, 4, 9, 3, 2, 2, 3]
def zq_byt : List (List Int32) := [[49, 50, 51, 52, 53, 54, 55, 56, 57], [97, 98, 99, 100, 101, 102, 103, 104, 105], [102, 121, 120, 103], [99, 114, 107, 97, 98, 100, 105, 112, 101], [60, 62, 61], [43, 45], [42, 47], [103, 98, 109]]
/-- links to nest mates' members: they hold of the tables, and are kept by rows of their own -/
def zq_isN (w : Cond) : Bool := match w with
  | .fieldLinkNest _ _ _ _ _ _ => true
  | _ => false
def zq_nw : List Cond := tables_1.filter zq_isN
def zq_E (ad : Nat → Nat) (A : Nat → Prop) (U : State) (H : Heap) : Prop := vk_S 8 zq_len zq_byt (fun i => ad (200 + i)) (fun i => ad (300 + i)) A U H ∧ (∀ (i : Nat) (q : Nat × String), zq_str[i]? = some q → vk_R "ToOneCrumbModel" q.1 q.2 (ad (200 + i)) U) ∧ va_Z "java/lang/String" "COMPACT_STRINGS" "Z" (.int 1) A U H ∧ ∀ w ∈ zq_nw, va_Nw w U
def zq_C (X : zq_X) (cc : ByteArray) (nL : Nat) (own : String) (d : Nat) : Prop := match X with
  | (p, _, _, R, s, m, args, _, _, c, D, Y, ad, A, k, n, _) => p.tables.exec = Jvm.exec ∧ c.code = cc ∧ c.maxLocals = nL ∧ s.vm.findClass own = some m.cls ∧ (∀ w ∈ zq_tb, w.before args s = true) ∧ va_K D vwCl (zq_ty Y) s ∧ d ≤ R.frames ∧ 64 * d ≤ R.locals ∧ k ≤ R.cells ∧ n ≤ R.slots ∧ zq_E ad A s s.heap
def zq_ok (X : zq_X) (nL pc : Nat) (P : zq_P) : Prop := match X with
  | (p, l, e, R, s, m, args, below, meth, c, D, Y, ad, A, k, n, Z) => ∀ (ls : zq_L) (st : List Value) (h : zq_H) (H : Heap) (locs : List Loc) (a : Array Slot), P ls st h → zq_lr ad nL ls a → va_P D vwCl (zq_ws Y ad h) H → va_D A (zq_ws Y ad h) → va_S A s.heap H locs → W p l e R s m args below meth c H locs k n Z (F0 m pc a (st.map (zq_cv ad)))
/-- a method's end: nothing (0), an int (1), a long (2) -/
def zq_kd (rk : Nat) (v : Option Value) : Prop := match rk, v with
  | 0, none => True
  | 1, some (.int _) => True
  | 2, some (.long _) => True
  | _, _ => False
def zq_R (X : zq_X) (rt : Option FieldType) (rk : Nat) (Q : zq_Q) : Prop := match X with
  | (_, _, _, _, s, _, args, below, meth, _, D, Y, ad, A, k, n, Z) => meth.locks = false ∧ meth.sig.returnType = rt ∧ ∃ (free : Addr → Prop) (Qc : Array Value → State → Outcome → State → Prop), Z = MQ below Qc args s k n free ∧ (∀ q, A q → free q) ∧
      ∀ (v : Option Value) (h : zq_H) (t : State), zq_kd rk v → Q v h → va_P D vwCl (zq_ws Y ad h) t.heap → va_D A (zq_ws Y ad h) → va_F A s t → s.WarmedH t.vm → Qc args s (.returned v) t
theorem zq_ok.mono {X : zq_X} {nL pc : Nat} {P P' : zq_P} (h : ∀ ls st h, P' ls st h → P ls st h) (k : zq_ok X nL pc P) : zq_ok X nL pc P' := by
  obtain ⟨p, l, e, R, s, m, args, below, meth, c, D, Y, ad, A, kc, kn, Z⟩ := X
  intro ls st hh H locs a hP
  exact k ls st hh H locs a (h _ _ _ hP)
/-! transformers -/
def zi_push (v : Value) (K : zq_P) : zq_P := fun ls st h => K ls (v :: st) h
def zi_iload (i : Nat) (K : zq_P) : zq_P := fun ls st h => match zq_nth ls i with
  | some (.int x) => K ls (.int x :: st) h
  | _ => False
def zi_lload (i : Nat) (K : zq_P) : zq_P := fun ls st h => match zq_nth ls i with
  | some (.long x) => K ls (.long x :: st) h
  | _ => False
def zi_aload (i : Nat) (K : zq_P) : zq_P := fun ls st h => match zq_nth ls i with
  | some (.ref x) => K ls (.ref x :: st) h
  | _ => False
def zi_istore (i : Nat) (K : zq_P) : zq_P := fun ls st h => match st with
  | .int x :: st => K (zq_put1 ls i (.int x)) st h
  | _ => False
def zi_astore (i : Nat) (K : zq_P) : zq_P := fun ls st h => match st with
  | .ref x :: st => K (zq_put1 ls i (.ref x)) st h
  | _ => False
def zi_lstore (i : Nat) (K : zq_P) : zq_P := fun ls st h => match st with
  | .long x :: st => K (zq_put2 ls i (.long x)) st h
  | _ => False
def zi_iinc (i : Nat) (v : Int32) (K : zq_P) : zq_P := fun ls st h => match zq_nth ls i with
  | some (.int x) => K (zq_put1 ls i (.int (x + v))) st h
  | _ => False
def zi_i2 (f : Int32 → Int32 → Int32) (K : zq_P) : zq_P := fun ls st h => match st with
  | .int y :: .int x :: st => K ls (.int (f x y) :: st) h
  | _ => False
def zi_i1 (f : Int32 → Int32) (K : zq_P) : zq_P := fun ls st h => match st with
  | .int x :: st => K ls (.int (f x) :: st) h
  | _ => False
def zi_idv (f : Int32 → Int32 → Int32) (K : zq_P) : zq_P := fun ls st h => match st with
  | .int y :: .int x :: st => ¬ y = 0 ∧ K ls (.int (f x y) :: st) h
  | _ => False
def zi_l2 (f : Int64 → Int64 → Int64) (K : zq_P) : zq_P := fun ls st h => match st with
  | .long y :: .long x :: st => K ls (.long (f x y) :: st) h
  | _ => False
def zi_ldv (f : Int64 → Int64 → Int64) (K : zq_P) : zq_P := fun ls st h => match st with
  | .long y :: .long x :: st => ¬ y = 0 ∧ K ls (.long (f x y) :: st) h
  | _ => False
def zi_lsh (f : Int64 → Int32 → Int64) (K : zq_P) : zq_P := fun ls st h => match st with
  | .int y :: .long x :: st => K ls (.long (f x y) :: st) h
  | _ => False
def zi_i2l (K : zq_P) : zq_P := fun ls st h => match st with
  | .int x :: st => K ls (.long x.toInt64 :: st) h
  | _ => False
def zi_l2i (K : zq_P) : zq_P := fun ls st h => match st with
  | .long x :: st => K ls (.int x.toInt32 :: st) h
  | _ => False
def zi_lcmp (K : zq_P) : zq_P := fun ls st h => match st with
  | .long y :: .long x :: st => K ls (.int (lg_cmp x y) :: st) h
  | _ => False
def zi_dup (K : zq_P) : zq_P := fun ls st h => match st with
  | .int x :: st => K ls (.int x :: .int x :: st) h
  | .ref x :: st => K ls (.ref x :: .ref x :: st) h
  | _ => False
def zi_dup2 (K : zq_P) : zq_P := fun ls st h => match st with
  | .int y :: .int x :: st => K ls (.int y :: .int x :: .int y :: .int x :: st) h
  | .int y :: .ref x :: st => K ls (.int y :: .ref x :: .int y :: .ref x :: st) h
  | _ => False
def zi_pop (K : zq_P) : zq_P := fun ls st h => match st with
  | .int _ :: st => K ls st h
  | _ => False
def zi_if1 (f : Int32 → Prop) (J K : zq_P) : zq_P := fun ls st h => match st with
  | .int x :: st => (f x → J ls st h) ∧ (¬ f x → K ls st h)
  | _ => False
def zi_if2 (f : Int32 → Int32 → Prop) (J K : zq_P) : zq_P := fun ls st h => match st with
  | .int y :: .int x :: st => (f x y → J ls st h) ∧ (¬ f x y → K ls st h)
  | _ => False
def zi_getI (p j : Nat) (K : zq_P) : zq_P := fun ls st h => match st with
  | .ref q :: st => q = p ∧ K ls (.int (h.1 p j) :: st) h
  | _ => False
def zi_getL (p j : Nat) (K : zq_P) : zq_P := fun ls st h => match st with
  | .ref q :: st => q = p ∧ K ls (.long (h.2 p j) :: st) h
  | _ => False
def zi_getR (p r : Nat) (K : zq_P) : zq_P := fun ls st h => match st with
  | .ref q :: st => q = p ∧ K ls (.ref r :: st) h
  | _ => False
def zi_putI (p j : Nat) (K : zq_P) : zq_P := fun ls st h => match st with
  | .int x :: .ref q :: st => q = p ∧ K ls st (zq_setI h p j x)
  | _ => False
def zi_putZ (p j : Nat) (K : zq_P) : zq_P := fun ls st h => match st with
  | .int x :: .ref q :: st => q = p ∧ (x = 0 ∨ x = 1) ∧ K ls st (zq_setI h p j x)
  | _ => False
def zi_putL (p j : Nat) (K : zq_P) : zq_P := fun ls st h => match st with
  | .long x :: .ref q :: st => q = p ∧ K ls st (zq_setL h p j x)
  | _ => False
def zi_aldI (p n : Nat) (K : zq_P) : zq_P := fun ls st h => match st with
  | .int i :: .ref q :: st => q = p ∧ vp_in i n ∧ K ls (.int (h.1 p i.toNatClampNeg) :: st) h
  | _ => False
def zi_aldL (p n : Nat) (K : zq_P) : zq_P := fun ls st h => match st with
  | .int i :: .ref q :: st => q = p ∧ vp_in i n ∧ K ls (.long (h.2 p i.toNatClampNeg) :: st) h
  | _ => False
def zi_astI (p n : Nat) (K : zq_P) : zq_P := fun ls st h => match st with
  | .int x :: .int i :: .ref q :: st => q = p ∧ vp_in i n ∧ K ls st (zq_setI h p i.toNatClampNeg x)
  | _ => False
def zi_astZ (p n : Nat) (K : zq_P) : zq_P := fun ls st h => match st with
  | .int x :: .int i :: .ref q :: st => q = p ∧ vp_in i n ∧ (x = 0 ∨ x = 1) ∧ K ls st (zq_setI h p i.toNatClampNeg x)
  | _ => False
def zi_astL (p n : Nat) (K : zq_P) : zq_P := fun ls st h => match st with
  | .long x :: .int i :: .ref q :: st => q = p ∧ vp_in i n ∧ K ls st (zq_setL h p i.toNatClampNeg x)
  | _ => False
def zi_alen (p n : Nat) (K : zq_P) : zq_P := fun ls st h => match st with
  | .ref q :: st => q = p ∧ K ls (.int (Int32.ofNat n) :: st) h
  | _ => False
def zi_iret (Q : zq_Q) : zq_P := fun _ st h => match st with
  | [.int x] => Q (some (.int x)) h
  | _ => False
def zi_zret (Q : zq_Q) : zq_P := fun _ st h => match st with
  | [.int x] => (x = 0 ∨ x = 1) ∧ Q (some (.int x)) h
  | _ => False
def zi_lret (Q : zq_Q) : zq_P := fun _ st h => match st with
  | [.long x] => Q (some (.long x)) h
  | _ => False
def zi_vret (Q : zq_Q) : zq_P := fun _ st h => match st with
  | [] => Q none h
  | _ => False
/-! their proofs -/
section ZS
variable {X : zq_X} {cc : ByteArray} {nL d pc : Nat} {own : String} {K J : zq_P}
theorem zs_iconst (C : zq_C X cc nL own d) {n : Int} {v : Int32} (hd : decode cc pc = .ok (.iconst n, 1)) (hv : Int32.ofInt n = v) (k : zq_ok X nL (pc + 1) K) : zq_ok X nL pc (zi_push (.int v) K) := by
  obtain ⟨p, l, e, R, s, m, args, below, meth, c, D, Y, ad, A, kc, kn, Z⟩ := X
  obtain ⟨hx, hb, hml, hown, hts, hK, hR⟩ := C
  intro ls st h H locs a hP hl hw hD hS
  exact lv_iconst hx hb hd hv (k _ _ _ _ _ _ hP hl hw hD hS)
theorem zs_bipush (C : zq_C X cc nL own d) {n : Int} {v : Int32} (hd : decode cc pc = .ok (.bipush n, 2)) (hv : (Int8.ofInt n).toInt32 = v) (k : zq_ok X nL (pc + 2) K) : zq_ok X nL pc (zi_push (.int v) K) := by
  obtain ⟨p, l, e, R, s, m, args, below, meth, c, D, Y, ad, A, kc, kn, Z⟩ := X
  obtain ⟨hx, hb, hml, hown, hts, hK, hR⟩ := C
  intro ls st h H locs a hP hl hw hD hS
  exact lv_bipush hx hb hd hv (k _ _ _ _ _ _ hP hl hw hD hS)
theorem zs_sipush (C : zq_C X cc nL own d) {n : Int} {v : Int32} (hd : decode cc pc = .ok (.sipush n, 3)) (hv : (Int16.ofInt n).toInt32 = v) (k : zq_ok X nL (pc + 3) K) : zq_ok X nL pc (zi_push (.int v) K) := by
  obtain ⟨p, l, e, R, s, m, args, below, meth, c, D, Y, ad, A, kc, kn, Z⟩ := X
  obtain ⟨hx, hb, hml, hown, hts, hK, hR⟩ := C
  intro ls st h H locs a hP hl hw hD hS
  exact lv_sipush hx hb hd hv (k _ _ _ _ _ _ hP hl hw hD hS)
theorem zs_lconst (C : zq_C X cc nL own d) {n : Fin 2} {v : Int64} (hd : decode cc pc = .ok (.lconst n, 1)) (hv : Int64.ofNat (n : Nat) = v) (k : zq_ok X nL (pc + 1) K) : zq_ok X nL pc (zi_push (.long v) K) := by
  obtain ⟨p, l, e, R, s, m, args, below, meth, c, D, Y, ad, A, kc, kn, Z⟩ := X
  obtain ⟨hx, hb, hml, hown, hts, hK, hR⟩ := C
  intro ls st h H locs a hP hl hw hD hS
  exact lv_lconst hx hb hd hv (k _ _ _ _ _ _ hP hl hw hD hS)
theorem zs_ldc (C : zq_C X cc nL own d) {ix : Nat} {v : Int32} (hd : decode cc pc = .ok (.ldc ix, 2)) (hw0 : Cond.constant own ix v ∈ zq_tb) (k : zq_ok X nL (pc + 2) K) : zq_ok X nL pc (zi_push (.int v) K) := by
  obtain ⟨p, l, e, R, s, m, args, below, meth, c, D, Y, ad, A, kc, kn, Z⟩ := X
  obtain ⟨hx, hb, hml, hown, hts, hK, hR⟩ := C
  intro ls st h H locs a hP hl hw hD hS
  exact lv_ldc hx hb hown (hts _ hw0) hd (k _ _ _ _ _ _ hP hl hw hD hS)
theorem zs_ldcw (C : zq_C X cc nL own d) {ix : Nat} {v : Int32} (hd : decode cc pc = .ok (.ldc_w ix, 3)) (hw0 : Cond.constant own ix v ∈ zq_tb) (k : zq_ok X nL (pc + 3) K) : zq_ok X nL pc (zi_push (.int v) K) := by
  obtain ⟨p, l, e, R, s, m, args, below, meth, c, D, Y, ad, A, kc, kn, Z⟩ := X
  obtain ⟨hx, hb, hml, hown, hts, hK, hR⟩ := C
  intro ls st h H locs a hP hl hw hD hS
  exact lv_ldcw hx hb hown (hts _ hw0) hd (k _ _ _ _ _ _ hP hl hw hD hS)
theorem zs_ldc2 (C : zq_C X cc nL own d) {ix : Nat} {v : Int64} (hd : decode cc pc = .ok (.ldc2_w ix, 3)) (hw0 : Cond.constantLong own ix v ∈ zq_tb) (k : zq_ok X nL (pc + 3) K) : zq_ok X nL pc (zi_push (.long v) K) := by
  obtain ⟨p, l, e, R, s, m, args, below, meth, c, D, Y, ad, A, kc, kn, Z⟩ := X
  obtain ⟨hx, hb, hml, hown, hts, hK, hR⟩ := C
  intro ls st h H locs a hP hl hw hD hS
  exact lv_ldc2 hx hb hown (hts _ hw0) hd (k _ _ _ _ _ _ hP hl hw hD hS)
theorem zs_iload_n (C : zq_C X cc nL own d) {i : Nat} {f : Fin 4} (hd : decode cc pc = .ok (.iload_n f, 1)) (hi : (f : Nat) = i) (k : zq_ok X nL (pc + 1) K) : zq_ok X nL pc (zi_iload i K) := by
  obtain ⟨p, l, e, R, s, m, args, below, meth, c, D, Y, ad, A, kc, kn, Z⟩ := X
  obtain ⟨hx, hb, hml, hown, hts, hK, hR⟩ := C
  intro ls st h H locs a hP hl hw hD hS
  unfold zi_iload at hP
  split at hP
  · next x hn => exact lv_iload_n hx hb hd hi (hl.at hn) (k _ _ _ _ _ _ hP hl hw hD hS)
  · exact hP.elim
theorem zs_iload (C : zq_C X cc nL own d) {i : Nat} (hd : decode cc pc = .ok (.iload i, 2)) (k : zq_ok X nL (pc + 2) K) : zq_ok X nL pc (zi_iload i K) := by
  obtain ⟨p, l, e, R, s, m, args, below, meth, c, D, Y, ad, A, kc, kn, Z⟩ := X
  obtain ⟨hx, hb, hml, hown, hts, hK, hR⟩ := C
  intro ls st h H locs a hP hl hw hD hS
  unfold zi_iload at hP
  split at hP
  · next x hn => exact lv_iload hx hb hd (hl.at hn) (k _ _ _ _ _ _ hP hl hw hD hS)
  · exact hP.elim
theorem zs_lload_n (C : zq_C X cc nL own d) {i : Nat} {f : Fin 4} (hd : decode cc pc = .ok (.lload_n f, 1)) (hi : (f : Nat) = i) (k : zq_ok X nL (pc + 1) K) : zq_ok X nL pc (zi_lload i K) := by
  obtain ⟨p, l, e, R, s, m, args, below, meth, c, D, Y, ad, A, kc, kn, Z⟩ := X
  obtain ⟨hx, hb, hml, hown, hts, hK, hR⟩ := C
  intro ls st h H locs a hP hl hw hD hS
  unfold zi_lload at hP
  split at hP
  · next x hn => exact lv_lload_n hx hb hd hi (hl.at hn) (k _ _ _ _ _ _ hP hl hw hD hS)
  · exact hP.elim
theorem zs_lload (C : zq_C X cc nL own d) {i : Nat} (hd : decode cc pc = .ok (.lload i, 2)) (k : zq_ok X nL (pc + 2) K) : zq_ok X nL pc (zi_lload i K) := by
  obtain ⟨p, l, e, R, s, m, args, below, meth, c, D, Y, ad, A, kc, kn, Z⟩ := X
  obtain ⟨hx, hb, hml, hown, hts, hK, hR⟩ := C
  intro ls st h H locs a hP hl hw hD hS
  unfold zi_lload at hP
  split at hP
  · next x hn => exact lv_lload hx hb hd (hl.at hn) (k _ _ _ _ _ _ hP hl hw hD hS)
  · exact hP.elim
theorem zs_aload_n (C : zq_C X cc nL own d) {i : Nat} {f : Fin 4} (hd : decode cc pc = .ok (.aload_n f, 1)) (hi : (f : Nat) = i) (k : zq_ok X nL (pc + 1) K) : zq_ok X nL pc (zi_aload i K) := by
  obtain ⟨p, l, e, R, s, m, args, below, meth, c, D, Y, ad, A, kc, kn, Z⟩ := X
  obtain ⟨hx, hb, hml, hown, hts, hK, hR⟩ := C
  intro ls st h H locs a hP hl hw hD hS
  unfold zi_aload at hP
  split at hP
  · next x hn => exact lv_aload_n hx hb hd hi (hl.at hn) (k _ _ _ _ _ _ hP hl hw hD hS)
  · exact hP.elim
theorem zs_aload (C : zq_C X cc nL own d) {i : Nat} (hd : decode cc pc = .ok (.aload i, 2)) (k : zq_ok X nL (pc + 2) K) : zq_ok X nL pc (zi_aload i K) := by
  obtain ⟨p, l, e, R, s, m, args, below, meth, c, D, Y, ad, A, kc, kn, Z⟩ := X
  obtain ⟨hx, hb, hml, hown, hts, hK, hR⟩ := C
  intro ls st h H locs a hP hl hw hD hS
  unfold zi_aload at hP
  split at hP
  · next x hn => exact lv_aload hx hb hd (hl.at hn) (k _ _ _ _ _ _ hP hl hw hD hS)
  · exact hP.elim
theorem zs_istore_n (C : zq_C X cc nL own d) {i : Nat} {f : Fin 4} (hd : decode cc pc = .ok (.istore_n f, 1)) (hi : (f : Nat) = i) (hn : i < nL) (k : zq_ok X nL (pc + 1) K) : zq_ok X nL pc (zi_istore i K) := by
  obtain ⟨p, l, e, R, s, m, args, below, meth, c, D, Y, ad, A, kc, kn, Z⟩ := X
  obtain ⟨hx, hb, hml, hown, hts, hK, hR⟩ := C
  intro ls st h H locs a hP hl hw hD hS
  unfold zi_istore at hP
  split at hP
  · exact lv_istore_n hx hb hd hi hl hn rfl (fun a' hl' => k _ _ _ _ _ _ hP (zq_lr.put1 hl') hw hD hS)
  · exact hP.elim
theorem zs_istore (C : zq_C X cc nL own d) {i : Nat} (hd : decode cc pc = .ok (.istore i, 2)) (hn : i < nL) (k : zq_ok X nL (pc + 2) K) : zq_ok X nL pc (zi_istore i K) := by
  obtain ⟨p, l, e, R, s, m, args, below, meth, c, D, Y, ad, A, kc, kn, Z⟩ := X
  obtain ⟨hx, hb, hml, hown, hts, hK, hR⟩ := C
  intro ls st h H locs a hP hl hw hD hS
  unfold zi_istore at hP
  split at hP
  · exact lv_istore hx hb hd hl hn rfl (fun a' hl' => k _ _ _ _ _ _ hP (zq_lr.put1 hl') hw hD hS)
  · exact hP.elim
theorem zs_astore_n (C : zq_C X cc nL own d) {i : Nat} {f : Fin 4} (hd : decode cc pc = .ok (.astore_n f, 1)) (hi : (f : Nat) = i) (hn : i < nL) (k : zq_ok X nL (pc + 1) K) : zq_ok X nL pc (zi_astore i K) := by
  obtain ⟨p, l, e, R, s, m, args, below, meth, c, D, Y, ad, A, kc, kn, Z⟩ := X
  obtain ⟨hx, hb, hml, hown, hts, hK, hR⟩ := C
  intro ls st h H locs a hP hl hw hD hS
  unfold zi_astore at hP
  split at hP
  · exact lv_astore_n hx hb hd hi hl hn rfl (fun a' hl' => k _ _ _ _ _ _ hP (zq_lr.put1 hl') hw hD hS)
  · exact hP.elim
theorem zs_astore (C : zq_C X cc nL own d) {i : Nat} (hd : decode cc pc = .ok (.astore i, 2)) (hn : i < nL) (k : zq_ok X nL (pc + 2) K) : zq_ok X nL pc (zi_astore i K) := by
  obtain ⟨p, l, e, R, s, m, args, below, meth, c, D, Y, ad, A, kc, kn, Z⟩ := X
  obtain ⟨hx, hb, hml, hown, hts, hK, hR⟩ := C
  intro ls st h H locs a hP hl hw hD hS
  unfold zi_astore at hP
  split at hP
  · exact lv_astore hx hb hd hl hn rfl (fun a' hl' => k _ _ _ _ _ _ hP (zq_lr.put1 hl') hw hD hS)
  · exact hP.elim
theorem zs_lstore_n (C : zq_C X cc nL own d) {i : Nat} {f : Fin 4} (hd : decode cc pc = .ok (.lstore_n f, 1)) (hi : (f : Nat) = i) (hn : i + 1 < nL) (k : zq_ok X nL (pc + 1) K) : zq_ok X nL pc (zi_lstore i K) := by
  obtain ⟨p, l, e, R, s, m, args, below, meth, c, D, Y, ad, A, kc, kn, Z⟩ := X
  obtain ⟨hx, hb, hml, hown, hts, hK, hR⟩ := C
  intro ls st h H locs a hP hl hw hD hS
  unfold zi_lstore at hP
  split at hP
  · exact lv_lstore_n hx hb hd hi hl hn rfl (fun a' hl' => k _ _ _ _ _ _ hP (zq_lr.put2 hl') hw hD hS)
  · exact hP.elim
theorem zs_lstore (C : zq_C X cc nL own d) {i : Nat} (hd : decode cc pc = .ok (.lstore i, 2)) (hn : i + 1 < nL) (k : zq_ok X nL (pc + 2) K) : zq_ok X nL pc (zi_lstore i K) := by
  obtain ⟨p, l, e, R, s, m, args, below, meth, c, D, Y, ad, A, kc, kn, Z⟩ := X
  obtain ⟨hx, hb, hml, hown, hts, hK, hR⟩ := C
  intro ls st h H locs a hP hl hw hD hS
  unfold zi_lstore at hP
  split at hP
  · exact lv_lstore hx hb hd hl hn rfl (fun a' hl' => k _ _ _ _ _ _ hP (zq_lr.put2 hl') hw hD hS)
  · exact hP.elim
theorem zq_en_place {ad : Nat → Nat} {l : zq_L} {i : Nat} {v : Value} (h : zq_nth l i = some v) : ∃ k : Nat, (zq_en ad l)[k]? = some (i, zq_cv ad v) := List.getElem?_of_mem (zq_en_mem h)
theorem zs_iinc (C : zq_C X cc nL own d) {i : Nat} {n : Int} {v : Int32} (hd : decode cc pc = .ok (.iinc i n, 3)) (hv : Int32.ofInt n = v) (hn : i < nL) (k : zq_ok X nL (pc + 3) K) : zq_ok X nL pc (zi_iinc i v K) := by
  obtain ⟨p, l, e, R, s, m, args, below, meth, c, D, Y, ad, A, kc, kn, Z⟩ := X
  obtain ⟨hx, hb, hml, hown, hts, hK, hR⟩ := C
  intro ls st h H locs a hP hl hw hD hS
  unfold zi_iinc at hP
  split at hP
  · next x hx9 =>
    obtain ⟨k9, hk9⟩ := zq_en_place (ad := ad) hx9
    exact lv_iinc hx hb hd hl hk9 (by rw [hv]) hn rfl (fun a' hl' => k _ _ _ _ _ _ hP (zq_lr.put1 hl') hw hD hS)
  · exact hP.elim
end ZS
end
section
def zf_rem (x y : Int32) : Int32 := x - x / y * y
def zf_shl (x y : Int32) : Int32 := x <<< (y &&& 31)
def zf_shr (x y : Int32) : Int32 := x >>> (y &&& 31)
def zf_ushr (x y : Int32) : Int32 := (x.toUInt32 >>> (y.toUInt32 &&& Int32.toUInt32 31)).toInt32
def zf_lrem (x y : Int64) : Int64 := x - x / y * y
def zf_lushr (x : Int64) (y : Int32) : Int64 := (x.toUInt64 >>> (y.toInt64.toUInt64 &&& Int64.toUInt64 63)).toInt64
def zf_lshl (x : Int64) (y : Int32) : Int64 := x <<< (y.toInt64 &&& 63)
section ZS
variable {X : zq_X} {cc : ByteArray} {nL d pc : Nat} {own : String} {K J : zq_P}
theorem zs_iadd (C : zq_C X cc nL own d) (hd : decode cc pc = .ok (.iadd, 1)) (k : zq_ok X nL (pc + 1) K) : zq_ok X nL pc (zi_i2 (fun x y => x + y) K) := by
  obtain ⟨p, l, e, R, s, m, args, below, meth, c, D, Y, ad, A, kc, kn, Z⟩ := X
  obtain ⟨hx, hb, hml, hown, hts, hK, hR⟩ := C
  intro ls st h H locs a hP hl hw hD hS
  unfold zi_i2 at hP
  split at hP
  · exact lv_iadd hx hb hd (k _ _ _ _ _ _ hP hl hw hD hS)
  · exact hP.elim
theorem zs_isub (C : zq_C X cc nL own d) (hd : decode cc pc = .ok (.isub, 1)) (k : zq_ok X nL (pc + 1) K) : zq_ok X nL pc (zi_i2 (fun x y => x - y) K) := by
  obtain ⟨p, l, e, R, s, m, args, below, meth, c, D, Y, ad, A, kc, kn, Z⟩ := X
  obtain ⟨hx, hb, hml, hown, hts, hK, hR⟩ := C
  intro ls st h H locs a hP hl hw hD hS
  unfold zi_i2 at hP
  split at hP
  · exact lv_isub hx hb hd (k _ _ _ _ _ _ hP hl hw hD hS)
  · exact hP.elim
theorem zs_imul (C : zq_C X cc nL own d) (hd : decode cc pc = .ok (.imul, 1)) (k : zq_ok X nL (pc + 1) K) : zq_ok X nL pc (zi_i2 (fun x y => x * y) K) := by
  obtain ⟨p, l, e, R, s, m, args, below, meth, c, D, Y, ad, A, kc, kn, Z⟩ := X
  obtain ⟨hx, hb, hml, hown, hts, hK, hR⟩ := C
  intro ls st h H locs a hP hl hw hD hS
  unfold zi_i2 at hP
  split at hP
  · exact lv_imul hx hb hd (k _ _ _ _ _ _ hP hl hw hD hS)
  · exact hP.elim
theorem zs_iand (C : zq_C X cc nL own d) (hd : decode cc pc = .ok (.iand, 1)) (k : zq_ok X nL (pc + 1) K) : zq_ok X nL pc (zi_i2 (fun x y => x &&& y) K) := by
  obtain ⟨p, l, e, R, s, m, args, below, meth, c, D, Y, ad, A, kc, kn, Z⟩ := X
  obtain ⟨hx, hb, hml, hown, hts, hK, hR⟩ := C
  intro ls st h H locs a hP hl hw hD hS
  unfold zi_i2 at hP
  split at hP
  · exact lv_iand hx hb hd (k _ _ _ _ _ _ hP hl hw hD hS)
  · exact hP.elim
theorem zs_ior (C : zq_C X cc nL own d) (hd : decode cc pc = .ok (.ior, 1)) (k : zq_ok X nL (pc + 1) K) : zq_ok X nL pc (zi_i2 (fun x y => x ||| y) K) := by
  obtain ⟨p, l, e, R, s, m, args, below, meth, c, D, Y, ad, A, kc, kn, Z⟩ := X
  obtain ⟨hx, hb, hml, hown, hts, hK, hR⟩ := C
  intro ls st h H locs a hP hl hw hD hS
  unfold zi_i2 at hP
  split at hP
  · exact lv_ior hx hb hd (k _ _ _ _ _ _ hP hl hw hD hS)
  · exact hP.elim
theorem zs_ixor (C : zq_C X cc nL own d) (hd : decode cc pc = .ok (.ixor, 1)) (k : zq_ok X nL (pc + 1) K) : zq_ok X nL pc (zi_i2 (fun x y => x ^^^ y) K) := by
  obtain ⟨p, l, e, R, s, m, args, below, meth, c, D, Y, ad, A, kc, kn, Z⟩ := X
  obtain ⟨hx, hb, hml, hown, hts, hK, hR⟩ := C
  intro ls st h H locs a hP hl hw hD hS
  unfold zi_i2 at hP
  split at hP
  · exact lv_ixor hx hb hd (k _ _ _ _ _ _ hP hl hw hD hS)
  · exact hP.elim
theorem zs_ishl (C : zq_C X cc nL own d) (hd : decode cc pc = .ok (.ishl, 1)) (k : zq_ok X nL (pc + 1) K) : zq_ok X nL pc (zi_i2 zf_shl K) := by
  obtain ⟨p, l, e, R, s, m, args, below, meth, c, D, Y, ad, A, kc, kn, Z⟩ := X
  obtain ⟨hx, hb, hml, hown, hts, hK, hR⟩ := C
  intro ls st h H locs a hP hl hw hD hS
  unfold zi_i2 at hP
  split at hP
  · exact lv_ishl hx hb hd (k _ _ _ _ _ _ hP hl hw hD hS)
  · exact hP.elim
theorem zs_ishr (C : zq_C X cc nL own d) (hd : decode cc pc = .ok (.ishr, 1)) (k : zq_ok X nL (pc + 1) K) : zq_ok X nL pc (zi_i2 zf_shr K) := by
  obtain ⟨p, l, e, R, s, m, args, below, meth, c, D, Y, ad, A, kc, kn, Z⟩ := X
  obtain ⟨hx, hb, hml, hown, hts, hK, hR⟩ := C
  intro ls st h H locs a hP hl hw hD hS
  unfold zi_i2 at hP
  split at hP
  · exact lv_ishr hx hb hd (k _ _ _ _ _ _ hP hl hw hD hS)
  · exact hP.elim
theorem zs_iushr (C : zq_C X cc nL own d) (hd : decode cc pc = .ok (.iushr, 1)) (k : zq_ok X nL (pc + 1) K) : zq_ok X nL pc (zi_i2 zf_ushr K) := by
  obtain ⟨p, l, e, R, s, m, args, below, meth, c, D, Y, ad, A, kc, kn, Z⟩ := X
  obtain ⟨hx, hb, hml, hown, hts, hK, hR⟩ := C
  intro ls st h H locs a hP hl hw hD hS
  unfold zi_i2 at hP
  split at hP
  · exact lv_iushr hx hb hd rfl (k _ _ _ _ _ _ hP hl hw hD hS)
  · exact hP.elim
theorem zs_idiv (C : zq_C X cc nL own d) (hd : decode cc pc = .ok (.idiv, 1)) (k : zq_ok X nL (pc + 1) K) : zq_ok X nL pc (zi_idv (fun x y => x / y) K) := by
  obtain ⟨p, l, e, R, s, m, args, below, meth, c, D, Y, ad, A, kc, kn, Z⟩ := X
  obtain ⟨hx, hb, hml, hown, hts, hK, hR⟩ := C
  intro ls st h H locs a hP hl hw hD hS
  unfold zi_idv at hP
  split at hP
  · exact lv_idiv hx hb hd hP.1 (k _ _ _ _ _ _ hP.2 hl hw hD hS)
  · exact hP.elim
theorem zs_irem (C : zq_C X cc nL own d) (hd : decode cc pc = .ok (.irem, 1)) (k : zq_ok X nL (pc + 1) K) : zq_ok X nL pc (zi_idv zf_rem K) := by
  obtain ⟨p, l, e, R, s, m, args, below, meth, c, D, Y, ad, A, kc, kn, Z⟩ := X
  obtain ⟨hx, hb, hml, hown, hts, hK, hR⟩ := C
  intro ls st h H locs a hP hl hw hD hS
  unfold zi_idv at hP
  split at hP
  · exact lv_irem hx hb hd hP.1 (k _ _ _ _ _ _ hP.2 hl hw hD hS)
  · exact hP.elim
theorem zs_ineg (C : zq_C X cc nL own d) (hd : decode cc pc = .ok (.ineg, 1)) (k : zq_ok X nL (pc + 1) K) : zq_ok X nL pc (zi_i1 (fun x => -x) K) := by
  obtain ⟨p, l, e, R, s, m, args, below, meth, c, D, Y, ad, A, kc, kn, Z⟩ := X
  obtain ⟨hx, hb, hml, hown, hts, hK, hR⟩ := C
  intro ls st h H locs a hP hl hw hD hS
  unfold zi_i1 at hP
  split at hP
  · exact lv_ineg hx hb hd (k _ _ _ _ _ _ hP hl hw hD hS)
  · exact hP.elim
theorem zs_i2b (C : zq_C X cc nL own d) (hd : decode cc pc = .ok (.i2b, 1)) (k : zq_ok X nL (pc + 1) K) : zq_ok X nL pc (zi_i1 (fun x => x.toInt8.toInt32) K) := by
  obtain ⟨p, l, e, R, s, m, args, below, meth, c, D, Y, ad, A, kc, kn, Z⟩ := X
  obtain ⟨hx, hb, hml, hown, hts, hK, hR⟩ := C
  intro ls st h H locs a hP hl hw hD hS
  unfold zi_i1 at hP
  split at hP
  · exact lv_i2b hx hb hd rfl (k _ _ _ _ _ _ hP hl hw hD hS)
  · exact hP.elim
theorem zs_i2s (C : zq_C X cc nL own d) (hd : decode cc pc = .ok (.i2s, 1)) (k : zq_ok X nL (pc + 1) K) : zq_ok X nL pc (zi_i1 (fun x => x.toInt16.toInt32) K) := by
  obtain ⟨p, l, e, R, s, m, args, below, meth, c, D, Y, ad, A, kc, kn, Z⟩ := X
  obtain ⟨hx, hb, hml, hown, hts, hK, hR⟩ := C
  intro ls st h H locs a hP hl hw hD hS
  unfold zi_i1 at hP
  split at hP
  · exact lv_i2s hx hb hd rfl (k _ _ _ _ _ _ hP hl hw hD hS)
  · exact hP.elim
theorem zs_ladd (C : zq_C X cc nL own d) (hd : decode cc pc = .ok (.ladd, 1)) (k : zq_ok X nL (pc + 1) K) : zq_ok X nL pc (zi_l2 (fun x y => x + y) K) := by
  obtain ⟨p, l, e, R, s, m, args, below, meth, c, D, Y, ad, A, kc, kn, Z⟩ := X
  obtain ⟨hx, hb, hml, hown, hts, hK, hR⟩ := C
  intro ls st h H locs a hP hl hw hD hS
  unfold zi_l2 at hP
  split at hP
  · exact lv_ladd hx hb hd (k _ _ _ _ _ _ hP hl hw hD hS)
  · exact hP.elim
theorem zs_lsub (C : zq_C X cc nL own d) (hd : decode cc pc = .ok (.lsub, 1)) (k : zq_ok X nL (pc + 1) K) : zq_ok X nL pc (zi_l2 (fun x y => x - y) K) := by
  obtain ⟨p, l, e, R, s, m, args, below, meth, c, D, Y, ad, A, kc, kn, Z⟩ := X
  obtain ⟨hx, hb, hml, hown, hts, hK, hR⟩ := C
  intro ls st h H locs a hP hl hw hD hS
  unfold zi_l2 at hP
  split at hP
  · exact lv_lsub hx hb hd (k _ _ _ _ _ _ hP hl hw hD hS)
  · exact hP.elim
theorem zs_lmul (C : zq_C X cc nL own d) (hd : decode cc pc = .ok (.lmul, 1)) (k : zq_ok X nL (pc + 1) K) : zq_ok X nL pc (zi_l2 (fun x y => x * y) K) := by
  obtain ⟨p, l, e, R, s, m, args, below, meth, c, D, Y, ad, A, kc, kn, Z⟩ := X
  obtain ⟨hx, hb, hml, hown, hts, hK, hR⟩ := C
  intro ls st h H locs a hP hl hw hD hS
  unfold zi_l2 at hP
  split at hP
  · exact lv_lmul hx hb hd (k _ _ _ _ _ _ hP hl hw hD hS)
  · exact hP.elim
theorem zs_land (C : zq_C X cc nL own d) (hd : decode cc pc = .ok (.land, 1)) (k : zq_ok X nL (pc + 1) K) : zq_ok X nL pc (zi_l2 (fun x y => x &&& y) K) := by
  obtain ⟨p, l, e, R, s, m, args, below, meth, c, D, Y, ad, A, kc, kn, Z⟩ := X
  obtain ⟨hx, hb, hml, hown, hts, hK, hR⟩ := C
  intro ls st h H locs a hP hl hw hD hS
  unfold zi_l2 at hP
  split at hP
  · exact lv_land hx hb hd (k _ _ _ _ _ _ hP hl hw hD hS)
  · exact hP.elim
theorem zs_lor (C : zq_C X cc nL own d) (hd : decode cc pc = .ok (.lor, 1)) (k : zq_ok X nL (pc + 1) K) : zq_ok X nL pc (zi_l2 (fun x y => x ||| y) K) := by
  obtain ⟨p, l, e, R, s, m, args, below, meth, c, D, Y, ad, A, kc, kn, Z⟩ := X
  obtain ⟨hx, hb, hml, hown, hts, hK, hR⟩ := C
  intro ls st h H locs a hP hl hw hD hS
  unfold zi_l2 at hP
  split at hP
  · exact lv_lor hx hb hd (k _ _ _ _ _ _ hP hl hw hD hS)
  · exact hP.elim
theorem zs_lxor (C : zq_C X cc nL own d) (hd : decode cc pc = .ok (.lxor, 1)) (k : zq_ok X nL (pc + 1) K) : zq_ok X nL pc (zi_l2 (fun x y => x ^^^ y) K) := by
  obtain ⟨p, l, e, R, s, m, args, below, meth, c, D, Y, ad, A, kc, kn, Z⟩ := X
  obtain ⟨hx, hb, hml, hown, hts, hK, hR⟩ := C
  intro ls st h H locs a hP hl hw hD hS
  unfold zi_l2 at hP
  split at hP
  · exact lv_lxor hx hb hd (k _ _ _ _ _ _ hP hl hw hD hS)
  · exact hP.elim
theorem zs_ldiv (C : zq_C X cc nL own d) (hd : decode cc pc = .ok (.ldiv, 1)) (k : zq_ok X nL (pc + 1) K) : zq_ok X nL pc (zi_ldv (fun x y => x / y) K) := by
  obtain ⟨p, l, e, R, s, m, args, below, meth, c, D, Y, ad, A, kc, kn, Z⟩ := X
  obtain ⟨hx, hb, hml, hown, hts, hK, hR⟩ := C
  intro ls st h H locs a hP hl hw hD hS
  unfold zi_ldv at hP
  split at hP
  · exact lv_ldiv hx hb hd hP.1 (k _ _ _ _ _ _ hP.2 hl hw hD hS)
  · exact hP.elim
theorem zs_lrem (C : zq_C X cc nL own d) (hd : decode cc pc = .ok (.lrem, 1)) (k : zq_ok X nL (pc + 1) K) : zq_ok X nL pc (zi_ldv zf_lrem K) := by
  obtain ⟨p, l, e, R, s, m, args, below, meth, c, D, Y, ad, A, kc, kn, Z⟩ := X
  obtain ⟨hx, hb, hml, hown, hts, hK, hR⟩ := C
  intro ls st h H locs a hP hl hw hD hS
  unfold zi_ldv at hP
  split at hP
  · exact lv_lrem hx hb hd hP.1 (k _ _ _ _ _ _ hP.2 hl hw hD hS)
  · exact hP.elim
theorem zs_lushr (C : zq_C X cc nL own d) (hd : decode cc pc = .ok (.lushr, 1)) (k : zq_ok X nL (pc + 1) K) : zq_ok X nL pc (zi_lsh zf_lushr K) := by
  obtain ⟨p, l, e, R, s, m, args, below, meth, c, D, Y, ad, A, kc, kn, Z⟩ := X
  obtain ⟨hx, hb, hml, hown, hts, hK, hR⟩ := C
  intro ls st h H locs a hP hl hw hD hS
  unfold zi_lsh at hP
  split at hP
  · exact lv_lushr hx hb hd rfl (k _ _ _ _ _ _ hP hl hw hD hS)
  · exact hP.elim
theorem zs_lshl (C : zq_C X cc nL own d) (hd : decode cc pc = .ok (.lshl, 1)) (k : zq_ok X nL (pc + 1) K) : zq_ok X nL pc (zi_lsh zf_lshl K) := by
  obtain ⟨p, l, e, R, s, m, args, below, meth, c, D, Y, ad, A, kc, kn, Z⟩ := X
  obtain ⟨hx, hb, hml, hown, hts, hK, hR⟩ := C
  intro ls st h H locs a hP hl hw hD hS
  unfold zi_lsh at hP
  split at hP
  · exact lv_lshl hx hb hd rfl (k _ _ _ _ _ _ hP hl hw hD hS)
  · exact hP.elim
theorem zs_i2l (C : zq_C X cc nL own d) (hd : decode cc pc = .ok (.i2l, 1)) (k : zq_ok X nL (pc + 1) K) : zq_ok X nL pc (zi_i2l  K) := by
  obtain ⟨p, l, e, R, s, m, args, below, meth, c, D, Y, ad, A, kc, kn, Z⟩ := X
  obtain ⟨hx, hb, hml, hown, hts, hK, hR⟩ := C
  intro ls st h H locs a hP hl hw hD hS
  unfold zi_i2l at hP
  split at hP
  · exact lv_i2l hx hb hd rfl (k _ _ _ _ _ _ hP hl hw hD hS)
  · exact hP.elim
theorem zs_l2i (C : zq_C X cc nL own d) (hd : decode cc pc = .ok (.l2i, 1)) (k : zq_ok X nL (pc + 1) K) : zq_ok X nL pc (zi_l2i  K) := by
  obtain ⟨p, l, e, R, s, m, args, below, meth, c, D, Y, ad, A, kc, kn, Z⟩ := X
  obtain ⟨hx, hb, hml, hown, hts, hK, hR⟩ := C
  intro ls st h H locs a hP hl hw hD hS
  unfold zi_l2i at hP
  split at hP
  · exact lv_l2i hx hb hd rfl (k _ _ _ _ _ _ hP hl hw hD hS)
  · exact hP.elim
theorem zs_lcmp (C : zq_C X cc nL own d) (hd : decode cc pc = .ok (.lcmp, 1)) (k : zq_ok X nL (pc + 1) K) : zq_ok X nL pc (zi_lcmp K) := by
  obtain ⟨p, l, e, R, s, m, args, below, meth, c, D, Y, ad, A, kc, kn, Z⟩ := X
  obtain ⟨hx, hb, hml, hown, hts, hK, hR⟩ := C
  intro ls st h H locs a hP hl hw hD hS
  unfold zi_lcmp at hP
  split at hP
  · exact W.lcmp hx hb hd (k _ _ _ _ _ _ hP hl hw hD hS)
  · exact hP.elim
theorem zs_dup (C : zq_C X cc nL own d) (hd : decode cc pc = .ok (.dup, 1)) (k : zq_ok X nL (pc + 1) K) : zq_ok X nL pc (zi_dup K) := by
  obtain ⟨p, l, e, R, s, m, args, below, meth, c, D, Y, ad, A, kc, kn, Z⟩ := X
  obtain ⟨hx, hb, hml, hown, hts, hK, hR⟩ := C
  intro ls st h H locs a hP hl hw hD hS
  unfold zi_dup at hP
  split at hP
  · exact lv_dup hx hb hd rfl (k _ _ _ _ _ _ hP hl hw hD hS)
  · exact lv_dup hx hb hd rfl (k _ _ _ _ _ _ hP hl hw hD hS)
  · exact hP.elim
theorem zs_dup2 (C : zq_C X cc nL own d) (hd : decode cc pc = .ok (.dup2, 1)) (k : zq_ok X nL (pc + 1) K) : zq_ok X nL pc (zi_dup2 K) := by
  obtain ⟨p, l, e, R, s, m, args, below, meth, c, D, Y, ad, A, kc, kn, Z⟩ := X
  obtain ⟨hx, hb, hml, hown, hts, hK, hR⟩ := C
  intro ls st h H locs a hP hl hw hD hS
  unfold zi_dup2 at hP
  split at hP
  · exact lv_dup2_11 hx hb hd rfl rfl (k _ _ _ _ _ _ hP hl hw hD hS)
  · exact lv_dup2_11 hx hb hd rfl rfl (k _ _ _ _ _ _ hP hl hw hD hS)
  · exact hP.elim
theorem zs_pop (C : zq_C X cc nL own d) (hd : decode cc pc = .ok (.pop, 1)) (k : zq_ok X nL (pc + 1) K) : zq_ok X nL pc (zi_pop K) := by
  obtain ⟨p, l, e, R, s, m, args, below, meth, c, D, Y, ad, A, kc, kn, Z⟩ := X
  obtain ⟨hx, hb, hml, hown, hts, hK, hR⟩ := C
  intro ls st h H locs a hP hl hw hD hS
  unfold zi_pop at hP
  split at hP
  · exact lv_pop hx hb hd rfl (k _ _ _ _ _ _ hP hl hw hD hS)
  · exact hP.elim
theorem zs_goto (C : zq_C X cc nL own d) {off : Int} {tgt : Nat} (hd : decode cc pc = .ok (.goto off, 3)) (ht : (pc : Int) + off = (tgt : Int)) (k : zq_ok X nL tgt K) : zq_ok X nL pc K := by
  obtain ⟨p, l, e, R, s, m, args, below, meth, c, D, Y, ad, A, kc, kn, Z⟩ := X
  obtain ⟨hx, hb, hml, hown, hts, hK, hR⟩ := C
  intro ls st h H locs a hP hl hw hD hS
  exact lv_goto hx hb hd ht (k _ _ _ _ _ _ hP hl hw hD hS)
theorem zs_if_eq (C : zq_C X cc nL own d) {off : Int} {tgt : Nat} (hd : decode cc pc = .ok (.ifCond .eq off, 3)) (ht : (pc : Int) + off = (tgt : Int)) (j : zq_ok X nL tgt J) (k : zq_ok X nL (pc + 3) K) : zq_ok X nL pc (zi_if1 (fun x => x = 0) J K) := by
  obtain ⟨p, l, e, R, s, m, args, below, meth, c, D, Y, ad, A, kc, kn, Z⟩ := X
  obtain ⟨hx, hb, hml, hown, hts, hK, hR⟩ := C
  intro ls st h H locs a hP hl hw hD hS
  unfold zi_if1 at hP
  split at hP
  · exact lv_if_eq hx hb hd ht (fun q => j _ _ _ _ _ _ (hP.1 q) hl hw hD hS) (fun q => k _ _ _ _ _ _ (hP.2 q) hl hw hD hS)
  · exact hP.elim
theorem zs_icmp_eq (C : zq_C X cc nL own d) {off : Int} {tgt : Nat} (hd : decode cc pc = .ok (.if_icmp .eq off, 3)) (ht : (pc : Int) + off = (tgt : Int)) (j : zq_ok X nL tgt J) (k : zq_ok X nL (pc + 3) K) : zq_ok X nL pc (zi_if2 (fun x y => x = y) J K) := by
  obtain ⟨p, l, e, R, s, m, args, below, meth, c, D, Y, ad, A, kc, kn, Z⟩ := X
  obtain ⟨hx, hb, hml, hown, hts, hK, hR⟩ := C
  intro ls st h H locs a hP hl hw hD hS
  unfold zi_if2 at hP
  split at hP
  · exact lv_icmp_eq hx hb hd ht (fun q => j _ _ _ _ _ _ (hP.1 q) hl hw hD hS) (fun q => k _ _ _ _ _ _ (hP.2 q) hl hw hD hS)
  · exact hP.elim
theorem zs_if_ne (C : zq_C X cc nL own d) {off : Int} {tgt : Nat} (hd : decode cc pc = .ok (.ifCond .ne off, 3)) (ht : (pc : Int) + off = (tgt : Int)) (j : zq_ok X nL tgt J) (k : zq_ok X nL (pc + 3) K) : zq_ok X nL pc (zi_if1 (fun x => x = 0) K J) := by
  obtain ⟨p, l, e, R, s, m, args, below, meth, c, D, Y, ad, A, kc, kn, Z⟩ := X
  obtain ⟨hx, hb, hml, hown, hts, hK, hR⟩ := C
  intro ls st h H locs a hP hl hw hD hS
  unfold zi_if1 at hP
  split at hP
  · exact lv_if_ne hx hb hd ht (fun q => j _ _ _ _ _ _ (hP.2 q) hl hw hD hS) (fun q => k _ _ _ _ _ _ (hP.1 q) hl hw hD hS)
  · exact hP.elim
theorem zs_icmp_ne (C : zq_C X cc nL own d) {off : Int} {tgt : Nat} (hd : decode cc pc = .ok (.if_icmp .ne off, 3)) (ht : (pc : Int) + off = (tgt : Int)) (j : zq_ok X nL tgt J) (k : zq_ok X nL (pc + 3) K) : zq_ok X nL pc (zi_if2 (fun x y => x = y) K J) := by
  obtain ⟨p, l, e, R, s, m, args, below, meth, c, D, Y, ad, A, kc, kn, Z⟩ := X
  obtain ⟨hx, hb, hml, hown, hts, hK, hR⟩ := C
  intro ls st h H locs a hP hl hw hD hS
  unfold zi_if2 at hP
  split at hP
  · exact lv_icmp_ne hx hb hd ht (fun q => j _ _ _ _ _ _ (hP.2 q) hl hw hD hS) (fun q => k _ _ _ _ _ _ (hP.1 q) hl hw hD hS)
  · exact hP.elim
theorem zs_if_lt (C : zq_C X cc nL own d) {off : Int} {tgt : Nat} (hd : decode cc pc = .ok (.ifCond .lt off, 3)) (ht : (pc : Int) + off = (tgt : Int)) (j : zq_ok X nL tgt J) (k : zq_ok X nL (pc + 3) K) : zq_ok X nL pc (zi_if1 (fun x => x < 0) J K) := by
  obtain ⟨p, l, e, R, s, m, args, below, meth, c, D, Y, ad, A, kc, kn, Z⟩ := X
  obtain ⟨hx, hb, hml, hown, hts, hK, hR⟩ := C
  intro ls st h H locs a hP hl hw hD hS
  unfold zi_if1 at hP
  split at hP
  · exact lv_if_lt hx hb hd ht (fun q => j _ _ _ _ _ _ (hP.1 q) hl hw hD hS) (fun q => k _ _ _ _ _ _ (hP.2 q) hl hw hD hS)
  · exact hP.elim
theorem zs_icmp_lt (C : zq_C X cc nL own d) {off : Int} {tgt : Nat} (hd : decode cc pc = .ok (.if_icmp .lt off, 3)) (ht : (pc : Int) + off = (tgt : Int)) (j : zq_ok X nL tgt J) (k : zq_ok X nL (pc + 3) K) : zq_ok X nL pc (zi_if2 (fun x y => x < y) J K) := by
  obtain ⟨p, l, e, R, s, m, args, below, meth, c, D, Y, ad, A, kc, kn, Z⟩ := X
  obtain ⟨hx, hb, hml, hown, hts, hK, hR⟩ := C
  intro ls st h H locs a hP hl hw hD hS
  unfold zi_if2 at hP
  split at hP
  · exact lv_icmp_lt hx hb hd ht (fun q => j _ _ _ _ _ _ (hP.1 q) hl hw hD hS) (fun q => k _ _ _ _ _ _ (hP.2 q) hl hw hD hS)
  · exact hP.elim
theorem zs_if_ge (C : zq_C X cc nL own d) {off : Int} {tgt : Nat} (hd : decode cc pc = .ok (.ifCond .ge off, 3)) (ht : (pc : Int) + off = (tgt : Int)) (j : zq_ok X nL tgt J) (k : zq_ok X nL (pc + 3) K) : zq_ok X nL pc (zi_if1 (fun x => 0 ≤ x) J K) := by
  obtain ⟨p, l, e, R, s, m, args, below, meth, c, D, Y, ad, A, kc, kn, Z⟩ := X
  obtain ⟨hx, hb, hml, hown, hts, hK, hR⟩ := C
  intro ls st h H locs a hP hl hw hD hS
  unfold zi_if1 at hP
  split at hP
  · exact lv_if_ge hx hb hd ht (fun q => j _ _ _ _ _ _ (hP.1 q) hl hw hD hS) (fun q => k _ _ _ _ _ _ (hP.2 q) hl hw hD hS)
  · exact hP.elim
theorem zs_icmp_ge (C : zq_C X cc nL own d) {off : Int} {tgt : Nat} (hd : decode cc pc = .ok (.if_icmp .ge off, 3)) (ht : (pc : Int) + off = (tgt : Int)) (j : zq_ok X nL tgt J) (k : zq_ok X nL (pc + 3) K) : zq_ok X nL pc (zi_if2 (fun x y => y ≤ x) J K) := by
  obtain ⟨p, l, e, R, s, m, args, below, meth, c, D, Y, ad, A, kc, kn, Z⟩ := X
  obtain ⟨hx, hb, hml, hown, hts, hK, hR⟩ := C
  intro ls st h H locs a hP hl hw hD hS
  unfold zi_if2 at hP
  split at hP
  · exact lv_icmp_ge hx hb hd ht (fun q => j _ _ _ _ _ _ (hP.1 q) hl hw hD hS) (fun q => k _ _ _ _ _ _ (hP.2 q) hl hw hD hS)
  · exact hP.elim
theorem zs_if_gt (C : zq_C X cc nL own d) {off : Int} {tgt : Nat} (hd : decode cc pc = .ok (.ifCond .gt off, 3)) (ht : (pc : Int) + off = (tgt : Int)) (j : zq_ok X nL tgt J) (k : zq_ok X nL (pc + 3) K) : zq_ok X nL pc (zi_if1 (fun x => 0 < x) J K) := by
  obtain ⟨p, l, e, R, s, m, args, below, meth, c, D, Y, ad, A, kc, kn, Z⟩ := X
  obtain ⟨hx, hb, hml, hown, hts, hK, hR⟩ := C
  intro ls st h H locs a hP hl hw hD hS
  unfold zi_if1 at hP
  split at hP
  · exact lv_if_gt hx hb hd ht (fun q => j _ _ _ _ _ _ (hP.1 q) hl hw hD hS) (fun q => k _ _ _ _ _ _ (hP.2 q) hl hw hD hS)
  · exact hP.elim
theorem zs_icmp_gt (C : zq_C X cc nL own d) {off : Int} {tgt : Nat} (hd : decode cc pc = .ok (.if_icmp .gt off, 3)) (ht : (pc : Int) + off = (tgt : Int)) (j : zq_ok X nL tgt J) (k : zq_ok X nL (pc + 3) K) : zq_ok X nL pc (zi_if2 (fun x y => y < x) J K) := by
  obtain ⟨p, l, e, R, s, m, args, below, meth, c, D, Y, ad, A, kc, kn, Z⟩ := X
  obtain ⟨hx, hb, hml, hown, hts, hK, hR⟩ := C
  intro ls st h H locs a hP hl hw hD hS
  unfold zi_if2 at hP
  split at hP
  · exact lv_icmp_gt hx hb hd ht (fun q => j _ _ _ _ _ _ (hP.1 q) hl hw hD hS) (fun q => k _ _ _ _ _ _ (hP.2 q) hl hw hD hS)
  · exact hP.elim
theorem zs_if_le (C : zq_C X cc nL own d) {off : Int} {tgt : Nat} (hd : decode cc pc = .ok (.ifCond .le off, 3)) (ht : (pc : Int) + off = (tgt : Int)) (j : zq_ok X nL tgt J) (k : zq_ok X nL (pc + 3) K) : zq_ok X nL pc (zi_if1 (fun x => x ≤ 0) J K) := by
  obtain ⟨p, l, e, R, s, m, args, below, meth, c, D, Y, ad, A, kc, kn, Z⟩ := X
  obtain ⟨hx, hb, hml, hown, hts, hK, hR⟩ := C
  intro ls st h H locs a hP hl hw hD hS
  unfold zi_if1 at hP
  split at hP
  · exact lv_if_le hx hb hd ht (fun q => j _ _ _ _ _ _ (hP.1 q) hl hw hD hS) (fun q => k _ _ _ _ _ _ (hP.2 q) hl hw hD hS)
  · exact hP.elim
theorem zs_icmp_le (C : zq_C X cc nL own d) {off : Int} {tgt : Nat} (hd : decode cc pc = .ok (.if_icmp .le off, 3)) (ht : (pc : Int) + off = (tgt : Int)) (j : zq_ok X nL tgt J) (k : zq_ok X nL (pc + 3) K) : zq_ok X nL pc (zi_if2 (fun x y => x ≤ y) J K) := by
  obtain ⟨p, l, e, R, s, m, args, below, meth, c, D, Y, ad, A, kc, kn, Z⟩ := X
  obtain ⟨hx, hb, hml, hown, hts, hK, hR⟩ := C
  intro ls st h H locs a hP hl hw hD hS
  unfold zi_if2 at hP
  split at hP
  · exact lv_icmp_le hx hb hd ht (fun q => j _ _ _ _ _ _ (hP.1 q) hl hw hD hS) (fun q => k _ _ _ _ _ _ (hP.2 q) hl hw hD hS)
  · exact hP.elim
theorem zs_iaload (C : zq_C X cc nL own d) {p n : Nat} (hp : zq_S[p]? = some (1, n, [])) (hd : decode cc pc = .ok (.iaload, 1)) (k : zq_ok X nL (pc + 1) K) : zq_ok X nL pc (zi_aldI p n K) := by
  obtain ⟨p', l, e, R, s, m, args, below, meth, c, D, Y, ad, A, kc, kn, Z⟩ := X
  obtain ⟨hx, hb, hml, hown, hts, hK, hR⟩ := C
  intro ls st h H locs a hP hl hw hD hS
  unfold zi_aldI at hP
  split at hP
  · obtain ⟨rfl, hin, hP⟩ := hP
    exact va_iald hx hb hK hw _ 0 (zq_ws_at hp) rfl hin hd (k _ _ _ _ _ _ hP hl hw hD hS)
  · exact hP.elim
theorem zs_baload (C : zq_C X cc nL own d) {p n : Nat} (hp : zq_S[p]? = some (3, n, [])) (hd : decode cc pc = .ok (.baload, 1)) (k : zq_ok X nL (pc + 1) K) : zq_ok X nL pc (zi_aldI p n K) := by
  obtain ⟨p', l, e, R, s, m, args, below, meth, c, D, Y, ad, A, kc, kn, Z⟩ := X
  obtain ⟨hx, hb, hml, hown, hts, hK, hR⟩ := C
  intro ls st h H locs a hP hl hw hD hS
  unfold zi_aldI at hP
  split at hP
  · obtain ⟨rfl, hin, hP⟩ := hP
    exact va_zald hx hb hK hw _ 2 (zq_ws_at hp) rfl hin hd (k _ _ _ _ _ _ hP hl hw hD hS)
  · exact hP.elim
theorem zs_laload (C : zq_C X cc nL own d) {p n : Nat} (hp : zq_S[p]? = some (2, n, [])) (hd : decode cc pc = .ok (.laload, 1)) (k : zq_ok X nL (pc + 1) K) : zq_ok X nL pc (zi_aldL p n K) := by
  obtain ⟨p', l, e, R, s, m, args, below, meth, c, D, Y, ad, A, kc, kn, Z⟩ := X
  obtain ⟨hx, hb, hml, hown, hts, hK, hR⟩ := C
  intro ls st h H locs a hP hl hw hD hS
  unfold zi_aldL at hP
  split at hP
  · obtain ⟨rfl, hin, hP⟩ := hP
    exact va_lald hx hb hK hw _ 1 (zq_ws_at hp) rfl hin hd (k _ _ _ _ _ _ hP hl hw hD hS)
  · exact hP.elim
theorem zs_iastore (C : zq_C X cc nL own d) {p n : Nat} (hp : zq_S[p]? = some (1, n, [])) (hd : decode cc pc = .ok (.iastore, 1)) (k : zq_ok X nL (pc + 1) K) : zq_ok X nL pc (zi_astI p n K) := by
  obtain ⟨p', l, e, R, s, m, args, below, meth, c, D, Y, ad, A, kc, kn, Z⟩ := X
  obtain ⟨hx, hb, hml, hown, hts, hK, hR⟩ := C
  intro ls st h H locs a hP hl hw hD hS
  unfold zi_astI at hP
  split at hP
  · obtain ⟨rfl, hin, hP⟩ := hP
    refine va_iast hx hb hK hw hD hS _ 0 (zq_ws_at hp) rfl hin hd (fun H1 locs1 hw1 hD1 hS1 => ?_)
    rw [zq_ws_setI hp] at hw1 hD1
    exact k _ _ _ _ _ _ hP hl hw1 hD1 hS1
  · exact hP.elim
theorem zs_lastore (C : zq_C X cc nL own d) {p n : Nat} (hp : zq_S[p]? = some (2, n, [])) (hd : decode cc pc = .ok (.lastore, 1)) (k : zq_ok X nL (pc + 1) K) : zq_ok X nL pc (zi_astL p n K) := by
  obtain ⟨p', l, e, R, s, m, args, below, meth, c, D, Y, ad, A, kc, kn, Z⟩ := X
  obtain ⟨hx, hb, hml, hown, hts, hK, hR⟩ := C
  intro ls st h H locs a hP hl hw hD hS
  unfold zi_astL at hP
  split at hP
  · obtain ⟨rfl, hin, hP⟩ := hP
    refine va_last hx hb hK hw hD hS _ 1 (zq_ws_at hp) rfl hin hd (fun H1 locs1 hw1 hD1 hS1 => ?_)
    rw [zq_ws_setL hp] at hw1 hD1
    exact k _ _ _ _ _ _ hP hl hw1 hD1 hS1
  · exact hP.elim
theorem zs_bastore (C : zq_C X cc nL own d) {p n : Nat} (hp : zq_S[p]? = some (3, n, [])) (hd : decode cc pc = .ok (.bastore, 1)) (k : zq_ok X nL (pc + 1) K) : zq_ok X nL pc (zi_astZ p n K) := by
  obtain ⟨p', l, e, R, s, m, args, below, meth, c, D, Y, ad, A, kc, kn, Z⟩ := X
  obtain ⟨hx, hb, hml, hown, hts, hK, hR⟩ := C
  intro ls st h H locs a hP hl hw hD hS
  unfold zi_astZ at hP
  split at hP
  · next x i q st =>
    obtain ⟨rfl, hin, h01, hP⟩ := hP
    have hnar : vp_nar .boolean x = x := by rcases h01 with rfl | rfl <;> rfl
    refine va_zast hx hb hK hw hD hS _ 2 (zq_ws_at hp) rfl hin hd (fun H1 locs1 hw1 hD1 hS1 => ?_)
    rw [hnar, zq_ws_setZ hp] at hw1 hD1
    exact k _ _ _ _ _ _ hP hl hw1 hD1 hS1
  · exact hP.elim
theorem zs_alen (C : zq_C X cc nL own d) {p n : Nat} (hp : zq_S[p]? = some (1, n, []) ∨ zq_S[p]? = some (2, n, [])) (hd : decode cc pc = .ok (.arraylength, 1)) (k : zq_ok X nL (pc + 1) K) : zq_ok X nL pc (zi_alen p n K) := by
  obtain ⟨p', l, e, R, s, m, args, below, meth, c, D, Y, ad, A, kc, kn, Z⟩ := X
  obtain ⟨hx, hb, hml, hown, hts, hK, hR⟩ := C
  intro ls st h H locs a hP hl hw hD hS
  unfold zi_alen at hP
  split at hP
  · obtain ⟨rfl, hP⟩ := hP
    rcases hp with hp | hp
    · exact va_alen hx hb hK hw _ 0 (zq_ws_at hp) rfl rfl hd (k _ _ _ _ _ _ hP hl hw hD hS)
    · exact va_alen hx hb hK hw _ 1 (zq_ws_at hp) rfl rfl hd (k _ _ _ _ _ _ hP hl hw hD hS)
  · exact hP.elim
end ZS
end
section
section ZS
variable {X : zq_X} {cc : ByteArray} {nL d pc : Nat} {own : String} {K J : zq_P}
/-- what the tables say of the fields of a thing's kind -/
def zq_F (ci : Nat) (C : String) (T : u_T) (N : Nat) : Prop := vwCl[ci]? = some (C, T, N) ∧ (∀ w ∈ u_ws C T N, w ∈ zq_tb) ∧ (∃ ty : Nat → FieldType, ∀ k, k < N → parseFieldDescriptor (T k).2.2.1 = some (ty k)) ∧ (∀ a, a < N → ∀ b, b < N → a ≠ b → (T a).2.1 ≠ (T b).2.1) ∧ ∀ k, k < N → (T k).1 = C
theorem zs_getI (C0 : zq_C X cc nL own d) {p j ci N ix : Nat} {kd : List Nat} {C : String} {T : u_T} (hp : zq_S[p]? = some (0, ci, kd)) (hF : zq_F ci C T N) (hj : j < N ∧ kd[j]? = some (0)) (hlink : Cond.fieldLink own ix C (T j).2.1 (T j).2.2.1 ∈ zq_tb) (hd : decode cc pc = .ok (.getfield ix, 3)) (k : zq_ok X nL (pc + 3) K) : zq_ok X nL pc (zi_getI p j K) := by
  obtain ⟨p', l, e, R, s, m, args, below, meth, c, D, Y, ad, A, kc, kn, Z⟩ := X
  obtain ⟨hx, hb, hml, hown, hts, hK, hR⟩ := C0
  intro ls st h H locs a hP hl hw hD hS
  obtain ⟨hc, hin, ⟨ty, hty⟩, hnm, ho⟩ := hF
  unfold zi_getI at hP
  split at hP
  · obtain ⟨rfl, hP⟩ := hP
    exact va_get hx hb hts hin hown hK hw _ (zq_ws_at hp) hc j hj.1 (hts _ hlink) (fun x9 h9 => by rw [ho j hj.1] at h9; exact h9) (zq_fs_at hj.2) hd (k _ _ _ _ _ _ hP hl hw hD hS)
  · exact hP.elim
theorem zs_getIN (C0 : zq_C X cc nL own d) {p j ci N ix : Nat} {kd : List Nat} {C host : String} {T : u_T} (hp : zq_S[p]? = some (0, ci, kd)) (hF : zq_F ci C T N) (hj : j < N ∧ kd[j]? = some (0)) (hlink : Cond.fieldLinkNest own ix C (T j).2.1 (T j).2.2.1 host ∈ zq_nw) (hd : decode cc pc = .ok (.getfield ix, 3)) (k : zq_ok X nL (pc + 3) K) : zq_ok X nL pc (zi_getI p j K) := by
  obtain ⟨p', l, e, R, s, m, args, below, meth, c, D, Y, ad, A, kc, kn, Z⟩ := X
  obtain ⟨hx, hb, hml, hown, hts, hK, hR⟩ := C0
  intro ls st h H locs a hP hl hw hD hS
  obtain ⟨hc, hin, ⟨ty, hty⟩, hnm, ho⟩ := hF
  unfold zi_getI at hP
  split at hP
  · obtain ⟨rfl, hP⟩ := hP
    exact va_getN hx hb hts hin hown hK hw _ (zq_ws_at hp) hc j hj.1 (va_Nw.use rfl (hR.2.2.2.2.2.2.2 _ hlink)) (fun x9 h9 => by rw [ho j hj.1] at h9; exact h9) (zq_fs_at hj.2) hd (k _ _ _ _ _ _ hP hl hw hD hS)
  · exact hP.elim
theorem zs_getL (C0 : zq_C X cc nL own d) {p j ci N ix : Nat} {kd : List Nat} {C : String} {T : u_T} (hp : zq_S[p]? = some (0, ci, kd)) (hF : zq_F ci C T N) (hj : j < N ∧ kd[j]? = some (1)) (hlink : Cond.fieldLink own ix C (T j).2.1 (T j).2.2.1 ∈ zq_tb) (hd : decode cc pc = .ok (.getfield ix, 3)) (k : zq_ok X nL (pc + 3) K) : zq_ok X nL pc (zi_getL p j K) := by
  obtain ⟨p', l, e, R, s, m, args, below, meth, c, D, Y, ad, A, kc, kn, Z⟩ := X
  obtain ⟨hx, hb, hml, hown, hts, hK, hR⟩ := C0
  intro ls st h H locs a hP hl hw hD hS
  obtain ⟨hc, hin, ⟨ty, hty⟩, hnm, ho⟩ := hF
  unfold zi_getL at hP
  split at hP
  · obtain ⟨rfl, hP⟩ := hP
    exact va_get hx hb hts hin hown hK hw _ (zq_ws_at hp) hc j hj.1 (hts _ hlink) (fun x9 h9 => by rw [ho j hj.1] at h9; exact h9) (zq_fs_at hj.2) hd (k _ _ _ _ _ _ hP hl hw hD hS)
  · exact hP.elim
theorem zs_getLN (C0 : zq_C X cc nL own d) {p j ci N ix : Nat} {kd : List Nat} {C host : String} {T : u_T} (hp : zq_S[p]? = some (0, ci, kd)) (hF : zq_F ci C T N) (hj : j < N ∧ kd[j]? = some (1)) (hlink : Cond.fieldLinkNest own ix C (T j).2.1 (T j).2.2.1 host ∈ zq_nw) (hd : decode cc pc = .ok (.getfield ix, 3)) (k : zq_ok X nL (pc + 3) K) : zq_ok X nL pc (zi_getL p j K) := by
  obtain ⟨p', l, e, R, s, m, args, below, meth, c, D, Y, ad, A, kc, kn, Z⟩ := X
  obtain ⟨hx, hb, hml, hown, hts, hK, hR⟩ := C0
  intro ls st h H locs a hP hl hw hD hS
  obtain ⟨hc, hin, ⟨ty, hty⟩, hnm, ho⟩ := hF
  unfold zi_getL at hP
  split at hP
  · obtain ⟨rfl, hP⟩ := hP
    exact va_getN hx hb hts hin hown hK hw _ (zq_ws_at hp) hc j hj.1 (va_Nw.use rfl (hR.2.2.2.2.2.2.2 _ hlink)) (fun x9 h9 => by rw [ho j hj.1] at h9; exact h9) (zq_fs_at hj.2) hd (k _ _ _ _ _ _ hP hl hw hD hS)
  · exact hP.elim
theorem zs_getR (C0 : zq_C X cc nL own d) {p j ci N ix r : Nat} {kd : List Nat} {C : String} {T : u_T} (hp : zq_S[p]? = some (0, ci, kd)) (hF : zq_F ci C T N) (hj : j < N ∧ kd[j]? = some (r + 2)) (hlink : Cond.fieldLink own ix C (T j).2.1 (T j).2.2.1 ∈ zq_tb) (hd : decode cc pc = .ok (.getfield ix, 3)) (k : zq_ok X nL (pc + 3) K) : zq_ok X nL pc (zi_getR p r K) := by
  obtain ⟨p', l, e, R, s, m, args, below, meth, c, D, Y, ad, A, kc, kn, Z⟩ := X
  obtain ⟨hx, hb, hml, hown, hts, hK, hR⟩ := C0
  intro ls st h H locs a hP hl hw hD hS
  obtain ⟨hc, hin, ⟨ty, hty⟩, hnm, ho⟩ := hF
  unfold zi_getR at hP
  split at hP
  · obtain ⟨rfl, hP⟩ := hP
    exact va_get hx hb hts hin hown hK hw _ (zq_ws_at hp) hc j hj.1 (hts _ hlink) (fun x9 h9 => by rw [ho j hj.1] at h9; exact h9) (zq_fs_at hj.2) hd (k _ _ _ _ _ _ hP hl hw hD hS)
  · exact hP.elim
theorem zs_getRN (C0 : zq_C X cc nL own d) {p j ci N ix r : Nat} {kd : List Nat} {C host : String} {T : u_T} (hp : zq_S[p]? = some (0, ci, kd)) (hF : zq_F ci C T N) (hj : j < N ∧ kd[j]? = some (r + 2)) (hlink : Cond.fieldLinkNest own ix C (T j).2.1 (T j).2.2.1 host ∈ zq_nw) (hd : decode cc pc = .ok (.getfield ix, 3)) (k : zq_ok X nL (pc + 3) K) : zq_ok X nL pc (zi_getR p r K) := by
  obtain ⟨p', l, e, R, s, m, args, below, meth, c, D, Y, ad, A, kc, kn, Z⟩ := X
  obtain ⟨hx, hb, hml, hown, hts, hK, hR⟩ := C0
  intro ls st h H locs a hP hl hw hD hS
  obtain ⟨hc, hin, ⟨ty, hty⟩, hnm, ho⟩ := hF
  unfold zi_getR at hP
  split at hP
  · obtain ⟨rfl, hP⟩ := hP
    exact va_getN hx hb hts hin hown hK hw _ (zq_ws_at hp) hc j hj.1 (va_Nw.use rfl (hR.2.2.2.2.2.2.2 _ hlink)) (fun x9 h9 => by rw [ho j hj.1] at h9; exact h9) (zq_fs_at hj.2) hd (k _ _ _ _ _ _ hP hl hw hD hS)
  · exact hP.elim
theorem zs_putI (C0 : zq_C X cc nL own d) {p j ci N ix : Nat} {kd : List Nat} {C : String} {T : u_T} (hp : zq_S[p]? = some (0, ci, kd)) (hF : zq_F ci C T N) (hj : j < N ∧ kd[j]? = some 0) (hfin : (T j).2.2.2 = false ∧ parseFieldDescriptor (T j).2.2.1 = some .int) (hlink : Cond.fieldLink own ix C (T j).2.1 (T j).2.2.1 ∈ zq_tb) (hd : decode cc pc = .ok (.putfield ix, 3)) (k : zq_ok X nL (pc + 3) K) : zq_ok X nL pc (zi_putI p j K) := by
  obtain ⟨p', l, e, R, s, m, args, below, meth, c, D, Y, ad, A, kc, kn, Z⟩ := X
  obtain ⟨hx, hb, hml, hown, hts, hK, hR⟩ := C0
  intro ls st h H locs a hP hl hw hD hS
  obtain ⟨hc, hin, ⟨ty, hty⟩, hnm, ho⟩ := hF
  unfold zi_putI at hP
  split at hP
  · next x q st9 =>
    obtain ⟨rfl, hP⟩ := hP
    refine va_put hx hb hts hin ty hty hnm hown hK hw hD hS _ (zq_ws_at hp) hc j hj.1 (hts _ hlink) (fun x9 h9 => by rw [ho j hj.1] at h9; exact h9) hfin.1 hfin.2 rfl rfl (by simpa [zq_fs] using (List.getElem?_eq_some_iff.mp hj.2).1) hd (fun H1 locs1 hw1 hD1 hS1 => ?_)
    have e9 := zq_ws_putI (Y := Y) (ad := ad) (h := h) hp hj.2 x
    exact k _ _ _ _ _ _ hP hl (by rw [← e9]; exact hw1) (by rw [← e9]; exact hD1) hS1
  · exact hP.elim
theorem zs_putIN (C0 : zq_C X cc nL own d) {p j ci N ix : Nat} {kd : List Nat} {C host : String} {T : u_T} (hp : zq_S[p]? = some (0, ci, kd)) (hF : zq_F ci C T N) (hj : j < N ∧ kd[j]? = some 0) (hfin : (T j).2.2.2 = false ∧ parseFieldDescriptor (T j).2.2.1 = some .int) (hlink : Cond.fieldLinkNest own ix C (T j).2.1 (T j).2.2.1 host ∈ zq_nw) (hd : decode cc pc = .ok (.putfield ix, 3)) (k : zq_ok X nL (pc + 3) K) : zq_ok X nL pc (zi_putI p j K) := by
  obtain ⟨p', l, e, R, s, m, args, below, meth, c, D, Y, ad, A, kc, kn, Z⟩ := X
  obtain ⟨hx, hb, hml, hown, hts, hK, hR⟩ := C0
  intro ls st h H locs a hP hl hw hD hS
  obtain ⟨hc, hin, ⟨ty, hty⟩, hnm, ho⟩ := hF
  unfold zi_putI at hP
  split at hP
  · next x q st9 =>
    obtain ⟨rfl, hP⟩ := hP
    refine va_putN hx hb hts hin ty hty hnm hown hK hw hD hS _ (zq_ws_at hp) hc j hj.1 (va_Nw.use rfl (hR.2.2.2.2.2.2.2 _ hlink)) (fun x9 h9 => by rw [ho j hj.1] at h9; exact h9) hfin.1 hfin.2 rfl rfl (by simpa [zq_fs] using (List.getElem?_eq_some_iff.mp hj.2).1) hd (fun H1 locs1 hw1 hD1 hS1 => ?_)
    have e9 := zq_ws_putI (Y := Y) (ad := ad) (h := h) hp hj.2 x
    exact k _ _ _ _ _ _ hP hl (by rw [← e9]; exact hw1) (by rw [← e9]; exact hD1) hS1
  · exact hP.elim
theorem zs_putZ (C0 : zq_C X cc nL own d) {p j ci N ix : Nat} {kd : List Nat} {C : String} {T : u_T} (hp : zq_S[p]? = some (0, ci, kd)) (hF : zq_F ci C T N) (hj : j < N ∧ kd[j]? = some 0) (hfin : (T j).2.2.2 = false ∧ parseFieldDescriptor (T j).2.2.1 = some .boolean) (hlink : Cond.fieldLink own ix C (T j).2.1 (T j).2.2.1 ∈ zq_tb) (hd : decode cc pc = .ok (.putfield ix, 3)) (k : zq_ok X nL (pc + 3) K) : zq_ok X nL pc (zi_putZ p j K) := by
  obtain ⟨p', l, e, R, s, m, args, below, meth, c, D, Y, ad, A, kc, kn, Z⟩ := X
  obtain ⟨hx, hb, hml, hown, hts, hK, hR⟩ := C0
  intro ls st h H locs a hP hl hw hD hS
  obtain ⟨hc, hin, ⟨ty, hty⟩, hnm, ho⟩ := hF
  unfold zi_putZ at hP
  split at hP
  · next x q st9 =>
    obtain ⟨rfl, h01, hP⟩ := hP
    refine va_put hx hb hts hin ty hty hnm hown hK hw hD hS _ (zq_ws_at hp) hc j hj.1 (hts _ hlink) (fun x9 h9 => by rw [ho j hj.1] at h9; exact h9) hfin.1 hfin.2 (by rcases h01 with rfl | rfl <;> rfl) (by rcases h01 with rfl | rfl <;> rfl) (by simpa [zq_fs] using (List.getElem?_eq_some_iff.mp hj.2).1) hd (fun H1 locs1 hw1 hD1 hS1 => ?_)
    have e9 := zq_ws_putI (Y := Y) (ad := ad) (h := h) hp hj.2 x
    exact k _ _ _ _ _ _ hP hl (by rw [← e9]; exact hw1) (by rw [← e9]; exact hD1) hS1
  · exact hP.elim
theorem zs_putZN (C0 : zq_C X cc nL own d) {p j ci N ix : Nat} {kd : List Nat} {C host : String} {T : u_T} (hp : zq_S[p]? = some (0, ci, kd)) (hF : zq_F ci C T N) (hj : j < N ∧ kd[j]? = some 0) (hfin : (T j).2.2.2 = false ∧ parseFieldDescriptor (T j).2.2.1 = some .boolean) (hlink : Cond.fieldLinkNest own ix C (T j).2.1 (T j).2.2.1 host ∈ zq_nw) (hd : decode cc pc = .ok (.putfield ix, 3)) (k : zq_ok X nL (pc + 3) K) : zq_ok X nL pc (zi_putZ p j K) := by
  obtain ⟨p', l, e, R, s, m, args, below, meth, c, D, Y, ad, A, kc, kn, Z⟩ := X
  obtain ⟨hx, hb, hml, hown, hts, hK, hR⟩ := C0
  intro ls st h H locs a hP hl hw hD hS
  obtain ⟨hc, hin, ⟨ty, hty⟩, hnm, ho⟩ := hF
  unfold zi_putZ at hP
  split at hP
  · next x q st9 =>
    obtain ⟨rfl, h01, hP⟩ := hP
    refine va_putN hx hb hts hin ty hty hnm hown hK hw hD hS _ (zq_ws_at hp) hc j hj.1 (va_Nw.use rfl (hR.2.2.2.2.2.2.2 _ hlink)) (fun x9 h9 => by rw [ho j hj.1] at h9; exact h9) hfin.1 hfin.2 (by rcases h01 with rfl | rfl <;> rfl) (by rcases h01 with rfl | rfl <;> rfl) (by simpa [zq_fs] using (List.getElem?_eq_some_iff.mp hj.2).1) hd (fun H1 locs1 hw1 hD1 hS1 => ?_)
    have e9 := zq_ws_putI (Y := Y) (ad := ad) (h := h) hp hj.2 x
    exact k _ _ _ _ _ _ hP hl (by rw [← e9]; exact hw1) (by rw [← e9]; exact hD1) hS1
  · exact hP.elim
theorem zs_putL (C0 : zq_C X cc nL own d) {p j ci N ix : Nat} {kd : List Nat} {C : String} {T : u_T} (hp : zq_S[p]? = some (0, ci, kd)) (hF : zq_F ci C T N) (hj : j < N ∧ kd[j]? = some 1) (hfin : (T j).2.2.2 = false ∧ parseFieldDescriptor (T j).2.2.1 = some .long) (hlink : Cond.fieldLink own ix C (T j).2.1 (T j).2.2.1 ∈ zq_tb) (hd : decode cc pc = .ok (.putfield ix, 3)) (k : zq_ok X nL (pc + 3) K) : zq_ok X nL pc (zi_putL p j K) := by
  obtain ⟨p', l, e, R, s, m, args, below, meth, c, D, Y, ad, A, kc, kn, Z⟩ := X
  obtain ⟨hx, hb, hml, hown, hts, hK, hR⟩ := C0
  intro ls st h H locs a hP hl hw hD hS
  obtain ⟨hc, hin, ⟨ty, hty⟩, hnm, ho⟩ := hF
  unfold zi_putL at hP
  split at hP
  · next x q st9 =>
    obtain ⟨rfl, hP⟩ := hP
    refine va_put hx hb hts hin ty hty hnm hown hK hw hD hS _ (zq_ws_at hp) hc j hj.1 (hts _ hlink) (fun x9 h9 => by rw [ho j hj.1] at h9; exact h9) hfin.1 hfin.2 rfl rfl (by simpa [zq_fs] using (List.getElem?_eq_some_iff.mp hj.2).1) hd (fun H1 locs1 hw1 hD1 hS1 => ?_)
    have e9 := zq_ws_putL (Y := Y) (ad := ad) (h := h) hp hj.2 x
    exact k _ _ _ _ _ _ hP hl (by rw [← e9]; exact hw1) (by rw [← e9]; exact hD1) hS1
  · exact hP.elim
theorem zs_putLN (C0 : zq_C X cc nL own d) {p j ci N ix : Nat} {kd : List Nat} {C host : String} {T : u_T} (hp : zq_S[p]? = some (0, ci, kd)) (hF : zq_F ci C T N) (hj : j < N ∧ kd[j]? = some 1) (hfin : (T j).2.2.2 = false ∧ parseFieldDescriptor (T j).2.2.1 = some .long) (hlink : Cond.fieldLinkNest own ix C (T j).2.1 (T j).2.2.1 host ∈ zq_nw) (hd : decode cc pc = .ok (.putfield ix, 3)) (k : zq_ok X nL (pc + 3) K) : zq_ok X nL pc (zi_putL p j K) := by
  obtain ⟨p', l, e, R, s, m, args, below, meth, c, D, Y, ad, A, kc, kn, Z⟩ := X
  obtain ⟨hx, hb, hml, hown, hts, hK, hR⟩ := C0
  intro ls st h H locs a hP hl hw hD hS
  obtain ⟨hc, hin, ⟨ty, hty⟩, hnm, ho⟩ := hF
  unfold zi_putL at hP
  split at hP
  · next x q st9 =>
    obtain ⟨rfl, hP⟩ := hP
    refine va_putN hx hb hts hin ty hty hnm hown hK hw hD hS _ (zq_ws_at hp) hc j hj.1 (va_Nw.use rfl (hR.2.2.2.2.2.2.2 _ hlink)) (fun x9 h9 => by rw [ho j hj.1] at h9; exact h9) hfin.1 hfin.2 rfl rfl (by simpa [zq_fs] using (List.getElem?_eq_some_iff.mp hj.2).1) hd (fun H1 locs1 hw1 hD1 hS1 => ?_)
    have e9 := zq_ws_putL (Y := Y) (ad := ad) (h := h) hp hj.2 x
    exact k _ _ _ _ _ _ hP hl (by rw [← e9]; exact hw1) (by rw [← e9]; exact hD1) hS1
  · exact hP.elim
theorem zs_iret (C : zq_C X cc nL own d) {Q : zq_Q} (hq : zq_R X (some .int) 1 Q) (hd : decode cc pc = .ok (.ireturn, 1)) : zq_ok X nL pc (zi_iret Q) := by
  obtain ⟨p', l, e, R, s, m, args, below, meth, c, D, Y, ad, A, kc, kn, Z⟩ := X
  obtain ⟨hx, hb, hml, hown, hts, hK, hR⟩ := C
  intro ls st h H locs a hP hl hw hD hS
  obtain ⟨hlk, hrt, free, Qc, hZ, hfr, hqc⟩ := hq
  subst hZ
  unfold zi_iret at hP
  split at hP
  · exact W.iret hx hb hrt (fun t ht hW => hqc _ h t trivial hP (by rw [ht]; exact hw) hD (hS.F ht) hW) (fun q hq => hfr _ (hS.2.2 q hq)) hd hlk
  · exact hP.elim
theorem zs_zret (C : zq_C X cc nL own d) {Q : zq_Q} (hq : zq_R X (some .boolean) 1 Q) (hd : decode cc pc = .ok (.ireturn, 1)) : zq_ok X nL pc (zi_zret Q) := by
  obtain ⟨p', l, e, R, s, m, args, below, meth, c, D, Y, ad, A, kc, kn, Z⟩ := X
  obtain ⟨hx, hb, hml, hown, hts, hK, hR⟩ := C
  intro ls st h H locs a hP hl hw hD hS
  obtain ⟨hlk, hrt, free, Qc, hZ, hfr, hqc⟩ := hq
  subst hZ
  unfold zi_zret at hP
  split at hP
  · exact W.zret hx hb hrt (by rcases hP.1 with rfl | rfl <;> rfl) (fun t ht hW => hqc _ h t trivial hP.2 (by rw [ht]; exact hw) hD (hS.F ht) hW) (fun q hq => hfr _ (hS.2.2 q hq)) hd hlk
  · exact hP.elim
theorem zs_lret (C : zq_C X cc nL own d) {Q : zq_Q} (hq : zq_R X (some .long) 2 Q) (hd : decode cc pc = .ok (.lreturn, 1)) : zq_ok X nL pc (zi_lret Q) := by
  obtain ⟨p', l, e, R, s, m, args, below, meth, c, D, Y, ad, A, kc, kn, Z⟩ := X
  obtain ⟨hx, hb, hml, hown, hts, hK, hR⟩ := C
  intro ls st h H locs a hP hl hw hD hS
  obtain ⟨hlk, hrt, free, Qc, hZ, hfr, hqc⟩ := hq
  subst hZ
  unfold zi_lret at hP
  split at hP
  · exact W.lret hx hb hrt (fun t ht hW => hqc _ h t trivial hP (by rw [ht]; exact hw) hD (hS.F ht) hW) (fun q hq => hfr _ (hS.2.2 q hq)) hd hlk
  · exact hP.elim
theorem zs_vret (C : zq_C X cc nL own d) {Q : zq_Q} (hq : zq_R X (none) 0 Q) (hd : decode cc pc = .ok (.return_, 1)) : zq_ok X nL pc (zi_vret Q) := by
  obtain ⟨p', l, e, R, s, m, args, below, meth, c, D, Y, ad, A, kc, kn, Z⟩ := X
  obtain ⟨hx, hb, hml, hown, hts, hK, hR⟩ := C
  intro ls st h H locs a hP hl hw hD hS
  obtain ⟨hlk, hrt, free, Qc, hZ, hfr, hqc⟩ := hq
  subst hZ
  unfold zi_vret at hP
  split at hP
  · exact W.vret hx hb hrt (fun t ht hW => hqc _ h t trivial hP (by rw [ht]; exact hw) hD (hS.F ht) hW) (fun q hq => hfr _ (hS.2.2 q hq)) hd hlk
  · exact hP.elim
end ZS
end
section
/-! ===== contracts and calls ===== -/
def zq_rm (d : Nat) : Room := { frames := d, cells := 0, slots := 0, locals := 64 * d }
def zq_A (ad : Nat → Nat) : Nat → Prop := fun q => ∃ k, k < zq_S.length ∧ q = ad k
def zq_B (D : va_G) (Y : zq_Y) (ad : Nat → Nat) (A : Nat → Prop) (h : zq_H) (t : State) : Prop := va_P D vwCl (zq_ws Y ad h) t.heap ∧ va_K D vwCl (zq_ty Y) t ∧ va_D A (zq_ws Y ad h)
def zq_Qc (rk : Nat) (D : va_G) (Y : zq_Y) (ad : Nat → Nat) (Q : zq_Q) : Array Value → State → Outcome → State → Prop := match rk with
  | 0 => va_Qv (fun u : zq_H => Q none u) (fun u t => zq_B D Y ad (zq_A ad) u t) (zq_A ad)
  | 1 => va_Qi (fun (r : Int32) (u : zq_H) => Q (some (.int r)) u) (fun u t => zq_B D Y ad (zq_A ad) u t) (zq_A ad)
  | _ => va_Ql (fun (r : Int64) (u : zq_H) => Q (some (.long r)) u) (fun u t => zq_B D Y ad (zq_A ad) u t) (zq_A ad)
def zq_M (y : MethodName) (cc : ByteArray) (maxL : Nat) (ret : Option FieldType) (rk d : Nat) (spec : zq_Sp) : Prop :=
  ∀ (l : Launch) (D : va_G) (Y : zq_Y) (ad : Nat → Nat) (args : List Value) (h : zq_H) (Q : zq_Q), spec args h Q → Met l y (Cond.code y cc maxL ret :: zq_tb) (zq_rm d) (va_Pc (args.map (zq_cv ad)) (fun U => zq_B D Y ad (fun _ => True) h U ∧ zq_E ad (zq_A ad) U U.heap)) (zq_Qc rk D Y ad Q) 0 0 (zq_A ad)
theorem zq_nw_form {w : Cond} (h : w ∈ zq_nw) : ∃ a i b n d f, w = .fieldLinkNest a i b n d f := by
  have h2 := (List.mem_filter.mp h).2
  unfold zq_isN at h2
  split at h2
  · exact ⟨_, _, _, _, _, _, rfl⟩
  · cases h2
theorem zq_nw_tab {w : Cond} (h : w ∈ zq_nw) : w.onTables = true := by
  obtain ⟨a, i, b, n, d, f, rfl⟩ := zq_nw_form h
  rfl
theorem zq_nw_warm {w : Cond} {s U : State} (h : w ∈ zq_nw) (hW : s.WarmedH U.vm) (hZ : va_Nw w s) : va_Nw w U := by
  obtain ⟨a, i, b, n, d, f, rfl⟩ := zq_nw_form h
  exact va_Nw.warmF hW hZ
theorem zq_blind {vs : List Value} {D : va_G} {Y : zq_Y} {ad : Nat → Nat} {A : Nat → Prop} {h : zq_H} : FrameBlind (va_Pc vs (fun U => zq_B D Y ad A h U ∧ zq_E ad (zq_A ad) U U.heap)) := by
  intro a U g mk q
  obtain ⟨q1, ⟨q2, q3, q4⟩, q5, q6, q7, q8⟩ := q
  exact ⟨q1, ⟨q2, va_K.moved (u := U) (U := U.calling g mk a) (Vm.Alike.refl U.vm) q3, q4⟩, vk_S.moved (u := U) (U := U.calling g mk a) (Vm.Alike.refl U.vm) q5, fun i q hi => vk_R.same (u := U) (U := U.calling g mk a) rfl (q6 i q hi), va_Z.moved (u := U) (U := U.calling g mk a) (Vm.Alike.refl U.vm) q7, fun w hw => va_Nw.same (u := U) (U := U.calling g mk a) (zq_nw_tab hw) rfl (q8 w hw)⟩
theorem zq_E_call {ad : Nat → Nat} {A : Nat → Prop} {s U : State} {H : Heap} {locs : List Loc} (hE : zq_E ad A s s.heap) (hS : va_S A s.heap H locs) (hA : ∀ q, zq_A ad q → A q) (hU : U.heap = H) (hW : s.WarmedH U.vm) : zq_E ad (zq_A ad) U U.heap := by
  subst hU
  obtain ⟨h1, h2, h3, h4⟩ := hE
  exact ⟨((h1.kept hS.2.1).narrow hA).moved hW.alike, fun i q hi => (h2 i q hi).warm hW, ((h3.kept hS.2.1).narrow hA).moved hW.alike, fun w hw => zq_nw_warm hw hW (h4 w hw)⟩
theorem zq_tb_good : ∀ w ∈ zq_tb, (w.onTables && w.keeps) = true ∨ ∃ ty, w = .arrayClass ty := fun w hw => good_of_word (List.mem_filter.mp hw).2
theorem zq_in {w : Cond} (h : w ∈ lw_tbl) (g : goodWord w = true) : w ∈ zq_tb := List.mem_filter.mpr ⟨h, g⟩
theorem zq_inT {w : Cond} {i : Nat} (h : tables_1[i]? = some w) (g : goodWord w = true) : w ∈ zq_tb := zq_in (List.mem_append_right _ (List.mem_of_getElem? h)) g
theorem zq_inP {w : Cond} {q : MethodName × Nat} {i : Nat} (h : lw_privs[i]? = some q) (e : Cond.selects q.1.cls q.1 q.1 = w) (g : goodWord w = true) : w ∈ zq_tb := by
  subst e
  exact zq_in (List.mem_append_left _ (List.mem_map.mpr ⟨q, List.mem_of_getElem? h, rfl⟩)) g
theorem zq_inN {w : Cond} {i : Nat} (h : tables_1[i]? = some w) (g : zq_isN w = true) : w ∈ zq_nw := List.mem_filter.mpr ⟨List.mem_of_getElem? h, g⟩
/-! arguments off the stack -/
def zq_tk : Nat → List Value → List Value → Option (List Value × List Value)
  | 0, acc, st => some (acc, st)
  | _ + 1, _, [] => none
  | n + 1, acc, v :: st => zq_tk n (v :: acc) st
theorem zq_tk_eq : ∀ (n : Nat) (acc st as rest : List Value), zq_tk n acc st = some (as, rest) → ∃ pre : List Value, pre.length = n ∧ st = pre ++ rest ∧ as = pre.reverse ++ acc
  | 0, acc, st, as, rest, h => by
    cases h
    exact ⟨[], rfl, rfl, rfl⟩
  | n + 1, acc, [], as, rest, h => by cases h
  | n + 1, acc, v :: st, as, rest, h => by
    obtain ⟨pre, h1, h2, h3⟩ := zq_tk_eq n (v :: acc) st as rest h
    exact ⟨v :: pre, by simp [h1], by simp [h2], by simp [h3]⟩
def zq_ps (v : Option Value) (rest : List Value) : List Value := match v with
  | some w => w :: rest
  | none => rest
def zi_callV (n p : Nat) (spec : zq_Sp) (K : zq_P) : zq_P := fun ls st h => match zq_tk (n + 1) [] st with
  | some (.ref q :: as, rest) => q = p ∧ rest.length ≤ 4 ∧ spec (.ref q :: as) h (fun r h' => K ls (zq_ps r rest) h')
  | _ => False
def zi_callS (n : Nat) (spec : zq_Sp) (K : zq_P) : zq_P := fun ls st h => match zq_tk n [] st with
  | some (as, rest) => rest.length ≤ 4 ∧ spec as h (fun r h' => K ls (zq_ps r rest) h')
  | _ => False
theorem zq_cats : ∀ (st : List Value), (st.map fun v => v.category).sum ≤ 2 * st.length
  | [] => Nat.le_refl _
  | v :: st => by
    have h1 := zq_cats st
    have h2 := lv_cat v
    simp only [List.map_cons, List.sum_cons, List.length_cons]
    omega
/-- what is fixed of a method that is called -/
def zq_y (y : MethodName) (cc : ByteArray) (maxL : Nat) (ret : Option FieldType) (n : Nat) : Prop := Cond.code y cc maxL ret ∈ zq_tb ∧ Cond.initialized y.cls ∈ zq_tb ∧ (y.cls ≠ "java/lang/invoke/MethodHandle" ∧ y.cls ≠ "java/lang/invoke/VarHandle" ∧ (parseMethodDescriptor y.desc).map (fun d => d.parameters.length) = some n) ∧ maxL ≤ 40
section ZS
variable {X : zq_X} {cc bytes : ByteArray} {nL d pc n ix maxL d1 rk : Nat} {own : String} {K : zq_P} {y : MethodName} {ret : Option FieldType} {spec : zq_Sp}
theorem zq_AA {A : Nat → Prop} {Y : zq_Y} {ad : Nat → Nat} {h : zq_H} (hD : va_D A (zq_ws Y ad h)) : ∀ q, zq_A ad q → A q := by
  intro q hq
  obtain ⟨k, hk, rfl⟩ := hq
  obtain ⟨e, he⟩ : ∃ e, zq_S[k]? = some e := ⟨_, List.getElem?_eq_getElem hk⟩
  exact hD.2 k _ (zq_ws_at he)
theorem zq_DA {A : Nat → Prop} {Y : zq_Y} {ad : Nat → Nat} {h : zq_H} (hD : va_D A (zq_ws Y ad h)) : va_D (zq_A ad) (zq_ws Y ad h) := hD.weaken fun k q hq _ => ⟨k, (zq_ws_of hq).1, (zq_ws_of hq).2⟩
/-- behind a call: the callee's end, as the caller goes on -/
theorem zq_behind {p : Program} {l : Launch} {e : Env} {R : Room} {s : State} {m : MethodId} {args : Array Value} {below : List Frame} {meth : Method} {c : Code} {D : va_G} {Y : zq_Y} {ad : Nat → Nat} {A : Nat → Prop} {kc kn : Nat} {Z : State → Prop}
    {ls : zq_L} {rest : List Value} {h : zq_H} {H : Heap} {locs : List Loc} {a : Array Slot} {st0 : List Value} {av : Array Value}
    (hr : va_Run p l e R s m args below meth c H locs kc kn 0 0 (F0 m pc a st0) (rest.map (zq_cv ad)) (zq_Qc rk D Y ad (fun r h' => K ls (zq_ps r rest) h') av) (zq_A ad))
    (hl : zq_lr ad nL ls a) (hD : va_D A (zq_ws Y ad h)) (hS : va_S A s.heap H locs) (k : zq_ok (p, l, e, R, s, m, args, below, meth, c, D, Y, ad, A, kc, kn, Z) nL (pc + 3) K) : W p l e R s m args below meth c H locs kc kn Z (F0 m pc a st0) := by
  have hAA := zq_AA hD
  have go : ∀ (v : Option Value) (u : zq_H) (t : State) (H1 : Heap) (locs1 : List Loc), t.heap = H1 → K ls (zq_ps v rest) u → zq_B D Y ad (zq_A ad) u t → va_S A s.heap H1 locs1 → W p l e R s m args below meth c H1 locs1 kc kn Z (F0 m (pc + 3) a ((zq_ps v rest).map (zq_cv ad))) := by
    intro v u t H1 locs1 ht hp hB hS1
    obtain ⟨hP, hK, hD1⟩ := hB
    rw [ht] at hP
    exact k _ _ _ _ _ _ hp hl hP (hD1.weaken fun _ q _ hq => hAA _ hq) hS1
  match rk, hr with
  | 0, hr => exact va_callv (a := av) hr hS (fun q _ h => hAA q h) hAA (fun u t H1 locs1 ht _ hp hB _ _ hS1 => go none u t H1 locs1 ht hp hB hS1)
  | 1, hr => exact va_calli (a := av) hr hS (fun q _ h => hAA q h) hAA (fun r u t H1 locs1 ht _ hp hB _ _ hS1 => go (some (.int r)) u t H1 locs1 ht hp hB hS1)
  | _ + 2, hr => exact va_calll (a := av) hr hS (fun q _ h => hAA q h) hAA (fun r u t H1 locs1 ht _ hp hB _ _ hS1 => go (some (.long r)) u t H1 locs1 ht hp hB hS1)
theorem zq_goodV {C : String} (hy : zq_y y bytes maxL ret n) (hl : Cond.methodLink own ix y ∈ zq_tb) (hi : Cond.instanceMethod y ∈ zq_tb) (hs : Cond.selects C y y ∈ zq_tb) (hc : Cond.initialized C ∈ zq_tb) : GoodIn zq_tb (wsV own ix C y (Cond.code y bytes maxL ret :: zq_tb)) := by
  intro w hw
  have hm : w ∈ zq_tb := by
    rcases List.mem_append.mp hw with h | h
    · simp only [List.mem_cons, List.not_mem_nil, or_false] at h
      rcases h with rfl | rfl | rfl | rfl
      · exact hl
      · exact hi
      · exact hs
      · exact hc
    · rcases List.mem_cons.mp h with rfl | h
      · exact hy.1
      · exact h
  exact ⟨hm, zq_tb_good w hm⟩
theorem zq_goodC (hy : zq_y y bytes maxL ret n) : GoodIn zq_tb (Cond.code y bytes maxL ret :: zq_tb) := by
  intro w hw
  have hm : w ∈ zq_tb := by
    rcases List.mem_cons.mp hw with rfl | h
    · exact hy.1
    · exact h
  exact ⟨hm, zq_tb_good w hm⟩
theorem zs_callV (C : zq_C X cc nL own d) {p ci N : Nat} {kd : List Nat} {T : u_T} (hM : zq_M y bytes maxL ret rk d1 spec) (hdd : d1 + 1 ≤ d) (hy : zq_y y bytes maxL ret n) (hp : zq_S[p]? = some (0, ci, kd)) (hc : vwCl[ci]? = some (y.cls, T, N)) (h1 : Cond.methodLink own ix y ∈ zq_tb) (h2 : Cond.instanceMethod y ∈ zq_tb) (h3 : Cond.selects y.cls y y ∈ zq_tb)
    (hd : decode cc pc = .ok (.invokevirtual ix, 3)) (k : zq_ok X nL (pc + 3) K) : zq_ok X nL pc (zi_callV n p spec K) := by
  obtain ⟨p', l, e, R, s, m, args, below, meth, c, D, Y, ad, A, kc, kn, Z⟩ := X
  obtain ⟨hx, hb, hml, hown, hts, hK, hR1, hR2, hR3, hR4, hE⟩ := C
  intro ls st h H locs a hP hl hw hD hS
  unfold zi_callV at hP
  split at hP
  · next q as rest htk =>
    obtain ⟨rfl, hlen, hsp⟩ := hP
    obtain ⟨pre, e1, e2, e3⟩ := zq_tk_eq _ _ _ _ _ htk
    rw [List.append_nil] at e3
    have e4 : pre = as.reverse ++ [.ref q] := by
      have := congrArg List.reverse e3
      simpa using this.symm
    subst e2
    have e5 : as.length = n := by rw [e4] at e1; simpa using e1
    refine zq_behind (rest := rest) (va_runV (As := as.map (zq_cv ad)) (rest := rest.map (zq_cv ad)) ⟨hx, hb, hml, hown, hts⟩ (hM l D Y ad _ h _ hsp) (cwV n hts (zq_goodV hy h1 h2 h3 hy.2.1) rfl rfl rfl ⟨rfl, hy.2.2.1⟩ ⟨?_, ?_⟩) ⟨zq_blind, va_recv hK hw hc (zq_ws_at hp), ?_⟩ rfl (by rw [List.length_map]; exact e5) hl.1 ?_ (lv_room ?_) hd ⟨hR3, hR4⟩) hl hD hS k
    · show d1 + 1 ≤ R.frames
      omega
    · have := hy.2.2.2
      show 8 + (maxL + 11) + 64 * d1 ≤ R.locals
      omega
    · intro U hU hW
      exact ⟨rfl, ⟨by rw [hU]; exact hw, va_K.moved hW.alike hK, hD.weaken (fun _ _ _ _ => trivial)⟩, zq_E_call hE hS (zq_AA hD) hU hW⟩
    · show (pre ++ rest).map (zq_cv ad) = (as.map (zq_cv ad)).reverse ++ zq_cv ad (.ref q) :: rest.map (zq_cv ad)
      rw [e4]
      simp [List.map_reverse]
    · have h5 := zq_cats (rest.map (zq_cv ad))
      rw [List.length_map] at h5
      omega
  · exact hP.elim
theorem zs_callS (C : zq_C X cc nL own d) (hM : zq_M y bytes maxL ret rk d1 spec) (hdd : d1 + 1 ≤ d) (hy : zq_y y bytes maxL ret n) (h1 : Cond.methodLink own ix y ∈ zq_tb) (h2 : Cond.static y ∈ zq_tb)
    (hd : decode cc pc = .ok (.invokestatic ix, 3)) (k : zq_ok X nL (pc + 3) K) : zq_ok X nL pc (zi_callS n spec K) := by
  obtain ⟨p', l, e, R, s, m, args, below, meth, c, D, Y, ad, A, kc, kn, Z⟩ := X
  obtain ⟨hx, hb, hml, hown, hts, hK, hR1, hR2, hR3, hR4, hE⟩ := C
  intro ls st h H locs a hP hl hw hD hS
  unfold zi_callS at hP
  split at hP
  · next as rest htk =>
    obtain ⟨hlen, hsp⟩ := hP
    obtain ⟨pre, e1, e2, e3⟩ := zq_tk_eq _ _ _ _ _ htk
    rw [List.append_nil] at e3
    have e4 : pre = as.reverse := by rw [e3, List.reverse_reverse]
    subst e2
    have e5 : as.length = n := by rw [e3, List.length_reverse]; exact e1
    refine zq_behind (rest := rest) (va_runS (As := as.map (zq_cv ad)) (rest := rest.map (zq_cv ad)) ⟨hx, hb, hml, hown, hts⟩ (hM l D Y ad _ h _ hsp) ⟨callB_of n hts (zq_goodC hy) rfl rfl rfl (hts _ hy.2.1) (hts _ h1) hy.2.2.1 ⟨?_, ?_⟩, hts _ h2⟩ ⟨zq_blind, ?_⟩ rfl (by rw [List.length_map]; exact e5) hl.1 ?_ (lv_room ?_) hd ⟨hR3, hR4⟩) hl hD hS k
    · show d1 + 1 ≤ R.frames
      omega
    · have := hy.2.2.2
      show 8 + (maxL + 11) + 64 * d1 ≤ R.locals
      omega
    · intro U hU hW
      exact ⟨rfl, ⟨by rw [hU]; exact hw, va_K.moved hW.alike hK, hD.weaken (fun _ _ _ _ => trivial)⟩, zq_E_call hE hS (zq_AA hD) hU hW⟩
    · show (pre ++ rest).map (zq_cv ad) = (as.map (zq_cv ad)).reverse ++ rest.map (zq_cv ad)
      rw [e4]
      simp [List.map_reverse]
    · have h5 := zq_cats (rest.map (zq_cv ad))
      rw [List.length_map] at h5
      omega
  · exact hP.elim
end ZS
end
section
/-! ===== a method's contract out of its body ===== -/
def zq_a1 (v : Value) : zq_L := match v with
  | .long x => [some (.long x), none]
  | .double x => [some (.double x), none]
  | w => [some w]
def zq_a : List Value → zq_L
  | [] => []
  | v :: r => zq_a1 v ++ zq_a r
def zq_l0 (n : Nat) (args : List Value) : zq_L := zq_a args ++ List.replicate (n - (zq_a args).length) none
theorem zq_nth_none : ∀ (n i : Nat) (v : Value), zq_nth (List.replicate n none) i = some v → False
  | 0, i, v, h => by cases h
  | n + 1, 0, v, h => by cases h
  | n + 1, i + 1, v, h => zq_nth_none n i v h
theorem zq_a_len (ad : Nat → Nat) : ∀ (args : List Value), (lg_sl (args.map (zq_cv ad))).length = (zq_a args).length
  | [] => rfl
  | v :: r => by
    have h := zq_a_len ad r
    unfold lg_sl at h ⊢
    rw [List.map_cons, List.flatMap_cons, List.length_append, h]
    show _ = (zq_a1 v ++ zq_a r).length
    rw [List.length_append]
    cases v <;> rfl
theorem zq_a_at (ad : Nat → Nat) (n : Nat) : ∀ (args : List Value) (k i : Nat) (v : Value), zq_nth (zq_a args ++ List.replicate n none) i = some v → (k + i, zq_cv ad v) ∈ lv_args k (args.map (zq_cv ad))
  | [], k, i, v, h => (zq_nth_none n i v h).elim
  | w :: r, k, i, v, h => by
    have one : ∀ (u : Value), u.category = 1 → zq_a1 u = [some u] := by
      intro u hu
      cases u <;> first | rfl | (cases hu; done)
    have two : ∀ (u : Value), u.category = 2 → zq_a1 u = [some u, none] := by
      intro u hu
      cases u <;> first | rfl | (cases hu; done)
    show _ ∈ (k, zq_cv ad w) :: lv_args (if (zq_cv ad w).category = 2 then k + 2 else k + 1) (r.map (zq_cv ad))
    rw [zq_cv_cat]
    rcases lv_cat w with hw | hw
    · rw [if_neg (by omega)]
      rw [show zq_a (w :: r) = zq_a1 w ++ zq_a r from rfl, one w hw] at h
      cases i with
      | zero =>
        cases h
        exact List.mem_cons_self
      | succ i =>
        have := zq_a_at ad n r (k + 1) i v h
        rw [show k + (i + 1) = k + 1 + i by omega]
        exact List.mem_cons_of_mem _ this
    · rw [if_pos hw]
      rw [show zq_a (w :: r) = zq_a1 w ++ zq_a r from rfl, two w hw] at h
      cases i with
      | zero =>
        cases h
        exact List.mem_cons_self
      | succ i =>
        cases i with
        | zero => cases h
        | succ i =>
          have := zq_a_at ad n r (k + 2) i v h
          rw [show k + (i + 1 + 1) = k + 2 + i by omega]
          exact List.mem_cons_of_mem _ this
def zq_rk (rk : Nat) (ret : Option FieldType) : Prop := match rk with
  | 0 => ret = none
  | 1 => ret ≠ none
  | _ => ret = some .long
theorem zq_met {y : MethodName} {cc : ByteArray} {maxL : Nat} {ret : Option FieldType} {rk d : Nat} {spec : zq_Sp} (hy : plainName y.cls = true) (hrk : rk ≤ 2)
    (body : ∀ (X : zq_X) (Q : zq_Q) (args : List Value) (h : zq_H), zq_C X cc maxL y.cls d → zq_R X ret rk Q → spec args h Q → (zq_a args).length ≤ maxL ∧ ∃ P, zq_ok X maxL 0 P ∧ P (zq_l0 maxL args) [] h) : zq_M y cc maxL ret rk d spec := by
  intro l D Y ad args h Q hsp
  refine Met.ofW (cc := cc) (maxL := maxL) (ret := ret) hy rfl ?_
  intro p e s m av below meth c s₁ B hml hv
  obtain ⟨rfl, ⟨hP, hK, hD⟩, hE⟩ := hv
  have hts := atoms_spec (ws := Cond.code y cc maxL ret :: zq_tb) B.pre
  have C : zq_C (p, l, e, (headSpec (Cond.code y cc maxL ret :: zq_tb) (zq_rm d)).room, s, m, (args.map (zq_cv ad)).toArray, below, meth, c, D, Y, ad, zq_A ad, 0, 0, MQ below (zq_Qc rk D Y ad Q) (args.map (zq_cv ad)).toArray s 0 0 (zq_A ad)) cc maxL y.cls d :=
    ⟨B.exec, B.bytes, hml, findClass_of_methodNamed B.named, fun w hw => hts w (List.mem_cons_of_mem _ hw), hK, Nat.le_refl _, Nat.le_refl _, Nat.zero_le _, Nat.zero_le _, hE⟩
  have hDA := zq_DA hD
  have Rr : zq_R (p, l, e, (headSpec (Cond.code y cc maxL ret :: zq_tb) (zq_rm d)).room, s, m, (args.map (zq_cv ad)).toArray, below, meth, c, D, Y, ad, zq_A ad, 0, 0, MQ below (zq_Qc rk D Y ad Q) (args.map (zq_cv ad)).toArray s 0 0 (zq_A ad)) ret rk Q := by
    refine ⟨B.notSynchronized, B.returns, zq_A ad, zq_Qc rk D Y ad Q, rfl, fun _ h => h, ?_⟩
    intro v h' t hk hq hP' hD' hF hW
    have hB : zq_B D Y ad (zq_A ad) h' t := ⟨hP', va_K.moved hW.alike hK, hD'⟩
    match rk, v, hk, hrk with
    | 0, none, _, _ => exact ⟨⟨h', rfl, hq, hB⟩, hF⟩
    | 1, some (.int r), _, _ => exact ⟨⟨r, h', rfl, hq, hB⟩, hF⟩
    | 2, some (.long r), _, _ => exact ⟨⟨r, h', rfl, hq, hB⟩, hF⟩
  obtain ⟨hlen, P, hok, hP0⟩ := body _ Q args h C Rr hsp
  have hle : (lg_sl (args.map (zq_cv ad))).length ≤ maxL := by rw [zq_a_len]; exact hlen
  rw [lg_entry_eq]
  refine hok _ [] h s.heap [] _ hP0 (zq_lr.of (lv_entry (args.map (zq_cv ad)) hle) ?_) hP hDA va_S.rf
  intro i v hi
  have := zq_a_at ad _ args 0 i v hi
  rwa [Nat.zero_add] at this
/-! ===== loops: at a point of a method, by a number that falls ===== -/
theorem zq_loop {X : zq_X} {nL pc : Nat} {σ : Type} (μ : σ → Nat) (Inv : σ → zq_P) (body : zq_P → zq_P) (hs : ∀ J : zq_P, zq_ok X nL pc J → zq_ok X nL pc (body J)) (hv : ∀ a ls st h, Inv a ls st h → body (fun ls st h => ∃ b, μ b < μ a ∧ Inv b ls st h) ls st h) : zq_ok X nL pc (fun ls st h => ∃ a, Inv a ls st h) := by
  have key : ∀ n a, μ a < n → zq_ok X nL pc (Inv a) := by
    intro n
    induction n with
    | zero => intro a h; omega
    | succ n ih =>
      intro a ha
      have h1 : zq_ok X nL pc (fun ls st h => ∃ b, μ b < μ a ∧ Inv b ls st h) := by
        obtain ⟨p, l, e, R, s, m, args, below, meth, c, D, Y, ad, A, kc, kn, Z⟩ := X
        intro ls st h H locs a' hP
        obtain ⟨b, hb, hI⟩ := hP
        exact ih b (by omega) ls st h H locs a' hI
      exact (hs _ h1).mono (hv a)
  obtain ⟨p, l, e, R, s, m, args, below, meth, c, D, Y, ad, A, kc, kn, Z⟩ := X
  intro ls st h H locs a' hP
  obtain ⟨a, hI⟩ := hP
  exact key (μ a + 1) a (Nat.lt_succ_self _) ls st h H locs a' hI
end
section
/-! ===== switches; a copy of a row ===== -/
def zq_sw (x : Int32) (ls : zq_L) (st : List Value) (h : zq_H) (D : zq_P) : List (Int32 × zq_P) → Prop
  | [] => D ls st h
  | (v, P) :: r => (x = v → P ls st h) ∧ (¬ x = v → zq_sw x ls st h D r)
def zi_sw (cs : List (Int32 × zq_P)) (D : zq_P) : zq_P := fun ls st h => match st with
  | .int x :: st => zq_sw x ls st h D cs
  | _ => False
theorem zq_sw_cases {x : Int32} {ls : zq_L} {st : List Value} {h : zq_H} {D : zq_P} : ∀ (cs : List (Int32 × zq_P)), zq_sw x ls st h D cs → (∃ (i : Nat) (P : zq_P), cs[i]? = some (x, P) ∧ P ls st h) ∨ ((∀ (i : Nat) (v : Int32) (P : zq_P), cs[i]? = some (v, P) → ¬ x = v) ∧ D ls st h)
  | [], hs => Or.inr ⟨fun i v P hi => (by cases hi), hs⟩
  | (v, P) :: r, hs => by
    by_cases hx : x = v
    · exact Or.inl ⟨0, P, by rw [hx]; rfl, hs.1 hx⟩
    · rcases zq_sw_cases r (hs.2 hx) with ⟨i, P', h1, h2⟩ | ⟨h1, h2⟩
      · exact Or.inl ⟨i + 1, P', h1, h2⟩
      · refine Or.inr ⟨fun i w P' hi => ?_, h2⟩
        cases i with
        | zero => cases hi; exact hx
        | succ i => exact h1 i w P' hi
def zq_tsok (X : zq_X) (nL pc : Nat) (lo : Int) (offs : Array Int) : Nat → List (Int32 × zq_P) → Prop
  | _, [] => True
  | i, (v, P) :: r => (v.toInt = lo + i ∧ ∃ (off : Int) (tgt : Nat), offs[i]? = some off ∧ (pc : Int) + off = (tgt : Int) ∧ zq_ok X nL tgt P) ∧ zq_tsok X nL pc lo offs (i + 1) r
theorem zq_tsok_at {X : zq_X} {nL pc : Nat} {lo : Int} {offs : Array Int} : ∀ (cs : List (Int32 × zq_P)) (k i : Nat) (v : Int32) (P : zq_P), zq_tsok X nL pc lo offs k cs → cs[i]? = some (v, P) → v.toInt = lo + (k + i : Nat) ∧ ∃ (off : Int) (tgt : Nat), offs[k + i]? = some off ∧ (pc : Int) + off = (tgt : Int) ∧ zq_ok X nL tgt P
  | [], k, i, v, P, _, hi => by cases hi
  | (w, P') :: r, k, i, v, P, hs, hi => by
    cases i with
    | zero => cases hi; exact hs.1
    | succ i =>
      have := zq_tsok_at r (k + 1) i v P hs.2 hi
      rw [show k + (i + 1) = k + 1 + i by omega]
      exact this
def zq_lkok (X : zq_X) (nL pc : Nat) : List (Int × Int) → List (Int32 × zq_P) → Prop
  | (a, o) :: ps, (v, P) :: r => (v.toInt = a ∧ ∃ tgt : Nat, (pc : Int) + o = (tgt : Int) ∧ zq_ok X nL tgt P) ∧ zq_lkok X nL pc ps r
  | [], [] => True
  | _, _ => False
section ZS
variable {X : zq_X} {cc : ByteArray} {nL d pc : Nat} {own : String}
theorem zs_tsw (C : zq_C X cc nL own d) {dflt lo hi : Int} {offs : Array Int} {len tgt : Nat} {cs : List (Int32 × zq_P)} {D0 : zq_P} (hd : decode cc pc = .ok (.tableswitch dflt lo hi offs, len)) (hlen : hi = lo + cs.length - 1) (hcs : zq_tsok X nL pc lo offs 0 cs) (ht : (pc : Int) + dflt = (tgt : Int)) (k : zq_ok X nL tgt D0) : zq_ok X nL pc (zi_sw cs D0) := by
  obtain ⟨p, l, e, R, s, m, args, below, meth, c, D, Y, ad, A, kc, kn, Z⟩ := X
  obtain ⟨hx, hb, hml, hown, hts, hK, hR⟩ := C
  intro ls st h H locs a hP hl hw hD hS
  unfold zi_sw at hP
  split at hP
  · next x st =>
    rcases zq_sw_cases cs hP with ⟨i, P, h1, h2⟩ | ⟨h1, h2⟩
    · obtain ⟨e1, off, tg, e2, e3, e4⟩ := zq_tsok_at cs 0 i x P hcs h1
      have hil := (List.getElem?_eq_some_iff.mp h1).1
      rw [Nat.zero_add] at e1 e2
      refine lv_tableIn hx hb hd (by omega) (by omega) (off := off) (tgt := tg) ?_ e3 (e4 _ _ _ _ _ _ h2 hl hw hD hS)
      rw [show (x.toInt - lo).toNat = i by omega]
      exact e2
    · by_cases hr : x.toInt < lo ∨ hi < x.toInt
      · exact lv_tableOut hx hb hd hr ht (k _ _ _ _ _ _ h2 hl hw hD hS)
      · exfalso
        have hil : (x.toInt - lo).toNat < cs.length := by omega
        obtain ⟨⟨v, P⟩, he⟩ : ∃ q, cs[(x.toInt - lo).toNat]? = some q := ⟨_, List.getElem?_eq_getElem hil⟩
        obtain ⟨e1, -⟩ := zq_tsok_at cs 0 _ v P hcs he
        exact h1 _ v P he (Int32.toInt_inj.mp (by omega))
  · exact hP.elim
theorem zs_lsw (C : zq_C X cc nL own d) {dflt : Int} {ps : Array (Int × Int)} {len tgt : Nat} {cs : List (Int32 × zq_P)} {D0 : zq_P} (hd : decode cc pc = .ok (.lookupswitch dflt ps, len)) (hp : (ps.toList.zip (ps.toList.drop 1)).all (fun (a, next) => a.1 < next.1) = true) (hcs : zq_lkok X nL pc ps.toList cs) (ht : (pc : Int) + dflt = (tgt : Int)) (k : zq_ok X nL tgt D0) : zq_ok X nL pc (zi_sw cs D0) := by
  obtain ⟨p, l, e, R, s, m, args, below, meth, c, D, Y, ad, A, kc, kn, Z⟩ := X
  obtain ⟨hx, hb, hml, hown, hts, hK, hR⟩ := C
  intro ls st h H locs a hP hl hw hD hS
  unfold zi_sw at hP
  split at hP
  · next x st =>
    have key : ∀ (pl : List (Int × Int)) (cs : List (Int32 × zq_P)), zq_lkok (p, l, e, R, s, m, args, below, meth, c, D, Y, ad, A, kc, kn, Z) nL pc pl cs → zq_sw x ls st h D0 cs → Op.lookupswitch.offset ps.toList dflt x.toInt = Op.lookupswitch.offset pl dflt x.toInt → W p l e R s m args below meth c H locs kc kn Z (F0 m pc a (.int x :: st.map (zq_cv ad))) := by
      intro pl
      induction pl with
      | nil =>
        intro cs h1 h2 h3
        cases cs with
        | nil => exact lv_lookup hx hb hd hp h3 ht (k _ _ _ _ _ _ h2 hl hw hD hS)
        | cons q r => exact h1.elim
      | cons q r ih =>
        intro cs h1 h2 h3
        obtain ⟨a9, o9⟩ := q
        cases cs with
        | nil => exact h1.elim
        | cons q2 r2 =>
          obtain ⟨v, P⟩ := q2
          obtain ⟨⟨e1, tg, e2, e3⟩, e4⟩ := h1
          by_cases hxv : x = v
          · refine lv_lookup hx hb hd hp (off := o9) ?_ e2 (e3 _ _ _ _ _ _ (h2.1 hxv) hl hw hD hS)
            rw [h3, Op.lookupswitch.offset_cons, if_pos (by rw [hxv, e1])]
          · exact ih r2 e4 (h2.2 hxv) (h3.trans (lv_osw hxv e1))
    exact key _ cs hcs hP rfl
  · exact hP.elim
end ZS
/-- System.arraycopy of ints, of longs -/
def zi_copyI (p0 n0 p1 n1 : Nat) (K : zq_P) : zq_P := fun ls st h => match st with
  | .int n :: .int dp :: .ref q1 :: .int sp :: .ref q0 :: st => q0 = p0 ∧ q1 = p1 ∧ (¬ sp < 0 ∧ ¬ dp < 0 ∧ ¬ n < 0 ∧ sp.toNatClampNeg + n.toNatClampNeg ≤ n0 ∧ dp.toNatClampNeg + n.toNatClampNeg ≤ n1) ∧ st.length ≤ 4 ∧ K ls st (fun q i => if q = p1 then va_cpy (h.1 p0) (h.1 p1) sp.toNatClampNeg dp.toNatClampNeg n.toNatClampNeg i else h.1 q i, h.2)
  | _ => False
def zi_copyL (p0 n0 p1 n1 : Nat) (K : zq_P) : zq_P := fun ls st h => match st with
  | .int n :: .int dp :: .ref q1 :: .int sp :: .ref q0 :: st => q0 = p0 ∧ q1 = p1 ∧ (¬ sp < 0 ∧ ¬ dp < 0 ∧ ¬ n < 0 ∧ sp.toNatClampNeg + n.toNatClampNeg ≤ n0 ∧ dp.toNatClampNeg + n.toNatClampNeg ≤ n1) ∧ st.length ≤ 4 ∧ K ls st (h.1, fun q i => if q = p1 then va_cpy (h.2 p0) (h.2 p1) sp.toNatClampNeg dp.toNatClampNeg n.toNatClampNeg i else h.2 q i)
  | _ => False
section ZS
variable {X : zq_X} {cc : ByteArray} {nL d pc : Nat} {own : String} {K : zq_P}
theorem zs_copyI (C : zq_C X cc nL own d) {p0 n0 p1 n1 ix : Nat} (hp0 : zq_S[p0]? = some (1, n0, [])) (hp1 : zq_S[p1]? = some (1, n1, [])) (h1 : Cond.methodLink own ix arraycopyName ∈ zq_tb) (h2 : Cond.native arraycopyName ∈ zq_tb) (h3 : Cond.static arraycopyName ∈ zq_tb) (h4 : Cond.initialized "java/lang/System" ∈ zq_tb) (hdd : 1 ≤ d) (hd : decode cc pc = .ok (.invokestatic ix, 3)) (k : zq_ok X nL (pc + 3) K) : zq_ok X nL pc (zi_copyI p0 n0 p1 n1 K) := by
  obtain ⟨p, l, e, R, s, m, args, below, meth, c, D, Y, ad, A, kc, kn, Z⟩ := X
  obtain ⟨hx, hb, hml, hown, hts, hK, hR1, hR2, hR3, hR4, hE⟩ := C
  intro ls st h H locs a hP hl hw hD hS
  unfold zi_copyI at hP
  split at hP
  · next n dp q1 sp q0 st =>
    obtain ⟨rfl, rfl, ⟨g1, g2, g3, g4, g5⟩, hlen, hP⟩ := hP
    have h5 := zq_cats (st.map (zq_cv ad))
    rw [List.length_map] at h5
    refine va_copyi hx hb (hml.trans hl.1.symm) hown (hts _ h1) (hts _ h2) (hts _ h3) (hts _ h4) hK hw hD hS q0 q1 0 0 (zq_ws_at hp0) (zq_ws_at hp1) rfl rfl rfl g1 g2 g3 g4 g5 (fun _ _ => rfl) (by omega) ?_ hd (fun H1 locs1 hw1 hD1 hS1 => ?_)
    · rw [show nativeFrameWords "java/lang/System" "arraycopy" 5 = 7 by decide +kernel]
      omega
    · have e9 : (zq_ws Y ad h).set q1 (ad q1, .inl (Y.1, n1, .inl (va_cpy (h.1 q0) (h.1 q1) sp.toNatClampNeg dp.toNatClampNeg n.toNatClampNeg))) = zq_ws Y ad (fun q i => if q = q1 then va_cpy (h.1 q0) (h.1 q1) sp.toNatClampNeg dp.toNatClampNeg n.toNatClampNeg i else h.1 q i, h.2) := by
        refine zq_ws_set hp1 ?_ (fun q hq => ⟨?_, rfl⟩)
        · simp [zq_ent]
        · funext i
          simp [hq]
      exact k _ _ _ _ _ _ hP hl (by rw [← e9]; exact hw1) (by rw [← e9]; exact hD1) hS1
  · exact hP.elim
theorem zs_copyL (C : zq_C X cc nL own d) {p0 n0 p1 n1 ix : Nat} (hp0 : zq_S[p0]? = some (2, n0, [])) (hp1 : zq_S[p1]? = some (2, n1, [])) (h1 : Cond.methodLink own ix arraycopyName ∈ zq_tb) (h2 : Cond.native arraycopyName ∈ zq_tb) (h3 : Cond.static arraycopyName ∈ zq_tb) (h4 : Cond.initialized "java/lang/System" ∈ zq_tb) (hdd : 1 ≤ d) (hd : decode cc pc = .ok (.invokestatic ix, 3)) (k : zq_ok X nL (pc + 3) K) : zq_ok X nL pc (zi_copyL p0 n0 p1 n1 K) := by
  obtain ⟨p, l, e, R, s, m, args, below, meth, c, D, Y, ad, A, kc, kn, Z⟩ := X
  obtain ⟨hx, hb, hml, hown, hts, hK, hR1, hR2, hR3, hR4, hE⟩ := C
  intro ls st h H locs a hP hl hw hD hS
  unfold zi_copyL at hP
  split at hP
  · next n dp q1 sp q0 st =>
    obtain ⟨rfl, rfl, ⟨g1, g2, g3, g4, g5⟩, hlen, hP⟩ := hP
    have h5 := zq_cats (st.map (zq_cv ad))
    rw [List.length_map] at h5
    refine va_copyl hx hb (hml.trans hl.1.symm) hown (hts _ h1) (hts _ h2) (hts _ h3) (hts _ h4) hK hw hD hS q0 q1 1 1 (zq_ws_at hp0) (zq_ws_at hp1) rfl rfl rfl g1 g2 g3 g4 g5 (fun _ _ => rfl) (by omega) ?_ hd (fun H1 locs1 hw1 hD1 hS1 => ?_)
    · rw [show nativeFrameWords "java/lang/System" "arraycopy" 5 = 7 by decide +kernel]
      omega
    · have e9 : (zq_ws Y ad h).set q1 (ad q1, .inl (Y.2.1, n1, .inr (.inl (va_cpy (h.2 q0) (h.2 q1) sp.toNatClampNeg dp.toNatClampNeg n.toNatClampNeg)))) = zq_ws Y ad (h.1, fun q i => if q = q1 then va_cpy (h.2 q0) (h.2 q1) sp.toNatClampNeg dp.toNatClampNeg n.toNatClampNeg i else h.2 q i) := by
        refine zq_ws_set hp1 ?_ (fun q hq => ⟨rfl, ?_⟩)
        · simp [zq_ent]
        · funext i
          simp [hq]
      exact k _ _ _ _ _ _ hP hl (by rw [← e9]; exact hw1) (by rw [← e9]; exact hD1) hS1
  · exact hP.elim
end ZS
/-! Math.max, min, abs of ints -/
def zf_max (x y : Int32) : Int32 := if x < y then y else x
def zf_min (x y : Int32) : Int32 := if y < x then y else x
def zf_abs (x : Int32) : Int32 := if 0 ≤ x then x else 0 - x
def zi_m2 (f : Int32 → Int32 → Int32) (K : zq_P) : zq_P := fun ls st h => match st with
  | .int y :: .int x :: st => st.length ≤ 4 ∧ K ls (.int (f x y) :: st) h
  | _ => False
def zi_m1 (f : Int32 → Int32) (K : zq_P) : zq_P := fun ls st h => match st with
  | .int x :: st => st.length ≤ 4 ∧ K ls (.int (f x) :: st) h
  | _ => False
section ZS
variable {X : zq_X} {cc : ByteArray} {nL d pc : Nat} {own : String} {K : zq_P}
theorem zs_mmax (C : zq_C X cc nL own d) {ix : Nat} (hdd : 1 ≤ d) (h1 : Cond.methodLink own ix Lib.Math.max.name ∈ zq_tb) (h2 : Cond.static Lib.Math.max.name ∈ zq_tb) (h3 : Cond.initialized "java/lang/Math" ∈ zq_tb) (h4 : Cond.code Lib.Math.max.name Lib.Math.max.code 2 (some .int) ∈ zq_tb) (hd : decode cc pc = .ok (.invokestatic ix, 3)) (k : zq_ok X nL (pc + 3) K) : zq_ok X nL pc (zi_m2 zf_max K) := by
  obtain ⟨p, l, e, R, s, m, args, below, meth, c, D, Y, ad, A, kc, kn, Z⟩ := X
  obtain ⟨hx, hb, hml, hown, hts, hK, hR1, hR2, hR3, hR4, hE⟩ := C
  intro ls st h H locs a hP hl hw hD hS
  unfold zi_m2 at hP
  split at hP
  · next y x st =>
    have h5 := zq_cats (st.map (zq_cv ad))
    rw [List.length_map] at h5
    have h6 := hP.1
    exact va_mmax hx hb (hml.trans hl.1.symm) hown (hts _ h1) (hts _ h2) (hts _ h3) (hts _ h4) (by omega) (by omega) hR3 hR4 hd (k _ _ _ _ _ _ hP.2 hl hw hD hS)
  · exact hP.elim
theorem zs_mmin (C : zq_C X cc nL own d) {ix : Nat} (hdd : 1 ≤ d) (h1 : Cond.methodLink own ix Lib.Math.min.name ∈ zq_tb) (h2 : Cond.static Lib.Math.min.name ∈ zq_tb) (h3 : Cond.initialized "java/lang/Math" ∈ zq_tb) (h4 : Cond.code Lib.Math.min.name Lib.Math.min.code 2 (some .int) ∈ zq_tb) (hd : decode cc pc = .ok (.invokestatic ix, 3)) (k : zq_ok X nL (pc + 3) K) : zq_ok X nL pc (zi_m2 zf_min K) := by
  obtain ⟨p, l, e, R, s, m, args, below, meth, c, D, Y, ad, A, kc, kn, Z⟩ := X
  obtain ⟨hx, hb, hml, hown, hts, hK, hR1, hR2, hR3, hR4, hE⟩ := C
  intro ls st h H locs a hP hl hw hD hS
  unfold zi_m2 at hP
  split at hP
  · next y x st =>
    have h5 := zq_cats (st.map (zq_cv ad))
    rw [List.length_map] at h5
    have h6 := hP.1
    exact va_mmin hx hb (hml.trans hl.1.symm) hown (hts _ h1) (hts _ h2) (hts _ h3) (hts _ h4) (by omega) (by omega) hR3 hR4 hd (k _ _ _ _ _ _ hP.2 hl hw hD hS)
  · exact hP.elim
theorem zs_mabs (C : zq_C X cc nL own d) {ix : Nat} (hdd : 1 ≤ d) (h1 : Cond.methodLink own ix Lib.Math.abs.name ∈ zq_tb) (h2 : Cond.static Lib.Math.abs.name ∈ zq_tb) (h3 : Cond.initialized "java/lang/Math" ∈ zq_tb) (h4 : Cond.code Lib.Math.abs.name Lib.Math.abs.code 1 (some .int) ∈ zq_tb) (hd : decode cc pc = .ok (.invokestatic ix, 3)) (k : zq_ok X nL (pc + 3) K) : zq_ok X nL pc (zi_m1 zf_abs K) := by
  obtain ⟨p, l, e, R, s, m, args, below, meth, c, D, Y, ad, A, kc, kn, Z⟩ := X
  obtain ⟨hx, hb, hml, hown, hts, hK, hR1, hR2, hR3, hR4, hE⟩ := C
  intro ls st h H locs a hP hl hw hD hS
  unfold zi_m1 at hP
  split at hP
  · next x st =>
    have h5 := zq_cats (st.map (zq_cv ad))
    rw [List.length_map] at h5
    have h6 := hP.1
    exact va_mabs hx hb (hml.trans hl.1.symm) hown (hts _ h1) (hts _ h2) (hts _ h3) (hts _ h4) (by omega) (by omega) hR3 hR4 hd (k _ _ _ _ _ _ hP.2 hl hw hD hS)
  · exact hP.elim
end ZS
end
section
/-! places, kinds, words, methods: by program -/
theorem zp_0 : zq_S[0]? = some (0, 11, [3, 5, 7, 11, 14, 17, 24, 31, 36, 40, 41, 42, 46, 50, 54, 0]) := rfl
theorem zp_1 : zq_S[1]? = some (0, 8, [4, 0, 0, 0]) := rfl
theorem zp_2 : zq_S[2]? = some (1, 80, []) := rfl
theorem zp_3 : zq_S[3]? = some (0, 5, [6, 0]) := rfl
theorem zp_4 : zq_S[4]? = some (2, 16, []) := rfl
theorem zp_5 : zq_S[5]? = some (0, 3, [8, 9, 10, 0]) := rfl
theorem zp_6 : zq_S[6]? = some (1, 18, []) := rfl
theorem zp_7 : zq_S[7]? = some (1, 6, []) := rfl
theorem zp_8 : zq_S[8]? = some (1, 6, []) := rfl
theorem zp_9 : zq_S[9]? = some (0, 10, [12, 13, 0]) := rfl
theorem zp_10 : zq_S[10]? = some (1, 96, []) := rfl
theorem zp_11 : zq_S[11]? = some (1, 102, []) := rfl
theorem zp_12 : zq_S[12]? = some (0, 0, [15, 16, 1, 0, 0]) := rfl
theorem zp_13 : zq_S[13]? = some (2, 15, []) := rfl
theorem zp_14 : zq_S[14]? = some (2, 3, []) := rfl
theorem zp_15 : zq_S[15]? = some (0, 1, [18, 19, 20, 21, 22, 23, 0, 0]) := rfl
theorem zp_16 : zq_S[16]? = some (1, 12, []) := rfl
theorem zp_17 : zq_S[17]? = some (1, 12, []) := rfl
theorem zp_18 : zq_S[18]? = some (1, 3, []) := rfl
theorem zp_19 : zq_S[19]? = some (1, 3, []) := rfl
theorem zp_20 : zq_S[20]? = some (1, 16, []) := rfl
theorem zp_21 : zq_S[21]? = some (1, 256, []) := rfl
theorem zp_22 : zq_S[22]? = some (0, 4, [25, 26, 27, 28, 29, 30, 0, 0]) := rfl
theorem zp_23 : zq_S[23]? = some (1, 6, []) := rfl
theorem zp_24 : zq_S[24]? = some (2, 6, []) := rfl
theorem zp_25 : zq_S[25]? = some (2, 6, []) := rfl
theorem zp_26 : zq_S[26]? = some (1, 102, []) := rfl
theorem zp_27 : zq_S[27]? = some (1, 64, []) := rfl
theorem zp_28 : zq_S[28]? = some (1, 6, []) := rfl
theorem zp_29 : zq_S[29]? = some (0, 7, [32, 33, 34, 35, 11, 0, 0, 0]) := rfl
theorem zp_30 : zq_S[30]? = some (1, 4, []) := rfl
theorem zp_31 : zq_S[31]? = some (1, 4, []) := rfl
theorem zp_32 : zq_S[32]? = some (1, 16, []) := rfl
theorem zp_33 : zq_S[33]? = some (1, 16, []) := rfl
theorem zp_34 : zq_S[34]? = some (0, 9, [37, 38, 39, 0]) := rfl
theorem zp_35 : zq_S[35]? = some (1, 16, []) := rfl
theorem zp_36 : zq_S[36]? = some (1, 96, []) := rfl
theorem zp_37 : zq_S[37]? = some (1, 6, []) := rfl
theorem zp_38 : zq_S[38]? = some (1, 80, []) := rfl
theorem zp_39 : zq_S[39]? = some (1, 17, []) := rfl
theorem zp_40 : zq_S[40]? = some (0, 2, [43, 44, 45, 0]) := rfl
theorem zp_41 : zq_S[41]? = some (1, 16, []) := rfl
theorem zp_42 : zq_S[42]? = some (1, 16, []) := rfl
theorem zp_43 : zq_S[43]? = some (1, 16, []) := rfl
theorem zp_44 : zq_S[44]? = some (0, 2, [47, 48, 49, 0]) := rfl
theorem zp_45 : zq_S[45]? = some (1, 16, []) := rfl
theorem zp_46 : zq_S[46]? = some (1, 16, []) := rfl
theorem zp_47 : zq_S[47]? = some (1, 16, []) := rfl
theorem zp_48 : zq_S[48]? = some (0, 6, [51, 52, 53, 0, 0, 0, 0, 0]) := rfl
theorem zp_49 : zq_S[49]? = some (1, 40, []) := rfl
theorem zp_50 : zq_S[50]? = some (1, 40, []) := rfl
theorem zp_51 : zq_S[51]? = some (1, 40, []) := rfl
theorem zp_52 : zq_S[52]? = some (0, 6, [55, 56, 57, 0, 0, 0, 0, 0]) := rfl
theorem zp_53 : zq_S[53]? = some (1, 40, []) := rfl
theorem zp_54 : zq_S[54]? = some (1, 40, []) := rfl
theorem zp_55 : zq_S[55]? = some (1, 40, []) := rfl
theorem zp_56 : zq_S[56]? = some (0, 12, [0, 0, 59, 0, 0, 0, 60, 61, 62, 63, 64, 65, 66, 0, 0, 0, 0, 67, 68, 69, 70, 0, 71, 72, 73, 0, 0, 74, 75, 76, 77, 0, 78, 79, 80, 81, 82, 0, 83, 84, 0, 85, 86, 0, 87, 88, 89, 0, 90, 0, 0, 91, 92, 0, 93, 94, 95, 96, 97, 98, 99, 1, 1, 100, 101, 102, 103]) := rfl
theorem zp_57 : zq_S[57]? = some (2, 24, []) := rfl
theorem zp_58 : zq_S[58]? = some (1, 16, []) := rfl
theorem zp_59 : zq_S[59]? = some (1, 16, []) := rfl
theorem zp_60 : zq_S[60]? = some (3, 16, []) := rfl
theorem zp_61 : zq_S[61]? = some (1, 18, []) := rfl
theorem zp_62 : zq_S[62]? = some (1, 6, []) := rfl
theorem zp_63 : zq_S[63]? = some (1, 16, []) := rfl
theorem zp_64 : zq_S[64]? = some (1, 80, []) := rfl
theorem zp_65 : zq_S[65]? = some (1, 16, []) := rfl
theorem zp_66 : zq_S[66]? = some (1, 16, []) := rfl
theorem zp_67 : zq_S[67]? = some (3, 16, []) := rfl
theorem zp_68 : zq_S[68]? = some (1, 18, []) := rfl
theorem zp_69 : zq_S[69]? = some (1, 6, []) := rfl
theorem zp_70 : zq_S[70]? = some (1, 80, []) := rfl
theorem zp_71 : zq_S[71]? = some (1, 80, []) := rfl
theorem zp_72 : zq_S[72]? = some (1, 80, []) := rfl
theorem zp_73 : zq_S[73]? = some (1, 9, []) := rfl
theorem zp_74 : zq_S[74]? = some (1, 96, []) := rfl
theorem zp_75 : zq_S[75]? = some (1, 6, []) := rfl
theorem zp_76 : zq_S[76]? = some (1, 256, []) := rfl
theorem zp_77 : zq_S[77]? = some (1, 60, []) := rfl
theorem zp_78 : zq_S[78]? = some (1, 60, []) := rfl
theorem zp_79 : zq_S[79]? = some (1, 60, []) := rfl
theorem zp_80 : zq_S[80]? = some (1, 60, []) := rfl
theorem zp_81 : zq_S[81]? = some (1, 12, []) := rfl
theorem zp_82 : zq_S[82]? = some (1, 12, []) := rfl
theorem zp_83 : zq_S[83]? = some (1, 6, []) := rfl
theorem zp_84 : zq_S[84]? = some (1, 6, []) := rfl
theorem zp_85 : zq_S[85]? = some (1, 16, []) := rfl
theorem zp_86 : zq_S[86]? = some (1, 16, []) := rfl
theorem zp_87 : zq_S[87]? = some (1, 36, []) := rfl
theorem zp_88 : zq_S[88]? = some (1, 16, []) := rfl
theorem zp_89 : zq_S[89]? = some (1, 96, []) := rfl
theorem zp_90 : zq_S[90]? = some (1, 6, []) := rfl
theorem zp_91 : zq_S[91]? = some (1, 12, []) := rfl
theorem zp_92 : zq_S[92]? = some (1, 12, []) := rfl
theorem zp_93 : zq_S[93]? = some (1, 16, []) := rfl
theorem zp_94 : zq_S[94]? = some (1, 256, []) := rfl
theorem zp_95 : zq_S[95]? = some (1, 256, []) := rfl
theorem zp_96 : zq_S[96]? = some (1, 6, []) := rfl
theorem zp_97 : zq_S[97]? = some (1, 6, []) := rfl
theorem zp_98 : zq_S[98]? = some (1, 6, []) := rfl
theorem zp_99 : zq_S[99]? = some (3, 3, []) := rfl
theorem zp_100 : zq_S[100]? = some (1, 3, []) := rfl
theorem zp_101 : zq_S[101]? = some (1, 48, []) := rfl
theorem zp_102 : zq_S[102]? = some (2, 1, []) := rfl
theorem zq_in1 {w : Cond} {i : Nat} (h : tables_1_1[i]? = some w) (g : goodWord w = true) : w ∈ zq_tb := by
  have this := List.mem_of_getElem? h
  have m : w ∈ tables_1 := by simp only [tables_1, List.mem_append]; exact Or.inl this
  exact zq_in (List.mem_append_right _ m) g
theorem zq_iN1 {w : Cond} {i : Nat} (h : tables_1_1[i]? = some w) (g : zq_isN w = true) : w ∈ zq_nw := by
  have this := List.mem_of_getElem? h
  have m : w ∈ tables_1 := by simp only [tables_1, List.mem_append]; exact Or.inl this
  exact List.mem_filter.mpr ⟨m, g⟩
theorem zq_in2 {w : Cond} {i : Nat} (h : tables_1_2[i]? = some w) (g : goodWord w = true) : w ∈ zq_tb := by
  have this := List.mem_of_getElem? h
  have m : w ∈ tables_1 := by simp only [tables_1, List.mem_append]; exact Or.inr (Or.inl this)
  exact zq_in (List.mem_append_right _ m) g
theorem zq_iN2 {w : Cond} {i : Nat} (h : tables_1_2[i]? = some w) (g : zq_isN w = true) : w ∈ zq_nw := by
  have this := List.mem_of_getElem? h
  have m : w ∈ tables_1 := by simp only [tables_1, List.mem_append]; exact Or.inr (Or.inl this)
  exact List.mem_filter.mpr ⟨m, g⟩
theorem zq_in3 {w : Cond} {i : Nat} (h : tables_1_3[i]? = some w) (g : goodWord w = true) : w ∈ zq_tb := by
  have this := List.mem_of_getElem? h
  have m : w ∈ tables_1 := by simp only [tables_1, List.mem_append]; exact Or.inr (Or.inr (Or.inl this))
  exact zq_in (List.mem_append_right _ m) g
theorem zq_iN3 {w : Cond} {i : Nat} (h : tables_1_3[i]? = some w) (g : zq_isN w = true) : w ∈ zq_nw := by
  have this := List.mem_of_getElem? h
  have m : w ∈ tables_1 := by simp only [tables_1, List.mem_append]; exact Or.inr (Or.inr (Or.inl this))
  exact List.mem_filter.mpr ⟨m, g⟩
theorem zq_in4 {w : Cond} {i : Nat} (h : tables_1_4[i]? = some w) (g : goodWord w = true) : w ∈ zq_tb := by
  have this := List.mem_of_getElem? h
  have m : w ∈ tables_1 := by simp only [tables_1, List.mem_append]; exact Or.inr (Or.inr (Or.inr (Or.inl this)))
  exact zq_in (List.mem_append_right _ m) g
theorem zq_iN4 {w : Cond} {i : Nat} (h : tables_1_4[i]? = some w) (g : zq_isN w = true) : w ∈ zq_nw := by
  have this := List.mem_of_getElem? h
  have m : w ∈ tables_1 := by simp only [tables_1, List.mem_append]; exact Or.inr (Or.inr (Or.inr (Or.inl this)))
  exact List.mem_filter.mpr ⟨m, g⟩
theorem zq_in5 {w : Cond} {i : Nat} (h : tables_1_5[i]? = some w) (g : goodWord w = true) : w ∈ zq_tb := by
  have this := List.mem_of_getElem? h
  have m : w ∈ tables_1 := by simp only [tables_1, List.mem_append]; exact Or.inr (Or.inr (Or.inr (Or.inr (Or.inl this))))
  exact zq_in (List.mem_append_right _ m) g
theorem zq_iN5 {w : Cond} {i : Nat} (h : tables_1_5[i]? = some w) (g : zq_isN w = true) : w ∈ zq_nw := by
  have this := List.mem_of_getElem? h
  have m : w ∈ tables_1 := by simp only [tables_1, List.mem_append]; exact Or.inr (Or.inr (Or.inr (Or.inr (Or.inl this))))
  exact List.mem_filter.mpr ⟨m, g⟩
theorem zq_in6 {w : Cond} {i : Nat} (h : tables_1_6[i]? = some w) (g : goodWord w = true) : w ∈ zq_tb := by
  have this := List.mem_of_getElem? h
  have m : w ∈ tables_1 := by simp only [tables_1, List.mem_append]; exact Or.inr (Or.inr (Or.inr (Or.inr (Or.inr (Or.inl this)))))
  exact zq_in (List.mem_append_right _ m) g
theorem zq_iN6 {w : Cond} {i : Nat} (h : tables_1_6[i]? = some w) (g : zq_isN w = true) : w ∈ zq_nw := by
  have this := List.mem_of_getElem? h
  have m : w ∈ tables_1 := by simp only [tables_1, List.mem_append]; exact Or.inr (Or.inr (Or.inr (Or.inr (Or.inr (Or.inl this)))))
  exact List.mem_filter.mpr ⟨m, g⟩
theorem zq_in7 {w : Cond} {i : Nat} (h : tables_1_7[i]? = some w) (g : goodWord w = true) : w ∈ zq_tb := by
  have this := List.mem_of_getElem? h
  have m : w ∈ tables_1 := by simp only [tables_1, List.mem_append]; exact Or.inr (Or.inr (Or.inr (Or.inr (Or.inr (Or.inr (Or.inl this))))))
  exact zq_in (List.mem_append_right _ m) g
theorem zq_iN7 {w : Cond} {i : Nat} (h : tables_1_7[i]? = some w) (g : zq_isN w = true) : w ∈ zq_nw := by
  have this := List.mem_of_getElem? h
  have m : w ∈ tables_1 := by simp only [tables_1, List.mem_append]; exact Or.inr (Or.inr (Or.inr (Or.inr (Or.inr (Or.inr (Or.inl this))))))
  exact List.mem_filter.mpr ⟨m, g⟩
theorem zq_in8 {w : Cond} {i : Nat} (h : tables_1_8[i]? = some w) (g : goodWord w = true) : w ∈ zq_tb := by
  have this := List.mem_of_getElem? h
  have m : w ∈ tables_1 := by simp only [tables_1, List.mem_append]; exact Or.inr (Or.inr (Or.inr (Or.inr (Or.inr (Or.inr (Or.inr (this)))))))
  exact zq_in (List.mem_append_right _ m) g
theorem zq_iN8 {w : Cond} {i : Nat} (h : tables_1_8[i]? = some w) (g : zq_isN w = true) : w ∈ zq_nw := by
  have this := List.mem_of_getElem? h
  have m : w ∈ tables_1 := by simp only [tables_1, List.mem_append]; exact Or.inr (Or.inr (Or.inr (Or.inr (Or.inr (Or.inr (Or.inr (this)))))))
  exact List.mem_filter.mpr ⟨m, g⟩
theorem zw_126 : Cond.laysFinal RX0 RX0 "past" "[J" ∈ zq_tb := zq_in1 (i := 126) rfl rfl
theorem zw_128 : Cond.laysFinal RX0 RX0 "kept" "[J" ∈ zq_tb := zq_in1 (i := 128) rfl rfl
theorem zw_130 : Cond.lays RX0 RX0 "holders" "J" ∈ zq_tb := zq_in1 (i := 130) rfl rfl
theorem zw_132 : Cond.lays RX0 RX0 "pasts" "I" ∈ zq_tb := zq_in1 (i := 132) rfl rfl
theorem zw_134 : Cond.lays RX0 RX0 "whichKept" "I" ∈ zq_tb := zq_in1 (i := 134) rfl rfl
theorem zF0_in : ∀ w ∈ u_ws RX0 TX0 5, w ∈ zq_tb := by
  intro w hw
  obtain ⟨k, hk, rfl⟩ := List.mem_map.mp hw
  have hk := List.mem_range.mp hk
  match k, hk with
  | 0, _ => exact zw_126
  | 1, _ => exact zw_128
  | 2, _ => exact zw_130
  | 3, _ => exact zw_132
  | 4, _ => exact zw_134
  | k + 5, hk => exact absurd hk (by omega)
theorem zF0 : zq_F 0 RX0 TX0 5 := ⟨rfl, zF0_in, ⟨tyX0, tyX0_ok⟩, nmX0, by decide +kernel⟩
theorem zw_153 : Cond.laysFinal RX1 RX1 "taken" "[I" ∈ zq_tb := zq_in1 (i := 153) rfl rfl
theorem zw_155 : Cond.laysFinal RX1 RX1 "left" "[I" ∈ zq_tb := zq_in1 (i := 155) rfl rfl
theorem zw_157 : Cond.laysFinal RX1 RX1 "tried" "[I" ∈ zq_tb := zq_in1 (i := 157) rfl rfl
theorem zw_159 : Cond.laysFinal RX1 RX1 "leastTastes" "[I" ∈ zq_tb := zq_in1 (i := 159) rfl rfl
theorem zw_161 : Cond.laysFinal RX1 RX1 "asked" "[I" ∈ zq_tb := zq_in1 (i := 161) rfl rfl
theorem zw_163 : Cond.laysFinal RX1 RX1 "noLess" "[I" ∈ zq_tb := zq_in1 (i := 163) rfl rfl
theorem zw_165 : Cond.lays RX1 RX1 "known" "I" ∈ zq_tb := zq_in1 (i := 165) rfl rfl
theorem zw_167 : Cond.lays RX1 RX1 "size" "I" ∈ zq_tb := zq_in1 (i := 167) rfl rfl
theorem zF1_in : ∀ w ∈ u_ws RX1 TX1 8, w ∈ zq_tb := by
  intro w hw
  obtain ⟨k, hk, rfl⟩ := List.mem_map.mp hw
  have hk := List.mem_range.mp hk
  match k, hk with
  | 0, _ => exact zw_153
  | 1, _ => exact zw_155
  | 2, _ => exact zw_157
  | 3, _ => exact zw_159
  | 4, _ => exact zw_161
  | 5, _ => exact zw_163
  | 6, _ => exact zw_165
  | 7, _ => exact zw_167
  | k + 8, hk => exact absurd hk (by omega)
theorem zF1 : zq_F 1 RX1 TX1 8 := ⟨rfl, zF1_in, ⟨tyX1, tyX1_ok⟩, nmX1, by decide +kernel⟩
theorem zw_277 : Cond.laysFinal RX2 RX2 "crumbs" "[I" ∈ zq_tb := zq_in2 (i := 37) rfl rfl
theorem zw_279 : Cond.laysFinal RX2 RX2 "raisins" "[I" ∈ zq_tb := zq_in2 (i := 39) rfl rfl
theorem zw_281 : Cond.laysFinal RX2 RX2 "crust" "[I" ∈ zq_tb := zq_in2 (i := 41) rfl rfl
theorem zw_283 : Cond.lays RX2 RX2 "cells" "I" ∈ zq_tb := zq_in2 (i := 43) rfl rfl
theorem zF2_in : ∀ w ∈ u_ws RX2 TX2 4, w ∈ zq_tb := by
  intro w hw
  obtain ⟨k, hk, rfl⟩ := List.mem_map.mp hw
  have hk := List.mem_range.mp hk
  match k, hk with
  | 0, _ => exact zw_277
  | 1, _ => exact zw_279
  | 2, _ => exact zw_281
  | 3, _ => exact zw_283
  | k + 4, hk => exact absurd hk (by omega)
theorem zF2 : zq_F 2 RX2 TX2 4 := ⟨rfl, zF2_in, ⟨tyX2, tyX2_ok⟩, nmX2, by decide +kernel⟩
theorem zw_86 : Cond.laysFinal RX3 RX3 "likes" "[I" ∈ zq_tb := zq_in1 (i := 86) rfl rfl
theorem zw_88 : Cond.laysFinal RX3 RX3 "deserts" "[I" ∈ zq_tb := zq_in1 (i := 88) rfl rfl
theorem zw_90 : Cond.laysFinal RX3 RX3 "earned" "[I" ∈ zq_tb := zq_in1 (i := 90) rfl rfl
theorem zw_92 : Cond.lays RX3 RX3 "size" "I" ∈ zq_tb := zq_in1 (i := 92) rfl rfl
theorem zF3_in : ∀ w ∈ u_ws RX3 TX3 4, w ∈ zq_tb := by
  intro w hw
  obtain ⟨k, hk, rfl⟩ := List.mem_map.mp hw
  have hk := List.mem_range.mp hk
  match k, hk with
  | 0, _ => exact zw_86
  | 1, _ => exact zw_88
  | 2, _ => exact zw_90
  | 3, _ => exact zw_92
  | k + 4, hk => exact absurd hk (by omega)
theorem zF3 : zq_F 3 RX3 TX3 4 := ⟨rfl, zF3_in, ⟨tyX3, tyX3_ok⟩, nmX3, by decide +kernel⟩
theorem zw_186 : Cond.laysFinal RX4 RX4 "who" "[I" ∈ zq_tb := zq_in1 (i := 186) rfl rfl
theorem zw_188 : Cond.laysFinal RX4 RX4 "times" "[J" ∈ zq_tb := zq_in1 (i := 188) rfl rfl
theorem zw_190 : Cond.laysFinal RX4 RX4 "need" "[J" ∈ zq_tb := zq_in1 (i := 190) rfl rfl
theorem zw_192 : Cond.laysFinal RX4 RX4 "reach" "[I" ∈ zq_tb := zq_in1 (i := 192) rfl rfl
theorem zw_194 : Cond.laysFinal RX4 RX4 "least" "[I" ∈ zq_tb := zq_in1 (i := 194) rfl rfl
theorem zw_196 : Cond.laysFinal RX4 RX4 "order" "[I" ∈ zq_tb := zq_in1 (i := 196) rfl rfl
theorem zw_198 : Cond.lays RX4 RX4 "members" "I" ∈ zq_tb := zq_in1 (i := 198) rfl rfl
theorem zw_200 : Cond.lays RX4 RX4 "cells" "I" ∈ zq_tb := zq_in1 (i := 200) rfl rfl
theorem zF4_in : ∀ w ∈ u_ws RX4 TX4 8, w ∈ zq_tb := by
  intro w hw
  obtain ⟨k, hk, rfl⟩ := List.mem_map.mp hw
  have hk := List.mem_range.mp hk
  match k, hk with
  | 0, _ => exact zw_186
  | 1, _ => exact zw_188
  | 2, _ => exact zw_190
  | 3, _ => exact zw_192
  | 4, _ => exact zw_194
  | 5, _ => exact zw_196
  | 6, _ => exact zw_198
  | 7, _ => exact zw_200
  | k + 8, hk => exact absurd hk (by omega)
theorem zF4 : zq_F 4 RX4 TX4 8 := ⟨rfl, zF4_in, ⟨tyX4, tyX4_ok⟩, nmX4, by decide +kernel⟩
theorem zw_65 : Cond.laysFinal RX5 RX5 "numbers" "[J" ∈ zq_tb := zq_in1 (i := 65) rfl rfl
theorem zw_67 : Cond.lays RX5 RX5 "size" "I" ∈ zq_tb := zq_in1 (i := 67) rfl rfl
theorem zF5_in : ∀ w ∈ u_ws RX5 TX5 2, w ∈ zq_tb := by
  intro w hw
  obtain ⟨k, hk, rfl⟩ := List.mem_map.mp hw
  have hk := List.mem_range.mp hk
  match k, hk with
  | 0, _ => exact zw_65
  | 1, _ => exact zw_67
  | k + 2, hk => exact absurd hk (by omega)
theorem zF5 : zq_F 5 RX5 TX5 2 := ⟨rfl, zF5_in, ⟨tyX5, tyX5_ok⟩, nmX5, by decide +kernel⟩
theorem zw_300 : Cond.laysFinal RX6 RX6 "steps" "[I" ∈ zq_tb := zq_in2 (i := 60) rfl rfl
theorem zw_302 : Cond.laysFinal RX6 RX6 "waiting" "[I" ∈ zq_tb := zq_in2 (i := 62) rfl rfl
theorem zw_304 : Cond.laysFinal RX6 RX6 "values" "[I" ∈ zq_tb := zq_in2 (i := 64) rfl rfl
theorem zw_306 : Cond.lays RX6 RX6 "size" "I" ∈ zq_tb := zq_in2 (i := 66) rfl rfl
theorem zw_308 : Cond.lays RX6 RX6 "waits" "I" ∈ zq_tb := zq_in2 (i := 68) rfl rfl
theorem zw_310 : Cond.lays RX6 RX6 "depth" "I" ∈ zq_tb := zq_in2 (i := 70) rfl rfl
theorem zw_312 : Cond.lays RX6 RX6 "compared" "I" ∈ zq_tb := zq_in2 (i := 72) rfl rfl
theorem zw_314 : Cond.lays RX6 RX6 "wantsThing" "Z" ∈ zq_tb := zq_in2 (i := 74) rfl rfl
theorem zF6_in : ∀ w ∈ u_ws RX6 TX6 8, w ∈ zq_tb := by
  intro w hw
  obtain ⟨k, hk, rfl⟩ := List.mem_map.mp hw
  have hk := List.mem_range.mp hk
  match k, hk with
  | 0, _ => exact zw_300
  | 1, _ => exact zw_302
  | 2, _ => exact zw_304
  | 3, _ => exact zw_306
  | 4, _ => exact zw_308
  | 5, _ => exact zw_310
  | 6, _ => exact zw_312
  | 7, _ => exact zw_314
  | k + 8, hk => exact absurd hk (by omega)
theorem zF6 : zq_F 6 RX6 TX6 8 := ⟨rfl, zF6_in, ⟨tyX6, tyX6_ok⟩, nmX6, by decide +kernel⟩
theorem zw_217 : Cond.laysFinal RX7 RX7 "starts" "[I" ∈ zq_tb := zq_in1 (i := 217) rfl rfl
theorem zw_219 : Cond.laysFinal RX7 RX7 "stops" "[I" ∈ zq_tb := zq_in1 (i := 219) rfl rfl
theorem zw_221 : Cond.laysFinal RX7 RX7 "owners" "[I" ∈ zq_tb := zq_in1 (i := 221) rfl rfl
theorem zw_223 : Cond.laysFinal RX7 RX7 "best" "[I" ∈ zq_tb := zq_in1 (i := 223) rfl rfl
theorem zw_225 : Cond.laysFinal RX7 RX7 "worths" "LToOneCrumb$Worths;" ∈ zq_tb := zq_in1 (i := 225) rfl rfl
theorem zw_227 : Cond.lays RX7 RX7 "guests" "I" ∈ zq_tb := zq_in1 (i := 227) rfl rfl
theorem zw_229 : Cond.lays RX7 RX7 "cells" "I" ∈ zq_tb := zq_in1 (i := 229) rfl rfl
theorem zw_231 : Cond.lays RX7 RX7 "found" "I" ∈ zq_tb := zq_in1 (i := 231) rfl rfl
theorem zF7_in : ∀ w ∈ u_ws RX7 TX7 8, w ∈ zq_tb := by
  intro w hw
  obtain ⟨k, hk, rfl⟩ := List.mem_map.mp hw
  have hk := List.mem_range.mp hk
  match k, hk with
  | 0, _ => exact zw_217
  | 1, _ => exact zw_219
  | 2, _ => exact zw_221
  | 3, _ => exact zw_223
  | 4, _ => exact zw_225
  | 5, _ => exact zw_227
  | 6, _ => exact zw_229
  | 7, _ => exact zw_231
  | k + 8, hk => exact absurd hk (by omega)
theorem zF7 : zq_F 7 RX7 TX7 8 := ⟨rfl, zF7_in, ⟨tyX7, tyX7_ok⟩, nmX7, by decide +kernel⟩
theorem zw_45 : Cond.laysFinal RX8 RX8 "signs" "[I" ∈ zq_tb := zq_in1 (i := 45) rfl rfl
theorem zw_47 : Cond.lays RX8 RX8 "size" "I" ∈ zq_tb := zq_in1 (i := 47) rfl rfl
theorem zw_49 : Cond.lays RX8 RX8 "stop" "I" ∈ zq_tb := zq_in1 (i := 49) rfl rfl
theorem zw_51 : Cond.lays RX8 RX8 "place" "I" ∈ zq_tb := zq_in1 (i := 51) rfl rfl
theorem zF8_in : ∀ w ∈ u_ws RX8 TX8 4, w ∈ zq_tb := by
  intro w hw
  obtain ⟨k, hk, rfl⟩ := List.mem_map.mp hw
  have hk := List.mem_range.mp hk
  match k, hk with
  | 0, _ => exact zw_45
  | 1, _ => exact zw_47
  | 2, _ => exact zw_49
  | 3, _ => exact zw_51
  | k + 4, hk => exact absurd hk (by omega)
theorem zF8 : zq_F 8 RX8 TX8 4 := ⟨rfl, zF8_in, ⟨tyX8, tyX8_ok⟩, nmX8, by decide +kernel⟩
theorem zw_248 : Cond.laysFinal RX9 RX9 "whose" "[I" ∈ zq_tb := zq_in2 (i := 8) rfl rfl
theorem zw_250 : Cond.laysFinal RX9 RX9 "told" "[I" ∈ zq_tb := zq_in2 (i := 10) rfl rfl
theorem zw_252 : Cond.laysFinal RX9 RX9 "has" "[I" ∈ zq_tb := zq_in2 (i := 12) rfl rfl
theorem zw_254 : Cond.lays RX9 RX9 "size" "I" ∈ zq_tb := zq_in2 (i := 14) rfl rfl
theorem zF9_in : ∀ w ∈ u_ws RX9 TX9 4, w ∈ zq_tb := by
  intro w hw
  obtain ⟨k, hk, rfl⟩ := List.mem_map.mp hw
  have hk := List.mem_range.mp hk
  match k, hk with
  | 0, _ => exact zw_248
  | 1, _ => exact zw_250
  | 2, _ => exact zw_252
  | 3, _ => exact zw_254
  | k + 4, hk => exact absurd hk (by omega)
theorem zF9 : zq_F 9 RX9 TX9 4 := ⟨rfl, zF9_in, ⟨tyX9, tyX9_ok⟩, nmX9, by decide +kernel⟩
theorem zw_106 : Cond.laysFinal RX10 RX10 "each" "[I" ∈ zq_tb := zq_in1 (i := 106) rfl rfl
theorem zw_108 : Cond.laysFinal RX10 RX10 "ahead" "[I" ∈ zq_tb := zq_in1 (i := 108) rfl rfl
theorem zw_110 : Cond.lays RX10 RX10 "cells" "I" ∈ zq_tb := zq_in1 (i := 110) rfl rfl
theorem zF10_in : ∀ w ∈ u_ws RX10 TX10 3, w ∈ zq_tb := by
  intro w hw
  obtain ⟨k, hk, rfl⟩ := List.mem_map.mp hw
  have hk := List.mem_range.mp hk
  match k, hk with
  | 0, _ => exact zw_106
  | 1, _ => exact zw_108
  | 2, _ => exact zw_110
  | k + 3, hk => exact absurd hk (by omega)
theorem zF10 : zq_F 10 RX10 TX10 3 := ⟨rfl, zF10_in, ⟨tyX10, tyX10_ok⟩, nmX10, by decide +kernel⟩
theorem zw_333 : Cond.laysFinal RX11 RX11 "text" "LToOneCrumb$Text;" ∈ zq_tb := zq_in2 (i := 93) rfl rfl
theorem zw_335 : Cond.laysFinal RX11 RX11 "row" "LToOneCrumb$Row;" ∈ zq_tb := zq_in2 (i := 95) rfl rfl
theorem zw_337 : Cond.laysFinal RX11 RX11 "party" "LToOneCrumb$Party;" ∈ zq_tb := zq_in2 (i := 97) rfl rfl
theorem zw_339 : Cond.laysFinal RX11 RX11 "worths" "LToOneCrumb$Worths;" ∈ zq_tb := zq_in2 (i := 99) rfl rfl
theorem zw_341 : Cond.laysFinal RX11 RX11 "board" "LToOneCrumb$Board;" ∈ zq_tb := zq_in2 (i := 101) rfl rfl
theorem zw_343 : Cond.laysFinal RX11 RX11 "choices" "LToOneCrumb$Choices;" ∈ zq_tb := zq_in2 (i := 103) rfl rfl
theorem zw_345 : Cond.laysFinal RX11 RX11 "placing" "LToOneCrumb$Placing;" ∈ zq_tb := zq_in2 (i := 105) rfl rfl
theorem zw_347 : Cond.laysFinal RX11 RX11 "seating" "LToOneCrumb$Seating;" ∈ zq_tb := zq_in2 (i := 107) rfl rfl
theorem zw_349 : Cond.laysFinal RX11 RX11 "turns" "LToOneCrumb$Turns;" ∈ zq_tb := zq_in2 (i := 109) rfl rfl
theorem zw_351 : Cond.laysFinal RX11 RX11 "acts" "[I" ∈ zq_tb := zq_in2 (i := 111) rfl rfl
theorem zw_353 : Cond.laysFinal RX11 RX11 "leasts" "[I" ∈ zq_tb := zq_in2 (i := 113) rfl rfl
theorem zw_355 : Cond.lays RX11 RX11 "bread" "LToOneCrumb$Loaf;" ∈ zq_tb := zq_in2 (i := 115) rfl rfl
theorem zw_357 : Cond.lays RX11 RX11 "dough" "LToOneCrumb$Loaf;" ∈ zq_tb := zq_in2 (i := 117) rfl rfl
theorem zw_359 : Cond.lays RX11 RX11 "law" "LToOneCrumb$Rule;" ∈ zq_tb := zq_in2 (i := 119) rfl rfl
theorem zw_361 : Cond.lays RX11 RX11 "bill" "LToOneCrumb$Rule;" ∈ zq_tb := zq_in2 (i := 121) rfl rfl
theorem zw_363 : Cond.lays RX11 RX11 "actCount" "I" ∈ zq_tb := zq_in2 (i := 123) rfl rfl
theorem zF11_in : ∀ w ∈ u_ws RX11 TX11 16, w ∈ zq_tb := by
  intro w hw
  obtain ⟨k, hk, rfl⟩ := List.mem_map.mp hw
  have hk := List.mem_range.mp hk
  match k, hk with
  | 0, _ => exact zw_333
  | 1, _ => exact zw_335
  | 2, _ => exact zw_337
  | 3, _ => exact zw_339
  | 4, _ => exact zw_341
  | 5, _ => exact zw_343
  | 6, _ => exact zw_345
  | 7, _ => exact zw_347
  | 8, _ => exact zw_349
  | 9, _ => exact zw_351
  | 10, _ => exact zw_353
  | 11, _ => exact zw_355
  | 12, _ => exact zw_357
  | 13, _ => exact zw_359
  | 14, _ => exact zw_361
  | 15, _ => exact zw_363
  | k + 16, hk => exact absurd hk (by omega)
theorem zF11 : zq_F 11 RX11 TX11 16 := ⟨rfl, zF11_in, ⟨tyX11, tyX11_ok⟩, nmX11, by decide +kernel⟩
theorem zw_1165 : Cond.lays RX12 RX12 "thrown" "I" ∈ zq_tb := zq_in5 (i := 205) rfl rfl
theorem zw_1167 : Cond.lays RX12 RX12 "rows" "I" ∈ zq_tb := zq_in5 (i := 207) rfl rfl
theorem zw_1169 : Cond.laysFinal RX12 RX12 "row" "[J" ∈ zq_tb := zq_in5 (i := 209) rfl rfl
theorem zw_1171 : Cond.lays RX12 RX12 "cells" "I" ∈ zq_tb := zq_in5 (i := 211) rfl rfl
theorem zw_1173 : Cond.lays RX12 RX12 "guests" "I" ∈ zq_tb := zq_in5 (i := 213) rfl rfl
theorem zw_1175 : Cond.lays RX12 RX12 "loaves" "I" ∈ zq_tb := zq_in5 (i := 215) rfl rfl
theorem zw_1177 : Cond.laysFinal RX12 RX12 "crumbs" "[I" ∈ zq_tb := zq_in5 (i := 217) rfl rfl
theorem zw_1179 : Cond.laysFinal RX12 RX12 "raisins" "[I" ∈ zq_tb := zq_in5 (i := 219) rfl rfl
theorem zw_1181 : Cond.laysFinal RX12 RX12 "crust" "[Z" ∈ zq_tb := zq_in5 (i := 221) rfl rfl
theorem zw_1183 : Cond.laysFinal RX12 RX12 "tastes" "[I" ∈ zq_tb := zq_in5 (i := 223) rfl rfl
theorem zw_1185 : Cond.laysFinal RX12 RX12 "deserts" "[I" ∈ zq_tb := zq_in5 (i := 225) rfl rfl
theorem zw_1187 : Cond.laysFinal RX12 RX12 "now" "[I" ∈ zq_tb := zq_in5 (i := 227) rfl rfl
theorem zw_1189 : Cond.laysFinal RX12 RX12 "tape" "[I" ∈ zq_tb := zq_in5 (i := 229) rfl rfl
theorem zw_1191 : Cond.lays RX12 RX12 "taped" "I" ∈ zq_tb := zq_in5 (i := 231) rfl rfl
theorem zw_1193 : Cond.lays RX12 RX12 "at" "I" ∈ zq_tb := zq_in5 (i := 233) rfl rfl
theorem zw_1195 : Cond.lays RX12 RX12 "to" "I" ∈ zq_tb := zq_in5 (i := 235) rfl rfl
theorem zw_1197 : Cond.lays RX12 RX12 "nest" "I" ∈ zq_tb := zq_in5 (i := 237) rfl rfl
theorem zw_1199 : Cond.laysFinal RX12 RX12 "readCrumbs" "[I" ∈ zq_tb := zq_in5 (i := 239) rfl rfl
theorem zw_1201 : Cond.laysFinal RX12 RX12 "readRaisins" "[I" ∈ zq_tb := zq_in6 (i := 1) rfl rfl
theorem zw_1203 : Cond.laysFinal RX12 RX12 "readCrust" "[Z" ∈ zq_tb := zq_in6 (i := 3) rfl rfl
theorem zw_1205 : Cond.laysFinal RX12 RX12 "readTastes" "[I" ∈ zq_tb := zq_in6 (i := 5) rfl rfl
theorem zw_1207 : Cond.lays RX12 RX12 "readGuests" "I" ∈ zq_tb := zq_in6 (i := 7) rfl rfl
theorem zw_1209 : Cond.laysFinal RX12 RX12 "readDeserts" "[I" ∈ zq_tb := zq_in6 (i := 9) rfl rfl
theorem zw_1211 : Cond.laysFinal RX12 RX12 "code" "[I" ∈ zq_tb := zq_in6 (i := 11) rfl rfl
theorem zw_1213 : Cond.laysFinal RX12 RX12 "readCode" "[I" ∈ zq_tb := zq_in6 (i := 13) rfl rfl
theorem zw_1215 : Cond.lays RX12 RX12 "codeLong" "I" ∈ zq_tb := zq_in6 (i := 15) rfl rfl
theorem zw_1217 : Cond.lays RX12 RX12 "readLong" "I" ∈ zq_tb := zq_in6 (i := 17) rfl rfl
theorem zw_1219 : Cond.laysFinal RX12 RX12 "stack" "[I" ∈ zq_tb := zq_in6 (i := 19) rfl rfl
theorem zw_1221 : Cond.laysFinal RX12 RX12 "asked" "[I" ∈ zq_tb := zq_in6 (i := 21) rfl rfl
theorem zw_1223 : Cond.laysFinal RX12 RX12 "table" "[I" ∈ zq_tb := zq_in6 (i := 23) rfl rfl
theorem zw_1225 : Cond.laysFinal RX12 RX12 "whole" "[I" ∈ zq_tb := zq_in6 (i := 25) rfl rfl
theorem zw_1227 : Cond.lays RX12 RX12 "undos" "I" ∈ zq_tb := zq_in6 (i := 27) rfl rfl
theorem zw_1229 : Cond.laysFinal RX12 RX12 "undone" "[I" ∈ zq_tb := zq_in6 (i := 29) rfl rfl
theorem zw_1231 : Cond.laysFinal RX12 RX12 "actSign" "[I" ∈ zq_tb := zq_in6 (i := 31) rfl rfl
theorem zw_1233 : Cond.laysFinal RX12 RX12 "actOne" "[I" ∈ zq_tb := zq_in6 (i := 33) rfl rfl
theorem zw_1235 : Cond.laysFinal RX12 RX12 "actFrom" "[I" ∈ zq_tb := zq_in6 (i := 35) rfl rfl
theorem zw_1237 : Cond.laysFinal RX12 RX12 "actLast" "[I" ∈ zq_tb := zq_in6 (i := 37) rfl rfl
theorem zw_1239 : Cond.lays RX12 RX12 "acts" "I" ∈ zq_tb := zq_in6 (i := 39) rfl rfl
theorem zw_1241 : Cond.laysFinal RX12 RX12 "turn" "[I" ∈ zq_tb := zq_in6 (i := 41) rfl rfl
theorem zw_1243 : Cond.laysFinal RX12 RX12 "bestTurn" "[I" ∈ zq_tb := zq_in6 (i := 43) rfl rfl
theorem zw_1245 : Cond.lays RX12 RX12 "bestCells" "I" ∈ zq_tb := zq_in6 (i := 45) rfl rfl
theorem zw_1247 : Cond.laysFinal RX12 RX12 "partEnd" "[I" ∈ zq_tb := zq_in6 (i := 47) rfl rfl
theorem zw_1249 : Cond.laysFinal RX12 RX12 "bestEnd" "[I" ∈ zq_tb := zq_in6 (i := 49) rfl rfl
theorem zw_1251 : Cond.lays RX12 RX12 "bestLeast" "I" ∈ zq_tb := zq_in6 (i := 51) rfl rfl
theorem zw_1253 : Cond.laysFinal RX12 RX12 "whose" "[I" ∈ zq_tb := zq_in6 (i := 53) rfl rfl
theorem zw_1255 : Cond.laysFinal RX12 RX12 "firstWhose" "[I" ∈ zq_tb := zq_in6 (i := 55) rfl rfl
theorem zw_1257 : Cond.laysFinal RX12 RX12 "sliceWorth" "[I" ∈ zq_tb := zq_in6 (i := 57) rfl rfl
theorem zw_1259 : Cond.lays RX12 RX12 "calmMany" "I" ∈ zq_tb := zq_in6 (i := 59) rfl rfl
theorem zw_1261 : Cond.laysFinal RX12 RX12 "turns" "[I" ∈ zq_tb := zq_in6 (i := 61) rfl rfl
theorem zw_1263 : Cond.lays RX12 RX12 "turnMany" "I" ∈ zq_tb := zq_in6 (i := 63) rfl rfl
theorem zw_1265 : Cond.lays RX12 RX12 "taken" "I" ∈ zq_tb := zq_in6 (i := 65) rfl rfl
theorem zw_1267 : Cond.laysFinal RX12 RX12 "picks" "[I" ∈ zq_tb := zq_in6 (i := 67) rfl rfl
theorem zw_1269 : Cond.laysFinal RX12 RX12 "has" "[I" ∈ zq_tb := zq_in6 (i := 69) rfl rfl
theorem zw_1271 : Cond.lays RX12 RX12 "choices" "I" ∈ zq_tb := zq_in6 (i := 71) rfl rfl
theorem zw_1273 : Cond.laysFinal RX12 RX12 "choseOne" "[I" ∈ zq_tb := zq_in6 (i := 73) rfl rfl
theorem zw_1275 : Cond.laysFinal RX12 RX12 "choseOther" "[I" ∈ zq_tb := zq_in6 (i := 75) rfl rfl
theorem zw_1277 : Cond.laysFinal RX12 RX12 "thought" "[I" ∈ zq_tb := zq_in6 (i := 77) rfl rfl
theorem zw_1279 : Cond.laysFinal RX12 RX12 "byFirst" "[I" ∈ zq_tb := zq_in6 (i := 79) rfl rfl
theorem zw_1281 : Cond.laysFinal RX12 RX12 "bySecond" "[I" ∈ zq_tb := zq_in6 (i := 81) rfl rfl
theorem zw_1283 : Cond.laysFinal RX12 RX12 "claimWho" "[I" ∈ zq_tb := zq_in6 (i := 83) rfl rfl
theorem zw_1285 : Cond.laysFinal RX12 RX12 "claimed" "[I" ∈ zq_tb := zq_in6 (i := 85) rfl rfl
theorem zw_1287 : Cond.lays RX12 RX12 "up" "J" ∈ zq_tb := zq_in6 (i := 87) rfl rfl
theorem zw_1289 : Cond.lays RX12 RX12 "down" "J" ∈ zq_tb := zq_in6 (i := 89) rfl rfl
theorem zw_1291 : Cond.laysFinal RX12 RX12 "hadAll" "[I" ∈ zq_tb := zq_in6 (i := 91) rfl rfl
theorem zw_1293 : Cond.laysFinal RX12 RX12 "isKept" "[Z" ∈ zq_tb := zq_in6 (i := 93) rfl rfl
theorem zw_1295 : Cond.laysFinal RX12 RX12 "keptLoaves" "[I" ∈ zq_tb := zq_in6 (i := 95) rfl rfl
theorem zw_1297 : Cond.laysFinal RX12 RX12 "kept" "[I" ∈ zq_tb := zq_in6 (i := 97) rfl rfl
theorem zF12_in : ∀ w ∈ u_ws RX12 TX12 67, w ∈ zq_tb := by
  intro w hw
  obtain ⟨k, hk, rfl⟩ := List.mem_map.mp hw
  have hk := List.mem_range.mp hk
  match k, hk with
  | 0, _ => exact zw_1165
  | 1, _ => exact zw_1167
  | 2, _ => exact zw_1169
  | 3, _ => exact zw_1171
  | 4, _ => exact zw_1173
  | 5, _ => exact zw_1175
  | 6, _ => exact zw_1177
  | 7, _ => exact zw_1179
  | 8, _ => exact zw_1181
  | 9, _ => exact zw_1183
  | 10, _ => exact zw_1185
  | 11, _ => exact zw_1187
  | 12, _ => exact zw_1189
  | 13, _ => exact zw_1191
  | 14, _ => exact zw_1193
  | 15, _ => exact zw_1195
  | 16, _ => exact zw_1197
  | 17, _ => exact zw_1199
  | 18, _ => exact zw_1201
  | 19, _ => exact zw_1203
  | 20, _ => exact zw_1205
  | 21, _ => exact zw_1207
  | 22, _ => exact zw_1209
  | 23, _ => exact zw_1211
  | 24, _ => exact zw_1213
  | 25, _ => exact zw_1215
  | 26, _ => exact zw_1217
  | 27, _ => exact zw_1219
  | 28, _ => exact zw_1221
  | 29, _ => exact zw_1223
  | 30, _ => exact zw_1225
  | 31, _ => exact zw_1227
  | 32, _ => exact zw_1229
  | 33, _ => exact zw_1231
  | 34, _ => exact zw_1233
  | 35, _ => exact zw_1235
  | 36, _ => exact zw_1237
  | 37, _ => exact zw_1239
  | 38, _ => exact zw_1241
  | 39, _ => exact zw_1243
  | 40, _ => exact zw_1245
  | 41, _ => exact zw_1247
  | 42, _ => exact zw_1249
  | 43, _ => exact zw_1251
  | 44, _ => exact zw_1253
  | 45, _ => exact zw_1255
  | 46, _ => exact zw_1257
  | 47, _ => exact zw_1259
  | 48, _ => exact zw_1261
  | 49, _ => exact zw_1263
  | 50, _ => exact zw_1265
  | 51, _ => exact zw_1267
  | 52, _ => exact zw_1269
  | 53, _ => exact zw_1271
  | 54, _ => exact zw_1273
  | 55, _ => exact zw_1275
  | 56, _ => exact zw_1277
  | 57, _ => exact zw_1279
  | 58, _ => exact zw_1281
  | 59, _ => exact zw_1283
  | 60, _ => exact zw_1285
  | 61, _ => exact zw_1287
  | 62, _ => exact zw_1289
  | 63, _ => exact zw_1291
  | 64, _ => exact zw_1293
  | 65, _ => exact zw_1295
  | 66, _ => exact zw_1297
  | k + 67, hk => exact absurd hk (by omega)
theorem zF12 : zq_F 12 RX12 TX12 67 := ⟨rfl, zF12_in, ⟨tyX12, tyX12_ok⟩, nmX12, by decide +kernel⟩
theorem zw_1 : Cond.initialized RX11 ∈ zq_tb := zq_in1 (i := 1) rfl rfl
theorem zw_2 : Cond.initialized RX8 ∈ zq_tb := zq_in1 (i := 2) rfl rfl
theorem zw_3 : Cond.initialized RX5 ∈ zq_tb := zq_in1 (i := 3) rfl rfl
theorem zw_4 : Cond.initialized RX3 ∈ zq_tb := zq_in1 (i := 4) rfl rfl
theorem zw_5 : Cond.initialized RX10 ∈ zq_tb := zq_in1 (i := 5) rfl rfl
theorem zw_6 : Cond.initialized RX0 ∈ zq_tb := zq_in1 (i := 6) rfl rfl
theorem zw_7 : Cond.initialized RX1 ∈ zq_tb := zq_in1 (i := 7) rfl rfl
theorem zw_8 : Cond.initialized RX4 ∈ zq_tb := zq_in1 (i := 8) rfl rfl
theorem zw_9 : Cond.initialized RX7 ∈ zq_tb := zq_in1 (i := 9) rfl rfl
theorem zw_10 : Cond.initialized RX9 ∈ zq_tb := zq_in1 (i := 10) rfl rfl
theorem zw_11 : Cond.initialized RX2 ∈ zq_tb := zq_in1 (i := 11) rfl rfl
theorem zw_12 : Cond.initialized RX6 ∈ zq_tb := zq_in1 (i := 12) rfl rfl
theorem zw_13 : Cond.initialized RX12 ∈ zq_tb := zq_in1 (i := 13) rfl rfl
theorem zw_14 : Cond.initialized RJ9 ∈ zq_tb := zq_in1 (i := 14) rfl rfl
theorem zw_19 : Cond.initialized RJ7 ∈ zq_tb := zq_in1 (i := 19) rfl rfl
theorem zw_24 : Cond.initialized "java/lang/System" ∈ zq_tb := zq_in1 (i := 24) rfl rfl
theorem zw_25 : Cond.initialized RJ6 ∈ zq_tb := zq_in1 (i := 25) rfl rfl
theorem zw_40 : Cond.fieldLink RX8 11 RX8 "signs" "[I" ∈ zq_tb := zq_in1 (i := 40) rfl rfl
theorem zw_41 : Cond.fieldLink RX8 15 RX8 "size" "I" ∈ zq_tb := zq_in1 (i := 41) rfl rfl
theorem zw_42 : Cond.fieldLinkNest RX11 379 RX8 "size" "I" "ToOneCrumb" ∈ zq_nw := zq_iN1 (i := 42) rfl rfl
theorem zw_43 : Cond.fieldLink RX8 28 RX8 "stop" "I" ∈ zq_tb := zq_in1 (i := 43) rfl rfl
theorem zw_44 : Cond.fieldLink RX8 19 RX8 "place" "I" ∈ zq_tb := zq_in1 (i := 44) rfl rfl
theorem zw_61 : Cond.fieldLink RX5 9 RX5 "numbers" "[J" ∈ zq_tb := zq_in1 (i := 61) rfl rfl
theorem zw_62 : Cond.fieldLinkNest RX11 382 RX5 "numbers" "[J" "ToOneCrumb" ∈ zq_nw := zq_iN1 (i := 62) rfl rfl
theorem zw_63 : Cond.fieldLink RX5 15 RX5 "size" "I" ∈ zq_tb := zq_in1 (i := 63) rfl rfl
theorem zw_64 : Cond.fieldLinkNest RX11 378 RX5 "size" "I" "ToOneCrumb" ∈ zq_nw := zq_iN1 (i := 64) rfl rfl
theorem zw_77 : Cond.fieldLink RX3 9 RX3 "likes" "[I" ∈ zq_tb := zq_in1 (i := 77) rfl rfl
theorem zw_78 : Cond.fieldLinkNest RX10 30 RX3 "likes" "[I" "ToOneCrumb" ∈ zq_nw := zq_iN1 (i := 78) rfl rfl
theorem zw_79 : Cond.fieldLinkNest RX11 200 RX3 "likes" "[I" "ToOneCrumb" ∈ zq_nw := zq_iN1 (i := 79) rfl rfl
theorem zw_80 : Cond.fieldLink RX3 15 RX3 "deserts" "[I" ∈ zq_tb := zq_in1 (i := 80) rfl rfl
theorem zw_81 : Cond.fieldLinkNest RX11 178 RX3 "deserts" "[I" "ToOneCrumb" ∈ zq_nw := zq_iN1 (i := 81) rfl rfl
theorem zw_82 : Cond.fieldLink RX3 18 RX3 "earned" "[I" ∈ zq_tb := zq_in1 (i := 82) rfl rfl
theorem zw_83 : Cond.fieldLinkNest RX10 25 RX3 "size" "I" "ToOneCrumb" ∈ zq_nw := zq_iN1 (i := 83) rfl rfl
theorem zw_84 : Cond.fieldLink RX3 31 RX3 "size" "I" ∈ zq_tb := zq_in1 (i := 84) rfl rfl
theorem zw_85 : Cond.fieldLinkNest RX11 245 RX3 "size" "I" "ToOneCrumb" ∈ zq_nw := zq_iN1 (i := 85) rfl rfl
theorem zw_101 : Cond.fieldLink RX10 9 RX10 "each" "[I" ∈ zq_tb := zq_in1 (i := 101) rfl rfl
theorem zw_102 : Cond.fieldLinkNest RX9 39 RX10 "each" "[I" "ToOneCrumb" ∈ zq_nw := zq_iN1 (i := 102) rfl rfl
theorem zw_103 : Cond.fieldLink RX10 15 RX10 "ahead" "[I" ∈ zq_tb := zq_in1 (i := 103) rfl rfl
theorem zw_104 : Cond.fieldLink RX10 24 RX10 "cells" "I" ∈ zq_tb := zq_in1 (i := 104) rfl rfl
theorem zw_105 : Cond.fieldLinkNest RX9 56 RX10 "cells" "I" "ToOneCrumb" ∈ zq_nw := zq_iN1 (i := 105) rfl rfl
theorem zw_119 : Cond.fieldLink RX0 11 RX0 "past" "[J" ∈ zq_tb := zq_in1 (i := 119) rfl rfl
theorem zw_120 : Cond.fieldLink RX0 15 RX0 "kept" "[J" ∈ zq_tb := zq_in1 (i := 120) rfl rfl
theorem zw_121 : Cond.fieldLink RX0 18 RX0 "holders" "J" ∈ zq_tb := zq_in1 (i := 121) rfl rfl
theorem zw_122 : Cond.fieldLinkNest RX11 206 RX0 "holders" "J" "ToOneCrumb" ∈ zq_nw := zq_iN1 (i := 122) rfl rfl
theorem zw_123 : Cond.fieldLink RX0 26 RX0 "pasts" "I" ∈ zq_tb := zq_in1 (i := 123) rfl rfl
theorem zw_124 : Cond.fieldLinkNest RX11 375 RX0 "pasts" "I" "ToOneCrumb" ∈ zq_nw := zq_iN1 (i := 124) rfl rfl
theorem zw_125 : Cond.fieldLink RX0 30 RX0 "whichKept" "I" ∈ zq_tb := zq_in1 (i := 125) rfl rfl
theorem zw_143 : Cond.fieldLink RX1 11 RX1 "taken" "[I" ∈ zq_tb := zq_in1 (i := 143) rfl rfl
theorem zw_144 : Cond.fieldLink RX1 15 RX1 "left" "[I" ∈ zq_tb := zq_in1 (i := 144) rfl rfl
theorem zw_145 : Cond.fieldLink RX1 18 RX1 "tried" "[I" ∈ zq_tb := zq_in1 (i := 145) rfl rfl
theorem zw_146 : Cond.fieldLink RX1 21 RX1 "leastTastes" "[I" ∈ zq_tb := zq_in1 (i := 146) rfl rfl
theorem zw_147 : Cond.fieldLinkNest RX11 316 RX1 "leastTastes" "[I" "ToOneCrumb" ∈ zq_nw := zq_iN1 (i := 147) rfl rfl
theorem zw_148 : Cond.fieldLink RX1 24 RX1 "asked" "[I" ∈ zq_tb := zq_in1 (i := 148) rfl rfl
theorem zw_149 : Cond.fieldLink RX1 27 RX1 "noLess" "[I" ∈ zq_tb := zq_in1 (i := 149) rfl rfl
theorem zw_150 : Cond.fieldLink RX1 69 RX1 "known" "I" ∈ zq_tb := zq_in1 (i := 150) rfl rfl
theorem zw_151 : Cond.fieldLink RX1 30 RX1 "size" "I" ∈ zq_tb := zq_in1 (i := 151) rfl rfl
theorem zw_152 : Cond.fieldLinkNest RX11 123 RX1 "size" "I" "ToOneCrumb" ∈ zq_nw := zq_iN1 (i := 152) rfl rfl
theorem zw_176 : Cond.fieldLink RX4 11 RX4 "who" "[I" ∈ zq_tb := zq_in1 (i := 176) rfl rfl
theorem zw_177 : Cond.fieldLink RX4 15 RX4 "times" "[J" ∈ zq_tb := zq_in1 (i := 177) rfl rfl
theorem zw_178 : Cond.fieldLink RX4 19 RX4 "need" "[J" ∈ zq_tb := zq_in1 (i := 178) rfl rfl
theorem zw_179 : Cond.fieldLink RX4 22 RX4 "reach" "[I" ∈ zq_tb := zq_in1 (i := 179) rfl rfl
theorem zw_180 : Cond.fieldLink RX4 25 RX4 "least" "[I" ∈ zq_tb := zq_in1 (i := 180) rfl rfl
theorem zw_181 : Cond.fieldLinkNest RX11 272 RX4 "least" "[I" "ToOneCrumb" ∈ zq_nw := zq_iN1 (i := 181) rfl rfl
theorem zw_182 : Cond.fieldLink RX4 28 RX4 "order" "[I" ∈ zq_tb := zq_in1 (i := 182) rfl rfl
theorem zw_183 : Cond.fieldLink RX4 31 RX4 "members" "I" ∈ zq_tb := zq_in1 (i := 183) rfl rfl
theorem zw_184 : Cond.fieldLinkNest RX11 335 RX4 "members" "I" "ToOneCrumb" ∈ zq_nw := zq_iN1 (i := 184) rfl rfl
theorem zw_185 : Cond.fieldLink RX4 35 RX4 "cells" "I" ∈ zq_tb := zq_in1 (i := 185) rfl rfl
theorem zw_209 : Cond.fieldLink RX7 9 RX7 "starts" "[I" ∈ zq_tb := zq_in1 (i := 209) rfl rfl
theorem zw_210 : Cond.fieldLink RX7 15 RX7 "stops" "[I" ∈ zq_tb := zq_in1 (i := 210) rfl rfl
theorem zw_211 : Cond.fieldLink RX7 18 RX7 "owners" "[I" ∈ zq_tb := zq_in1 (i := 211) rfl rfl
theorem zw_212 : Cond.fieldLink RX7 21 RX7 "best" "[I" ∈ zq_tb := zq_in1 (i := 212) rfl rfl
theorem zw_213 : Cond.fieldLink RX7 24 RX7 "worths" "LToOneCrumb$Worths;" ∈ zq_tb := zq_in1 (i := 213) rfl rfl
theorem zw_214 : Cond.fieldLink RX7 34 RX7 "guests" "I" ∈ zq_tb := zq_in1 (i := 214) rfl rfl
theorem zw_215 : Cond.fieldLink RX7 38 RX7 "cells" "I" ∈ zq_tb := zq_in1 (i := 215) rfl rfl
theorem zw_216 : Cond.fieldLink RX7 41 RX7 "found" "I" ∈ zq_tb := zq_in1 (i := 216) rfl rfl
theorem zw_240 : Cond.fieldLink RX9 9 RX9 "whose" "[I" ∈ zq_tb := zq_in2 (i := 0) rfl rfl
theorem zw_241 : Cond.fieldLinkNest RX11 366 RX9 "whose" "[I" "ToOneCrumb" ∈ zq_nw := zq_iN2 (i := 1) rfl rfl
theorem zw_242 : Cond.fieldLink RX9 15 RX9 "told" "[I" ∈ zq_tb := zq_in2 (i := 2) rfl rfl
theorem zw_243 : Cond.fieldLinkNest RX11 420 RX9 "told" "[I" "ToOneCrumb" ∈ zq_nw := zq_iN2 (i := 3) rfl rfl
theorem zw_244 : Cond.fieldLink RX9 18 RX9 "has" "[I" ∈ zq_tb := zq_in2 (i := 4) rfl rfl
theorem zw_245 : Cond.fieldLinkNest RX11 303 RX9 "has" "[I" "ToOneCrumb" ∈ zq_nw := zq_iN2 (i := 5) rfl rfl
theorem zw_246 : Cond.fieldLink RX9 27 RX9 "size" "I" ∈ zq_tb := zq_in2 (i := 6) rfl rfl
theorem zw_247 : Cond.fieldLinkNest RX11 364 RX9 "size" "I" "ToOneCrumb" ∈ zq_nw := zq_iN2 (i := 7) rfl rfl
theorem zw_263 : Cond.fieldLink RX2 9 RX2 "crumbs" "[I" ∈ zq_tb := zq_in2 (i := 23) rfl rfl
theorem zw_264 : Cond.fieldLinkNest RX11 161 RX2 "crumbs" "[I" "ToOneCrumb" ∈ zq_nw := zq_iN2 (i := 24) rfl rfl
theorem zw_265 : Cond.fieldLinkNest RX6 88 RX2 "crumbs" "[I" "ToOneCrumb" ∈ zq_nw := zq_iN2 (i := 25) rfl rfl
theorem zw_266 : Cond.fieldLink RX2 15 RX2 "raisins" "[I" ∈ zq_tb := zq_in2 (i := 26) rfl rfl
theorem zw_267 : Cond.fieldLinkNest RX11 164 RX2 "raisins" "[I" "ToOneCrumb" ∈ zq_nw := zq_iN2 (i := 27) rfl rfl
theorem zw_268 : Cond.fieldLinkNest RX6 93 RX2 "raisins" "[I" "ToOneCrumb" ∈ zq_nw := zq_iN2 (i := 28) rfl rfl
theorem zw_269 : Cond.fieldLink RX2 18 RX2 "crust" "[I" ∈ zq_tb := zq_in2 (i := 29) rfl rfl
theorem zw_270 : Cond.fieldLinkNest RX11 167 RX2 "crust" "[I" "ToOneCrumb" ∈ zq_nw := zq_iN2 (i := 30) rfl rfl
theorem zw_271 : Cond.fieldLinkNest RX6 96 RX2 "crust" "[I" "ToOneCrumb" ∈ zq_nw := zq_iN2 (i := 31) rfl rfl
theorem zw_272 : Cond.fieldLinkNest RX10 18 RX2 "cells" "I" "ToOneCrumb" ∈ zq_nw := zq_iN2 (i := 32) rfl rfl
theorem zw_273 : Cond.fieldLink RX2 27 RX2 "cells" "I" ∈ zq_tb := zq_in2 (i := 33) rfl rfl
theorem zw_274 : Cond.fieldLinkNest RX1 50 RX2 "cells" "I" "ToOneCrumb" ∈ zq_nw := zq_iN2 (i := 34) rfl rfl
theorem zw_275 : Cond.fieldLinkNest RX11 130 RX2 "cells" "I" "ToOneCrumb" ∈ zq_nw := zq_iN2 (i := 35) rfl rfl
theorem zw_276 : Cond.fieldLinkNest RX6 114 RX2 "cells" "I" "ToOneCrumb" ∈ zq_nw := zq_iN2 (i := 36) rfl rfl
theorem zw_292 : Cond.fieldLink RX6 11 RX6 "steps" "[I" ∈ zq_tb := zq_in2 (i := 52) rfl rfl
theorem zw_293 : Cond.fieldLink RX6 15 RX6 "waiting" "[I" ∈ zq_tb := zq_in2 (i := 53) rfl rfl
theorem zw_294 : Cond.fieldLink RX6 18 RX6 "values" "[I" ∈ zq_tb := zq_in2 (i := 54) rfl rfl
theorem zw_295 : Cond.fieldLink RX6 21 RX6 "size" "I" ∈ zq_tb := zq_in2 (i := 55) rfl rfl
theorem zw_296 : Cond.fieldLink RX6 25 RX6 "waits" "I" ∈ zq_tb := zq_in2 (i := 56) rfl rfl
theorem zw_297 : Cond.fieldLink RX6 28 RX6 "depth" "I" ∈ zq_tb := zq_in2 (i := 57) rfl rfl
theorem zw_298 : Cond.fieldLink RX6 31 RX6 "compared" "I" ∈ zq_tb := zq_in2 (i := 58) rfl rfl
theorem zw_299 : Cond.fieldLink RX6 34 RX6 "wantsThing" "Z" ∈ zq_tb := zq_in2 (i := 59) rfl rfl
theorem zw_317 : Cond.fieldLink RX11 10 RX11 "text" "LToOneCrumb$Text;" ∈ zq_tb := zq_in2 (i := 77) rfl rfl
theorem zw_318 : Cond.fieldLink RX11 19 RX11 "row" "LToOneCrumb$Row;" ∈ zq_tb := zq_in2 (i := 78) rfl rfl
theorem zw_319 : Cond.fieldLink RX11 26 RX11 "party" "LToOneCrumb$Party;" ∈ zq_tb := zq_in2 (i := 79) rfl rfl
theorem zw_320 : Cond.fieldLink RX11 33 RX11 "worths" "LToOneCrumb$Worths;" ∈ zq_tb := zq_in2 (i := 80) rfl rfl
theorem zw_321 : Cond.fieldLink RX11 40 RX11 "board" "LToOneCrumb$Board;" ∈ zq_tb := zq_in2 (i := 81) rfl rfl
theorem zw_322 : Cond.fieldLink RX11 47 RX11 "choices" "LToOneCrumb$Choices;" ∈ zq_tb := zq_in2 (i := 82) rfl rfl
theorem zw_323 : Cond.fieldLink RX11 54 RX11 "placing" "LToOneCrumb$Placing;" ∈ zq_tb := zq_in2 (i := 83) rfl rfl
theorem zw_324 : Cond.fieldLink RX11 63 RX11 "seating" "LToOneCrumb$Seating;" ∈ zq_tb := zq_in2 (i := 84) rfl rfl
theorem zw_325 : Cond.fieldLink RX11 70 RX11 "turns" "LToOneCrumb$Turns;" ∈ zq_tb := zq_in2 (i := 85) rfl rfl
theorem zw_326 : Cond.fieldLink RX11 74 RX11 "acts" "[I" ∈ zq_tb := zq_in2 (i := 86) rfl rfl
theorem zw_327 : Cond.fieldLink RX11 78 RX11 "leasts" "[I" ∈ zq_tb := zq_in2 (i := 87) rfl rfl
theorem zw_328 : Cond.fieldLink RX11 84 RX11 "bread" "LToOneCrumb$Loaf;" ∈ zq_tb := zq_in2 (i := 88) rfl rfl
theorem zw_329 : Cond.fieldLink RX11 88 RX11 "dough" "LToOneCrumb$Loaf;" ∈ zq_tb := zq_in2 (i := 89) rfl rfl
theorem zw_330 : Cond.fieldLink RX11 94 RX11 "law" "LToOneCrumb$Rule;" ∈ zq_tb := zq_in2 (i := 90) rfl rfl
theorem zw_331 : Cond.fieldLink RX11 98 RX11 "bill" "LToOneCrumb$Rule;" ∈ zq_tb := zq_in2 (i := 91) rfl rfl
theorem zw_332 : Cond.fieldLink RX11 228 RX11 "actCount" "I" ∈ zq_tb := zq_in2 (i := 92) rfl rfl
theorem zw_369 : Cond.code yX11_sign cX11_sign 2 (some .int) ∈ zq_tb := zq_in2 (i := 129) rfl rfl
theorem zw_370 : Cond.methodLink RX11 101 yX8_addFour ∈ zq_tb := zq_in2 (i := 130) rfl rfl
theorem zw_371 : Cond.instanceMethod yX8_addFour ∈ zq_tb := zq_in2 (i := 131) rfl rfl
theorem zw_372 : Cond.selects RX8 yX8_addFour yX8_addFour ∈ zq_tb := zq_in2 (i := 132) rfl rfl
theorem zw_373 : Cond.code yX8_addFour cX8_addFour 3 (some .int) ∈ zq_tb := zq_in2 (i := 133) rfl rfl
theorem zw_377 : Cond.code yX11_end cX11_end 2 (some .boolean) ∈ zq_tb := zq_in2 (i := 137) rfl rfl
theorem zw_378 : Cond.methodLink RX11 105 yX8_shorten ∈ zq_tb := zq_in2 (i := 138) rfl rfl
theorem zw_379 : Cond.instanceMethod yX8_shorten ∈ zq_tb := zq_in2 (i := 139) rfl rfl
theorem zw_380 : Cond.selects RX8 yX8_shorten yX8_shorten ∈ zq_tb := zq_in2 (i := 140) rfl rfl
theorem zw_381 : Cond.code yX8_shorten cX8_shorten 2 (some .boolean) ∈ zq_tb := zq_in2 (i := 141) rfl rfl
theorem zw_385 : Cond.code yX11_loaf cX11_loaf 3 (some .int) ∈ zq_tb := zq_in2 (i := 145) rfl rfl
theorem zw_386 : Cond.methodLink RX11 109 yX2_read ∈ zq_tb := zq_in2 (i := 146) rfl rfl
theorem zw_387 : Cond.instanceMethod yX2_read ∈ zq_tb := zq_in2 (i := 147) rfl rfl
theorem zw_388 : Cond.selects RX2 yX2_read yX2_read ∈ zq_tb := zq_in2 (i := 148) rfl rfl
theorem zw_389 : Cond.code yX2_read cX2_read 4 (some .boolean) ∈ zq_tb := zq_in2 (i := 149) rfl rfl
theorem zw_390 : Cond.methodLink RX2 21 yX8_start ∈ zq_tb := zq_in2 (i := 150) rfl rfl
theorem zw_391 : Cond.instanceMethod yX8_start ∈ zq_tb := zq_in2 (i := 151) rfl rfl
theorem zw_392 : Cond.selects RX8 yX8_start yX8_start ∈ zq_tb := zq_in2 (i := 152) rfl rfl
theorem zw_393 : Cond.code yX8_start cX8_start 2 none ∈ zq_tb := zq_in2 (i := 153) rfl rfl
theorem zw_394 : Cond.methodLink RX8 22 yJ9_min_7cf53 ∈ zq_tb := zq_in2 (i := 154) rfl rfl
theorem zw_395 : Cond.static yJ9_min_7cf53 ∈ zq_tb := zq_in2 (i := 155) rfl rfl
theorem zw_396 : Cond.code yJ9_min_7cf53 cJ9_min_7cf53 2 (some .int) ∈ zq_tb := zq_in2 (i := 156) rfl rfl
theorem zw_397 : Cond.methodLink RX2 31 yX8_isFinished ∈ zq_tb := zq_in2 (i := 157) rfl rfl
theorem zw_398 : Cond.instanceMethod yX8_isFinished ∈ zq_tb := zq_in2 (i := 158) rfl rfl
theorem zw_399 : Cond.selects RX8 yX8_isFinished yX8_isFinished ∈ zq_tb := zq_in2 (i := 159) rfl rfl
theorem zw_400 : Cond.code yX8_isFinished cX8_isFinished 1 (some .boolean) ∈ zq_tb := zq_in2 (i := 160) rfl rfl
theorem zw_401 : Cond.methodLink RX2 35 yX8_takeDigit ∈ zq_tb := zq_in2 (i := 161) rfl rfl
theorem zw_402 : Cond.instanceMethod yX8_takeDigit ∈ zq_tb := zq_in2 (i := 162) rfl rfl
theorem zw_403 : Cond.selects RX8 yX8_takeDigit yX8_takeDigit ∈ zq_tb := zq_in2 (i := 163) rfl rfl
theorem zw_404 : Cond.code yX8_takeDigit cX8_takeDigit 3 (some .int) ∈ zq_tb := zq_in2 (i := 164) rfl rfl
theorem zw_405 : Cond.methodLink RX8 31 yX8_next ∈ zq_tb := zq_in2 (i := 165) rfl rfl
theorem zw_406 : Cond.instanceMethod yX8_next ∈ zq_tb := zq_in2 (i := 166) rfl rfl
theorem zw_407 : Cond.selects RX8 yX8_next yX8_next ∈ zq_tb := zq_in2 (i := 167) rfl rfl
theorem zw_408 : Cond.code yX8_next cX8_next 1 (some .int) ∈ zq_tb := zq_in2 (i := 168) rfl rfl
theorem zw_409 : Cond.methodLink RX2 39 yX8_takeLetter ∈ zq_tb := zq_in2 (i := 169) rfl rfl
theorem zw_410 : Cond.instanceMethod yX8_takeLetter ∈ zq_tb := zq_in2 (i := 170) rfl rfl
theorem zw_411 : Cond.selects RX8 yX8_takeLetter yX8_takeLetter ∈ zq_tb := zq_in2 (i := 171) rfl rfl
theorem zw_412 : Cond.code yX8_takeLetter cX8_takeLetter 3 (some .int) ∈ zq_tb := zq_in2 (i := 172) rfl rfl
theorem zw_413 : Cond.methodLink RX2 42 yX8_skip ∈ zq_tb := zq_in2 (i := 173) rfl rfl
theorem zw_414 : Cond.instanceMethod yX8_skip ∈ zq_tb := zq_in2 (i := 174) rfl rfl
theorem zw_415 : Cond.selects RX8 yX8_skip yX8_skip ∈ zq_tb := zq_in2 (i := 175) rfl rfl
theorem zw_416 : Cond.code yX8_skip cX8_skip 2 (some .boolean) ∈ zq_tb := zq_in2 (i := 176) rfl rfl
theorem zw_417 : Cond.methodLink RX11 113 yX8_clear ∈ zq_tb := zq_in2 (i := 177) rfl rfl
theorem zw_418 : Cond.instanceMethod yX8_clear ∈ zq_tb := zq_in2 (i := 178) rfl rfl
theorem zw_419 : Cond.selects RX8 yX8_clear yX8_clear ∈ zq_tb := zq_in2 (i := 179) rfl rfl
theorem zw_420 : Cond.code yX8_clear cX8_clear 1 none ∈ zq_tb := zq_in2 (i := 180) rfl rfl
theorem zw_421 : Cond.methodLink RX11 116 yX8_fault ∈ zq_tb := zq_in2 (i := 181) rfl rfl
theorem zw_422 : Cond.instanceMethod yX8_fault ∈ zq_tb := zq_in2 (i := 182) rfl rfl
theorem zw_423 : Cond.selects RX8 yX8_fault yX8_fault ∈ zq_tb := zq_in2 (i := 183) rfl rfl
theorem zw_424 : Cond.code yX8_fault cX8_fault 1 (some .int) ∈ zq_tb := zq_in2 (i := 184) rfl rfl
theorem zw_428 : Cond.code yX0_startAnew cX0_startAnew 1 none ∈ zq_tb := zq_in2 (i := 188) rfl rfl
theorem zw_429 : Cond.methodLink RX11 127 yX11_renewWorths ∈ zq_tb := zq_in2 (i := 189) rfl rfl
theorem zw_431 : Cond.instanceMethod yX11_renewWorths ∈ zq_tb := zq_in2 (i := 191) rfl rfl
theorem zw_432 : Cond.code yX11_renewWorths cX11_renewWorths 1 none ∈ zq_tb := zq_in2 (i := 192) rfl rfl
theorem zw_433 : Cond.methodLink RX11 386 yX10_renew ∈ zq_tb := zq_in2 (i := 193) rfl rfl
theorem zw_434 : Cond.instanceMethod yX10_renew ∈ zq_tb := zq_in2 (i := 194) rfl rfl
theorem zw_435 : Cond.selects RX10 yX10_renew yX10_renew ∈ zq_tb := zq_in2 (i := 195) rfl rfl
theorem zw_436 : Cond.code yX10_renew cX10_renew 8 none ∈ zq_tb := zq_in2 (i := 196) rfl rfl
theorem zw_437 : Cond.methodLink RX10 33 yX6_worthOf ∈ zq_tb := zq_in2 (i := 197) rfl rfl
theorem zw_438 : Cond.instanceMethod yX6_worthOf ∈ zq_tb := zq_in2 (i := 198) rfl rfl
theorem zw_439 : Cond.selects RX6 yX6_worthOf yX6_worthOf ∈ zq_tb := zq_in2 (i := 199) rfl rfl
theorem zw_440 : Cond.code yX6_worthOf cX6_worthOf 7 (some .int) ∈ zq_tb := zq_in2 (i := 200) rfl rfl
theorem zw_441 : Cond.methodLink RX6 99 yX6_walk ∈ zq_tb := zq_in2 (i := 201) rfl rfl
theorem zw_443 : Cond.instanceMethod yX6_walk ∈ zq_tb := zq_in2 (i := 203) rfl rfl
theorem zw_444 : Cond.code yX6_walk cX6_walk 10 (some .int) ∈ zq_tb := zq_in2 (i := 204) rfl rfl
theorem zw_445 : Cond.methodLink RX6 79 yX6_strengthOf ∈ zq_tb := zq_in2 (i := 205) rfl rfl
theorem zw_446 : Cond.static yX6_strengthOf ∈ zq_tb := zq_in2 (i := 206) rfl rfl
theorem zw_447 : Cond.code yX6_strengthOf cX6_strengthOf 1 (some .int) ∈ zq_tb := zq_in2 (i := 207) rfl rfl
theorem zw_448 : Cond.methodLink RX6 106 yX6_valueOf ∈ zq_tb := zq_in2 (i := 208) rfl rfl
theorem zw_449 : Cond.static yX6_valueOf ∈ zq_tb := zq_in2 (i := 209) rfl rfl
theorem zw_450 : Cond.code yX6_valueOf cX6_valueOf 6 (some .int) ∈ zq_tb := zq_in2 (i := 210) rfl rfl
theorem zw_451 : Cond.methodLink RX6 110 yX6_joined ∈ zq_tb := zq_in2 (i := 211) rfl rfl
theorem zw_452 : Cond.static yX6_joined ∈ zq_tb := zq_in2 (i := 212) rfl rfl
theorem zw_453 : Cond.code yX6_joined cX6_joined 3 (some .int) ∈ zq_tb := zq_in2 (i := 213) rfl rfl
theorem zw_454 : Cond.methodLink RX6 103 yJ9_min_7cf53 ∈ zq_tb := zq_in2 (i := 214) rfl rfl
theorem zw_455 : Cond.methodLink RX6 82 yJ9_max_7cf53 ∈ zq_tb := zq_in2 (i := 215) rfl rfl
theorem zw_456 : Cond.static yJ9_max_7cf53 ∈ zq_tb := zq_in2 (i := 216) rfl rfl
theorem zw_457 : Cond.code yJ9_max_7cf53 cJ9_max_7cf53 2 (some .int) ∈ zq_tb := zq_in2 (i := 217) rfl rfl
theorem zw_461 : Cond.code yX11_guests cX11_guests 2 (some .int) ∈ zq_tb := zq_in2 (i := 221) rfl rfl
theorem zw_462 : Cond.methodLink RX11 133 yX3_readLines ∈ zq_tb := zq_in2 (i := 222) rfl rfl
theorem zw_463 : Cond.instanceMethod yX3_readLines ∈ zq_tb := zq_in2 (i := 223) rfl rfl
theorem zw_464 : Cond.selects RX3 yX3_readLines yX3_readLines ∈ zq_tb := zq_in2 (i := 224) rfl rfl
theorem zw_465 : Cond.code yX3_readLines cX3_readLines 5 (some .int) ∈ zq_tb := zq_in2 (i := 225) rfl rfl
theorem zw_466 : Cond.methodLink RX3 21 yX8_start ∈ zq_tb := zq_in2 (i := 226) rfl rfl
theorem zw_467 : Cond.methodLink RX3 27 yX8_isFinished ∈ zq_tb := zq_in2 (i := 227) rfl rfl
theorem zw_468 : Cond.methodLink RX3 35 yX8_takeDigit ∈ zq_tb := zq_in2 (i := 228) rfl rfl
theorem zw_469 : Cond.methodLink RX3 39 yX8_skip ∈ zq_tb := zq_in2 (i := 229) rfl rfl
theorem zw_470 : Cond.methodLink RX11 137 yX3_admit ∈ zq_tb := zq_in2 (i := 230) rfl rfl
theorem zw_471 : Cond.instanceMethod yX3_admit ∈ zq_tb := zq_in2 (i := 231) rfl rfl
theorem zw_472 : Cond.selects RX3 yX3_admit yX3_admit ∈ zq_tb := zq_in2 (i := 232) rfl rfl
theorem zw_473 : Cond.code yX3_admit cX3_admit 3 none ∈ zq_tb := zq_in2 (i := 233) rfl rfl
theorem zw_477 : Cond.code yX11_deeds cX11_deeds 2 (some .int) ∈ zq_tb := zq_in2 (i := 237) rfl rfl
theorem zw_478 : Cond.methodLink RX11 141 yX3_readDeeds ∈ zq_tb := zq_in2 (i := 238) rfl rfl
theorem zw_479 : Cond.instanceMethod yX3_readDeeds ∈ zq_tb := zq_in2 (i := 239) rfl rfl
theorem zw_480 : Cond.selects RX3 yX3_readDeeds yX3_readDeeds ∈ zq_tb := zq_in3 (i := 0) rfl rfl
theorem zw_481 : Cond.code yX3_readDeeds cX3_readDeeds 3 (some .boolean) ∈ zq_tb := zq_in3 (i := 1) rfl rfl
theorem zw_482 : Cond.methodLink RX3 43 yJ7_fill_53178 ∈ zq_tb := zq_in3 (i := 2) rfl rfl
theorem zw_483 : Cond.static yJ7_fill_53178 ∈ zq_tb := zq_in3 (i := 3) rfl rfl
theorem zw_484 : Cond.code yJ7_fill_53178 cJ7_fill_53178 4 none ∈ zq_tb := zq_in3 (i := 4) rfl rfl
theorem zw_485 : Cond.methodLink RX3 49 yX3_readDeed ∈ zq_tb := zq_in3 (i := 5) rfl rfl
theorem zw_487 : Cond.instanceMethod yX3_readDeed ∈ zq_tb := zq_in3 (i := 7) rfl rfl
theorem zw_488 : Cond.code yX3_readDeed cX3_readDeed 6 (some .boolean) ∈ zq_tb := zq_in3 (i := 8) rfl rfl
theorem zw_489 : Cond.methodLink RX3 53 yX8_next ∈ zq_tb := zq_in3 (i := 9) rfl rfl
theorem zw_490 : Cond.methodLink RX3 57 yX8_takeLetter ∈ zq_tb := zq_in3 (i := 10) rfl rfl
theorem zw_491 : Cond.methodLink RX11 144 yX3_judge ∈ zq_tb := zq_in3 (i := 11) rfl rfl
theorem zw_492 : Cond.instanceMethod yX3_judge ∈ zq_tb := zq_in3 (i := 12) rfl rfl
theorem zw_493 : Cond.selects RX3 yX3_judge yX3_judge ∈ zq_tb := zq_in3 (i := 13) rfl rfl
theorem zw_494 : Cond.code yX3_judge cX3_judge 2 none ∈ zq_tb := zq_in3 (i := 14) rfl rfl
theorem zw_495 : Cond.methodLink RX3 60 yJ9_max_7cf53 ∈ zq_tb := zq_in3 (i := 15) rfl rfl
theorem zw_496 : Cond.methodLink RX11 147 yX3_allDeserts ∈ zq_tb := zq_in3 (i := 16) rfl rfl
theorem zw_497 : Cond.instanceMethod yX3_allDeserts ∈ zq_tb := zq_in3 (i := 17) rfl rfl
theorem zw_498 : Cond.selects RX3 yX3_allDeserts yX3_allDeserts ∈ zq_tb := zq_in3 (i := 18) rfl rfl
theorem zw_499 : Cond.code yX3_allDeserts cX3_allDeserts 1 (some .int) ∈ zq_tb := zq_in3 (i := 19) rfl rfl
theorem zw_500 : Cond.methodLink RX3 66 yX3_desertsOf ∈ zq_tb := zq_in3 (i := 20) rfl rfl
theorem zw_501 : Cond.instanceMethod yX3_desertsOf ∈ zq_tb := zq_in3 (i := 21) rfl rfl
theorem zw_502 : Cond.selects RX3 yX3_desertsOf yX3_desertsOf ∈ zq_tb := zq_in3 (i := 22) rfl rfl
theorem zw_503 : Cond.code yX3_desertsOf cX3_desertsOf 4 (some .int) ∈ zq_tb := zq_in3 (i := 23) rfl rfl
theorem zw_507 : Cond.code yX11_rule cX11_rule 3 (some .int) ∈ zq_tb := zq_in3 (i := 27) rfl rfl
theorem zw_508 : Cond.methodLink RX11 150 yX6_read ∈ zq_tb := zq_in3 (i := 28) rfl rfl
theorem zw_509 : Cond.instanceMethod yX6_read ∈ zq_tb := zq_in3 (i := 29) rfl rfl
theorem zw_510 : Cond.selects RX6 yX6_read yX6_read ∈ zq_tb := zq_in3 (i := 30) rfl rfl
theorem zw_511 : Cond.code yX6_read cX6_read 4 (some .boolean) ∈ zq_tb := zq_in3 (i := 31) rfl rfl
theorem zw_512 : Cond.methodLink RX6 38 yX8_start ∈ zq_tb := zq_in3 (i := 32) rfl rfl
theorem zw_513 : Cond.methodLink RX6 44 yX8_isFinished ∈ zq_tb := zq_in3 (i := 33) rfl rfl
theorem zw_514 : Cond.methodLink RX6 48 yX8_next ∈ zq_tb := zq_in3 (i := 34) rfl rfl
theorem zw_515 : Cond.methodLink RX6 52 yX6_readThing ∈ zq_tb := zq_in3 (i := 35) rfl rfl
theorem zw_517 : Cond.instanceMethod yX6_readThing ∈ zq_tb := zq_in3 (i := 37) rfl rfl
theorem zw_518 : Cond.code yX6_readThing cX6_readThing 4 (some .boolean) ∈ zq_tb := zq_in3 (i := 38) rfl rfl
theorem zw_519 : Cond.methodLink RX6 62 yX8_takeNumber ∈ zq_tb := zq_in3 (i := 39) rfl rfl
theorem zw_520 : Cond.instanceMethod yX8_takeNumber ∈ zq_tb := zq_in3 (i := 40) rfl rfl
theorem zw_521 : Cond.selects RX8 yX8_takeNumber yX8_takeNumber ∈ zq_tb := zq_in3 (i := 41) rfl rfl
theorem zw_522 : Cond.code yX8_takeNumber cX8_takeNumber 5 (some .int) ∈ zq_tb := zq_in3 (i := 42) rfl rfl
theorem zw_523 : Cond.methodLink RX8 35 yX8_takeDigit ∈ zq_tb := zq_in3 (i := 43) rfl rfl
theorem zw_524 : Cond.methodLink RX6 66 yX6_addStep ∈ zq_tb := zq_in3 (i := 44) rfl rfl
theorem zw_526 : Cond.instanceMethod yX6_addStep ∈ zq_tb := zq_in3 (i := 46) rfl rfl
theorem zw_527 : Cond.code yX6_addStep cX6_addStep 2 none ∈ zq_tb := zq_in3 (i := 47) rfl rfl
theorem zw_528 : Cond.methodLink RX6 69 yX6_hold ∈ zq_tb := zq_in3 (i := 48) rfl rfl
theorem zw_530 : Cond.instanceMethod yX6_hold ∈ zq_tb := zq_in3 (i := 50) rfl rfl
theorem zw_531 : Cond.code yX6_hold cX6_hold 2 none ∈ zq_tb := zq_in3 (i := 51) rfl rfl
theorem zw_532 : Cond.methodLink RX6 72 yX6_isLetter ∈ zq_tb := zq_in3 (i := 52) rfl rfl
theorem zw_533 : Cond.static yX6_isLetter ∈ zq_tb := zq_in3 (i := 53) rfl rfl
theorem zw_534 : Cond.code yX6_isLetter cX6_isLetter 1 (some .boolean) ∈ zq_tb := zq_in3 (i := 54) rfl rfl
theorem zw_535 : Cond.methodLink RX6 76 yX8_skip ∈ zq_tb := zq_in3 (i := 55) rfl rfl
theorem zw_536 : Cond.methodLink RX6 56 yX6_readJoint ∈ zq_tb := zq_in3 (i := 56) rfl rfl
theorem zw_538 : Cond.instanceMethod yX6_readJoint ∈ zq_tb := zq_in3 (i := 58) rfl rfl
theorem zw_539 : Cond.code yX6_readJoint cX6_readJoint 4 (some .boolean) ∈ zq_tb := zq_in3 (i := 59) rfl rfl
theorem zw_540 : Cond.methodLink RX6 59 yX6_release ∈ zq_tb := zq_in3 (i := 60) rfl rfl
theorem zw_542 : Cond.instanceMethod yX6_release ∈ zq_tb := zq_in3 (i := 62) rfl rfl
theorem zw_543 : Cond.code yX6_release cX6_release 2 none ∈ zq_tb := zq_in3 (i := 63) rfl rfl
theorem zw_547 : Cond.code yX11_worth cX11_worth 3 (some .int) ∈ zq_tb := zq_in3 (i := 67) rfl rfl
theorem zw_548 : Cond.methodLink RX11 173 yX11_isGuest ∈ zq_tb := zq_in3 (i := 68) rfl rfl
theorem zw_550 : Cond.instanceMethod yX11_isGuest ∈ zq_tb := zq_in3 (i := 70) rfl rfl
theorem zw_551 : Cond.code yX11_isGuest cX11_isGuest 2 (some .boolean) ∈ zq_tb := zq_in3 (i := 71) rfl rfl
theorem zw_552 : Cond.methodLink RX11 151 yX11_isCell ∈ zq_tb := zq_in3 (i := 72) rfl rfl
theorem zw_554 : Cond.instanceMethod yX11_isCell ∈ zq_tb := zq_in3 (i := 74) rfl rfl
theorem zw_555 : Cond.code yX11_isCell cX11_isCell 2 (some .boolean) ∈ zq_tb := zq_in3 (i := 75) rfl rfl
theorem zw_556 : Cond.methodLink RX11 197 yX10_of ∈ zq_tb := zq_in3 (i := 76) rfl rfl
theorem zw_557 : Cond.instanceMethod yX10_of ∈ zq_tb := zq_in3 (i := 77) rfl rfl
theorem zw_558 : Cond.selects RX10 yX10_of yX10_of ∈ zq_tb := zq_in3 (i := 78) rfl rfl
theorem zw_559 : Cond.code yX10_of cX10_of 3 (some .int) ∈ zq_tb := zq_in3 (i := 79) rfl rfl
theorem zw_563 : Cond.code yX11_taste cX11_taste 5 (some .int) ∈ zq_tb := zq_in3 (i := 83) rfl rfl
theorem zw_564 : Cond.methodLink RX11 194 yX3_tasteOf ∈ zq_tb := zq_in3 (i := 84) rfl rfl
theorem zw_565 : Cond.instanceMethod yX3_tasteOf ∈ zq_tb := zq_in3 (i := 85) rfl rfl
theorem zw_566 : Cond.selects RX3 yX3_tasteOf yX3_tasteOf ∈ zq_tb := zq_in3 (i := 86) rfl rfl
theorem zw_567 : Cond.code yX3_tasteOf cX3_tasteOf 3 (some .int) ∈ zq_tb := zq_in3 (i := 87) rfl rfl
theorem zw_571 : Cond.code yX11_sheet cX11_sheet 9 (some .int) ∈ zq_tb := zq_in3 (i := 91) rfl rfl
theorem zw_572 : Cond.methodLink RX11 203 yX11_sheetEntry ∈ zq_tb := zq_in3 (i := 92) rfl rfl
theorem zw_573 : Cond.static yX11_sheetEntry ∈ zq_tb := zq_in3 (i := 93) rfl rfl
theorem zw_574 : Cond.code yX11_sheetEntry cX11_sheetEntry 3 (some .int) ∈ zq_tb := zq_in3 (i := 94) rfl rfl
theorem zw_575 : Cond.methodLink RX11 338 yJ9_min_7cf53 ∈ zq_tb := zq_in3 (i := 95) rfl rfl
theorem zw_576 : Cond.methodLink RX11 341 yJ9_max_7cf53 ∈ zq_tb := zq_in3 (i := 96) rfl rfl
theorem zw_580 : Cond.code yX11_give cX11_give 6 (some .int) ∈ zq_tb := zq_in3 (i := 100) rfl rfl
theorem zw_581 : Cond.methodLink RX11 210 yX11_giveSlice ∈ zq_tb := zq_in3 (i := 101) rfl rfl
theorem zw_583 : Cond.instanceMethod yX11_giveSlice ∈ zq_tb := zq_in3 (i := 103) rfl rfl
theorem zw_584 : Cond.code yX11_giveSlice cX11_giveSlice 5 (some .int) ∈ zq_tb := zq_in3 (i := 104) rfl rfl
theorem zw_585 : Cond.methodLink RX11 390 yX11_isSlice ∈ zq_tb := zq_in3 (i := 105) rfl rfl
theorem zw_587 : Cond.instanceMethod yX11_isSlice ∈ zq_tb := zq_in3 (i := 107) rfl rfl
theorem zw_588 : Cond.code yX11_isSlice cX11_isSlice 3 (some .boolean) ∈ zq_tb := zq_in3 (i := 108) rfl rfl
theorem zw_589 : Cond.methodLink RX11 170 yX0_holderOf ∈ zq_tb := zq_in3 (i := 109) rfl rfl
theorem zw_590 : Cond.instanceMethod yX0_holderOf ∈ zq_tb := zq_in3 (i := 110) rfl rfl
theorem zw_591 : Cond.selects RX0 yX0_holderOf yX0_holderOf ∈ zq_tb := zq_in3 (i := 111) rfl rfl
theorem zw_592 : Cond.code yX0_holderOf cX0_holderOf 2 (some .int) ∈ zq_tb := zq_in3 (i := 112) rfl rfl
theorem zw_593 : Cond.constantLong RX0 22 (15 : Int64) ∈ zq_tb := zq_in3 (i := 113) rfl rfl
theorem zw_594 : Cond.methodLink RX11 393 yX0_put ∈ zq_tb := zq_in3 (i := 114) rfl rfl
theorem zw_595 : Cond.instanceMethod yX0_put ∈ zq_tb := zq_in3 (i := 115) rfl rfl
theorem zw_596 : Cond.selects RX0 yX0_put yX0_put ∈ zq_tb := zq_in3 (i := 116) rfl rfl
theorem zw_597 : Cond.code yX0_put cX0_put 5 none ∈ zq_tb := zq_in3 (i := 117) rfl rfl
theorem zw_598 : Cond.constantLong RX0 24 (-1 : Int64) ∈ zq_tb := zq_in3 (i := 118) rfl rfl
theorem zw_599 : Cond.methodLink RX11 278 yX10_between ∈ zq_tb := zq_in3 (i := 119) rfl rfl
theorem zw_600 : Cond.instanceMethod yX10_between ∈ zq_tb := zq_in3 (i := 120) rfl rfl
theorem zw_601 : Cond.selects RX10 yX10_between yX10_between ∈ zq_tb := zq_in3 (i := 121) rfl rfl
theorem zw_602 : Cond.code yX10_between cX10_between 4 (some .int) ∈ zq_tb := zq_in3 (i := 122) rfl rfl
theorem zw_603 : Cond.methodLink RX11 214 yX11_remembered ∈ zq_tb := zq_in3 (i := 123) rfl rfl
theorem zw_605 : Cond.instanceMethod yX11_remembered ∈ zq_tb := zq_in3 (i := 125) rfl rfl
theorem zw_606 : Cond.code yX11_remembered cX11_remembered 4 (some .int) ∈ zq_tb := zq_in3 (i := 126) rfl rfl
theorem zw_607 : Cond.methodLink RX11 234 yX0_remember ∈ zq_tb := zq_in3 (i := 127) rfl rfl
theorem zw_608 : Cond.instanceMethod yX0_remember ∈ zq_tb := zq_in3 (i := 128) rfl rfl
theorem zw_609 : Cond.selects RX0 yX0_remember yX0_remember ∈ zq_tb := zq_in3 (i := 129) rfl rfl
theorem zw_610 : Cond.code yX0_remember cX0_remember 3 none ∈ zq_tb := zq_in3 (i := 130) rfl rfl
theorem zw_611 : Cond.methodLink RX0 33 arraycopyName ∈ zq_tb := zq_in3 (i := 131) rfl rfl
theorem zw_612 : Cond.static arraycopyName ∈ zq_tb := zq_in3 (i := 132) rfl rfl
theorem zw_613 : Cond.native arraycopyName ∈ zq_tb := zq_in3 (i := 133) rfl rfl
theorem zw_617 : Cond.code yX11_back cX11_back 5 (some .int) ∈ zq_tb := zq_in3 (i := 137) rfl rfl
theorem zw_618 : Cond.methodLink RX11 218 yX11_takeBack ∈ zq_tb := zq_in3 (i := 138) rfl rfl
theorem zw_620 : Cond.instanceMethod yX11_takeBack ∈ zq_tb := zq_in3 (i := 140) rfl rfl
theorem zw_621 : Cond.code yX11_takeBack cX11_takeBack 6 (some .int) ∈ zq_tb := zq_in3 (i := 141) rfl rfl
theorem zw_625 : Cond.code yX11_mouse cX11_mouse 4 (some .int) ∈ zq_tb := zq_in3 (i := 145) rfl rfl
theorem zw_626 : Cond.methodLink RX11 221 yX11_feedMouse ∈ zq_tb := zq_in3 (i := 146) rfl rfl
theorem zw_628 : Cond.instanceMethod yX11_feedMouse ∈ zq_tb := zq_in3 (i := 148) rfl rfl
theorem zw_629 : Cond.code yX11_feedMouse cX11_feedMouse 2 (some .int) ∈ zq_tb := zq_in3 (i := 149) rfl rfl
theorem zw_633 : Cond.code yX11_supper cX11_supper 5 (some .int) ∈ zq_tb := zq_in3 (i := 153) rfl rfl
theorem zw_634 : Cond.methodLink RX11 224 yX11_readActs ∈ zq_tb := zq_in3 (i := 154) rfl rfl
theorem zw_636 : Cond.instanceMethod yX11_readActs ∈ zq_tb := zq_in3 (i := 156) rfl rfl
theorem zw_637 : Cond.code yX11_readActs cX11_readActs 1 (some .boolean) ∈ zq_tb := zq_in3 (i := 157) rfl rfl
theorem zw_638 : Cond.methodLink RX11 397 yX8_start ∈ zq_tb := zq_in3 (i := 158) rfl rfl
theorem zw_639 : Cond.methodLink RX11 398 yX8_isFinished ∈ zq_tb := zq_in3 (i := 159) rfl rfl
theorem zw_640 : Cond.methodLink RX11 401 yX11_readAct ∈ zq_tb := zq_in3 (i := 160) rfl rfl
theorem zw_642 : Cond.instanceMethod yX11_readAct ∈ zq_tb := zq_in3 (i := 162) rfl rfl
theorem zw_643 : Cond.code yX11_readAct cX11_readAct 6 (some .boolean) ∈ zq_tb := zq_in3 (i := 163) rfl rfl
theorem zw_644 : Cond.methodLink RX11 407 yX8_next ∈ zq_tb := zq_in3 (i := 164) rfl rfl
theorem zw_645 : Cond.methodLink RX11 404 yX8_skip ∈ zq_tb := zq_in3 (i := 165) rfl rfl
theorem zw_646 : Cond.methodLink RX11 410 yX8_takeLetter ∈ zq_tb := zq_in3 (i := 166) rfl rfl
theorem zw_647 : Cond.methodLink RX11 413 yX8_takeNumber ∈ zq_tb := zq_in3 (i := 167) rfl rfl
theorem zw_648 : Cond.methodLink RX11 231 yX11_doAct ∈ zq_tb := zq_in3 (i := 168) rfl rfl
theorem zw_650 : Cond.instanceMethod yX11_doAct ∈ zq_tb := zq_in3 (i := 170) rfl rfl
theorem zw_651 : Cond.code yX11_doAct cX11_doAct 3 (some .int) ∈ zq_tb := zq_in3 (i := 171) rfl rfl
theorem zw_652 : Cond.methodLink RX11 238 yX5_clear ∈ zq_tb := zq_in3 (i := 172) rfl rfl
theorem zw_653 : Cond.instanceMethod yX5_clear ∈ zq_tb := zq_in3 (i := 173) rfl rfl
theorem zw_654 : Cond.selects RX5 yX5_clear yX5_clear ∈ zq_tb := zq_in3 (i := 174) rfl rfl
theorem zw_655 : Cond.code yX5_clear cX5_clear 1 none ∈ zq_tb := zq_in3 (i := 175) rfl rfl
theorem zw_656 : Cond.methodLink RX11 239 yX5_add ∈ zq_tb := zq_in3 (i := 176) rfl rfl
theorem zw_657 : Cond.instanceMethod yX5_add ∈ zq_tb := zq_in3 (i := 177) rfl rfl
theorem zw_658 : Cond.selects RX5 yX5_add yX5_add ∈ zq_tb := zq_in3 (i := 178) rfl rfl
theorem zw_659 : Cond.code yX5_add cX5_add 3 none ∈ zq_tb := zq_in3 (i := 179) rfl rfl
theorem zw_660 : Cond.methodLink RX11 181 yX11_cellsWith ∈ zq_tb := zq_in3 (i := 180) rfl rfl
theorem zw_662 : Cond.instanceMethod yX11_cellsWith ∈ zq_tb := zq_in3 (i := 182) rfl rfl
theorem zw_663 : Cond.code yX11_cellsWith cX11_cellsWith 4 (some .int) ∈ zq_tb := zq_in3 (i := 183) rfl rfl
theorem zw_667 : Cond.code yX11_undo cX11_undo 1 (some .int) ∈ zq_tb := zq_in3 (i := 187) rfl rfl
theorem zw_668 : Cond.methodLink RX11 242 yX0_stepBack ∈ zq_tb := zq_in3 (i := 188) rfl rfl
theorem zw_669 : Cond.instanceMethod yX0_stepBack ∈ zq_tb := zq_in3 (i := 189) rfl rfl
theorem zw_670 : Cond.selects RX0 yX0_stepBack yX0_stepBack ∈ zq_tb := zq_in3 (i := 190) rfl rfl
theorem zw_671 : Cond.code yX0_stepBack cX0_stepBack 1 (some .int) ∈ zq_tb := zq_in3 (i := 191) rfl rfl
theorem zw_675 : Cond.code yX11_seen cX11_seen 3 (some .int) ∈ zq_tb := zq_in3 (i := 195) rfl rfl
theorem zw_676 : Cond.methodLink RX11 184 yX11_worthHeld ∈ zq_tb := zq_in3 (i := 196) rfl rfl
theorem zw_678 : Cond.instanceMethod yX11_worthHeld ∈ zq_tb := zq_in3 (i := 198) rfl rfl
theorem zw_679 : Cond.code yX11_worthHeld cX11_worthHeld 5 (some .int) ∈ zq_tb := zq_in3 (i := 199) rfl rfl
theorem zw_683 : Cond.code yX11_envy cX11_envy 5 (some .int) ∈ zq_tb := zq_in3 (i := 203) rfl rfl
theorem zw_687 : Cond.code yX11_wronged cX11_wronged 4 (some .int) ∈ zq_tb := zq_in3 (i := 207) rfl rfl
theorem zw_688 : Cond.methodLink RX11 191 yX11_hasDue ∈ zq_tb := zq_in3 (i := 208) rfl rfl
theorem zw_690 : Cond.instanceMethod yX11_hasDue ∈ zq_tb := zq_in3 (i := 210) rfl rfl
theorem zw_691 : Cond.code yX11_hasDue cX11_hasDue 4 (some .boolean) ∈ zq_tb := zq_in3 (i := 211) rfl rfl
theorem zw_692 : Cond.methodLink RX11 188 yX10_whole ∈ zq_tb := zq_in3 (i := 212) rfl rfl
theorem zw_693 : Cond.instanceMethod yX10_whole ∈ zq_tb := zq_in3 (i := 213) rfl rfl
theorem zw_694 : Cond.selects RX10 yX10_whole yX10_whole ∈ zq_tb := zq_in3 (i := 214) rfl rfl
theorem zw_695 : Cond.code yX10_whole cX10_whole 2 (some .int) ∈ zq_tb := zq_in3 (i := 215) rfl rfl
theorem zw_696 : Cond.methodLink RX10 39 yX10_between ∈ zq_tb := zq_in3 (i := 216) rfl rfl
theorem zw_697 : Cond.methodLink RX11 246 yJ6_bitCount_0f7a4 ∈ zq_tb := zq_in3 (i := 217) rfl rfl
theorem zw_698 : Cond.static yJ6_bitCount_0f7a4 ∈ zq_tb := zq_in3 (i := 218) rfl rfl
theorem zw_699 : Cond.code yJ6_bitCount_0f7a4 cJ6_bitCount_0f7a4 1 (some .int) ∈ zq_tb := zq_in3 (i := 219) rfl rfl
theorem zw_700 : Cond.constant RJ6 265 (1431655765 : Int32) ∈ zq_tb := zq_in3 (i := 220) rfl rfl
theorem zw_701 : Cond.constant RJ6 266 (858993459 : Int32) ∈ zq_tb := zq_in3 (i := 221) rfl rfl
theorem zw_702 : Cond.constant RJ6 267 (252645135 : Int32) ∈ zq_tb := zq_in3 (i := 222) rfl rfl
theorem zw_706 : Cond.code yX11_happiest cX11_happiest 11 (some .int) ∈ zq_tb := zq_in3 (i := 226) rfl rfl
theorem zw_707 : Cond.methodLink RX11 251 yX5_addFraction ∈ zq_tb := zq_in3 (i := 227) rfl rfl
theorem zw_708 : Cond.instanceMethod yX5_addFraction ∈ zq_tb := zq_in3 (i := 228) rfl rfl
theorem zw_709 : Cond.selects RX5 yX5_addFraction yX5_addFraction ∈ zq_tb := zq_in3 (i := 229) rfl rfl
theorem zw_710 : Cond.code yX5_addFraction cX5_addFraction 12 none ∈ zq_tb := zq_in3 (i := 230) rfl rfl
theorem zw_711 : Cond.methodLink RX5 19 yX5_add ∈ zq_tb := zq_in3 (i := 231) rfl rfl
theorem zw_715 : Cond.code yX11_pieces cX11_pieces 7 (some .int) ∈ zq_tb := zq_in3 (i := 235) rfl rfl
theorem zw_719 : Cond.code yX11_trade cX11_trade 8 (some .int) ∈ zq_tb := zq_in3 (i := 239) rfl rfl
theorem zw_720 : Cond.methodLink RX11 255 yX11_jointGain ∈ zq_tb := zq_in4 (i := 0) rfl rfl
theorem zw_722 : Cond.instanceMethod yX11_jointGain ∈ zq_tb := zq_in4 (i := 2) rfl rfl
theorem zw_723 : Cond.code yX11_jointGain cX11_jointGain 7 (some .int) ∈ zq_tb := zq_in4 (i := 3) rfl rfl
theorem zw_727 : Cond.code yX11_slices cX11_slices 2 (some .int) ∈ zq_tb := zq_in4 (i := 7) rfl rfl
theorem zw_728 : Cond.methodLink RX11 259 yX11_areGuests ∈ zq_tb := zq_in4 (i := 8) rfl rfl
theorem zw_730 : Cond.instanceMethod yX11_areGuests ∈ zq_tb := zq_in4 (i := 10) rfl rfl
theorem zw_731 : Cond.code yX11_areGuests cX11_areGuests 2 (some .boolean) ∈ zq_tb := zq_in4 (i := 11) rfl rfl
theorem zw_732 : Cond.methodLink RX11 275 yX11_everyone ∈ zq_tb := zq_in4 (i := 12) rfl rfl
theorem zw_734 : Cond.instanceMethod yX11_everyone ∈ zq_tb := zq_in4 (i := 14) rfl rfl
theorem zw_735 : Cond.code yX11_everyone cX11_everyone 1 (some .int) ∈ zq_tb := zq_in4 (i := 15) rfl rfl
theorem zw_736 : Cond.methodLink RX11 262 yX11_placeGuests ∈ zq_tb := zq_in4 (i := 16) rfl rfl
theorem zw_738 : Cond.instanceMethod yX11_placeGuests ∈ zq_tb := zq_in4 (i := 18) rfl rfl
theorem zw_739 : Cond.code yX11_placeGuests cX11_placeGuests 7 none ∈ zq_tb := zq_in4 (i := 19) rfl rfl
theorem zw_740 : Cond.methodLink RX11 326 yX4_start ∈ zq_tb := zq_in4 (i := 20) rfl rfl
theorem zw_741 : Cond.instanceMethod yX4_start ∈ zq_tb := zq_in4 (i := 21) rfl rfl
theorem zw_742 : Cond.selects RX4 yX4_start yX4_start ∈ zq_tb := zq_in4 (i := 22) rfl rfl
theorem zw_743 : Cond.code yX4_start cX4_start 2 none ∈ zq_tb := zq_in4 (i := 23) rfl rfl
theorem zw_744 : Cond.constantLong RX11 362 (100 : Int64) ∈ zq_tb := zq_in4 (i := 24) rfl rfl
theorem zw_745 : Cond.methodLink RX11 416 yX4_addMember ∈ zq_tb := zq_in4 (i := 25) rfl rfl
theorem zw_746 : Cond.instanceMethod yX4_addMember ∈ zq_tb := zq_in4 (i := 26) rfl rfl
theorem zw_747 : Cond.selects RX4 yX4_addMember yX4_addMember ∈ zq_tb := zq_in4 (i := 27) rfl rfl
theorem zw_748 : Cond.code yX4_addMember cX4_addMember 6 none ∈ zq_tb := zq_in4 (i := 28) rfl rfl
theorem zw_749 : Cond.methodLink RX11 332 yX4_spread ∈ zq_tb := zq_in4 (i := 29) rfl rfl
theorem zw_750 : Cond.instanceMethod yX4_spread ∈ zq_tb := zq_in4 (i := 30) rfl rfl
theorem zw_751 : Cond.selects RX4 yX4_spread yX4_spread ∈ zq_tb := zq_in4 (i := 31) rfl rfl
theorem zw_752 : Cond.code yX4_spread cX4_spread 5 none ∈ zq_tb := zq_in4 (i := 32) rfl rfl
theorem zw_753 : Cond.methodLink RX4 63 yX4_shortest ∈ zq_tb := zq_in4 (i := 33) rfl rfl
theorem zw_755 : Cond.instanceMethod yX4_shortest ∈ zq_tb := zq_in4 (i := 35) rfl rfl
theorem zw_756 : Cond.code yX4_shortest cX4_shortest 5 (some .int) ∈ zq_tb := zq_in4 (i := 36) rfl rfl
theorem zw_757 : Cond.methodLink RX4 76 yX10_between ∈ zq_tb := zq_in4 (i := 37) rfl rfl
theorem zw_758 : Cond.methodLink RX4 67 yX4_reached ∈ zq_tb := zq_in4 (i := 38) rfl rfl
theorem zw_760 : Cond.instanceMethod yX4_reached ∈ zq_tb := zq_in4 (i := 40) rfl rfl
theorem zw_761 : Cond.code yX4_reached cX4_reached 3 (some .int) ∈ zq_tb := zq_in4 (i := 41) rfl rfl
theorem zw_762 : Cond.methodLink RX4 71 yJ9_min_7cf53 ∈ zq_tb := zq_in4 (i := 42) rfl rfl
theorem zw_763 : Cond.methodLink RX11 265 yX4_canServe ∈ zq_tb := zq_in4 (i := 43) rfl rfl
theorem zw_764 : Cond.instanceMethod yX4_canServe ∈ zq_tb := zq_in4 (i := 44) rfl rfl
theorem zw_765 : Cond.selects RX4 yX4_canServe yX4_canServe ∈ zq_tb := zq_in4 (i := 45) rfl rfl
theorem zw_766 : Cond.code yX4_canServe cX4_canServe 2 (some .boolean) ∈ zq_tb := zq_in4 (i := 46) rfl rfl
theorem zw_767 : Cond.methodLink RX11 268 yX4_tellOrder ∈ zq_tb := zq_in4 (i := 47) rfl rfl
theorem zw_768 : Cond.instanceMethod yX4_tellOrder ∈ zq_tb := zq_in4 (i := 48) rfl rfl
theorem zw_769 : Cond.selects RX4 yX4_tellOrder yX4_tellOrder ∈ zq_tb := zq_in4 (i := 49) rfl rfl
theorem zw_770 : Cond.code yX4_tellOrder cX4_tellOrder 8 none ∈ zq_tb := zq_in4 (i := 50) rfl rfl
theorem zw_771 : Cond.methodLink RX4 82 yX4_findOrder ∈ zq_tb := zq_in4 (i := 51) rfl rfl
theorem zw_773 : Cond.instanceMethod yX4_findOrder ∈ zq_tb := zq_in4 (i := 53) rfl rfl
theorem zw_774 : Cond.code yX4_findOrder cX4_findOrder 7 (some .boolean) ∈ zq_tb := zq_in4 (i := 54) rfl rfl
theorem zw_775 : Cond.methodLink RX4 86 yJ6_bitCount_0f7a4 ∈ zq_tb := zq_in4 (i := 55) rfl rfl
theorem zw_776 : Cond.methodLink RX4 91 yX5_add ∈ zq_tb := zq_in4 (i := 56) rfl rfl
theorem zw_777 : Cond.constantLong RX4 97 (-1 : Int64) ∈ zq_tb := zq_in4 (i := 57) rfl rfl
theorem zw_781 : Cond.code yX11_quarrel cX11_quarrel 6 (some .int) ∈ zq_tb := zq_in4 (i := 61) rfl rfl
theorem zw_785 : Cond.code yX11_stretch cX11_stretch 5 (some .int) ∈ zq_tb := zq_in4 (i := 65) rfl rfl
theorem zw_789 : Cond.code yX11_richest cX11_richest 5 (some .int) ∈ zq_tb := zq_in4 (i := 69) rfl rfl
theorem zw_793 : Cond.code yX11_parts cX11_parts 7 (some .int) ∈ zq_tb := zq_in4 (i := 73) rfl rfl
theorem zw_794 : Cond.methodLink RX11 281 yX11_bestOfLeasts ∈ zq_tb := zq_in4 (i := 74) rfl rfl
theorem zw_796 : Cond.instanceMethod yX11_bestOfLeasts ∈ zq_tb := zq_in4 (i := 76) rfl rfl
theorem zw_797 : Cond.code yX11_bestOfLeasts cX11_bestOfLeasts 8 (some .int) ∈ zq_tb := zq_in4 (i := 77) rfl rfl
theorem zw_801 : Cond.code yX11_calm cX11_calm 1 (some .int) ∈ zq_tb := zq_in4 (i := 81) rfl rfl
theorem zw_802 : Cond.methodLink RX11 284 yX7_ways ∈ zq_tb := zq_in4 (i := 82) rfl rfl
theorem zw_803 : Cond.instanceMethod yX7_ways ∈ zq_tb := zq_in4 (i := 83) rfl rfl
theorem zw_804 : Cond.selects RX7 yX7_ways yX7_ways ∈ zq_tb := zq_in4 (i := 84) rfl rfl
theorem zw_805 : Cond.code yX7_ways cX7_ways 5 (some .int) ∈ zq_tb := zq_in4 (i := 85) rfl rfl
theorem zw_806 : Cond.methodLink RX7 28 yJ9_min_7cf53 ∈ zq_tb := zq_in4 (i := 86) rfl rfl
theorem zw_807 : Cond.methodLink RX7 44 yX7_part ∈ zq_tb := zq_in4 (i := 87) rfl rfl
theorem zw_809 : Cond.instanceMethod yX7_part ∈ zq_tb := zq_in4 (i := 89) rfl rfl
theorem zw_810 : Cond.code yX7_part cX7_part 6 none ∈ zq_tb := zq_in4 (i := 90) rfl rfl
theorem zw_811 : Cond.methodLink RX7 54 yX7_othersAreCalm ∈ zq_tb := zq_in4 (i := 91) rfl rfl
theorem zw_813 : Cond.instanceMethod yX7_othersAreCalm ∈ zq_tb := zq_in4 (i := 93) rfl rfl
theorem zw_814 : Cond.code yX7_othersAreCalm cX7_othersAreCalm 3 (some .boolean) ∈ zq_tb := zq_in4 (i := 94) rfl rfl
theorem zw_815 : Cond.methodLink RX7 74 yX10_whole ∈ zq_tb := zq_in4 (i := 95) rfl rfl
theorem zw_816 : Cond.methodLink RX7 58 yX7_note ∈ zq_tb := zq_in4 (i := 96) rfl rfl
theorem zw_818 : Cond.instanceMethod yX7_note ∈ zq_tb := zq_in4 (i := 98) rfl rfl
theorem zw_819 : Cond.code yX7_note cX7_note 1 none ∈ zq_tb := zq_in4 (i := 99) rfl rfl
theorem zw_820 : Cond.methodLink RX7 78 yX7_isLess ∈ zq_tb := zq_in4 (i := 100) rfl rfl
theorem zw_822 : Cond.instanceMethod yX7_isLess ∈ zq_tb := zq_in4 (i := 102) rfl rfl
theorem zw_823 : Cond.code yX7_isLess cX7_isLess 2 (some .boolean) ∈ zq_tb := zq_in4 (i := 103) rfl rfl
theorem zw_824 : Cond.methodLink RX7 82 arraycopyName ∈ zq_tb := zq_in4 (i := 104) rfl rfl
theorem zw_825 : Cond.methodLink RX7 61 yX7_isCalmWith ∈ zq_tb := zq_in4 (i := 105) rfl rfl
theorem zw_827 : Cond.instanceMethod yX7_isCalmWith ∈ zq_tb := zq_in4 (i := 107) rfl rfl
theorem zw_828 : Cond.code yX7_isCalmWith cX7_isCalmWith 4 (some .boolean) ∈ zq_tb := zq_in4 (i := 108) rfl rfl
theorem zw_829 : Cond.methodLink RX7 65 yX7_prefers ∈ zq_tb := zq_in4 (i := 109) rfl rfl
theorem zw_831 : Cond.instanceMethod yX7_prefers ∈ zq_tb := zq_in4 (i := 111) rfl rfl
theorem zw_832 : Cond.code yX7_prefers cX7_prefers 3 (some .boolean) ∈ zq_tb := zq_in4 (i := 112) rfl rfl
theorem zw_833 : Cond.methodLink RX7 68 yX10_between ∈ zq_tb := zq_in4 (i := 113) rfl rfl
theorem zw_834 : Cond.methodLink RX7 48 yX5_add ∈ zq_tb := zq_in4 (i := 114) rfl rfl
theorem zw_838 : Cond.code yX11_cuts cX11_cuts 10 (some .int) ∈ zq_tb := zq_in4 (i := 118) rfl rfl
theorem zw_839 : Cond.methodLink RX11 288 yJ9_abs_0f7a4 ∈ zq_tb := zq_in4 (i := 119) rfl rfl
theorem zw_840 : Cond.static yJ9_abs_0f7a4 ∈ zq_tb := zq_in4 (i := 120) rfl rfl
theorem zw_841 : Cond.code yJ9_abs_0f7a4 cJ9_abs_0f7a4 1 (some .int) ∈ zq_tb := zq_in4 (i := 121) rfl rfl
theorem zw_845 : Cond.code yX11_byturns cX11_byturns 4 (some .int) ∈ zq_tb := zq_in4 (i := 125) rfl rfl
theorem zw_846 : Cond.methodLink RX11 293 yX9_read ∈ zq_tb := zq_in4 (i := 126) rfl rfl
theorem zw_847 : Cond.instanceMethod yX9_read ∈ zq_tb := zq_in4 (i := 127) rfl rfl
theorem zw_848 : Cond.selects RX9 yX9_read yX9_read ∈ zq_tb := zq_in4 (i := 128) rfl rfl
theorem zw_849 : Cond.code yX9_read cX9_read 4 (some .boolean) ∈ zq_tb := zq_in4 (i := 129) rfl rfl
theorem zw_850 : Cond.methodLink RX9 21 yX8_start ∈ zq_tb := zq_in4 (i := 130) rfl rfl
theorem zw_851 : Cond.methodLink RX9 31 yX8_takeLetter ∈ zq_tb := zq_in4 (i := 131) rfl rfl
theorem zw_852 : Cond.methodLink RX9 35 yX8_isFinished ∈ zq_tb := zq_in4 (i := 132) rfl rfl
theorem zw_853 : Cond.methodLink RX11 296 yX9_startTaking ∈ zq_tb := zq_in4 (i := 133) rfl rfl
theorem zw_854 : Cond.instanceMethod yX9_startTaking ∈ zq_tb := zq_in4 (i := 134) rfl rfl
theorem zw_855 : Cond.selects RX9 yX9_startTaking yX9_startTaking ∈ zq_tb := zq_in4 (i := 135) rfl rfl
theorem zw_856 : Cond.code yX9_startTaking cX9_startTaking 2 none ∈ zq_tb := zq_in4 (i := 136) rfl rfl
theorem zw_857 : Cond.methodLink RX9 44 arraycopyName ∈ zq_tb := zq_in4 (i := 137) rfl rfl
theorem zw_858 : Cond.methodLink RX9 50 yJ7_fill_53178 ∈ zq_tb := zq_in4 (i := 138) rfl rfl
theorem zw_859 : Cond.methodLink RX11 299 yX9_takeAll ∈ zq_tb := zq_in4 (i := 139) rfl rfl
theorem zw_860 : Cond.instanceMethod yX9_takeAll ∈ zq_tb := zq_in4 (i := 140) rfl rfl
theorem zw_861 : Cond.selects RX9 yX9_takeAll yX9_takeAll ∈ zq_tb := zq_in4 (i := 141) rfl rfl
theorem zw_862 : Cond.code yX9_takeAll cX9_takeAll 7 (some .int) ∈ zq_tb := zq_in4 (i := 142) rfl rfl
theorem zw_863 : Cond.methodLink RX9 59 yX9_favourite ∈ zq_tb := zq_in4 (i := 143) rfl rfl
theorem zw_865 : Cond.instanceMethod yX9_favourite ∈ zq_tb := zq_in4 (i := 145) rfl rfl
theorem zw_866 : Cond.code yX9_favourite cX9_favourite 6 (some .int) ∈ zq_tb := zq_in4 (i := 146) rfl rfl
theorem zw_867 : Cond.methodLink RX9 63 yX10_of ∈ zq_tb := zq_in4 (i := 147) rfl rfl
theorem zw_871 : Cond.code yX11_lies cX11_lies 7 (some .int) ∈ zq_tb := zq_in4 (i := 151) rfl rfl
theorem zw_872 : Cond.methodLink RX11 306 yX11_hasByLie ∈ zq_tb := zq_in4 (i := 152) rfl rfl
theorem zw_874 : Cond.instanceMethod yX11_hasByLie ∈ zq_tb := zq_in4 (i := 154) rfl rfl
theorem zw_875 : Cond.code yX11_hasByLie cX11_hasByLie 6 (some .int) ∈ zq_tb := zq_in4 (i := 155) rfl rfl
theorem zw_876 : Cond.methodLink RX11 423 yX6_worthOf ∈ zq_tb := zq_in4 (i := 156) rfl rfl
theorem zw_880 : Cond.code yX11_chose cX11_chose 3 (some .int) ∈ zq_tb := zq_in4 (i := 160) rfl rfl
theorem zw_881 : Cond.methodLink RX11 309 yX1_tell ∈ zq_tb := zq_in4 (i := 161) rfl rfl
theorem zw_882 : Cond.instanceMethod yX1_tell ∈ zq_tb := zq_in4 (i := 162) rfl rfl
theorem zw_883 : Cond.selects RX1 yX1_tell yX1_tell ∈ zq_tb := zq_in4 (i := 163) rfl rfl
theorem zw_884 : Cond.code yX1_tell cX1_tell 3 (some .int) ∈ zq_tb := zq_in4 (i := 164) rfl rfl
theorem zw_888 : Cond.code yX11_forget cX11_forget 2 (some .int) ∈ zq_tb := zq_in4 (i := 168) rfl rfl
theorem zw_892 : Cond.code yX11_tastes cX11_tastes 4 (some .int) ∈ zq_tb := zq_in4 (i := 172) rfl rfl
theorem zw_893 : Cond.methodLink RX11 312 yX1_countFitting ∈ zq_tb := zq_in4 (i := 173) rfl rfl
theorem zw_894 : Cond.instanceMethod yX1_countFitting ∈ zq_tb := zq_in4 (i := 174) rfl rfl
theorem zw_895 : Cond.selects RX1 yX1_countFitting yX1_countFitting ∈ zq_tb := zq_in4 (i := 175) rfl rfl
theorem zw_896 : Cond.code yX1_countFitting cX1_countFitting 8 (some .int) ∈ zq_tb := zq_in4 (i := 176) rfl rfl
theorem zw_897 : Cond.methodLink RX1 34 yX1_fits ∈ zq_tb := zq_in4 (i := 177) rfl rfl
theorem zw_899 : Cond.instanceMethod yX1_fits ∈ zq_tb := zq_in4 (i := 179) rfl rfl
theorem zw_900 : Cond.code yX1_fits cX1_fits 7 (some .boolean) ∈ zq_tb := zq_in4 (i := 180) rfl rfl
theorem zw_901 : Cond.methodLink RX1 55 yX1_ask ∈ zq_tb := zq_in4 (i := 181) rfl rfl
theorem zw_903 : Cond.instanceMethod yX1_ask ∈ zq_tb := zq_in4 (i := 183) rfl rfl
theorem zw_904 : Cond.code yX1_ask cX1_ask 5 (some .int) ∈ zq_tb := zq_in4 (i := 184) rfl rfl
theorem zw_905 : Cond.methodLink RX1 72 yX6_worthOf ∈ zq_tb := zq_in4 (i := 185) rfl rfl
theorem zw_906 : Cond.methodLink RX1 38 arraycopyName ∈ zq_tb := zq_in4 (i := 186) rfl rfl
theorem zw_910 : Cond.code yX11_offer cX11_offer 7 (some .int) ∈ zq_tb := zq_in4 (i := 190) rfl rfl
theorem zw_911 : Cond.methodLink RX11 319 yX1_countPairs ∈ zq_tb := zq_in4 (i := 191) rfl rfl
theorem zw_912 : Cond.instanceMethod yX1_countPairs ∈ zq_tb := zq_in4 (i := 192) rfl rfl
theorem zw_913 : Cond.selects RX1 yX1_countPairs yX1_countPairs ∈ zq_tb := zq_in4 (i := 193) rfl rfl
theorem zw_914 : Cond.code yX1_countPairs cX1_countPairs 6 none ∈ zq_tb := zq_in4 (i := 194) rfl rfl
theorem zw_915 : Cond.methodLink RX1 44 yJ7_fill_53178 ∈ zq_tb := zq_in4 (i := 195) rfl rfl
theorem zw_916 : Cond.methodLink RX1 59 yX1_countThisTime ∈ zq_tb := zq_in4 (i := 196) rfl rfl
theorem zw_918 : Cond.instanceMethod yX1_countThisTime ∈ zq_tb := zq_in4 (i := 198) rfl rfl
theorem zw_919 : Cond.code yX1_countThisTime cX1_countThisTime 4 none ∈ zq_tb := zq_in4 (i := 199) rfl rfl
theorem zw_920 : Cond.methodLink RX11 323 yX1_leftAtMost ∈ zq_tb := zq_in4 (i := 200) rfl rfl
theorem zw_921 : Cond.instanceMethod yX1_leftAtMost ∈ zq_tb := zq_in4 (i := 201) rfl rfl
theorem zw_922 : Cond.selects RX1 yX1_leftAtMost yX1_leftAtMost ∈ zq_tb := zq_in4 (i := 202) rfl rfl
theorem zw_923 : Cond.code yX1_leftAtMost cX1_leftAtMost 3 (some .int) ∈ zq_tb := zq_in4 (i := 203) rfl rfl
theorem zw_924 : Cond.methodLink RX1 63 yJ9_max_7cf53 ∈ zq_tb := zq_in4 (i := 204) rfl rfl
theorem zw_928 : Cond.code yX11_claims cX11_claims 6 (some .int) ∈ zq_tb := zq_in4 (i := 208) rfl rfl
theorem zw_929 : Cond.methodLink RX11 329 yX4_readClaims ∈ zq_tb := zq_in4 (i := 209) rfl rfl
theorem zw_930 : Cond.instanceMethod yX4_readClaims ∈ zq_tb := zq_in4 (i := 210) rfl rfl
theorem zw_931 : Cond.selects RX4 yX4_readClaims yX4_readClaims ∈ zq_tb := zq_in4 (i := 211) rfl rfl
theorem zw_932 : Cond.code yX4_readClaims cX4_readClaims 6 (some .boolean) ∈ zq_tb := zq_in4 (i := 212) rfl rfl
theorem zw_933 : Cond.methodLink RX4 38 yX8_start ∈ zq_tb := zq_in4 (i := 213) rfl rfl
theorem zw_934 : Cond.methodLink RX4 44 yX8_takeLetter ∈ zq_tb := zq_in4 (i := 214) rfl rfl
theorem zw_935 : Cond.methodLink RX4 48 yX8_takeNumber ∈ zq_tb := zq_in4 (i := 215) rfl rfl
theorem zw_936 : Cond.methodLink RX4 51 yX4_addMember ∈ zq_tb := zq_in4 (i := 216) rfl rfl
theorem zw_937 : Cond.methodLink RX4 55 yX8_skip ∈ zq_tb := zq_in4 (i := 217) rfl rfl
theorem zw_938 : Cond.methodLink RX4 59 yX8_isFinished ∈ zq_tb := zq_in4 (i := 218) rfl rfl
theorem zw_942 : Cond.code yX11_settle cX11_settle 8 (some .int) ∈ zq_tb := zq_in4 (i := 222) rfl rfl
theorem zw_946 : Cond.code yX11_nothing cX11_nothing 5 (some .int) ∈ zq_tb := zq_in4 (i := 226) rfl rfl
theorem zw_947 : Cond.methodLink RX11 344 yX2_allCrumbs ∈ zq_tb := zq_in4 (i := 227) rfl rfl
theorem zw_948 : Cond.instanceMethod yX2_allCrumbs ∈ zq_tb := zq_in4 (i := 228) rfl rfl
theorem zw_949 : Cond.selects RX2 yX2_allCrumbs yX2_allCrumbs ∈ zq_tb := zq_in4 (i := 229) rfl rfl
theorem zw_950 : Cond.code yX2_allCrumbs cX2_allCrumbs 3 (some .int) ∈ zq_tb := zq_in4 (i := 230) rfl rfl
theorem zw_951 : Cond.methodLink RX11 347 yX3_canPart ∈ zq_tb := zq_in4 (i := 231) rfl rfl
theorem zw_952 : Cond.instanceMethod yX3_canPart ∈ zq_tb := zq_in4 (i := 232) rfl rfl
theorem zw_953 : Cond.selects RX3 yX3_canPart yX3_canPart ∈ zq_tb := zq_in4 (i := 233) rfl rfl
theorem zw_954 : Cond.code yX3_canPart cX3_canPart 4 (some .boolean) ∈ zq_tb := zq_in4 (i := 234) rfl rfl
theorem zw_958 : Cond.code yX11_ate cX11_ate 7 (some .int) ∈ zq_tb := zq_in4 (i := 238) rfl rfl
theorem zw_959 : Cond.methodLink RX11 351 yX3_desertsOf ∈ zq_tb := zq_in4 (i := 239) rfl rfl
theorem zw_963 : Cond.code yX11_enough cX11_enough 3 (some .int) ∈ zq_tb := zq_in5 (i := 3) rfl rfl
theorem zw_964 : Cond.methodLink RX11 354 yX3_chanceOf ∈ zq_tb := zq_in5 (i := 4) rfl rfl
theorem zw_965 : Cond.instanceMethod yX3_chanceOf ∈ zq_tb := zq_in5 (i := 5) rfl rfl
theorem zw_966 : Cond.selects RX3 yX3_chanceOf yX3_chanceOf ∈ zq_tb := zq_in5 (i := 6) rfl rfl
theorem zw_967 : Cond.code yX3_chanceOf cX3_chanceOf 9 (some .long) ∈ zq_tb := zq_in5 (i := 7) rfl rfl
theorem zw_968 : Cond.methodLink RX11 358 yX3_allChances ∈ zq_tb := zq_in5 (i := 8) rfl rfl
theorem zw_969 : Cond.instanceMethod yX3_allChances ∈ zq_tb := zq_in5 (i := 9) rfl rfl
theorem zw_970 : Cond.selects RX3 yX3_allChances yX3_allChances ∈ zq_tb := zq_in5 (i := 10) rfl rfl
theorem zw_971 : Cond.code yX3_allChances cX3_allChances 4 (some .long) ∈ zq_tb := zq_in5 (i := 11) rfl rfl
theorem zw_972 : Cond.constantLong RX3 69 (10 : Int64) ∈ zq_tb := zq_in5 (i := 12) rfl rfl
theorem zw_976 : Cond.code yX11_wide cX11_wide 7 (some .int) ∈ zq_tb := zq_in5 (i := 16) rfl rfl
theorem zw_980 : Cond.code yX11_suppers cX11_suppers 6 (some .int) ∈ zq_tb := zq_in5 (i := 20) rfl rfl
theorem zw_981 : Cond.constant RX11 365 (1103515245 : Int32) ∈ zq_tb := zq_in5 (i := 21) rfl rfl
theorem zw_985 : Cond.code yX11_keep cX11_keep 2 (some .boolean) ∈ zq_tb := zq_in5 (i := 25) rfl rfl
theorem zw_986 : Cond.methodLink RX11 369 yX0_store ∈ zq_tb := zq_in5 (i := 26) rfl rfl
theorem zw_987 : Cond.instanceMethod yX0_store ∈ zq_tb := zq_in5 (i := 27) rfl rfl
theorem zw_988 : Cond.selects RX0 yX0_store yX0_store ∈ zq_tb := zq_in5 (i := 28) rfl rfl
theorem zw_989 : Cond.code yX0_store cX0_store 2 (some .boolean) ∈ zq_tb := zq_in5 (i := 29) rfl rfl
theorem zw_993 : Cond.code yX11_again cX11_again 2 (some .boolean) ∈ zq_tb := zq_in5 (i := 33) rfl rfl
theorem zw_994 : Cond.methodLink RX11 372 yX0_restore ∈ zq_tb := zq_in5 (i := 34) rfl rfl
theorem zw_995 : Cond.instanceMethod yX0_restore ∈ zq_tb := zq_in5 (i := 35) rfl rfl
theorem zw_996 : Cond.selects RX0 yX0_restore yX0_restore ∈ zq_tb := zq_in5 (i := 36) rfl rfl
theorem zw_997 : Cond.code yX0_restore cX0_restore 2 (some .boolean) ∈ zq_tb := zq_in5 (i := 37) rfl rfl
theorem zw_1001 : Cond.code yX11_count cX11_count 2 (some .int) ∈ zq_tb := zq_in5 (i := 41) rfl rfl
theorem zw_1009 : Cond.code yX11_cell cX11_cell 3 (some .int) ∈ zq_tb := zq_in5 (i := 49) rfl rfl
theorem zw_1082 : Cond.code yX11_guest cX11_guest 3 (some .int) ∈ zq_tb := zq_in5 (i := 122) rfl rfl
theorem zw_1090 : Cond.code yX11_row cX11_row 2 (some .long) ∈ zq_tb := zq_in5 (i := 130) rfl rfl
theorem zw_1098 : Cond.fieldLink RX12 147 RX12 "thrown" "I" ∈ zq_tb := zq_in5 (i := 138) rfl rfl
theorem zw_1099 : Cond.fieldLink RX12 155 RX12 "rows" "I" ∈ zq_tb := zq_in5 (i := 139) rfl rfl
theorem zw_1100 : Cond.fieldLink RX12 7 RX12 "row" "[J" ∈ zq_tb := zq_in5 (i := 140) rfl rfl
theorem zw_1101 : Cond.fieldLink RX12 158 RX12 "cells" "I" ∈ zq_tb := zq_in5 (i := 141) rfl rfl
theorem zw_1102 : Cond.fieldLink RX12 165 RX12 "guests" "I" ∈ zq_tb := zq_in5 (i := 142) rfl rfl
theorem zw_1103 : Cond.fieldLink RX12 242 RX12 "loaves" "I" ∈ zq_tb := zq_in5 (i := 143) rfl rfl
theorem zw_1104 : Cond.fieldLink RX12 13 RX12 "crumbs" "[I" ∈ zq_tb := zq_in5 (i := 144) rfl rfl
theorem zw_1105 : Cond.fieldLink RX12 17 RX12 "raisins" "[I" ∈ zq_tb := zq_in5 (i := 145) rfl rfl
theorem zw_1106 : Cond.fieldLink RX12 20 RX12 "crust" "[Z" ∈ zq_tb := zq_in5 (i := 146) rfl rfl
theorem zw_1107 : Cond.fieldLink RX12 24 RX12 "tastes" "[I" ∈ zq_tb := zq_in5 (i := 147) rfl rfl
theorem zw_1108 : Cond.fieldLink RX12 27 RX12 "deserts" "[I" ∈ zq_tb := zq_in5 (i := 148) rfl rfl
theorem zw_1109 : Cond.fieldLink RX12 30 RX12 "now" "[I" ∈ zq_tb := zq_in5 (i := 149) rfl rfl
theorem zw_1110 : Cond.fieldLink RX12 33 RX12 "tape" "[I" ∈ zq_tb := zq_in5 (i := 150) rfl rfl
theorem zw_1111 : Cond.fieldLink RX12 172 RX12 "taped" "I" ∈ zq_tb := zq_in5 (i := 151) rfl rfl
theorem zw_1112 : Cond.fieldLink RX12 175 RX12 "at" "I" ∈ zq_tb := zq_in5 (i := 152) rfl rfl
theorem zw_1113 : Cond.fieldLink RX12 187 RX12 "to" "I" ∈ zq_tb := zq_in5 (i := 153) rfl rfl
theorem zw_1114 : Cond.fieldLink RX12 178 RX12 "nest" "I" ∈ zq_tb := zq_in5 (i := 154) rfl rfl
theorem zw_1115 : Cond.fieldLink RX12 36 RX12 "readCrumbs" "[I" ∈ zq_tb := zq_in5 (i := 155) rfl rfl
theorem zw_1116 : Cond.fieldLink RX12 39 RX12 "readRaisins" "[I" ∈ zq_tb := zq_in5 (i := 156) rfl rfl
theorem zw_1117 : Cond.fieldLink RX12 42 RX12 "readCrust" "[Z" ∈ zq_tb := zq_in5 (i := 157) rfl rfl
theorem zw_1118 : Cond.fieldLink RX12 45 RX12 "readTastes" "[I" ∈ zq_tb := zq_in5 (i := 158) rfl rfl
theorem zw_1119 : Cond.fieldLink RX12 245 RX12 "readGuests" "I" ∈ zq_tb := zq_in5 (i := 159) rfl rfl
theorem zw_1120 : Cond.fieldLink RX12 48 RX12 "readDeserts" "[I" ∈ zq_tb := zq_in5 (i := 160) rfl rfl
theorem zw_1121 : Cond.fieldLink RX12 51 RX12 "code" "[I" ∈ zq_tb := zq_in5 (i := 161) rfl rfl
theorem zw_1122 : Cond.fieldLink RX12 54 RX12 "readCode" "[I" ∈ zq_tb := zq_in5 (i := 162) rfl rfl
theorem zw_1123 : Cond.fieldLink RX12 289 RX12 "codeLong" "I" ∈ zq_tb := zq_in5 (i := 163) rfl rfl
theorem zw_1124 : Cond.fieldLink RX12 268 RX12 "readLong" "I" ∈ zq_tb := zq_in5 (i := 164) rfl rfl
theorem zw_1125 : Cond.fieldLink RX12 57 RX12 "stack" "[I" ∈ zq_tb := zq_in5 (i := 165) rfl rfl
theorem zw_1126 : Cond.fieldLink RX12 60 RX12 "asked" "[I" ∈ zq_tb := zq_in5 (i := 166) rfl rfl
theorem zw_1127 : Cond.fieldLink RX12 63 RX12 "table" "[I" ∈ zq_tb := zq_in5 (i := 167) rfl rfl
theorem zw_1128 : Cond.fieldLink RX12 66 RX12 "whole" "[I" ∈ zq_tb := zq_in5 (i := 168) rfl rfl
theorem zw_1129 : Cond.fieldLink RX12 236 RX12 "undos" "I" ∈ zq_tb := zq_in5 (i := 169) rfl rfl
theorem zw_1130 : Cond.fieldLink RX12 69 RX12 "undone" "[I" ∈ zq_tb := zq_in5 (i := 170) rfl rfl
theorem zw_1131 : Cond.fieldLink RX12 72 RX12 "actSign" "[I" ∈ zq_tb := zq_in5 (i := 171) rfl rfl
theorem zw_1132 : Cond.fieldLink RX12 75 RX12 "actOne" "[I" ∈ zq_tb := zq_in5 (i := 172) rfl rfl
theorem zw_1133 : Cond.fieldLink RX12 78 RX12 "actFrom" "[I" ∈ zq_tb := zq_in5 (i := 173) rfl rfl
theorem zw_1134 : Cond.fieldLink RX12 81 RX12 "actLast" "[I" ∈ zq_tb := zq_in5 (i := 174) rfl rfl
theorem zw_1135 : Cond.fieldLink RX12 357 RX12 "acts" "I" ∈ zq_tb := zq_in5 (i := 175) rfl rfl
theorem zw_1136 : Cond.fieldLink RX12 84 RX12 "turn" "[I" ∈ zq_tb := zq_in5 (i := 176) rfl rfl
theorem zw_1137 : Cond.fieldLink RX12 87 RX12 "bestTurn" "[I" ∈ zq_tb := zq_in5 (i := 177) rfl rfl
theorem zw_1138 : Cond.fieldLink RX12 377 RX12 "bestCells" "I" ∈ zq_tb := zq_in5 (i := 178) rfl rfl
theorem zw_1139 : Cond.fieldLink RX12 90 RX12 "partEnd" "[I" ∈ zq_tb := zq_in5 (i := 179) rfl rfl
theorem zw_1140 : Cond.fieldLink RX12 93 RX12 "bestEnd" "[I" ∈ zq_tb := zq_in5 (i := 180) rfl rfl
theorem zw_1141 : Cond.fieldLink RX12 401 RX12 "bestLeast" "I" ∈ zq_tb := zq_in5 (i := 181) rfl rfl
theorem zw_1142 : Cond.fieldLink RX12 96 RX12 "whose" "[I" ∈ zq_tb := zq_in5 (i := 182) rfl rfl
theorem zw_1143 : Cond.fieldLink RX12 99 RX12 "firstWhose" "[I" ∈ zq_tb := zq_in5 (i := 183) rfl rfl
theorem zw_1144 : Cond.fieldLink RX12 102 RX12 "sliceWorth" "[I" ∈ zq_tb := zq_in5 (i := 184) rfl rfl
theorem zw_1145 : Cond.fieldLink RX12 414 RX12 "calmMany" "I" ∈ zq_tb := zq_in5 (i := 185) rfl rfl
theorem zw_1146 : Cond.fieldLink RX12 105 RX12 "turns" "[I" ∈ zq_tb := zq_in5 (i := 186) rfl rfl
theorem zw_1147 : Cond.fieldLink RX12 428 RX12 "turnMany" "I" ∈ zq_tb := zq_in5 (i := 187) rfl rfl
theorem zw_1148 : Cond.fieldLink RX12 431 RX12 "taken" "I" ∈ zq_tb := zq_in5 (i := 188) rfl rfl
theorem zw_1149 : Cond.fieldLink RX12 108 RX12 "picks" "[I" ∈ zq_tb := zq_in5 (i := 189) rfl rfl
theorem zw_1150 : Cond.fieldLink RX12 111 RX12 "has" "[I" ∈ zq_tb := zq_in5 (i := 190) rfl rfl
theorem zw_1151 : Cond.fieldLink RX12 239 RX12 "choices" "I" ∈ zq_tb := zq_in5 (i := 191) rfl rfl
theorem zw_1152 : Cond.fieldLink RX12 114 RX12 "choseOne" "[I" ∈ zq_tb := zq_in5 (i := 192) rfl rfl
theorem zw_1153 : Cond.fieldLink RX12 117 RX12 "choseOther" "[I" ∈ zq_tb := zq_in5 (i := 193) rfl rfl
theorem zw_1154 : Cond.fieldLink RX12 120 RX12 "thought" "[I" ∈ zq_tb := zq_in5 (i := 194) rfl rfl
theorem zw_1155 : Cond.fieldLink RX12 123 RX12 "byFirst" "[I" ∈ zq_tb := zq_in5 (i := 195) rfl rfl
theorem zw_1156 : Cond.fieldLink RX12 126 RX12 "bySecond" "[I" ∈ zq_tb := zq_in5 (i := 196) rfl rfl
theorem zw_1157 : Cond.fieldLink RX12 129 RX12 "claimWho" "[I" ∈ zq_tb := zq_in5 (i := 197) rfl rfl
theorem zw_1158 : Cond.fieldLink RX12 132 RX12 "claimed" "[I" ∈ zq_tb := zq_in5 (i := 198) rfl rfl
theorem zw_1159 : Cond.fieldLink RX12 460 RX12 "up" "J" ∈ zq_tb := zq_in5 (i := 199) rfl rfl
theorem zw_1160 : Cond.fieldLink RX12 464 RX12 "down" "J" ∈ zq_tb := zq_in5 (i := 200) rfl rfl
theorem zw_1161 : Cond.fieldLink RX12 135 RX12 "hadAll" "[I" ∈ zq_tb := zq_in5 (i := 201) rfl rfl
theorem zw_1162 : Cond.fieldLink RX12 138 RX12 "isKept" "[Z" ∈ zq_tb := zq_in5 (i := 202) rfl rfl
theorem zw_1163 : Cond.fieldLink RX12 141 RX12 "keptLoaves" "[I" ∈ zq_tb := zq_in5 (i := 203) rfl rfl
theorem zw_1164 : Cond.fieldLink RX12 144 RX12 "kept" "[I" ∈ zq_tb := zq_in5 (i := 204) rfl rfl
theorem zw_1304 : Cond.code yX12_thrown cX12_thrown 1 (some .int) ∈ zq_tb := zq_in6 (i := 104) rfl rfl
theorem zw_1308 : Cond.code yX12_sign cX12_sign 3 (some .int) ∈ zq_tb := zq_in6 (i := 108) rfl rfl
theorem zw_1312 : Cond.code yX12_end cX12_end 2 (some .boolean) ∈ zq_tb := zq_in6 (i := 112) rfl rfl
theorem zw_1313 : Cond.methodLink RX12 161 yX12_in ∈ zq_tb := zq_in6 (i := 113) rfl rfl
theorem zw_1314 : Cond.static yX12_in ∈ zq_tb := zq_in6 (i := 114) rfl rfl
theorem zw_1315 : Cond.code yX12_in cX12_in 6 (some .boolean) ∈ zq_tb := zq_in6 (i := 115) rfl rfl
theorem zw_1319 : Cond.code yX12_loaf cX12_loaf 5 (some .int) ∈ zq_tb := zq_in6 (i := 119) rfl rfl
theorem zw_1320 : Cond.methodLink RX12 218 yX12_begins ∈ zq_tb := zq_in6 (i := 120) rfl rfl
theorem zw_1322 : Cond.instanceMethod yX12_begins ∈ zq_tb := zq_in6 (i := 122) rfl rfl
theorem zw_1323 : Cond.code yX12_begins cX12_begins 3 (some .int) ∈ zq_tb := zq_in6 (i := 123) rfl rfl
theorem zw_1324 : Cond.methodLink RX12 181 yJ9_min_7cf53 ∈ zq_tb := zq_in6 (i := 124) rfl rfl
theorem zw_1326 : Cond.methodLink RX12 208 yX12_among ∈ zq_tb := zq_in6 (i := 126) rfl rfl
theorem zw_1328 : Cond.instanceMethod yX12_among ∈ zq_tb := zq_in6 (i := 128) rfl rfl
theorem zw_1329 : Cond.code yX12_among cX12_among 3 (some .int) ∈ zq_tb := zq_in6 (i := 129) rfl rfl
theorem zw_1330 : Cond.methodLink RX12 198 yJ0_length_8abf5 ∈ zq_tb := zq_in6 (i := 130) rfl rfl
theorem zw_1340 : Cond.methodLink RX12 204 yJ0_charAt_5068e ∈ zq_tb := zq_in6 (i := 140) rfl rfl
theorem zw_1378 : Cond.methodLink RX12 224 yX12_takesOf ∈ zq_tb := zq_in6 (i := 178) rfl rfl
theorem zw_1380 : Cond.instanceMethod yX12_takesOf ∈ zq_tb := zq_in6 (i := 180) rfl rfl
theorem zw_1381 : Cond.code yX12_takesOf cX12_takesOf 3 (some .int) ∈ zq_tb := zq_in6 (i := 181) rfl rfl
theorem zw_1382 : Cond.methodLink RX12 190 yX12_flag ∈ zq_tb := zq_in6 (i := 182) rfl rfl
theorem zw_1383 : Cond.static yX12_flag ∈ zq_tb := zq_in6 (i := 183) rfl rfl
theorem zw_1384 : Cond.code yX12_flag cX12_flag 1 (some .int) ∈ zq_tb := zq_in6 (i := 184) rfl rfl
theorem zw_1386 : Cond.methodLink RX12 229 yX12_takes ∈ zq_tb := zq_in6 (i := 186) rfl rfl
theorem zw_1388 : Cond.instanceMethod yX12_takes ∈ zq_tb := zq_in6 (i := 188) rfl rfl
theorem zw_1389 : Cond.code yX12_takes cX12_takes 3 (some .boolean) ∈ zq_tb := zq_in6 (i := 189) rfl rfl
theorem zw_1390 : Cond.methodLink RX12 232 yX12_faultOf ∈ zq_tb := zq_in6 (i := 190) rfl rfl
theorem zw_1392 : Cond.instanceMethod yX12_faultOf ∈ zq_tb := zq_in6 (i := 192) rfl rfl
theorem zw_1393 : Cond.code yX12_faultOf cX12_faultOf 5 (some .int) ∈ zq_tb := zq_in6 (i := 193) rfl rfl
theorem zw_1397 : Cond.code yX12_guests cX12_guests 7 (some .int) ∈ zq_tb := zq_in6 (i := 197) rfl rfl
theorem zw_1398 : Cond.methodLink RX12 251 yX12_readsGuest ∈ zq_tb := zq_in6 (i := 198) rfl rfl
theorem zw_1400 : Cond.instanceMethod yX12_readsGuest ∈ zq_tb := zq_in6 (i := 200) rfl rfl
theorem zw_1401 : Cond.code yX12_readsGuest cX12_readsGuest 3 (some .boolean) ∈ zq_tb := zq_in6 (i := 201) rfl rfl
theorem zw_1402 : Cond.methodLink RX12 248 yX12_number ∈ zq_tb := zq_in6 (i := 202) rfl rfl
theorem zw_1404 : Cond.instanceMethod yX12_number ∈ zq_tb := zq_in6 (i := 204) rfl rfl
theorem zw_1405 : Cond.code yX12_number cX12_number 4 (some .int) ∈ zq_tb := zq_in6 (i := 205) rfl rfl
theorem zw_1406 : Cond.methodLink RX12 212 yX12_isDigit ∈ zq_tb := zq_in6 (i := 206) rfl rfl
theorem zw_1408 : Cond.instanceMethod yX12_isDigit ∈ zq_tb := zq_in6 (i := 208) rfl rfl
theorem zw_1409 : Cond.code yX12_isDigit cX12_isDigit 1 (some .boolean) ∈ zq_tb := zq_in6 (i := 209) rfl rfl
theorem zw_1410 : Cond.constantLong RX12 194 (48 : Int64) ∈ zq_tb := zq_in6 (i := 210) rfl rfl
theorem zw_1411 : Cond.constantLong RX12 196 (57 : Int64) ∈ zq_tb := zq_in6 (i := 211) rfl rfl
theorem zw_1415 : Cond.code yX12_deeds cX12_deeds 6 (some .int) ∈ zq_tb := zq_in6 (i := 215) rfl rfl
theorem zw_1416 : Cond.methodLink RX12 259 yX12_readsDeed ∈ zq_tb := zq_in6 (i := 216) rfl rfl
theorem zw_1418 : Cond.instanceMethod yX12_readsDeed ∈ zq_tb := zq_in6 (i := 218) rfl rfl
theorem zw_1419 : Cond.code yX12_readsDeed cX12_readsDeed 5 (some .boolean) ∈ zq_tb := zq_in6 (i := 219) rfl rfl
theorem zw_1421 : Cond.methodLink RX12 256 yX12_letter ∈ zq_tb := zq_in6 (i := 221) rfl rfl
theorem zw_1423 : Cond.instanceMethod yX12_letter ∈ zq_tb := zq_in6 (i := 223) rfl rfl
theorem zw_1424 : Cond.code yX12_letter cX12_letter 2 (some .int) ∈ zq_tb := zq_in6 (i := 224) rfl rfl
theorem zw_1425 : Cond.constantLong RX12 216 (97 : Int64) ∈ zq_tb := zq_in6 (i := 225) rfl rfl
theorem zw_1426 : Cond.methodLink RX12 262 yJ9_max_7cf53 ∈ zq_tb := zq_in6 (i := 226) rfl rfl
theorem zw_1427 : Cond.methodLink RX12 265 yX12_allDeserts ∈ zq_tb := zq_in6 (i := 227) rfl rfl
theorem zw_1429 : Cond.instanceMethod yX12_allDeserts ∈ zq_tb := zq_in6 (i := 229) rfl rfl
theorem zw_1430 : Cond.code yX12_allDeserts cX12_allDeserts 3 (some .int) ∈ zq_tb := zq_in6 (i := 230) rfl rfl
theorem zw_1434 : Cond.code yX12_rule cX12_rule 5 (some .int) ∈ zq_tb := zq_in6 (i := 234) rfl rfl
theorem zw_1435 : Cond.methodLink RX12 280 yX12_readsRank ∈ zq_tb := zq_in6 (i := 235) rfl rfl
theorem zw_1437 : Cond.instanceMethod yX12_readsRank ∈ zq_tb := zq_in6 (i := 237) rfl rfl
theorem zw_1438 : Cond.code yX12_readsRank cX12_readsRank 4 (some .boolean) ∈ zq_tb := zq_in6 (i := 238) rfl rfl
theorem zw_1439 : Cond.methodLink RX12 271 yX12_readsThing ∈ zq_tb := zq_in6 (i := 239) rfl rfl
theorem zw_1441 : Cond.instanceMethod yX12_readsThing ∈ zq_tb := zq_in7 (i := 1) rfl rfl
theorem zw_1442 : Cond.code yX12_readsThing cX12_readsThing 2 (some .boolean) ∈ zq_tb := zq_in7 (i := 2) rfl rfl
theorem zw_1443 : Cond.methodLink RX12 274 yX12_codes ∈ zq_tb := zq_in7 (i := 3) rfl rfl
theorem zw_1445 : Cond.instanceMethod yX12_codes ∈ zq_tb := zq_in7 (i := 5) rfl rfl
theorem zw_1446 : Cond.code yX12_codes cX12_codes 2 none ∈ zq_tb := zq_in7 (i := 6) rfl rfl
theorem zw_1454 : Cond.code yX12_cell cX12_cell 3 (some .int) ∈ zq_tb := zq_in7 (i := 14) rfl rfl
theorem zw_1455 : Cond.methodLink RX12 168 yX12_isCell ∈ zq_tb := zq_in7 (i := 15) rfl rfl
theorem zw_1457 : Cond.instanceMethod yX12_isCell ∈ zq_tb := zq_in7 (i := 17) rfl rfl
theorem zw_1458 : Cond.code yX12_isCell cX12_isCell 2 (some .boolean) ∈ zq_tb := zq_in7 (i := 18) rfl rfl
theorem zw_1459 : Cond.constantLong RX12 308 (3 : Int64) ∈ zq_tb := zq_in7 (i := 19) rfl rfl
theorem zw_1460 : Cond.methodLink RX12 310 yX12_refuse ∈ zq_tb := zq_in7 (i := 20) rfl rfl
theorem zw_1462 : Cond.instanceMethod yX12_refuse ∈ zq_tb := zq_in7 (i := 22) rfl rfl
theorem zw_1463 : Cond.code yX12_refuse cX12_refuse 1 (some .int) ∈ zq_tb := zq_in7 (i := 23) rfl rfl
theorem zw_1467 : Cond.code yX12_guest cX12_guest 3 (some .int) ∈ zq_tb := zq_in7 (i := 27) rfl rfl
theorem zw_1468 : Cond.methodLink RX12 313 yX12_isGuest ∈ zq_tb := zq_in7 (i := 28) rfl rfl
theorem zw_1470 : Cond.instanceMethod yX12_isGuest ∈ zq_tb := zq_in7 (i := 30) rfl rfl
theorem zw_1471 : Cond.code yX12_isGuest cX12_isGuest 2 (some .boolean) ∈ zq_tb := zq_in7 (i := 31) rfl rfl
theorem zw_1472 : Cond.constantLong RX12 316 (7 : Int64) ∈ zq_tb := zq_in7 (i := 32) rfl rfl
theorem zw_1473 : Cond.methodLink RX12 318 yX12_laysTable ∈ zq_tb := zq_in7 (i := 33) rfl rfl
theorem zw_1475 : Cond.instanceMethod yX12_laysTable ∈ zq_tb := zq_in7 (i := 35) rfl rfl
theorem zw_1476 : Cond.code yX12_laysTable cX12_laysTable 3 none ∈ zq_tb := zq_in7 (i := 36) rfl rfl
theorem zw_1477 : Cond.methodLink RX12 303 yX12_worthOf ∈ zq_tb := zq_in7 (i := 37) rfl rfl
theorem zw_1479 : Cond.instanceMethod yX12_worthOf ∈ zq_tb := zq_in7 (i := 39) rfl rfl
theorem zw_1480 : Cond.code yX12_worthOf cX12_worthOf 3 (some .int) ∈ zq_tb := zq_in7 (i := 40) rfl rfl
theorem zw_1481 : Cond.methodLink RX12 299 yX12_worthBy ∈ zq_tb := zq_in7 (i := 41) rfl rfl
theorem zw_1483 : Cond.instanceMethod yX12_worthBy ∈ zq_tb := zq_in7 (i := 43) rfl rfl
theorem zw_1484 : Cond.code yX12_worthBy cX12_worthBy 6 (some .int) ∈ zq_tb := zq_in7 (i := 44) rfl rfl
theorem zw_1485 : Cond.methodLink RX12 296 yX12_ruled ∈ zq_tb := zq_in7 (i := 45) rfl rfl
theorem zw_1487 : Cond.instanceMethod yX12_ruled ∈ zq_tb := zq_in7 (i := 47) rfl rfl
theorem zw_1488 : Cond.code yX12_ruled cX12_ruled 4 (some .int) ∈ zq_tb := zq_in7 (i := 48) rfl rfl
theorem zw_1489 : Cond.methodLink RX12 292 yX12_worked ∈ zq_tb := zq_in7 (i := 49) rfl rfl
theorem zw_1490 : Cond.static yX12_worked ∈ zq_tb := zq_in7 (i := 50) rfl rfl
theorem zw_1491 : Cond.code yX12_worked cX12_worked 3 (some .int) ∈ zq_tb := zq_in7 (i := 51) rfl rfl
theorem zw_1492 : Cond.methodLink RX12 321 yX12_holds ∈ zq_tb := zq_in7 (i := 52) rfl rfl
theorem zw_1494 : Cond.instanceMethod yX12_holds ∈ zq_tb := zq_in7 (i := 54) rfl rfl
theorem zw_1495 : Cond.code yX12_holds cX12_holds 4 (some .int) ∈ zq_tb := zq_in7 (i := 55) rfl rfl
theorem zw_1496 : Cond.methodLink RX12 324 yX12_held ∈ zq_tb := zq_in7 (i := 56) rfl rfl
theorem zw_1498 : Cond.instanceMethod yX12_held ∈ zq_tb := zq_in7 (i := 58) rfl rfl
theorem zw_1499 : Cond.code yX12_held cX12_held 5 (some .int) ∈ zq_tb := zq_in7 (i := 59) rfl rfl
theorem zw_1500 : Cond.methodLink RX12 327 yX12_isDue ∈ zq_tb := zq_in7 (i := 60) rfl rfl
theorem zw_1502 : Cond.instanceMethod yX12_isDue ∈ zq_tb := zq_in7 (i := 62) rfl rfl
theorem zw_1503 : Cond.code yX12_isDue cX12_isDue 5 (some .boolean) ∈ zq_tb := zq_in7 (i := 63) rfl rfl
theorem zw_1504 : Cond.constantLong RX12 306 (100 : Int64) ∈ zq_tb := zq_in7 (i := 64) rfl rfl
theorem zw_1508 : Cond.code yX12_worth cX12_worth 3 (some .int) ∈ zq_tb := zq_in7 (i := 68) rfl rfl
theorem zw_1512 : Cond.code yX12_taste cX12_taste 5 (some .int) ∈ zq_tb := zq_in7 (i := 72) rfl rfl
theorem zw_1513 : Cond.constantLong RX12 331 (2 : Int64) ∈ zq_tb := zq_in7 (i := 73) rfl rfl
theorem zw_1514 : Cond.constantLong RX12 333 (9 : Int64) ∈ zq_tb := zq_in7 (i := 74) rfl rfl
theorem zw_1518 : Cond.code yX12_sheet cX12_sheet 9 (some .int) ∈ zq_tb := zq_in7 (i := 78) rfl rfl
theorem zw_1522 : Cond.code yX12_undo cX12_undo 2 (some .int) ∈ zq_tb := zq_in7 (i := 82) rfl rfl
theorem zw_1526 : Cond.code yX12_give cX12_give 4 (some .int) ∈ zq_tb := zq_in7 (i := 86) rfl rfl
theorem zw_1527 : Cond.methodLink RX12 342 yX12_putsBy ∈ zq_tb := zq_in7 (i := 87) rfl rfl
theorem zw_1529 : Cond.instanceMethod yX12_putsBy ∈ zq_tb := zq_in7 (i := 89) rfl rfl
theorem zw_1530 : Cond.code yX12_putsBy cX12_putsBy 2 none ∈ zq_tb := zq_in7 (i := 90) rfl rfl
theorem zw_1531 : Cond.methodLink RX12 345 yX12_gives ∈ zq_tb := zq_in7 (i := 91) rfl rfl
theorem zw_1533 : Cond.instanceMethod yX12_gives ∈ zq_tb := zq_in7 (i := 93) rfl rfl
theorem zw_1534 : Cond.code yX12_gives cX12_gives 6 (some .int) ∈ zq_tb := zq_in7 (i := 94) rfl rfl
theorem zw_1535 : Cond.methodLink RX12 338 yX12_isSlice ∈ zq_tb := zq_in7 (i := 95) rfl rfl
theorem zw_1537 : Cond.instanceMethod yX12_isSlice ∈ zq_tb := zq_in7 (i := 97) rfl rfl
theorem zw_1538 : Cond.code yX12_isSlice cX12_isSlice 3 (some .boolean) ∈ zq_tb := zq_in7 (i := 98) rfl rfl
theorem zw_1539 : Cond.methodLink RX12 348 yX12_counts ∈ zq_tb := zq_in7 (i := 99) rfl rfl
theorem zw_1541 : Cond.instanceMethod yX12_counts ∈ zq_tb := zq_in7 (i := 101) rfl rfl
theorem zw_1542 : Cond.code yX12_counts cX12_counts 2 (some .int) ∈ zq_tb := zq_in7 (i := 102) rfl rfl
theorem zw_1543 : Cond.methodLink RX12 335 yX12_adds ∈ zq_tb := zq_in7 (i := 103) rfl rfl
theorem zw_1545 : Cond.instanceMethod yX12_adds ∈ zq_tb := zq_in7 (i := 105) rfl rfl
theorem zw_1546 : Cond.code yX12_adds cX12_adds 3 (some .int) ∈ zq_tb := zq_in7 (i := 106) rfl rfl
theorem zw_1550 : Cond.code yX12_back cX12_back 3 (some .int) ∈ zq_tb := zq_in7 (i := 110) rfl rfl
theorem zw_1551 : Cond.methodLink RX12 351 yX12_backs ∈ zq_tb := zq_in7 (i := 111) rfl rfl
theorem zw_1553 : Cond.instanceMethod yX12_backs ∈ zq_tb := zq_in7 (i := 113) rfl rfl
theorem zw_1554 : Cond.code yX12_backs cX12_backs 6 (some .int) ∈ zq_tb := zq_in7 (i := 114) rfl rfl
theorem zw_1558 : Cond.code yX12_mouse cX12_mouse 2 (some .int) ∈ zq_tb := zq_in7 (i := 118) rfl rfl
theorem zw_1559 : Cond.methodLink RX12 354 yX12_eats ∈ zq_tb := zq_in7 (i := 119) rfl rfl
theorem zw_1561 : Cond.instanceMethod yX12_eats ∈ zq_tb := zq_in7 (i := 121) rfl rfl
theorem zw_1562 : Cond.code yX12_eats cX12_eats 2 (some .int) ∈ zq_tb := zq_in7 (i := 122) rfl rfl
theorem zw_1566 : Cond.code yX12_supper cX12_supper 6 (some .int) ∈ zq_tb := zq_in7 (i := 126) rfl rfl
theorem zw_1567 : Cond.methodLink RX12 362 yX12_readsAct ∈ zq_tb := zq_in7 (i := 127) rfl rfl
theorem zw_1569 : Cond.instanceMethod yX12_readsAct ∈ zq_tb := zq_in7 (i := 129) rfl rfl
theorem zw_1570 : Cond.code yX12_readsAct cX12_readsAct 2 (some .boolean) ∈ zq_tb := zq_in7 (i := 130) rfl rfl
theorem zw_1572 : Cond.methodLink RX12 365 yX12_does ∈ zq_tb := zq_in7 (i := 132) rfl rfl
theorem zw_1574 : Cond.instanceMethod yX12_does ∈ zq_tb := zq_in7 (i := 134) rfl rfl
theorem zw_1575 : Cond.code yX12_does cX12_does 3 (some .boolean) ∈ zq_tb := zq_in7 (i := 135) rfl rfl
theorem zw_1576 : Cond.methodLink RX12 368 yX12_enters ∈ zq_tb := zq_in7 (i := 136) rfl rfl
theorem zw_1578 : Cond.instanceMethod yX12_enters ∈ zq_tb := zq_in7 (i := 138) rfl rfl
theorem zw_1579 : Cond.code yX12_enters cX12_enters 3 none ∈ zq_tb := zq_in7 (i := 139) rfl rfl
theorem zw_1583 : Cond.code yX12_seen cX12_seen 3 (some .int) ∈ zq_tb := zq_in7 (i := 143) rfl rfl
theorem zw_1587 : Cond.code yX12_envy cX12_envy 4 (some .int) ∈ zq_tb := zq_in7 (i := 147) rfl rfl
theorem zw_1591 : Cond.code yX12_wronged cX12_wronged 4 (some .int) ∈ zq_tb := zq_in7 (i := 151) rfl rfl
theorem zw_1592 : Cond.methodLink RX12 372 yJ6_bitCount_0f7a4 ∈ zq_tb := zq_in7 (i := 152) rfl rfl
theorem zw_1596 : Cond.code yX12_happiest cX12_happiest 11 (some .int) ∈ zq_tb := zq_in7 (i := 156) rfl rfl
theorem zw_1597 : Cond.methodLink RX12 151 yX12_common ∈ zq_tb := zq_in7 (i := 157) rfl rfl
theorem zw_1598 : Cond.static yX12_common ∈ zq_tb := zq_in7 (i := 158) rfl rfl
theorem zw_1599 : Cond.code yX12_common cX12_common 4 (some .long) ∈ zq_tb := zq_in7 (i := 159) rfl rfl
theorem zw_1603 : Cond.code yX12_pieces cX12_pieces 7 (some .int) ∈ zq_tb := zq_in7 (i := 163) rfl rfl
theorem zw_1607 : Cond.code yX12_trade cX12_trade 11 (some .int) ∈ zq_tb := zq_in7 (i := 167) rfl rfl
theorem zw_1611 : Cond.code yX12_slices cX12_slices 3 (some .int) ∈ zq_tb := zq_in7 (i := 171) rfl rfl
theorem zw_1612 : Cond.methodLink RX12 392 yX12_all ∈ zq_tb := zq_in7 (i := 172) rfl rfl
theorem zw_1614 : Cond.instanceMethod yX12_all ∈ zq_tb := zq_in7 (i := 174) rfl rfl
theorem zw_1615 : Cond.code yX12_all cX12_all 1 (some .int) ∈ zq_tb := zq_in7 (i := 175) rfl rfl
theorem zw_1616 : Cond.methodLink RX12 395 yX12_canServe ∈ zq_tb := zq_in7 (i := 176) rfl rfl
theorem zw_1618 : Cond.instanceMethod yX12_canServe ∈ zq_tb := zq_in7 (i := 178) rfl rfl
theorem zw_1619 : Cond.code yX12_canServe cX12_canServe 3 (some .boolean) ∈ zq_tb := zq_in7 (i := 179) rfl rfl
theorem zw_1620 : Cond.methodLink RX12 388 yX12_serves ∈ zq_tb := zq_in7 (i := 180) rfl rfl
theorem zw_1622 : Cond.instanceMethod yX12_serves ∈ zq_tb := zq_in7 (i := 182) rfl rfl
theorem zw_1623 : Cond.code yX12_serves cX12_serves 7 none ∈ zq_tb := zq_in7 (i := 183) rfl rfl
theorem zw_1624 : Cond.methodLink RX12 380 yX12_isTurnLess ∈ zq_tb := zq_in7 (i := 184) rfl rfl
theorem zw_1626 : Cond.instanceMethod yX12_isTurnLess ∈ zq_tb := zq_in7 (i := 186) rfl rfl
theorem zw_1627 : Cond.code yX12_isTurnLess cX12_isTurnLess 3 (some .boolean) ∈ zq_tb := zq_in7 (i := 187) rfl rfl
theorem zw_1628 : Cond.methodLink RX12 383 yX12_has ∈ zq_tb := zq_in7 (i := 188) rfl rfl
theorem zw_1629 : Cond.static yX12_has ∈ zq_tb := zq_in7 (i := 189) rfl rfl
theorem zw_1630 : Cond.code yX12_has cX12_has 2 (some .boolean) ∈ zq_tb := zq_in7 (i := 190) rfl rfl
theorem zw_1631 : Cond.methodLink RX12 385 yX12_endFor ∈ zq_tb := zq_in7 (i := 191) rfl rfl
theorem zw_1633 : Cond.instanceMethod yX12_endFor ∈ zq_tb := zq_in7 (i := 193) rfl rfl
theorem zw_1634 : Cond.code yX12_endFor cX12_endFor 7 (some .int) ∈ zq_tb := zq_in7 (i := 194) rfl rfl
theorem zw_1638 : Cond.code yX12_quarrel cX12_quarrel 4 (some .int) ∈ zq_tb := zq_in7 (i := 198) rfl rfl
theorem zw_1642 : Cond.code yX12_stretch cX12_stretch 2 (some .int) ∈ zq_tb := zq_in7 (i := 202) rfl rfl
theorem zw_1646 : Cond.code yX12_richest cX12_richest 5 (some .int) ∈ zq_tb := zq_in7 (i := 206) rfl rfl
theorem zw_1647 : Cond.methodLink RX12 398 yX12_sliceOf ∈ zq_tb := zq_in7 (i := 207) rfl rfl
theorem zw_1649 : Cond.instanceMethod yX12_sliceOf ∈ zq_tb := zq_in7 (i := 209) rfl rfl
theorem zw_1650 : Cond.code yX12_sliceOf cX12_sliceOf 6 (some .int) ∈ zq_tb := zq_in7 (i := 210) rfl rfl
theorem zw_1654 : Cond.code yX12_parts cX12_parts 4 (some .int) ∈ zq_tb := zq_in7 (i := 214) rfl rfl
theorem zw_1655 : Cond.constantLong RX12 408 (6 : Int64) ∈ zq_tb := zq_in7 (i := 215) rfl rfl
theorem zw_1656 : Cond.constant RX12 410 (2147483647 : Int32) ∈ zq_tb := zq_in7 (i := 216) rfl rfl
theorem zw_1657 : Cond.methodLink RX12 404 yX12_partsOn ∈ zq_tb := zq_in7 (i := 217) rfl rfl
theorem zw_1659 : Cond.instanceMethod yX12_partsOn ∈ zq_tb := zq_in7 (i := 219) rfl rfl
theorem zw_1660 : Cond.code yX12_partsOn cX12_partsOn 8 none ∈ zq_tb := zq_in7 (i := 220) rfl rfl
theorem zw_1664 : Cond.code yX12_calm cX12_calm 2 (some .int) ∈ zq_tb := zq_in7 (i := 224) rfl rfl
theorem zw_1665 : Cond.methodLink RX12 421 yX12_calmsFrom ∈ zq_tb := zq_in7 (i := 225) rfl rfl
theorem zw_1667 : Cond.instanceMethod yX12_calmsFrom ∈ zq_tb := zq_in7 (i := 227) rfl rfl
theorem zw_1668 : Cond.code yX12_calmsFrom cX12_calmsFrom 4 none ∈ zq_tb := zq_in7 (i := 228) rfl rfl
theorem zw_1669 : Cond.methodLink RX12 411 yX12_isCalm ∈ zq_tb := zq_in7 (i := 229) rfl rfl
theorem zw_1671 : Cond.instanceMethod yX12_isCalm ∈ zq_tb := zq_in7 (i := 231) rfl rfl
theorem zw_1672 : Cond.code yX12_isCalm cX12_isCalm 4 (some .boolean) ∈ zq_tb := zq_in7 (i := 232) rfl rfl
theorem zw_1673 : Cond.methodLink RX12 417 yX12_goesTo ∈ zq_tb := zq_in7 (i := 233) rfl rfl
theorem zw_1675 : Cond.instanceMethod yX12_goesTo ∈ zq_tb := zq_in7 (i := 235) rfl rfl
theorem zw_1676 : Cond.code yX12_goesTo cX12_goesTo 5 none ∈ zq_tb := zq_in7 (i := 236) rfl rfl
theorem zw_1680 : Cond.code yX12_cuts cX12_cuts 9 (some .int) ∈ zq_tb := zq_in8 (i := 0) rfl rfl
theorem zw_1681 : Cond.methodLink RX12 425 yJ9_abs_0f7a4 ∈ zq_tb := zq_in8 (i := 1) rfl rfl
theorem zw_1685 : Cond.code yX12_byturns cX12_byturns 3 (some .int) ∈ zq_tb := zq_in8 (i := 5) rfl rfl
theorem zw_1686 : Cond.methodLink RX12 434 yX12_readsTurns ∈ zq_tb := zq_in8 (i := 6) rfl rfl
theorem zw_1688 : Cond.instanceMethod yX12_readsTurns ∈ zq_tb := zq_in8 (i := 8) rfl rfl
theorem zw_1689 : Cond.code yX12_readsTurns cX12_readsTurns 3 (some .int) ∈ zq_tb := zq_in8 (i := 9) rfl rfl
theorem zw_1690 : Cond.methodLink RX12 437 yX12_picksAsWorth ∈ zq_tb := zq_in8 (i := 10) rfl rfl
theorem zw_1692 : Cond.instanceMethod yX12_picksAsWorth ∈ zq_tb := zq_in8 (i := 12) rfl rfl
theorem zw_1693 : Cond.code yX12_picksAsWorth cX12_picksAsWorth 2 none ∈ zq_tb := zq_in8 (i := 13) rfl rfl
theorem zw_1694 : Cond.methodLink RX12 440 yX12_goesByTurns ∈ zq_tb := zq_in8 (i := 14) rfl rfl
theorem zw_1696 : Cond.instanceMethod yX12_goesByTurns ∈ zq_tb := zq_in8 (i := 16) rfl rfl
theorem zw_1697 : Cond.code yX12_goesByTurns cX12_goesByTurns 6 none ∈ zq_tb := zq_in8 (i := 17) rfl rfl
theorem zw_1701 : Cond.code yX12_lies cX12_lies 11 (some .int) ∈ zq_tb := zq_in8 (i := 21) rfl rfl
theorem zw_1705 : Cond.code yX12_chose cX12_chose 3 (some .int) ∈ zq_tb := zq_in8 (i := 25) rfl rfl
theorem zw_1709 : Cond.code yX12_forget cX12_forget 2 (some .int) ∈ zq_tb := zq_in8 (i := 29) rfl rfl
theorem zw_1713 : Cond.code yX12_tastes cX12_tastes 7 (some .int) ∈ zq_tb := zq_in8 (i := 33) rfl rfl
theorem zw_1714 : Cond.methodLink RX12 443 yX12_fitsBy ∈ zq_tb := zq_in8 (i := 34) rfl rfl
theorem zw_1716 : Cond.instanceMethod yX12_fitsBy ∈ zq_tb := zq_in8 (i := 36) rfl rfl
theorem zw_1717 : Cond.code yX12_fitsBy cX12_fitsBy 7 (some .boolean) ∈ zq_tb := zq_in8 (i := 37) rfl rfl
theorem zw_1721 : Cond.code yX12_offer cX12_offer 7 (some .int) ∈ zq_tb := zq_in8 (i := 41) rfl rfl
theorem zw_1725 : Cond.code yX12_claims cX12_claims 6 (some .int) ∈ zq_tb := zq_in8 (i := 45) rfl rfl
theorem zw_1726 : Cond.methodLink RX12 447 yX12_meets ∈ zq_tb := zq_in8 (i := 46) rfl rfl
theorem zw_1728 : Cond.instanceMethod yX12_meets ∈ zq_tb := zq_in8 (i := 48) rfl rfl
theorem zw_1729 : Cond.code yX12_meets cX12_meets 6 none ∈ zq_tb := zq_in8 (i := 49) rfl rfl
theorem zw_1733 : Cond.code yX12_settle cX12_settle 8 (some .int) ∈ zq_tb := zq_in8 (i := 53) rfl rfl
theorem zw_1734 : Cond.constantLong RX12 450 (999 : Int64) ∈ zq_tb := zq_in8 (i := 54) rfl rfl
theorem zw_1738 : Cond.code yX12_nothing cX12_nothing 8 (some .int) ∈ zq_tb := zq_in8 (i := 58) rfl rfl
theorem zw_1739 : Cond.methodLink RX12 452 yX12_crumbsAll ∈ zq_tb := zq_in8 (i := 59) rfl rfl
theorem zw_1741 : Cond.instanceMethod yX12_crumbsAll ∈ zq_tb := zq_in8 (i := 61) rfl rfl
theorem zw_1742 : Cond.code yX12_crumbsAll cX12_crumbsAll 3 (some .int) ∈ zq_tb := zq_in8 (i := 62) rfl rfl
theorem zw_1746 : Cond.code yX12_ate cX12_ate 6 (some .int) ∈ zq_tb := zq_in8 (i := 66) rfl rfl
theorem zw_1747 : Cond.constantLong RX12 455 (9999 : Int64) ∈ zq_tb := zq_in8 (i := 67) rfl rfl
theorem zw_1748 : Cond.methodLink RX12 457 yX12_desertsOf ∈ zq_tb := zq_in8 (i := 68) rfl rfl
theorem zw_1750 : Cond.instanceMethod yX12_desertsOf ∈ zq_tb := zq_in8 (i := 70) rfl rfl
theorem zw_1751 : Cond.code yX12_desertsOf cX12_desertsOf 4 (some .int) ∈ zq_tb := zq_in8 (i := 71) rfl rfl
theorem zw_1755 : Cond.code yX12_enough cX12_enough 5 (some .int) ∈ zq_tb := zq_in8 (i := 75) rfl rfl
theorem zw_1756 : Cond.constantLong RX12 467 (10 : Int64) ∈ zq_tb := zq_in8 (i := 76) rfl rfl
theorem zw_1757 : Cond.methodLink RX12 469 yX12_bets ∈ zq_tb := zq_in8 (i := 77) rfl rfl
theorem zw_1759 : Cond.instanceMethod yX12_bets ∈ zq_tb := zq_in8 (i := 79) rfl rfl
theorem zw_1760 : Cond.code yX12_bets cX12_bets 7 none ∈ zq_tb := zq_in8 (i := 80) rfl rfl
theorem zw_1764 : Cond.code yX12_wide cX12_wide 7 (some .int) ∈ zq_tb := zq_in8 (i := 84) rfl rfl
theorem zw_1768 : Cond.code yX12_suppers cX12_suppers 6 (some .int) ∈ zq_tb := zq_in8 (i := 88) rfl rfl
theorem zw_1769 : Cond.constantLong RX12 472 (50 : Int64) ∈ zq_tb := zq_in8 (i := 89) rfl rfl
theorem zw_1770 : Cond.constant RX12 474 (1103515245 : Int32) ∈ zq_tb := zq_in8 (i := 90) rfl rfl
theorem zw_1774 : Cond.code yX12_keep cX12_keep 3 (some .boolean) ∈ zq_tb := zq_in8 (i := 94) rfl rfl
theorem zw_1778 : Cond.code yX12_again cX12_again 3 (some .boolean) ∈ zq_tb := zq_in8 (i := 98) rfl rfl
theorem zw_1782 : Cond.code yX12_count cX12_count 2 (some .int) ∈ zq_tb := zq_in8 (i := 102) rfl rfl
theorem zw_1786 : Cond.code yX12_row cX12_row 2 (some .long) ∈ zq_tb := zq_in8 (i := 106) rfl rfl
theorem zy_X11_again : zq_y yX11_again cX11_again 2 (some .boolean) 1 := ⟨zw_993, zw_1, by decide +kernel, by decide⟩
theorem zy_X11_areGuests : zq_y yX11_areGuests cX11_areGuests 2 (some .boolean) 1 := ⟨zw_731, zw_1, by decide +kernel, by decide⟩
theorem zy_X11_ate : zq_y yX11_ate cX11_ate 7 (some .int) 1 := ⟨zw_958, zw_1, by decide +kernel, by decide⟩
theorem zy_X11_back : zq_y yX11_back cX11_back 5 (some .int) 2 := ⟨zw_617, zw_1, by decide +kernel, by decide⟩
theorem zy_X11_bestOfLeasts : zq_y yX11_bestOfLeasts cX11_bestOfLeasts 8 (some .int) 2 := ⟨zw_797, zw_1, by decide +kernel, by decide⟩
theorem zy_X11_byturns : zq_y yX11_byturns cX11_byturns 4 (some .int) 0 := ⟨zw_845, zw_1, by decide +kernel, by decide⟩
theorem zy_X11_calm : zq_y yX11_calm cX11_calm 1 (some .int) 0 := ⟨zw_801, zw_1, by decide +kernel, by decide⟩
theorem zy_X11_cell : zq_y yX11_cell cX11_cell 3 (some .int) 2 := ⟨zw_1009, zw_1, by decide +kernel, by decide⟩
theorem zy_X11_cellsWith : zq_y yX11_cellsWith cX11_cellsWith 4 (some .int) 1 := ⟨zw_663, zw_1, by decide +kernel, by decide⟩
theorem zy_X11_chose : zq_y yX11_chose cX11_chose 3 (some .int) 2 := ⟨zw_880, zw_1, by decide +kernel, by decide⟩
theorem zy_X11_claims : zq_y yX11_claims cX11_claims 6 (some .int) 0 := ⟨zw_928, zw_1, by decide +kernel, by decide⟩
theorem zy_X11_count : zq_y yX11_count cX11_count 2 (some .int) 1 := ⟨zw_1001, zw_1, by decide +kernel, by decide⟩
theorem zy_X11_cuts : zq_y yX11_cuts cX11_cuts 10 (some .int) 2 := ⟨zw_838, zw_1, by decide +kernel, by decide⟩
theorem zy_X11_deeds : zq_y yX11_deeds cX11_deeds 2 (some .int) 0 := ⟨zw_477, zw_1, by decide +kernel, by decide⟩
theorem zy_X11_doAct : zq_y yX11_doAct cX11_doAct 3 (some .int) 1 := ⟨zw_651, zw_1, by decide +kernel, by decide⟩
theorem zy_X11_end : zq_y yX11_end cX11_end 2 (some .boolean) 1 := ⟨zw_377, zw_1, by decide +kernel, by decide⟩
theorem zy_X11_enough : zq_y yX11_enough cX11_enough 3 (some .int) 2 := ⟨zw_963, zw_1, by decide +kernel, by decide⟩
theorem zy_X11_envy : zq_y yX11_envy cX11_envy 5 (some .int) 0 := ⟨zw_683, zw_1, by decide +kernel, by decide⟩
theorem zy_X11_everyone : zq_y yX11_everyone cX11_everyone 1 (some .int) 0 := ⟨zw_735, zw_1, by decide +kernel, by decide⟩
theorem zy_X11_feedMouse : zq_y yX11_feedMouse cX11_feedMouse 2 (some .int) 1 := ⟨zw_629, zw_1, by decide +kernel, by decide⟩
theorem zy_X11_forget : zq_y yX11_forget cX11_forget 2 (some .int) 0 := ⟨zw_888, zw_1, by decide +kernel, by decide⟩
theorem zy_X11_give : zq_y yX11_give cX11_give 6 (some .int) 3 := ⟨zw_580, zw_1, by decide +kernel, by decide⟩
theorem zy_X11_giveSlice : zq_y yX11_giveSlice cX11_giveSlice 5 (some .int) 3 := ⟨zw_584, zw_1, by decide +kernel, by decide⟩
theorem zy_X11_guest : zq_y yX11_guest cX11_guest 3 (some .int) 2 := ⟨zw_1082, zw_1, by decide +kernel, by decide⟩
theorem zy_X11_guests : zq_y yX11_guests cX11_guests 2 (some .int) 0 := ⟨zw_461, zw_1, by decide +kernel, by decide⟩
theorem zy_X11_happiest : zq_y yX11_happiest cX11_happiest 11 (some .int) 0 := ⟨zw_706, zw_1, by decide +kernel, by decide⟩
theorem zy_X11_hasByLie : zq_y yX11_hasByLie cX11_hasByLie 6 (some .int) 3 := ⟨zw_875, zw_1, by decide +kernel, by decide⟩
theorem zy_X11_hasDue : zq_y yX11_hasDue cX11_hasDue 4 (some .boolean) 1 := ⟨zw_691, zw_1, by decide +kernel, by decide⟩
theorem zy_X11_isCell : zq_y yX11_isCell cX11_isCell 2 (some .boolean) 1 := ⟨zw_555, zw_1, by decide +kernel, by decide⟩
theorem zy_X11_isGuest : zq_y yX11_isGuest cX11_isGuest 2 (some .boolean) 1 := ⟨zw_551, zw_1, by decide +kernel, by decide⟩
theorem zy_X11_isSlice : zq_y yX11_isSlice cX11_isSlice 3 (some .boolean) 2 := ⟨zw_588, zw_1, by decide +kernel, by decide⟩
theorem zy_X11_jointGain : zq_y yX11_jointGain cX11_jointGain 7 (some .int) 4 := ⟨zw_723, zw_1, by decide +kernel, by decide⟩
theorem zy_X11_keep : zq_y yX11_keep cX11_keep 2 (some .boolean) 1 := ⟨zw_985, zw_1, by decide +kernel, by decide⟩
theorem zy_X11_lies : zq_y yX11_lies cX11_lies 7 (some .int) 1 := ⟨zw_871, zw_1, by decide +kernel, by decide⟩
theorem zy_X11_loaf : zq_y yX11_loaf cX11_loaf 3 (some .int) 0 := ⟨zw_385, zw_1, by decide +kernel, by decide⟩
theorem zy_X11_mouse : zq_y yX11_mouse cX11_mouse 4 (some .int) 1 := ⟨zw_625, zw_1, by decide +kernel, by decide⟩
theorem zy_X11_nothing : zq_y yX11_nothing cX11_nothing 5 (some .int) 0 := ⟨zw_946, zw_1, by decide +kernel, by decide⟩
theorem zy_X11_offer : zq_y yX11_offer cX11_offer 7 (some .int) 1 := ⟨zw_910, zw_1, by decide +kernel, by decide⟩
theorem zy_X11_parts : zq_y yX11_parts cX11_parts 7 (some .int) 2 := ⟨zw_793, zw_1, by decide +kernel, by decide⟩
theorem zy_X11_pieces : zq_y yX11_pieces cX11_pieces 7 (some .int) 1 := ⟨zw_715, zw_1, by decide +kernel, by decide⟩
theorem zy_X11_placeGuests : zq_y yX11_placeGuests cX11_placeGuests 7 none 1 := ⟨zw_739, zw_1, by decide +kernel, by decide⟩
theorem zy_X11_quarrel : zq_y yX11_quarrel cX11_quarrel 6 (some .int) 0 := ⟨zw_781, zw_1, by decide +kernel, by decide⟩
theorem zy_X11_readAct : zq_y yX11_readAct cX11_readAct 6 (some .boolean) 1 := ⟨zw_643, zw_1, by decide +kernel, by decide⟩
theorem zy_X11_readActs : zq_y yX11_readActs cX11_readActs 1 (some .boolean) 0 := ⟨zw_637, zw_1, by decide +kernel, by decide⟩
theorem zy_X11_remembered : zq_y yX11_remembered cX11_remembered 4 (some .int) 2 := ⟨zw_606, zw_1, by decide +kernel, by decide⟩
theorem zy_X11_renewWorths : zq_y yX11_renewWorths cX11_renewWorths 1 none 0 := ⟨zw_432, zw_1, by decide +kernel, by decide⟩
theorem zy_X11_richest : zq_y yX11_richest cX11_richest 5 (some .int) 2 := ⟨zw_789, zw_1, by decide +kernel, by decide⟩
theorem zy_X11_row : zq_y yX11_row cX11_row 2 (some .long) 1 := ⟨zw_1090, zw_1, by decide +kernel, by decide⟩
theorem zy_X11_rule : zq_y yX11_rule cX11_rule 3 (some .int) 0 := ⟨zw_507, zw_1, by decide +kernel, by decide⟩
theorem zy_X11_seen : zq_y yX11_seen cX11_seen 3 (some .int) 2 := ⟨zw_675, zw_1, by decide +kernel, by decide⟩
theorem zy_X11_settle : zq_y yX11_settle cX11_settle 8 (some .int) 2 := ⟨zw_942, zw_1, by decide +kernel, by decide⟩
theorem zy_X11_sheet : zq_y yX11_sheet cX11_sheet 9 (some .int) 4 := ⟨zw_571, zw_1, by decide +kernel, by decide⟩
theorem zy_X11_sheetEntry : zq_y yX11_sheetEntry cX11_sheetEntry 3 (some .int) 2 := ⟨zw_574, zw_1, by decide +kernel, by decide⟩
theorem zy_X11_sign : zq_y yX11_sign cX11_sign 2 (some .int) 1 := ⟨zw_369, zw_1, by decide +kernel, by decide⟩
theorem zy_X11_slices : zq_y yX11_slices cX11_slices 2 (some .int) 1 := ⟨zw_727, zw_1, by decide +kernel, by decide⟩
theorem zy_X11_stretch : zq_y yX11_stretch cX11_stretch 5 (some .int) 0 := ⟨zw_785, zw_1, by decide +kernel, by decide⟩
theorem zy_X11_supper : zq_y yX11_supper cX11_supper 5 (some .int) 0 := ⟨zw_633, zw_1, by decide +kernel, by decide⟩
theorem zy_X11_suppers : zq_y yX11_suppers cX11_suppers 6 (some .int) 2 := ⟨zw_980, zw_1, by decide +kernel, by decide⟩
theorem zy_X11_takeBack : zq_y yX11_takeBack cX11_takeBack 6 (some .int) 2 := ⟨zw_621, zw_1, by decide +kernel, by decide⟩
theorem zy_X11_taste : zq_y yX11_taste cX11_taste 5 (some .int) 3 := ⟨zw_563, zw_1, by decide +kernel, by decide⟩
theorem zy_X11_tastes : zq_y yX11_tastes cX11_tastes 4 (some .int) 1 := ⟨zw_892, zw_1, by decide +kernel, by decide⟩
theorem zy_X11_trade : zq_y yX11_trade cX11_trade 8 (some .int) 2 := ⟨zw_719, zw_1, by decide +kernel, by decide⟩
theorem zy_X11_undo : zq_y yX11_undo cX11_undo 1 (some .int) 0 := ⟨zw_667, zw_1, by decide +kernel, by decide⟩
theorem zy_X11_wide : zq_y yX11_wide cX11_wide 7 (some .int) 2 := ⟨zw_976, zw_1, by decide +kernel, by decide⟩
theorem zy_X11_worth : zq_y yX11_worth cX11_worth 3 (some .int) 2 := ⟨zw_547, zw_1, by decide +kernel, by decide⟩
theorem zy_X11_worthHeld : zq_y yX11_worthHeld cX11_worthHeld 5 (some .int) 2 := ⟨zw_679, zw_1, by decide +kernel, by decide⟩
theorem zy_X11_wronged : zq_y yX11_wronged cX11_wronged 4 (some .int) 0 := ⟨zw_687, zw_1, by decide +kernel, by decide⟩
theorem zy_X0_holderOf : zq_y yX0_holderOf cX0_holderOf 2 (some .int) 1 := ⟨zw_592, zw_6, by decide +kernel, by decide⟩
theorem zy_X0_put : zq_y yX0_put cX0_put 5 none 2 := ⟨zw_597, zw_6, by decide +kernel, by decide⟩
theorem zy_X0_remember : zq_y yX0_remember cX0_remember 3 none 1 := ⟨zw_610, zw_6, by decide +kernel, by decide⟩
theorem zy_X0_restore : zq_y yX0_restore cX0_restore 2 (some .boolean) 1 := ⟨zw_997, zw_6, by decide +kernel, by decide⟩
theorem zy_X0_startAnew : zq_y yX0_startAnew cX0_startAnew 1 none 0 := ⟨zw_428, zw_6, by decide +kernel, by decide⟩
theorem zy_X0_stepBack : zq_y yX0_stepBack cX0_stepBack 1 (some .int) 0 := ⟨zw_671, zw_6, by decide +kernel, by decide⟩
theorem zy_X0_store : zq_y yX0_store cX0_store 2 (some .boolean) 1 := ⟨zw_989, zw_6, by decide +kernel, by decide⟩
theorem zy_X1_ask : zq_y yX1_ask cX1_ask 5 (some .int) 4 := ⟨zw_904, zw_7, by decide +kernel, by decide⟩
theorem zy_X1_countFitting : zq_y yX1_countFitting cX1_countFitting 8 (some .int) 3 := ⟨zw_896, zw_7, by decide +kernel, by decide⟩
theorem zy_X1_countPairs : zq_y yX1_countPairs cX1_countPairs 6 none 3 := ⟨zw_914, zw_7, by decide +kernel, by decide⟩
theorem zy_X1_countThisTime : zq_y yX1_countThisTime cX1_countThisTime 4 none 1 := ⟨zw_919, zw_7, by decide +kernel, by decide⟩
theorem zy_X1_fits : zq_y yX1_fits cX1_fits 7 (some .boolean) 4 := ⟨zw_900, zw_7, by decide +kernel, by decide⟩
theorem zy_X1_leftAtMost : zq_y yX1_leftAtMost cX1_leftAtMost 3 (some .int) 2 := ⟨zw_923, zw_7, by decide +kernel, by decide⟩
theorem zy_X1_tell : zq_y yX1_tell cX1_tell 3 (some .int) 2 := ⟨zw_884, zw_7, by decide +kernel, by decide⟩
theorem zy_X2_allCrumbs : zq_y yX2_allCrumbs cX2_allCrumbs 3 (some .int) 0 := ⟨zw_950, zw_11, by decide +kernel, by decide⟩
theorem zy_X2_read : zq_y yX2_read cX2_read 4 (some .boolean) 1 := ⟨zw_389, zw_11, by decide +kernel, by decide⟩
theorem zy_X3_admit : zq_y yX3_admit cX3_admit 3 none 1 := ⟨zw_473, zw_4, by decide +kernel, by decide⟩
theorem zy_X3_allChances : zq_y yX3_allChances cX3_allChances 4 (some .long) 0 := ⟨zw_971, zw_4, by decide +kernel, by decide⟩
theorem zy_X3_allDeserts : zq_y yX3_allDeserts cX3_allDeserts 1 (some .int) 0 := ⟨zw_499, zw_4, by decide +kernel, by decide⟩
theorem zy_X3_canPart : zq_y yX3_canPart cX3_canPart 4 (some .boolean) 2 := ⟨zw_954, zw_4, by decide +kernel, by decide⟩
theorem zy_X3_chanceOf : zq_y yX3_chanceOf cX3_chanceOf 9 (some .long) 2 := ⟨zw_967, zw_4, by decide +kernel, by decide⟩
theorem zy_X3_desertsOf : zq_y yX3_desertsOf cX3_desertsOf 4 (some .int) 1 := ⟨zw_503, zw_4, by decide +kernel, by decide⟩
theorem zy_X3_judge : zq_y yX3_judge cX3_judge 2 none 0 := ⟨zw_494, zw_4, by decide +kernel, by decide⟩
theorem zy_X3_readDeed : zq_y yX3_readDeed cX3_readDeed 6 (some .boolean) 1 := ⟨zw_488, zw_4, by decide +kernel, by decide⟩
theorem zy_X3_readDeeds : zq_y yX3_readDeeds cX3_readDeeds 3 (some .boolean) 1 := ⟨zw_481, zw_4, by decide +kernel, by decide⟩
theorem zy_X3_readLines : zq_y yX3_readLines cX3_readLines 5 (some .int) 1 := ⟨zw_465, zw_4, by decide +kernel, by decide⟩
theorem zy_X3_tasteOf : zq_y yX3_tasteOf cX3_tasteOf 3 (some .int) 2 := ⟨zw_567, zw_4, by decide +kernel, by decide⟩
theorem zy_X4_addMember : zq_y yX4_addMember cX4_addMember 6 none 3 := ⟨zw_748, zw_8, by decide +kernel, by decide⟩
theorem zy_X4_canServe : zq_y yX4_canServe cX4_canServe 2 (some .boolean) 1 := ⟨zw_766, zw_8, by decide +kernel, by decide⟩
theorem zy_X4_findOrder : zq_y yX4_findOrder cX4_findOrder 7 (some .boolean) 4 := ⟨zw_774, zw_8, by decide +kernel, by decide⟩
theorem zy_X4_reached : zq_y yX4_reached cX4_reached 3 (some .int) 2 := ⟨zw_761, zw_8, by decide +kernel, by decide⟩
theorem zy_X4_readClaims : zq_y yX4_readClaims cX4_readClaims 6 (some .boolean) 2 := ⟨zw_932, zw_8, by decide +kernel, by decide⟩
theorem zy_X4_shortest : zq_y yX4_shortest cX4_shortest 5 (some .int) 3 := ⟨zw_756, zw_8, by decide +kernel, by decide⟩
theorem zy_X4_spread : zq_y yX4_spread cX4_spread 5 none 1 := ⟨zw_752, zw_8, by decide +kernel, by decide⟩
theorem zy_X4_start : zq_y yX4_start cX4_start 2 none 1 := ⟨zw_743, zw_8, by decide +kernel, by decide⟩
theorem zy_X4_tellOrder : zq_y yX4_tellOrder cX4_tellOrder 8 none 2 := ⟨zw_770, zw_8, by decide +kernel, by decide⟩
theorem zy_X5_add : zq_y yX5_add cX5_add 3 none 1 := ⟨zw_659, zw_3, by decide +kernel, by decide⟩
theorem zy_X5_addFraction : zq_y yX5_addFraction cX5_addFraction 12 none 2 := ⟨zw_710, zw_3, by decide +kernel, by decide⟩
theorem zy_X5_clear : zq_y yX5_clear cX5_clear 1 none 0 := ⟨zw_655, zw_3, by decide +kernel, by decide⟩
theorem zy_X6_addStep : zq_y yX6_addStep cX6_addStep 2 none 1 := ⟨zw_527, zw_12, by decide +kernel, by decide⟩
theorem zy_X6_hold : zq_y yX6_hold cX6_hold 2 none 1 := ⟨zw_531, zw_12, by decide +kernel, by decide⟩
theorem zy_X6_isLetter : zq_y yX6_isLetter cX6_isLetter 1 (some .boolean) 1 := ⟨zw_534, zw_12, by decide +kernel, by decide⟩
theorem zy_X6_joined : zq_y yX6_joined cX6_joined 3 (some .int) 3 := ⟨zw_453, zw_12, by decide +kernel, by decide⟩
theorem zy_X6_read : zq_y yX6_read cX6_read 4 (some .boolean) 1 := ⟨zw_511, zw_12, by decide +kernel, by decide⟩
theorem zy_X6_readJoint : zq_y yX6_readJoint cX6_readJoint 4 (some .boolean) 1 := ⟨zw_539, zw_12, by decide +kernel, by decide⟩
theorem zy_X6_readThing : zq_y yX6_readThing cX6_readThing 4 (some .boolean) 1 := ⟨zw_518, zw_12, by decide +kernel, by decide⟩
theorem zy_X6_release : zq_y yX6_release cX6_release 2 none 1 := ⟨zw_543, zw_12, by decide +kernel, by decide⟩
theorem zy_X6_strengthOf : zq_y yX6_strengthOf cX6_strengthOf 1 (some .int) 1 := ⟨zw_447, zw_12, by decide +kernel, by decide⟩
theorem zy_X6_valueOf : zq_y yX6_valueOf cX6_valueOf 6 (some .int) 6 := ⟨zw_450, zw_12, by decide +kernel, by decide⟩
theorem zy_X6_walk : zq_y yX6_walk cX6_walk 10 (some .int) 5 := ⟨zw_444, zw_12, by decide +kernel, by decide⟩
theorem zy_X6_worthOf : zq_y yX6_worthOf cX6_worthOf 7 (some .int) 5 := ⟨zw_440, zw_12, by decide +kernel, by decide⟩
theorem zy_X7_isCalmWith : zq_y yX7_isCalmWith cX7_isCalmWith 4 (some .boolean) 2 := ⟨zw_828, zw_9, by decide +kernel, by decide⟩
theorem zy_X7_isLess : zq_y yX7_isLess cX7_isLess 2 (some .boolean) 0 := ⟨zw_823, zw_9, by decide +kernel, by decide⟩
theorem zy_X7_note : zq_y yX7_note cX7_note 1 none 0 := ⟨zw_819, zw_9, by decide +kernel, by decide⟩
theorem zy_X7_othersAreCalm : zq_y yX7_othersAreCalm cX7_othersAreCalm 3 (some .boolean) 1 := ⟨zw_814, zw_9, by decide +kernel, by decide⟩
theorem zy_X7_part : zq_y yX7_part cX7_part 6 none 3 := ⟨zw_810, zw_9, by decide +kernel, by decide⟩
theorem zy_X7_prefers : zq_y yX7_prefers cX7_prefers 3 (some .boolean) 2 := ⟨zw_832, zw_9, by decide +kernel, by decide⟩
theorem zy_X7_ways : zq_y yX7_ways cX7_ways 5 (some .int) 3 := ⟨zw_805, zw_9, by decide +kernel, by decide⟩
theorem zy_X8_addFour : zq_y yX8_addFour cX8_addFour 3 (some .int) 1 := ⟨zw_373, zw_2, by decide +kernel, by decide⟩
theorem zy_X8_clear : zq_y yX8_clear cX8_clear 1 none 0 := ⟨zw_420, zw_2, by decide +kernel, by decide⟩
theorem zy_X8_fault : zq_y yX8_fault cX8_fault 1 (some .int) 0 := ⟨zw_424, zw_2, by decide +kernel, by decide⟩
theorem zy_X8_isFinished : zq_y yX8_isFinished cX8_isFinished 1 (some .boolean) 0 := ⟨zw_400, zw_2, by decide +kernel, by decide⟩
theorem zy_X8_next : zq_y yX8_next cX8_next 1 (some .int) 0 := ⟨zw_408, zw_2, by decide +kernel, by decide⟩
theorem zy_X8_shorten : zq_y yX8_shorten cX8_shorten 2 (some .boolean) 1 := ⟨zw_381, zw_2, by decide +kernel, by decide⟩
theorem zy_X8_skip : zq_y yX8_skip cX8_skip 2 (some .boolean) 1 := ⟨zw_416, zw_2, by decide +kernel, by decide⟩
theorem zy_X8_start : zq_y yX8_start cX8_start 2 none 1 := ⟨zw_393, zw_2, by decide +kernel, by decide⟩
theorem zy_X8_takeDigit : zq_y yX8_takeDigit cX8_takeDigit 3 (some .int) 1 := ⟨zw_404, zw_2, by decide +kernel, by decide⟩
theorem zy_X8_takeLetter : zq_y yX8_takeLetter cX8_takeLetter 3 (some .int) 1 := ⟨zw_412, zw_2, by decide +kernel, by decide⟩
theorem zy_X8_takeNumber : zq_y yX8_takeNumber cX8_takeNumber 5 (some .int) 1 := ⟨zw_522, zw_2, by decide +kernel, by decide⟩
theorem zy_X9_favourite : zq_y yX9_favourite cX9_favourite 6 (some .int) 3 := ⟨zw_866, zw_10, by decide +kernel, by decide⟩
theorem zy_X9_read : zq_y yX9_read cX9_read 4 (some .boolean) 2 := ⟨zw_849, zw_10, by decide +kernel, by decide⟩
theorem zy_X9_startTaking : zq_y yX9_startTaking cX9_startTaking 2 none 1 := ⟨zw_856, zw_10, by decide +kernel, by decide⟩
theorem zy_X9_takeAll : zq_y yX9_takeAll cX9_takeAll 7 (some .int) 1 := ⟨zw_862, zw_10, by decide +kernel, by decide⟩
theorem zy_X10_between : zq_y yX10_between cX10_between 4 (some .int) 3 := ⟨zw_602, zw_5, by decide +kernel, by decide⟩
theorem zy_X10_of : zq_y yX10_of cX10_of 3 (some .int) 2 := ⟨zw_559, zw_5, by decide +kernel, by decide⟩
theorem zy_X10_renew : zq_y yX10_renew cX10_renew 8 none 3 := ⟨zw_436, zw_5, by decide +kernel, by decide⟩
theorem zy_X10_whole : zq_y yX10_whole cX10_whole 2 (some .int) 1 := ⟨zw_695, zw_5, by decide +kernel, by decide⟩
theorem zy_X12_adds : zq_y yX12_adds cX12_adds 3 (some .int) 1 := ⟨zw_1546, zw_13, by decide +kernel, by decide⟩
theorem zy_X12_again : zq_y yX12_again cX12_again 3 (some .boolean) 1 := ⟨zw_1778, zw_13, by decide +kernel, by decide⟩
theorem zy_X12_all : zq_y yX12_all cX12_all 1 (some .int) 0 := ⟨zw_1615, zw_13, by decide +kernel, by decide⟩
theorem zy_X12_allDeserts : zq_y yX12_allDeserts cX12_allDeserts 3 (some .int) 0 := ⟨zw_1430, zw_13, by decide +kernel, by decide⟩
theorem zy_X12_among : zq_y yX12_among cX12_among 3 (some .int) 1 := ⟨zw_1329, zw_13, by decide +kernel, by decide⟩
theorem zy_X12_ate : zq_y yX12_ate cX12_ate 6 (some .int) 1 := ⟨zw_1746, zw_13, by decide +kernel, by decide⟩
theorem zy_X12_back : zq_y yX12_back cX12_back 3 (some .int) 2 := ⟨zw_1550, zw_13, by decide +kernel, by decide⟩
theorem zy_X12_backs : zq_y yX12_backs cX12_backs 6 (some .int) 2 := ⟨zw_1554, zw_13, by decide +kernel, by decide⟩
theorem zy_X12_begins : zq_y yX12_begins cX12_begins 3 (some .int) 1 := ⟨zw_1323, zw_13, by decide +kernel, by decide⟩
theorem zy_X12_bets : zq_y yX12_bets cX12_bets 7 none 2 := ⟨zw_1760, zw_13, by decide +kernel, by decide⟩
theorem zy_X12_byturns : zq_y yX12_byturns cX12_byturns 3 (some .int) 0 := ⟨zw_1685, zw_13, by decide +kernel, by decide⟩
theorem zy_X12_calm : zq_y yX12_calm cX12_calm 2 (some .int) 0 := ⟨zw_1664, zw_13, by decide +kernel, by decide⟩
theorem zy_X12_calmsFrom : zq_y yX12_calmsFrom cX12_calmsFrom 4 none 2 := ⟨zw_1668, zw_13, by decide +kernel, by decide⟩
theorem zy_X12_canServe : zq_y yX12_canServe cX12_canServe 3 (some .boolean) 2 := ⟨zw_1619, zw_13, by decide +kernel, by decide⟩
theorem zy_X12_cell : zq_y yX12_cell cX12_cell 3 (some .int) 2 := ⟨zw_1454, zw_13, by decide +kernel, by decide⟩
theorem zy_X12_chose : zq_y yX12_chose cX12_chose 3 (some .int) 2 := ⟨zw_1705, zw_13, by decide +kernel, by decide⟩
theorem zy_X12_claims : zq_y yX12_claims cX12_claims 6 (some .int) 0 := ⟨zw_1725, zw_13, by decide +kernel, by decide⟩
theorem zy_X12_codes : zq_y yX12_codes cX12_codes 2 none 1 := ⟨zw_1446, zw_13, by decide +kernel, by decide⟩
theorem zy_X12_common : zq_y yX12_common cX12_common 4 (some .long) 2 := ⟨zw_1599, zw_13, by decide +kernel, by decide⟩
theorem zy_X12_count : zq_y yX12_count cX12_count 2 (some .int) 1 := ⟨zw_1782, zw_13, by decide +kernel, by decide⟩
theorem zy_X12_counts : zq_y yX12_counts cX12_counts 2 (some .int) 1 := ⟨zw_1542, zw_13, by decide +kernel, by decide⟩
theorem zy_X12_crumbsAll : zq_y yX12_crumbsAll cX12_crumbsAll 3 (some .int) 0 := ⟨zw_1742, zw_13, by decide +kernel, by decide⟩
theorem zy_X12_cuts : zq_y yX12_cuts cX12_cuts 9 (some .int) 2 := ⟨zw_1680, zw_13, by decide +kernel, by decide⟩
theorem zy_X12_deeds : zq_y yX12_deeds cX12_deeds 6 (some .int) 0 := ⟨zw_1415, zw_13, by decide +kernel, by decide⟩
theorem zy_X12_desertsOf : zq_y yX12_desertsOf cX12_desertsOf 4 (some .int) 1 := ⟨zw_1751, zw_13, by decide +kernel, by decide⟩
theorem zy_X12_does : zq_y yX12_does cX12_does 3 (some .boolean) 1 := ⟨zw_1575, zw_13, by decide +kernel, by decide⟩
theorem zy_X12_eats : zq_y yX12_eats cX12_eats 2 (some .int) 1 := ⟨zw_1562, zw_13, by decide +kernel, by decide⟩
theorem zy_X12_end : zq_y yX12_end cX12_end 2 (some .boolean) 1 := ⟨zw_1312, zw_13, by decide +kernel, by decide⟩
theorem zy_X12_endFor : zq_y yX12_endFor cX12_endFor 7 (some .int) 3 := ⟨zw_1634, zw_13, by decide +kernel, by decide⟩
theorem zy_X12_enough : zq_y yX12_enough cX12_enough 5 (some .int) 2 := ⟨zw_1755, zw_13, by decide +kernel, by decide⟩
theorem zy_X12_enters : zq_y yX12_enters cX12_enters 3 none 1 := ⟨zw_1579, zw_13, by decide +kernel, by decide⟩
theorem zy_X12_envy : zq_y yX12_envy cX12_envy 4 (some .int) 0 := ⟨zw_1587, zw_13, by decide +kernel, by decide⟩
theorem zy_X12_faultOf : zq_y yX12_faultOf cX12_faultOf 5 (some .int) 3 := ⟨zw_1393, zw_13, by decide +kernel, by decide⟩
theorem zy_X12_fitsBy : zq_y yX12_fitsBy cX12_fitsBy 7 (some .boolean) 4 := ⟨zw_1717, zw_13, by decide +kernel, by decide⟩
theorem zy_X12_flag : zq_y yX12_flag cX12_flag 1 (some .int) 1 := ⟨zw_1384, zw_13, by decide +kernel, by decide⟩
theorem zy_X12_forget : zq_y yX12_forget cX12_forget 2 (some .int) 0 := ⟨zw_1709, zw_13, by decide +kernel, by decide⟩
theorem zy_X12_give : zq_y yX12_give cX12_give 4 (some .int) 3 := ⟨zw_1526, zw_13, by decide +kernel, by decide⟩
theorem zy_X12_gives : zq_y yX12_gives cX12_gives 6 (some .int) 3 := ⟨zw_1534, zw_13, by decide +kernel, by decide⟩
theorem zy_X12_goesByTurns : zq_y yX12_goesByTurns cX12_goesByTurns 6 none 0 := ⟨zw_1697, zw_13, by decide +kernel, by decide⟩
theorem zy_X12_goesTo : zq_y yX12_goesTo cX12_goesTo 5 none 3 := ⟨zw_1676, zw_13, by decide +kernel, by decide⟩
theorem zy_X12_guest : zq_y yX12_guest cX12_guest 3 (some .int) 2 := ⟨zw_1467, zw_13, by decide +kernel, by decide⟩
theorem zy_X12_guests : zq_y yX12_guests cX12_guests 7 (some .int) 0 := ⟨zw_1397, zw_13, by decide +kernel, by decide⟩
theorem zy_X12_happiest : zq_y yX12_happiest cX12_happiest 11 (some .int) 0 := ⟨zw_1596, zw_13, by decide +kernel, by decide⟩
theorem zy_X12_has : zq_y yX12_has cX12_has 2 (some .boolean) 2 := ⟨zw_1630, zw_13, by decide +kernel, by decide⟩
theorem zy_X12_held : zq_y yX12_held cX12_held 5 (some .int) 2 := ⟨zw_1499, zw_13, by decide +kernel, by decide⟩
theorem zy_X12_holds : zq_y yX12_holds cX12_holds 4 (some .int) 1 := ⟨zw_1495, zw_13, by decide +kernel, by decide⟩
theorem zy_X12_in : zq_y yX12_in cX12_in 6 (some .boolean) 3 := ⟨zw_1315, zw_13, by decide +kernel, by decide⟩
theorem zy_X12_isCalm : zq_y yX12_isCalm cX12_isCalm 4 (some .boolean) 0 := ⟨zw_1672, zw_13, by decide +kernel, by decide⟩
theorem zy_X12_isCell : zq_y yX12_isCell cX12_isCell 2 (some .boolean) 1 := ⟨zw_1458, zw_13, by decide +kernel, by decide⟩
theorem zy_X12_isDigit : zq_y yX12_isDigit cX12_isDigit 1 (some .boolean) 0 := ⟨zw_1409, zw_13, by decide +kernel, by decide⟩
theorem zy_X12_isDue : zq_y yX12_isDue cX12_isDue 5 (some .boolean) 3 := ⟨zw_1503, zw_13, by decide +kernel, by decide⟩
theorem zy_X12_isGuest : zq_y yX12_isGuest cX12_isGuest 2 (some .boolean) 1 := ⟨zw_1471, zw_13, by decide +kernel, by decide⟩
theorem zy_X12_isSlice : zq_y yX12_isSlice cX12_isSlice 3 (some .boolean) 2 := ⟨zw_1538, zw_13, by decide +kernel, by decide⟩
theorem zy_X12_isTurnLess : zq_y yX12_isTurnLess cX12_isTurnLess 3 (some .boolean) 1 := ⟨zw_1627, zw_13, by decide +kernel, by decide⟩
theorem zy_X12_keep : zq_y yX12_keep cX12_keep 3 (some .boolean) 1 := ⟨zw_1774, zw_13, by decide +kernel, by decide⟩
theorem zy_X12_laysTable : zq_y yX12_laysTable cX12_laysTable 3 none 0 := ⟨zw_1476, zw_13, by decide +kernel, by decide⟩
theorem zy_X12_letter : zq_y yX12_letter cX12_letter 2 (some .int) 1 := ⟨zw_1424, zw_13, by decide +kernel, by decide⟩
theorem zy_X12_lies : zq_y yX12_lies cX12_lies 11 (some .int) 1 := ⟨zw_1701, zw_13, by decide +kernel, by decide⟩
theorem zy_X12_loaf : zq_y yX12_loaf cX12_loaf 5 (some .int) 0 := ⟨zw_1319, zw_13, by decide +kernel, by decide⟩
theorem zy_X12_meets : zq_y yX12_meets cX12_meets 6 none 2 := ⟨zw_1729, zw_13, by decide +kernel, by decide⟩
theorem zy_X12_mouse : zq_y yX12_mouse cX12_mouse 2 (some .int) 1 := ⟨zw_1558, zw_13, by decide +kernel, by decide⟩
theorem zy_X12_nothing : zq_y yX12_nothing cX12_nothing 8 (some .int) 0 := ⟨zw_1738, zw_13, by decide +kernel, by decide⟩
theorem zy_X12_number : zq_y yX12_number cX12_number 4 (some .int) 1 := ⟨zw_1405, zw_13, by decide +kernel, by decide⟩
theorem zy_X12_offer : zq_y yX12_offer cX12_offer 7 (some .int) 1 := ⟨zw_1721, zw_13, by decide +kernel, by decide⟩
theorem zy_X12_parts : zq_y yX12_parts cX12_parts 4 (some .int) 2 := ⟨zw_1654, zw_13, by decide +kernel, by decide⟩
theorem zy_X12_partsOn : zq_y yX12_partsOn cX12_partsOn 8 none 5 := ⟨zw_1660, zw_13, by decide +kernel, by decide⟩
theorem zy_X12_picksAsWorth : zq_y yX12_picksAsWorth cX12_picksAsWorth 2 none 0 := ⟨zw_1693, zw_13, by decide +kernel, by decide⟩
theorem zy_X12_pieces : zq_y yX12_pieces cX12_pieces 7 (some .int) 1 := ⟨zw_1603, zw_13, by decide +kernel, by decide⟩
theorem zy_X12_putsBy : zq_y yX12_putsBy cX12_putsBy 2 none 0 := ⟨zw_1530, zw_13, by decide +kernel, by decide⟩
theorem zy_X12_quarrel : zq_y yX12_quarrel cX12_quarrel 4 (some .int) 0 := ⟨zw_1638, zw_13, by decide +kernel, by decide⟩
theorem zy_X12_readsAct : zq_y yX12_readsAct cX12_readsAct 2 (some .boolean) 0 := ⟨zw_1570, zw_13, by decide +kernel, by decide⟩
theorem zy_X12_readsDeed : zq_y yX12_readsDeed cX12_readsDeed 5 (some .boolean) 0 := ⟨zw_1419, zw_13, by decide +kernel, by decide⟩
theorem zy_X12_readsGuest : zq_y yX12_readsGuest cX12_readsGuest 3 (some .boolean) 0 := ⟨zw_1401, zw_13, by decide +kernel, by decide⟩
theorem zy_X12_readsRank : zq_y yX12_readsRank cX12_readsRank 4 (some .boolean) 1 := ⟨zw_1438, zw_13, by decide +kernel, by decide⟩
theorem zy_X12_readsThing : zq_y yX12_readsThing cX12_readsThing 2 (some .boolean) 0 := ⟨zw_1442, zw_13, by decide +kernel, by decide⟩
theorem zy_X12_readsTurns : zq_y yX12_readsTurns cX12_readsTurns 3 (some .int) 0 := ⟨zw_1689, zw_13, by decide +kernel, by decide⟩
theorem zy_X12_refuse : zq_y yX12_refuse cX12_refuse 1 (some .int) 0 := ⟨zw_1463, zw_13, by decide +kernel, by decide⟩
theorem zy_X12_richest : zq_y yX12_richest cX12_richest 5 (some .int) 2 := ⟨zw_1646, zw_13, by decide +kernel, by decide⟩
theorem zy_X12_row : zq_y yX12_row cX12_row 2 (some .long) 1 := ⟨zw_1786, zw_13, by decide +kernel, by decide⟩
theorem zy_X12_rule : zq_y yX12_rule cX12_rule 5 (some .int) 0 := ⟨zw_1434, zw_13, by decide +kernel, by decide⟩
theorem zy_X12_ruled : zq_y yX12_ruled cX12_ruled 4 (some .int) 0 := ⟨zw_1488, zw_13, by decide +kernel, by decide⟩
theorem zy_X12_seen : zq_y yX12_seen cX12_seen 3 (some .int) 2 := ⟨zw_1583, zw_13, by decide +kernel, by decide⟩
theorem zy_X12_serves : zq_y yX12_serves cX12_serves 7 none 4 := ⟨zw_1623, zw_13, by decide +kernel, by decide⟩
theorem zy_X12_settle : zq_y yX12_settle cX12_settle 8 (some .int) 2 := ⟨zw_1733, zw_13, by decide +kernel, by decide⟩
theorem zy_X12_sheet : zq_y yX12_sheet cX12_sheet 9 (some .int) 4 := ⟨zw_1518, zw_13, by decide +kernel, by decide⟩
theorem zy_X12_sign : zq_y yX12_sign cX12_sign 3 (some .int) 1 := ⟨zw_1308, zw_13, by decide +kernel, by decide⟩
theorem zy_X12_sliceOf : zq_y yX12_sliceOf cX12_sliceOf 6 (some .int) 3 := ⟨zw_1650, zw_13, by decide +kernel, by decide⟩
theorem zy_X12_slices : zq_y yX12_slices cX12_slices 3 (some .int) 1 := ⟨zw_1611, zw_13, by decide +kernel, by decide⟩
theorem zy_X12_stretch : zq_y yX12_stretch cX12_stretch 2 (some .int) 0 := ⟨zw_1642, zw_13, by decide +kernel, by decide⟩
theorem zy_X12_supper : zq_y yX12_supper cX12_supper 6 (some .int) 0 := ⟨zw_1566, zw_13, by decide +kernel, by decide⟩
theorem zy_X12_suppers : zq_y yX12_suppers cX12_suppers 6 (some .int) 2 := ⟨zw_1768, zw_13, by decide +kernel, by decide⟩
theorem zy_X12_takes : zq_y yX12_takes cX12_takes 3 (some .boolean) 1 := ⟨zw_1389, zw_13, by decide +kernel, by decide⟩
theorem zy_X12_takesOf : zq_y yX12_takesOf cX12_takesOf 3 (some .int) 1 := ⟨zw_1381, zw_13, by decide +kernel, by decide⟩
theorem zy_X12_taste : zq_y yX12_taste cX12_taste 5 (some .int) 3 := ⟨zw_1512, zw_13, by decide +kernel, by decide⟩
theorem zy_X12_tastes : zq_y yX12_tastes cX12_tastes 7 (some .int) 1 := ⟨zw_1713, zw_13, by decide +kernel, by decide⟩
theorem zy_X12_thrown : zq_y yX12_thrown cX12_thrown 1 (some .int) 0 := ⟨zw_1304, zw_13, by decide +kernel, by decide⟩
theorem zy_X12_trade : zq_y yX12_trade cX12_trade 11 (some .int) 2 := ⟨zw_1607, zw_13, by decide +kernel, by decide⟩
theorem zy_X12_undo : zq_y yX12_undo cX12_undo 2 (some .int) 0 := ⟨zw_1522, zw_13, by decide +kernel, by decide⟩
theorem zy_X12_wide : zq_y yX12_wide cX12_wide 7 (some .int) 2 := ⟨zw_1764, zw_13, by decide +kernel, by decide⟩
theorem zy_X12_worked : zq_y yX12_worked cX12_worked 3 (some .int) 3 := ⟨zw_1491, zw_13, by decide +kernel, by decide⟩
theorem zy_X12_worth : zq_y yX12_worth cX12_worth 3 (some .int) 2 := ⟨zw_1508, zw_13, by decide +kernel, by decide⟩
theorem zy_X12_worthBy : zq_y yX12_worthBy cX12_worthBy 6 (some .int) 5 := ⟨zw_1484, zw_13, by decide +kernel, by decide⟩
theorem zy_X12_worthOf : zq_y yX12_worthOf cX12_worthOf 3 (some .int) 2 := ⟨zw_1480, zw_13, by decide +kernel, by decide⟩
theorem zy_X12_wronged : zq_y yX12_wronged cX12_wronged 4 (some .int) 0 := ⟨zw_1591, zw_13, by decide +kernel, by decide⟩
theorem zy_J6_bitCount_0f7a4 : zq_y yJ6_bitCount_0f7a4 cJ6_bitCount_0f7a4 1 (some .int) 1 := ⟨zw_699, zw_25, by decide +kernel, by decide⟩
theorem zy_J7_fill_53178 : zq_y yJ7_fill_53178 cJ7_fill_53178 4 none 2 := ⟨zw_484, zw_19, by decide +kernel, by decide⟩
theorem zs9_X11_areGuests : Cond.selects yX11_areGuests.cls yX11_areGuests yX11_areGuests ∈ zq_tb := zq_inP (i := 22) (q := (yX11_areGuests, 16)) (by decide +kernel) rfl rfl
theorem zs9_X11_bestOfLeasts : Cond.selects yX11_bestOfLeasts.cls yX11_bestOfLeasts yX11_bestOfLeasts ∈ zq_tb := zq_inP (i := 28) (q := (yX11_bestOfLeasts, 16)) (by decide +kernel) rfl rfl
theorem zs9_X11_cellsWith : Cond.selects yX11_cellsWith.cls yX11_cellsWith yX11_cellsWith ∈ zq_tb := zq_inP (i := 18) (q := (yX11_cellsWith, 16)) (by decide +kernel) rfl rfl
theorem zs9_X11_doAct : Cond.selects yX11_doAct.cls yX11_doAct yX11_doAct ∈ zq_tb := zq_inP (i := 17) (q := (yX11_doAct, 16)) (by decide +kernel) rfl rfl
theorem zs9_X11_everyone : Cond.selects yX11_everyone.cls yX11_everyone yX11_everyone ∈ zq_tb := zq_inP (i := 23) (q := (yX11_everyone, 16)) (by decide +kernel) rfl rfl
theorem zs9_X11_feedMouse : Cond.selects yX11_feedMouse.cls yX11_feedMouse yX11_feedMouse ∈ zq_tb := zq_inP (i := 14) (q := (yX11_feedMouse, 16)) (by decide +kernel) rfl rfl
theorem zs9_X11_giveSlice : Cond.selects yX11_giveSlice.cls yX11_giveSlice yX11_giveSlice ∈ zq_tb := zq_inP (i := 10) (q := (yX11_giveSlice, 16)) (by decide +kernel) rfl rfl
theorem zs9_X11_hasByLie : Cond.selects yX11_hasByLie.cls yX11_hasByLie yX11_hasByLie ∈ zq_tb := zq_inP (i := 36) (q := (yX11_hasByLie, 16)) (by decide +kernel) rfl rfl
theorem zs9_X11_hasDue : Cond.selects yX11_hasDue.cls yX11_hasDue yX11_hasDue ∈ zq_tb := zq_inP (i := 20) (q := (yX11_hasDue, 16)) (by decide +kernel) rfl rfl
theorem zs9_X11_isCell : Cond.selects yX11_isCell.cls yX11_isCell yX11_isCell ∈ zq_tb := zq_inP (i := 9) (q := (yX11_isCell, 16)) (by decide +kernel) rfl rfl
theorem zs9_X11_isGuest : Cond.selects yX11_isGuest.cls yX11_isGuest yX11_isGuest ∈ zq_tb := zq_inP (i := 8) (q := (yX11_isGuest, 16)) (by decide +kernel) rfl rfl
theorem zs9_X11_isSlice : Cond.selects yX11_isSlice.cls yX11_isSlice yX11_isSlice ∈ zq_tb := zq_inP (i := 11) (q := (yX11_isSlice, 16)) (by decide +kernel) rfl rfl
theorem zs9_X11_jointGain : Cond.selects yX11_jointGain.cls yX11_jointGain yX11_jointGain ∈ zq_tb := zq_inP (i := 21) (q := (yX11_jointGain, 16)) (by decide +kernel) rfl rfl
theorem zs9_X11_placeGuests : Cond.selects yX11_placeGuests.cls yX11_placeGuests yX11_placeGuests ∈ zq_tb := zq_inP (i := 24) (q := (yX11_placeGuests, 16)) (by decide +kernel) rfl rfl
theorem zs9_X11_readAct : Cond.selects yX11_readAct.cls yX11_readAct yX11_readAct ∈ zq_tb := zq_inP (i := 16) (q := (yX11_readAct, 16)) (by decide +kernel) rfl rfl
theorem zs9_X11_readActs : Cond.selects yX11_readActs.cls yX11_readActs yX11_readActs ∈ zq_tb := zq_inP (i := 15) (q := (yX11_readActs, 16)) (by decide +kernel) rfl rfl
theorem zs9_X11_remembered : Cond.selects yX11_remembered.cls yX11_remembered yX11_remembered ∈ zq_tb := zq_inP (i := 12) (q := (yX11_remembered, 16)) (by decide +kernel) rfl rfl
theorem zs9_X11_renewWorths : Cond.selects yX11_renewWorths.cls yX11_renewWorths yX11_renewWorths ∈ zq_tb := zq_inP (i := 0) (q := (yX11_renewWorths, 16)) (by decide +kernel) rfl rfl
theorem zs9_X11_takeBack : Cond.selects yX11_takeBack.cls yX11_takeBack yX11_takeBack ∈ zq_tb := zq_inP (i := 13) (q := (yX11_takeBack, 16)) (by decide +kernel) rfl rfl
theorem zs9_X11_worthHeld : Cond.selects yX11_worthHeld.cls yX11_worthHeld yX11_worthHeld ∈ zq_tb := zq_inP (i := 19) (q := (yX11_worthHeld, 16)) (by decide +kernel) rfl rfl
theorem zs9_X0_holderOf : Cond.selects yX0_holderOf.cls yX0_holderOf yX0_holderOf ∈ zq_tb := zw_591
theorem zs9_X0_put : Cond.selects yX0_put.cls yX0_put yX0_put ∈ zq_tb := zw_596
theorem zs9_X0_remember : Cond.selects yX0_remember.cls yX0_remember yX0_remember ∈ zq_tb := zw_609
theorem zs9_X0_restore : Cond.selects yX0_restore.cls yX0_restore yX0_restore ∈ zq_tb := zw_996
theorem zs9_X0_stepBack : Cond.selects yX0_stepBack.cls yX0_stepBack yX0_stepBack ∈ zq_tb := zw_670
theorem zs9_X0_store : Cond.selects yX0_store.cls yX0_store yX0_store ∈ zq_tb := zw_988
theorem zs9_X1_ask : Cond.selects yX1_ask.cls yX1_ask yX1_ask ∈ zq_tb := zq_inP (i := 38) (q := (yX1_ask, 8)) (by decide +kernel) rfl rfl
theorem zs9_X1_countFitting : Cond.selects yX1_countFitting.cls yX1_countFitting yX1_countFitting ∈ zq_tb := zw_895
theorem zs9_X1_countPairs : Cond.selects yX1_countPairs.cls yX1_countPairs yX1_countPairs ∈ zq_tb := zw_913
theorem zs9_X1_countThisTime : Cond.selects yX1_countThisTime.cls yX1_countThisTime yX1_countThisTime ∈ zq_tb := zq_inP (i := 39) (q := (yX1_countThisTime, 8)) (by decide +kernel) rfl rfl
theorem zs9_X1_fits : Cond.selects yX1_fits.cls yX1_fits yX1_fits ∈ zq_tb := zq_inP (i := 37) (q := (yX1_fits, 8)) (by decide +kernel) rfl rfl
theorem zs9_X1_leftAtMost : Cond.selects yX1_leftAtMost.cls yX1_leftAtMost yX1_leftAtMost ∈ zq_tb := zw_922
theorem zs9_X1_tell : Cond.selects yX1_tell.cls yX1_tell yX1_tell ∈ zq_tb := zw_883
theorem zs9_X2_allCrumbs : Cond.selects yX2_allCrumbs.cls yX2_allCrumbs yX2_allCrumbs ∈ zq_tb := zw_949
theorem zs9_X2_read : Cond.selects yX2_read.cls yX2_read yX2_read ∈ zq_tb := zw_388
theorem zs9_X3_admit : Cond.selects yX3_admit.cls yX3_admit yX3_admit ∈ zq_tb := zw_472
theorem zs9_X3_allChances : Cond.selects yX3_allChances.cls yX3_allChances yX3_allChances ∈ zq_tb := zw_970
theorem zs9_X3_allDeserts : Cond.selects yX3_allDeserts.cls yX3_allDeserts yX3_allDeserts ∈ zq_tb := zw_498
theorem zs9_X3_canPart : Cond.selects yX3_canPart.cls yX3_canPart yX3_canPart ∈ zq_tb := zw_953
theorem zs9_X3_chanceOf : Cond.selects yX3_chanceOf.cls yX3_chanceOf yX3_chanceOf ∈ zq_tb := zw_966
theorem zs9_X3_desertsOf : Cond.selects yX3_desertsOf.cls yX3_desertsOf yX3_desertsOf ∈ zq_tb := zw_502
theorem zs9_X3_judge : Cond.selects yX3_judge.cls yX3_judge yX3_judge ∈ zq_tb := zw_493
theorem zs9_X3_readDeed : Cond.selects yX3_readDeed.cls yX3_readDeed yX3_readDeed ∈ zq_tb := zq_inP (i := 2) (q := (yX3_readDeed, 4)) (by decide +kernel) rfl rfl
theorem zs9_X3_readDeeds : Cond.selects yX3_readDeeds.cls yX3_readDeeds yX3_readDeeds ∈ zq_tb := zw_480
theorem zs9_X3_readLines : Cond.selects yX3_readLines.cls yX3_readLines yX3_readLines ∈ zq_tb := zw_464
theorem zs9_X3_tasteOf : Cond.selects yX3_tasteOf.cls yX3_tasteOf yX3_tasteOf ∈ zq_tb := zw_566
theorem zs9_X4_addMember : Cond.selects yX4_addMember.cls yX4_addMember yX4_addMember ∈ zq_tb := zw_747
theorem zs9_X4_canServe : Cond.selects yX4_canServe.cls yX4_canServe yX4_canServe ∈ zq_tb := zw_765
theorem zs9_X4_findOrder : Cond.selects yX4_findOrder.cls yX4_findOrder yX4_findOrder ∈ zq_tb := zq_inP (i := 27) (q := (yX4_findOrder, 8)) (by decide +kernel) rfl rfl
theorem zs9_X4_reached : Cond.selects yX4_reached.cls yX4_reached yX4_reached ∈ zq_tb := zq_inP (i := 26) (q := (yX4_reached, 8)) (by decide +kernel) rfl rfl
theorem zs9_X4_readClaims : Cond.selects yX4_readClaims.cls yX4_readClaims yX4_readClaims ∈ zq_tb := zw_931
theorem zs9_X4_shortest : Cond.selects yX4_shortest.cls yX4_shortest yX4_shortest ∈ zq_tb := zq_inP (i := 25) (q := (yX4_shortest, 8)) (by decide +kernel) rfl rfl
theorem zs9_X4_spread : Cond.selects yX4_spread.cls yX4_spread yX4_spread ∈ zq_tb := zw_751
theorem zs9_X4_start : Cond.selects yX4_start.cls yX4_start yX4_start ∈ zq_tb := zw_742
theorem zs9_X4_tellOrder : Cond.selects yX4_tellOrder.cls yX4_tellOrder yX4_tellOrder ∈ zq_tb := zw_769
theorem zs9_X5_add : Cond.selects yX5_add.cls yX5_add yX5_add ∈ zq_tb := zw_658
theorem zs9_X5_addFraction : Cond.selects yX5_addFraction.cls yX5_addFraction yX5_addFraction ∈ zq_tb := zw_709
theorem zs9_X5_clear : Cond.selects yX5_clear.cls yX5_clear yX5_clear ∈ zq_tb := zw_654
theorem zs9_X6_addStep : Cond.selects yX6_addStep.cls yX6_addStep yX6_addStep ∈ zq_tb := zq_inP (i := 4) (q := (yX6_addStep, 8)) (by decide +kernel) rfl rfl
theorem zs9_X6_hold : Cond.selects yX6_hold.cls yX6_hold yX6_hold ∈ zq_tb := zq_inP (i := 5) (q := (yX6_hold, 8)) (by decide +kernel) rfl rfl
theorem zs9_X6_read : Cond.selects yX6_read.cls yX6_read yX6_read ∈ zq_tb := zw_510
theorem zs9_X6_readJoint : Cond.selects yX6_readJoint.cls yX6_readJoint yX6_readJoint ∈ zq_tb := zq_inP (i := 6) (q := (yX6_readJoint, 8)) (by decide +kernel) rfl rfl
theorem zs9_X6_readThing : Cond.selects yX6_readThing.cls yX6_readThing yX6_readThing ∈ zq_tb := zq_inP (i := 3) (q := (yX6_readThing, 8)) (by decide +kernel) rfl rfl
theorem zs9_X6_release : Cond.selects yX6_release.cls yX6_release yX6_release ∈ zq_tb := zq_inP (i := 7) (q := (yX6_release, 8)) (by decide +kernel) rfl rfl
theorem zs9_X6_walk : Cond.selects yX6_walk.cls yX6_walk yX6_walk ∈ zq_tb := zq_inP (i := 1) (q := (yX6_walk, 8)) (by decide +kernel) rfl rfl
theorem zs9_X6_worthOf : Cond.selects yX6_worthOf.cls yX6_worthOf yX6_worthOf ∈ zq_tb := zw_439
theorem zs9_X7_isCalmWith : Cond.selects yX7_isCalmWith.cls yX7_isCalmWith yX7_isCalmWith ∈ zq_tb := zq_inP (i := 33) (q := (yX7_isCalmWith, 8)) (by decide +kernel) rfl rfl
theorem zs9_X7_isLess : Cond.selects yX7_isLess.cls yX7_isLess yX7_isLess ∈ zq_tb := zq_inP (i := 32) (q := (yX7_isLess, 8)) (by decide +kernel) rfl rfl
theorem zs9_X7_note : Cond.selects yX7_note.cls yX7_note yX7_note ∈ zq_tb := zq_inP (i := 31) (q := (yX7_note, 8)) (by decide +kernel) rfl rfl
theorem zs9_X7_othersAreCalm : Cond.selects yX7_othersAreCalm.cls yX7_othersAreCalm yX7_othersAreCalm ∈ zq_tb := zq_inP (i := 30) (q := (yX7_othersAreCalm, 8)) (by decide +kernel) rfl rfl
theorem zs9_X7_part : Cond.selects yX7_part.cls yX7_part yX7_part ∈ zq_tb := zq_inP (i := 29) (q := (yX7_part, 8)) (by decide +kernel) rfl rfl
theorem zs9_X7_prefers : Cond.selects yX7_prefers.cls yX7_prefers yX7_prefers ∈ zq_tb := zq_inP (i := 34) (q := (yX7_prefers, 8)) (by decide +kernel) rfl rfl
theorem zs9_X7_ways : Cond.selects yX7_ways.cls yX7_ways yX7_ways ∈ zq_tb := zw_804
theorem zs9_X8_addFour : Cond.selects yX8_addFour.cls yX8_addFour yX8_addFour ∈ zq_tb := zw_372
theorem zs9_X8_clear : Cond.selects yX8_clear.cls yX8_clear yX8_clear ∈ zq_tb := zw_419
theorem zs9_X8_fault : Cond.selects yX8_fault.cls yX8_fault yX8_fault ∈ zq_tb := zw_423
theorem zs9_X8_isFinished : Cond.selects yX8_isFinished.cls yX8_isFinished yX8_isFinished ∈ zq_tb := zw_399
theorem zs9_X8_next : Cond.selects yX8_next.cls yX8_next yX8_next ∈ zq_tb := zw_407
theorem zs9_X8_shorten : Cond.selects yX8_shorten.cls yX8_shorten yX8_shorten ∈ zq_tb := zw_380
theorem zs9_X8_skip : Cond.selects yX8_skip.cls yX8_skip yX8_skip ∈ zq_tb := zw_415
theorem zs9_X8_start : Cond.selects yX8_start.cls yX8_start yX8_start ∈ zq_tb := zw_392
theorem zs9_X8_takeDigit : Cond.selects yX8_takeDigit.cls yX8_takeDigit yX8_takeDigit ∈ zq_tb := zw_403
theorem zs9_X8_takeLetter : Cond.selects yX8_takeLetter.cls yX8_takeLetter yX8_takeLetter ∈ zq_tb := zw_411
theorem zs9_X8_takeNumber : Cond.selects yX8_takeNumber.cls yX8_takeNumber yX8_takeNumber ∈ zq_tb := zw_521
theorem zs9_X9_favourite : Cond.selects yX9_favourite.cls yX9_favourite yX9_favourite ∈ zq_tb := zq_inP (i := 35) (q := (yX9_favourite, 4)) (by decide +kernel) rfl rfl
theorem zs9_X9_read : Cond.selects yX9_read.cls yX9_read yX9_read ∈ zq_tb := zw_848
theorem zs9_X9_startTaking : Cond.selects yX9_startTaking.cls yX9_startTaking yX9_startTaking ∈ zq_tb := zw_855
theorem zs9_X9_takeAll : Cond.selects yX9_takeAll.cls yX9_takeAll yX9_takeAll ∈ zq_tb := zw_861
theorem zs9_X10_between : Cond.selects yX10_between.cls yX10_between yX10_between ∈ zq_tb := zw_601
theorem zs9_X10_of : Cond.selects yX10_of.cls yX10_of yX10_of ∈ zq_tb := zw_558
theorem zs9_X10_renew : Cond.selects yX10_renew.cls yX10_renew yX10_renew ∈ zq_tb := zw_435
theorem zs9_X10_whole : Cond.selects yX10_whole.cls yX10_whole yX10_whole ∈ zq_tb := zw_694
theorem zs9_X12_adds : Cond.selects yX12_adds.cls yX12_adds yX12_adds ∈ zq_tb := zq_inP (i := 69) (q := (yX12_adds, 67)) (by decide +kernel) rfl rfl
theorem zs9_X12_all : Cond.selects yX12_all.cls yX12_all yX12_all ∈ zq_tb := zq_inP (i := 75) (q := (yX12_all, 67)) (by decide +kernel) rfl rfl
theorem zs9_X12_allDeserts : Cond.selects yX12_allDeserts.cls yX12_allDeserts yX12_allDeserts ∈ zq_tb := zq_inP (i := 51) (q := (yX12_allDeserts, 67)) (by decide +kernel) rfl rfl
theorem zs9_X12_among : Cond.selects yX12_among.cls yX12_among yX12_among ∈ zq_tb := zq_inP (i := 42) (q := (yX12_among, 67)) (by decide +kernel) rfl rfl
theorem zs9_X12_backs : Cond.selects yX12_backs.cls yX12_backs yX12_backs ∈ zq_tb := zq_inP (i := 70) (q := (yX12_backs, 67)) (by decide +kernel) rfl rfl
theorem zs9_X12_begins : Cond.selects yX12_begins.cls yX12_begins yX12_begins ∈ zq_tb := zq_inP (i := 41) (q := (yX12_begins, 67)) (by decide +kernel) rfl rfl
theorem zs9_X12_bets : Cond.selects yX12_bets.cls yX12_bets yX12_bets ∈ zq_tb := zq_inP (i := 92) (q := (yX12_bets, 67)) (by decide +kernel) rfl rfl
theorem zs9_X12_calmsFrom : Cond.selects yX12_calmsFrom.cls yX12_calmsFrom yX12_calmsFrom ∈ zq_tb := zq_inP (i := 82) (q := (yX12_calmsFrom, 67)) (by decide +kernel) rfl rfl
theorem zs9_X12_canServe : Cond.selects yX12_canServe.cls yX12_canServe yX12_canServe ∈ zq_tb := zq_inP (i := 76) (q := (yX12_canServe, 67)) (by decide +kernel) rfl rfl
theorem zs9_X12_codes : Cond.selects yX12_codes.cls yX12_codes yX12_codes ∈ zq_tb := zq_inP (i := 54) (q := (yX12_codes, 67)) (by decide +kernel) rfl rfl
theorem zs9_X12_counts : Cond.selects yX12_counts.cls yX12_counts yX12_counts ∈ zq_tb := zq_inP (i := 68) (q := (yX12_counts, 67)) (by decide +kernel) rfl rfl
theorem zs9_X12_crumbsAll : Cond.selects yX12_crumbsAll.cls yX12_crumbsAll yX12_crumbsAll ∈ zq_tb := zq_inP (i := 90) (q := (yX12_crumbsAll, 67)) (by decide +kernel) rfl rfl
theorem zs9_X12_desertsOf : Cond.selects yX12_desertsOf.cls yX12_desertsOf yX12_desertsOf ∈ zq_tb := zq_inP (i := 91) (q := (yX12_desertsOf, 67)) (by decide +kernel) rfl rfl
theorem zs9_X12_does : Cond.selects yX12_does.cls yX12_does yX12_does ∈ zq_tb := zq_inP (i := 73) (q := (yX12_does, 67)) (by decide +kernel) rfl rfl
theorem zs9_X12_eats : Cond.selects yX12_eats.cls yX12_eats yX12_eats ∈ zq_tb := zq_inP (i := 71) (q := (yX12_eats, 67)) (by decide +kernel) rfl rfl
theorem zs9_X12_endFor : Cond.selects yX12_endFor.cls yX12_endFor yX12_endFor ∈ zq_tb := zq_inP (i := 79) (q := (yX12_endFor, 67)) (by decide +kernel) rfl rfl
theorem zs9_X12_enters : Cond.selects yX12_enters.cls yX12_enters yX12_enters ∈ zq_tb := zq_inP (i := 74) (q := (yX12_enters, 67)) (by decide +kernel) rfl rfl
theorem zs9_X12_faultOf : Cond.selects yX12_faultOf.cls yX12_faultOf yX12_faultOf ∈ zq_tb := zq_inP (i := 45) (q := (yX12_faultOf, 67)) (by decide +kernel) rfl rfl
theorem zs9_X12_fitsBy : Cond.selects yX12_fitsBy.cls yX12_fitsBy yX12_fitsBy ∈ zq_tb := zq_inP (i := 88) (q := (yX12_fitsBy, 67)) (by decide +kernel) rfl rfl
theorem zs9_X12_gives : Cond.selects yX12_gives.cls yX12_gives yX12_gives ∈ zq_tb := zq_inP (i := 66) (q := (yX12_gives, 67)) (by decide +kernel) rfl rfl
theorem zs9_X12_goesByTurns : Cond.selects yX12_goesByTurns.cls yX12_goesByTurns yX12_goesByTurns ∈ zq_tb := zq_inP (i := 87) (q := (yX12_goesByTurns, 67)) (by decide +kernel) rfl rfl
theorem zs9_X12_goesTo : Cond.selects yX12_goesTo.cls yX12_goesTo yX12_goesTo ∈ zq_tb := zq_inP (i := 84) (q := (yX12_goesTo, 67)) (by decide +kernel) rfl rfl
theorem zs9_X12_held : Cond.selects yX12_held.cls yX12_held yX12_held ∈ zq_tb := zq_inP (i := 63) (q := (yX12_held, 67)) (by decide +kernel) rfl rfl
theorem zs9_X12_holds : Cond.selects yX12_holds.cls yX12_holds yX12_holds ∈ zq_tb := zq_inP (i := 62) (q := (yX12_holds, 67)) (by decide +kernel) rfl rfl
theorem zs9_X12_isCalm : Cond.selects yX12_isCalm.cls yX12_isCalm yX12_isCalm ∈ zq_tb := zq_inP (i := 83) (q := (yX12_isCalm, 67)) (by decide +kernel) rfl rfl
theorem zs9_X12_isCell : Cond.selects yX12_isCell.cls yX12_isCell yX12_isCell ∈ zq_tb := zq_inP (i := 55) (q := (yX12_isCell, 67)) (by decide +kernel) rfl rfl
theorem zs9_X12_isDigit : Cond.selects yX12_isDigit.cls yX12_isDigit yX12_isDigit ∈ zq_tb := zq_inP (i := 48) (q := (yX12_isDigit, 67)) (by decide +kernel) rfl rfl
theorem zs9_X12_isDue : Cond.selects yX12_isDue.cls yX12_isDue yX12_isDue ∈ zq_tb := zq_inP (i := 64) (q := (yX12_isDue, 67)) (by decide +kernel) rfl rfl
theorem zs9_X12_isGuest : Cond.selects yX12_isGuest.cls yX12_isGuest yX12_isGuest ∈ zq_tb := zq_inP (i := 57) (q := (yX12_isGuest, 67)) (by decide +kernel) rfl rfl
theorem zs9_X12_isSlice : Cond.selects yX12_isSlice.cls yX12_isSlice yX12_isSlice ∈ zq_tb := zq_inP (i := 67) (q := (yX12_isSlice, 67)) (by decide +kernel) rfl rfl
theorem zs9_X12_isTurnLess : Cond.selects yX12_isTurnLess.cls yX12_isTurnLess yX12_isTurnLess ∈ zq_tb := zq_inP (i := 78) (q := (yX12_isTurnLess, 67)) (by decide +kernel) rfl rfl
theorem zs9_X12_laysTable : Cond.selects yX12_laysTable.cls yX12_laysTable yX12_laysTable ∈ zq_tb := zq_inP (i := 58) (q := (yX12_laysTable, 67)) (by decide +kernel) rfl rfl
theorem zs9_X12_letter : Cond.selects yX12_letter.cls yX12_letter yX12_letter ∈ zq_tb := zq_inP (i := 50) (q := (yX12_letter, 67)) (by decide +kernel) rfl rfl
theorem zs9_X12_meets : Cond.selects yX12_meets.cls yX12_meets yX12_meets ∈ zq_tb := zq_inP (i := 89) (q := (yX12_meets, 67)) (by decide +kernel) rfl rfl
theorem zs9_X12_number : Cond.selects yX12_number.cls yX12_number yX12_number ∈ zq_tb := zq_inP (i := 47) (q := (yX12_number, 67)) (by decide +kernel) rfl rfl
theorem zs9_X12_partsOn : Cond.selects yX12_partsOn.cls yX12_partsOn yX12_partsOn ∈ zq_tb := zq_inP (i := 81) (q := (yX12_partsOn, 67)) (by decide +kernel) rfl rfl
theorem zs9_X12_picksAsWorth : Cond.selects yX12_picksAsWorth.cls yX12_picksAsWorth yX12_picksAsWorth ∈ zq_tb := zq_inP (i := 86) (q := (yX12_picksAsWorth, 67)) (by decide +kernel) rfl rfl
theorem zs9_X12_putsBy : Cond.selects yX12_putsBy.cls yX12_putsBy yX12_putsBy ∈ zq_tb := zq_inP (i := 65) (q := (yX12_putsBy, 67)) (by decide +kernel) rfl rfl
theorem zs9_X12_readsAct : Cond.selects yX12_readsAct.cls yX12_readsAct yX12_readsAct ∈ zq_tb := zq_inP (i := 72) (q := (yX12_readsAct, 67)) (by decide +kernel) rfl rfl
theorem zs9_X12_readsDeed : Cond.selects yX12_readsDeed.cls yX12_readsDeed yX12_readsDeed ∈ zq_tb := zq_inP (i := 49) (q := (yX12_readsDeed, 67)) (by decide +kernel) rfl rfl
theorem zs9_X12_readsGuest : Cond.selects yX12_readsGuest.cls yX12_readsGuest yX12_readsGuest ∈ zq_tb := zq_inP (i := 46) (q := (yX12_readsGuest, 67)) (by decide +kernel) rfl rfl
theorem zs9_X12_readsRank : Cond.selects yX12_readsRank.cls yX12_readsRank yX12_readsRank ∈ zq_tb := zq_inP (i := 52) (q := (yX12_readsRank, 67)) (by decide +kernel) rfl rfl
theorem zs9_X12_readsThing : Cond.selects yX12_readsThing.cls yX12_readsThing yX12_readsThing ∈ zq_tb := zq_inP (i := 53) (q := (yX12_readsThing, 67)) (by decide +kernel) rfl rfl
theorem zs9_X12_readsTurns : Cond.selects yX12_readsTurns.cls yX12_readsTurns yX12_readsTurns ∈ zq_tb := zq_inP (i := 85) (q := (yX12_readsTurns, 67)) (by decide +kernel) rfl rfl
theorem zs9_X12_refuse : Cond.selects yX12_refuse.cls yX12_refuse yX12_refuse ∈ zq_tb := zq_inP (i := 56) (q := (yX12_refuse, 67)) (by decide +kernel) rfl rfl
theorem zs9_X12_ruled : Cond.selects yX12_ruled.cls yX12_ruled yX12_ruled ∈ zq_tb := zq_inP (i := 61) (q := (yX12_ruled, 67)) (by decide +kernel) rfl rfl
theorem zs9_X12_serves : Cond.selects yX12_serves.cls yX12_serves yX12_serves ∈ zq_tb := zq_inP (i := 77) (q := (yX12_serves, 67)) (by decide +kernel) rfl rfl
theorem zs9_X12_sliceOf : Cond.selects yX12_sliceOf.cls yX12_sliceOf yX12_sliceOf ∈ zq_tb := zq_inP (i := 80) (q := (yX12_sliceOf, 67)) (by decide +kernel) rfl rfl
theorem zs9_X12_takes : Cond.selects yX12_takes.cls yX12_takes yX12_takes ∈ zq_tb := zq_inP (i := 44) (q := (yX12_takes, 67)) (by decide +kernel) rfl rfl
theorem zs9_X12_takesOf : Cond.selects yX12_takesOf.cls yX12_takesOf yX12_takesOf ∈ zq_tb := zq_inP (i := 43) (q := (yX12_takesOf, 67)) (by decide +kernel) rfl rfl
theorem zs9_X12_worthBy : Cond.selects yX12_worthBy.cls yX12_worthBy yX12_worthBy ∈ zq_tb := zq_inP (i := 60) (q := (yX12_worthBy, 67)) (by decide +kernel) rfl rfl
theorem zs9_X12_worthOf : Cond.selects yX12_worthOf.cls yX12_worthOf yX12_worthOf ∈ zq_tb := zq_inP (i := 59) (q := (yX12_worthOf, 67)) (by decide +kernel) rfl rfl
theorem zq_loop1 {X : zq_X} {nL : Nat} {pc1 : Nat} {σ1 : Type} (μ1 : σ1 → Nat) (I1 : σ1 → zq_P) (b1 : zq_P → zq_P) (s1 : ∀ {J1 : zq_P}, zq_ok X nL pc1 J1 → zq_ok X nL pc1 (b1 J1)) (v1 : ∀ a ls st h, I1 a ls st h → b1 (fun ls st h => ∃ b, μ1 b < μ1 a ∧ I1 b ls st h) ls st h)  : zq_ok X nL pc1 (fun ls st h => ∃ a, I1 a ls st h) := by
  have key : ∀ n : Nat, (∀ a, μ1 a < n → zq_ok X nL pc1 (I1 a)) := by
    intro n
    induction n with
    | zero => exact fun a h => absurd h (Nat.not_lt_zero _)
    | succ n ih =>
      have ih1 := ih
      have lift : ∀ {σ : Type} {pc : Nat} (μ : σ → Nat) (I : σ → zq_P) (m : Nat), m ≤ n → (∀ a, μ a < n → zq_ok X nL pc (I a)) → zq_ok X nL pc (fun ls st h => ∃ b, μ b < m ∧ I b ls st h) := by
        intro σ pc μ I m hm hi
        obtain ⟨p, l, e, R, s, m9, args, below, meth, c, D, Y, ad, A, kc, kn, Z⟩ := X
        intro ls st h H locs a' hP
        obtain ⟨b, hb, hI⟩ := hP
        exact hi b (by omega) ls st h H locs a' hI
      exact fun a ha => (s1 (lift μ1 I1 (μ1 a) (by omega) ih1)).mono (v1 a)
  have lift : ∀ {σ : Type} {pc : Nat} (μ : σ → Nat) (I : σ → zq_P), (∀ n a, μ a < n → zq_ok X nL pc (I a)) → zq_ok X nL pc (fun ls st h => ∃ b, I b ls st h) := by
    intro σ pc μ I hi
    obtain ⟨p, l, e, R, s, m9, args, below, meth, c, D, Y, ad, A, kc, kn, Z⟩ := X
    intro ls st h H locs a' hP
    obtain ⟨b, hI⟩ := hP
    exact hi (μ b + 1) b (Nat.lt_succ_self _) ls st h H locs a' hI
  exact lift μ1 I1 key

theorem zq_loop2 {X : zq_X} {nL : Nat} {pc1 : Nat} {σ1 : Type} {pc2 : Nat} {σ2 : Type} (μ1 : σ1 → Nat) (μ2 : σ2 → Nat) (I1 : σ1 → zq_P) (I2 : σ2 → zq_P) (b1 : zq_P → zq_P → zq_P) (b2 : zq_P → zq_P → zq_P) (s1 : ∀ {J1 J2 : zq_P}, zq_ok X nL pc1 J1 → zq_ok X nL pc2 J2 → zq_ok X nL pc1 (b1 J1 J2)) (s2 : ∀ {J1 J2 : zq_P}, zq_ok X nL pc1 J1 → zq_ok X nL pc2 J2 → zq_ok X nL pc2 (b2 J1 J2)) (v1 : ∀ a ls st h, I1 a ls st h → b1 (fun ls st h => ∃ b, μ1 b < μ1 a ∧ I1 b ls st h) (fun ls st h => ∃ b, μ2 b < μ1 a ∧ I2 b ls st h) ls st h) (v2 : ∀ a ls st h, I2 a ls st h → b2 (fun ls st h => ∃ b, μ1 b < μ2 a ∧ I1 b ls st h) (fun ls st h => ∃ b, μ2 b < μ2 a ∧ I2 b ls st h) ls st h)  : zq_ok X nL pc1 (fun ls st h => ∃ a, I1 a ls st h) ∧ zq_ok X nL pc2 (fun ls st h => ∃ a, I2 a ls st h) := by
  have key : ∀ n : Nat, (∀ a, μ1 a < n → zq_ok X nL pc1 (I1 a)) ∧ (∀ a, μ2 a < n → zq_ok X nL pc2 (I2 a)) := by
    intro n
    induction n with
    | zero => exact ⟨fun a h => absurd h (Nat.not_lt_zero _), fun a h => absurd h (Nat.not_lt_zero _)⟩
    | succ n ih =>
      obtain ⟨ih1, ih2⟩ := ih
      have lift : ∀ {σ : Type} {pc : Nat} (μ : σ → Nat) (I : σ → zq_P) (m : Nat), m ≤ n → (∀ a, μ a < n → zq_ok X nL pc (I a)) → zq_ok X nL pc (fun ls st h => ∃ b, μ b < m ∧ I b ls st h) := by
        intro σ pc μ I m hm hi
        obtain ⟨p, l, e, R, s, m9, args, below, meth, c, D, Y, ad, A, kc, kn, Z⟩ := X
        intro ls st h H locs a' hP
        obtain ⟨b, hb, hI⟩ := hP
        exact hi b (by omega) ls st h H locs a' hI
      exact ⟨fun a ha => (s1 (lift μ1 I1 (μ1 a) (by omega) ih1) (lift μ2 I2 (μ1 a) (by omega) ih2)).mono (v1 a), fun a ha => (s2 (lift μ1 I1 (μ2 a) (by omega) ih1) (lift μ2 I2 (μ2 a) (by omega) ih2)).mono (v2 a)⟩
  have lift : ∀ {σ : Type} {pc : Nat} (μ : σ → Nat) (I : σ → zq_P), (∀ n a, μ a < n → zq_ok X nL pc (I a)) → zq_ok X nL pc (fun ls st h => ∃ b, I b ls st h) := by
    intro σ pc μ I hi
    obtain ⟨p, l, e, R, s, m9, args, below, meth, c, D, Y, ad, A, kc, kn, Z⟩ := X
    intro ls st h H locs a' hP
    obtain ⟨b, hI⟩ := hP
    exact hi (μ b + 1) b (Nat.lt_succ_self _) ls st h H locs a' hI
  exact ⟨lift μ1 I1 (fun n => (key n).1), lift μ2 I2 (fun n => (key n).2)⟩

theorem zq_loop3 {X : zq_X} {nL : Nat} {pc1 : Nat} {σ1 : Type} {pc2 : Nat} {σ2 : Type} {pc3 : Nat} {σ3 : Type} (μ1 : σ1 → Nat) (μ2 : σ2 → Nat) (μ3 : σ3 → Nat) (I1 : σ1 → zq_P) (I2 : σ2 → zq_P) (I3 : σ3 → zq_P) (b1 : zq_P → zq_P → zq_P → zq_P) (b2 : zq_P → zq_P → zq_P → zq_P) (b3 : zq_P → zq_P → zq_P → zq_P) (s1 : ∀ {J1 J2 J3 : zq_P}, zq_ok X nL pc1 J1 → zq_ok X nL pc2 J2 → zq_ok X nL pc3 J3 → zq_ok X nL pc1 (b1 J1 J2 J3)) (s2 : ∀ {J1 J2 J3 : zq_P}, zq_ok X nL pc1 J1 → zq_ok X nL pc2 J2 → zq_ok X nL pc3 J3 → zq_ok X nL pc2 (b2 J1 J2 J3)) (s3 : ∀ {J1 J2 J3 : zq_P}, zq_ok X nL pc1 J1 → zq_ok X nL pc2 J2 → zq_ok X nL pc3 J3 → zq_ok X nL pc3 (b3 J1 J2 J3)) (v1 : ∀ a ls st h, I1 a ls st h → b1 (fun ls st h => ∃ b, μ1 b < μ1 a ∧ I1 b ls st h) (fun ls st h => ∃ b, μ2 b < μ1 a ∧ I2 b ls st h) (fun ls st h => ∃ b, μ3 b < μ1 a ∧ I3 b ls st h) ls st h) (v2 : ∀ a ls st h, I2 a ls st h → b2 (fun ls st h => ∃ b, μ1 b < μ2 a ∧ I1 b ls st h) (fun ls st h => ∃ b, μ2 b < μ2 a ∧ I2 b ls st h) (fun ls st h => ∃ b, μ3 b < μ2 a ∧ I3 b ls st h) ls st h) (v3 : ∀ a ls st h, I3 a ls st h → b3 (fun ls st h => ∃ b, μ1 b < μ3 a ∧ I1 b ls st h) (fun ls st h => ∃ b, μ2 b < μ3 a ∧ I2 b ls st h) (fun ls st h => ∃ b, μ3 b < μ3 a ∧ I3 b ls st h) ls st h)  : zq_ok X nL pc1 (fun ls st h => ∃ a, I1 a ls st h) ∧ zq_ok X nL pc2 (fun ls st h => ∃ a, I2 a ls st h) ∧ zq_ok X nL pc3 (fun ls st h => ∃ a, I3 a ls st h) := by
  have key : ∀ n : Nat, (∀ a, μ1 a < n → zq_ok X nL pc1 (I1 a)) ∧ (∀ a, μ2 a < n → zq_ok X nL pc2 (I2 a)) ∧ (∀ a, μ3 a < n → zq_ok X nL pc3 (I3 a)) := by
    intro n
    induction n with
    | zero => exact ⟨fun a h => absurd h (Nat.not_lt_zero _), fun a h => absurd h (Nat.not_lt_zero _), fun a h => absurd h (Nat.not_lt_zero _)⟩
    | succ n ih =>
      obtain ⟨ih1, ih2, ih3⟩ := ih
      have lift : ∀ {σ : Type} {pc : Nat} (μ : σ → Nat) (I : σ → zq_P) (m : Nat), m ≤ n → (∀ a, μ a < n → zq_ok X nL pc (I a)) → zq_ok X nL pc (fun ls st h => ∃ b, μ b < m ∧ I b ls st h) := by
        intro σ pc μ I m hm hi
        obtain ⟨p, l, e, R, s, m9, args, below, meth, c, D, Y, ad, A, kc, kn, Z⟩ := X
        intro ls st h H locs a' hP
        obtain ⟨b, hb, hI⟩ := hP
        exact hi b (by omega) ls st h H locs a' hI
      exact ⟨fun a ha => (s1 (lift μ1 I1 (μ1 a) (by omega) ih1) (lift μ2 I2 (μ1 a) (by omega) ih2) (lift μ3 I3 (μ1 a) (by omega) ih3)).mono (v1 a), fun a ha => (s2 (lift μ1 I1 (μ2 a) (by omega) ih1) (lift μ2 I2 (μ2 a) (by omega) ih2) (lift μ3 I3 (μ2 a) (by omega) ih3)).mono (v2 a), fun a ha => (s3 (lift μ1 I1 (μ3 a) (by omega) ih1) (lift μ2 I2 (μ3 a) (by omega) ih2) (lift μ3 I3 (μ3 a) (by omega) ih3)).mono (v3 a)⟩
  have lift : ∀ {σ : Type} {pc : Nat} (μ : σ → Nat) (I : σ → zq_P), (∀ n a, μ a < n → zq_ok X nL pc (I a)) → zq_ok X nL pc (fun ls st h => ∃ b, I b ls st h) := by
    intro σ pc μ I hi
    obtain ⟨p, l, e, R, s, m9, args, below, meth, c, D, Y, ad, A, kc, kn, Z⟩ := X
    intro ls st h H locs a' hP
    obtain ⟨b, hI⟩ := hP
    exact hi (μ b + 1) b (Nat.lt_succ_self _) ls st h H locs a' hI
  exact ⟨lift μ1 I1 (fun n => (key n).1), lift μ2 I2 (fun n => (key n).2.1), lift μ3 I3 (fun n => (key n).2.2)⟩

theorem zq_loop4 {X : zq_X} {nL : Nat} {pc1 : Nat} {σ1 : Type} {pc2 : Nat} {σ2 : Type} {pc3 : Nat} {σ3 : Type} {pc4 : Nat} {σ4 : Type} (μ1 : σ1 → Nat) (μ2 : σ2 → Nat) (μ3 : σ3 → Nat) (μ4 : σ4 → Nat) (I1 : σ1 → zq_P) (I2 : σ2 → zq_P) (I3 : σ3 → zq_P) (I4 : σ4 → zq_P) (b1 : zq_P → zq_P → zq_P → zq_P → zq_P) (b2 : zq_P → zq_P → zq_P → zq_P → zq_P) (b3 : zq_P → zq_P → zq_P → zq_P → zq_P) (b4 : zq_P → zq_P → zq_P → zq_P → zq_P) (s1 : ∀ {J1 J2 J3 J4 : zq_P}, zq_ok X nL pc1 J1 → zq_ok X nL pc2 J2 → zq_ok X nL pc3 J3 → zq_ok X nL pc4 J4 → zq_ok X nL pc1 (b1 J1 J2 J3 J4)) (s2 : ∀ {J1 J2 J3 J4 : zq_P}, zq_ok X nL pc1 J1 → zq_ok X nL pc2 J2 → zq_ok X nL pc3 J3 → zq_ok X nL pc4 J4 → zq_ok X nL pc2 (b2 J1 J2 J3 J4)) (s3 : ∀ {J1 J2 J3 J4 : zq_P}, zq_ok X nL pc1 J1 → zq_ok X nL pc2 J2 → zq_ok X nL pc3 J3 → zq_ok X nL pc4 J4 → zq_ok X nL pc3 (b3 J1 J2 J3 J4)) (s4 : ∀ {J1 J2 J3 J4 : zq_P}, zq_ok X nL pc1 J1 → zq_ok X nL pc2 J2 → zq_ok X nL pc3 J3 → zq_ok X nL pc4 J4 → zq_ok X nL pc4 (b4 J1 J2 J3 J4)) (v1 : ∀ a ls st h, I1 a ls st h → b1 (fun ls st h => ∃ b, μ1 b < μ1 a ∧ I1 b ls st h) (fun ls st h => ∃ b, μ2 b < μ1 a ∧ I2 b ls st h) (fun ls st h => ∃ b, μ3 b < μ1 a ∧ I3 b ls st h) (fun ls st h => ∃ b, μ4 b < μ1 a ∧ I4 b ls st h) ls st h) (v2 : ∀ a ls st h, I2 a ls st h → b2 (fun ls st h => ∃ b, μ1 b < μ2 a ∧ I1 b ls st h) (fun ls st h => ∃ b, μ2 b < μ2 a ∧ I2 b ls st h) (fun ls st h => ∃ b, μ3 b < μ2 a ∧ I3 b ls st h) (fun ls st h => ∃ b, μ4 b < μ2 a ∧ I4 b ls st h) ls st h) (v3 : ∀ a ls st h, I3 a ls st h → b3 (fun ls st h => ∃ b, μ1 b < μ3 a ∧ I1 b ls st h) (fun ls st h => ∃ b, μ2 b < μ3 a ∧ I2 b ls st h) (fun ls st h => ∃ b, μ3 b < μ3 a ∧ I3 b ls st h) (fun ls st h => ∃ b, μ4 b < μ3 a ∧ I4 b ls st h) ls st h) (v4 : ∀ a ls st h, I4 a ls st h → b4 (fun ls st h => ∃ b, μ1 b < μ4 a ∧ I1 b ls st h) (fun ls st h => ∃ b, μ2 b < μ4 a ∧ I2 b ls st h) (fun ls st h => ∃ b, μ3 b < μ4 a ∧ I3 b ls st h) (fun ls st h => ∃ b, μ4 b < μ4 a ∧ I4 b ls st h) ls st h)  : zq_ok X nL pc1 (fun ls st h => ∃ a, I1 a ls st h) ∧ zq_ok X nL pc2 (fun ls st h => ∃ a, I2 a ls st h) ∧ zq_ok X nL pc3 (fun ls st h => ∃ a, I3 a ls st h) ∧ zq_ok X nL pc4 (fun ls st h => ∃ a, I4 a ls st h) := by
  have key : ∀ n : Nat, (∀ a, μ1 a < n → zq_ok X nL pc1 (I1 a)) ∧ (∀ a, μ2 a < n → zq_ok X nL pc2 (I2 a)) ∧ (∀ a, μ3 a < n → zq_ok X nL pc3 (I3 a)) ∧ (∀ a, μ4 a < n → zq_ok X nL pc4 (I4 a)) := by
    intro n
    induction n with
    | zero => exact ⟨fun a h => absurd h (Nat.not_lt_zero _), fun a h => absurd h (Nat.not_lt_zero _), fun a h => absurd h (Nat.not_lt_zero _), fun a h => absurd h (Nat.not_lt_zero _)⟩
    | succ n ih =>
      obtain ⟨ih1, ih2, ih3, ih4⟩ := ih
      have lift : ∀ {σ : Type} {pc : Nat} (μ : σ → Nat) (I : σ → zq_P) (m : Nat), m ≤ n → (∀ a, μ a < n → zq_ok X nL pc (I a)) → zq_ok X nL pc (fun ls st h => ∃ b, μ b < m ∧ I b ls st h) := by
        intro σ pc μ I m hm hi
        obtain ⟨p, l, e, R, s, m9, args, below, meth, c, D, Y, ad, A, kc, kn, Z⟩ := X
        intro ls st h H locs a' hP
        obtain ⟨b, hb, hI⟩ := hP
        exact hi b (by omega) ls st h H locs a' hI
      exact ⟨fun a ha => (s1 (lift μ1 I1 (μ1 a) (by omega) ih1) (lift μ2 I2 (μ1 a) (by omega) ih2) (lift μ3 I3 (μ1 a) (by omega) ih3) (lift μ4 I4 (μ1 a) (by omega) ih4)).mono (v1 a), fun a ha => (s2 (lift μ1 I1 (μ2 a) (by omega) ih1) (lift μ2 I2 (μ2 a) (by omega) ih2) (lift μ3 I3 (μ2 a) (by omega) ih3) (lift μ4 I4 (μ2 a) (by omega) ih4)).mono (v2 a), fun a ha => (s3 (lift μ1 I1 (μ3 a) (by omega) ih1) (lift μ2 I2 (μ3 a) (by omega) ih2) (lift μ3 I3 (μ3 a) (by omega) ih3) (lift μ4 I4 (μ3 a) (by omega) ih4)).mono (v3 a), fun a ha => (s4 (lift μ1 I1 (μ4 a) (by omega) ih1) (lift μ2 I2 (μ4 a) (by omega) ih2) (lift μ3 I3 (μ4 a) (by omega) ih3) (lift μ4 I4 (μ4 a) (by omega) ih4)).mono (v4 a)⟩
  have lift : ∀ {σ : Type} {pc : Nat} (μ : σ → Nat) (I : σ → zq_P), (∀ n a, μ a < n → zq_ok X nL pc (I a)) → zq_ok X nL pc (fun ls st h => ∃ b, I b ls st h) := by
    intro σ pc μ I hi
    obtain ⟨p, l, e, R, s, m9, args, below, meth, c, D, Y, ad, A, kc, kn, Z⟩ := X
    intro ls st h H locs a' hP
    obtain ⟨b, hI⟩ := hP
    exact hi (μ b + 1) b (Nat.lt_succ_self _) ls st h H locs a' hI
  exact ⟨lift μ1 I1 (fun n => (key n).1), lift μ2 I2 (fun n => (key n).2.1), lift μ3 I3 (fun n => (key n).2.2.1), lift μ4 I4 (fun n => (key n).2.2.2)⟩

theorem zq_loop5 {X : zq_X} {nL : Nat} {pc1 : Nat} {σ1 : Type} {pc2 : Nat} {σ2 : Type} {pc3 : Nat} {σ3 : Type} {pc4 : Nat} {σ4 : Type} {pc5 : Nat} {σ5 : Type} (μ1 : σ1 → Nat) (μ2 : σ2 → Nat) (μ3 : σ3 → Nat) (μ4 : σ4 → Nat) (μ5 : σ5 → Nat) (I1 : σ1 → zq_P) (I2 : σ2 → zq_P) (I3 : σ3 → zq_P) (I4 : σ4 → zq_P) (I5 : σ5 → zq_P) (b1 : zq_P → zq_P → zq_P → zq_P → zq_P → zq_P) (b2 : zq_P → zq_P → zq_P → zq_P → zq_P → zq_P) (b3 : zq_P → zq_P → zq_P → zq_P → zq_P → zq_P) (b4 : zq_P → zq_P → zq_P → zq_P → zq_P → zq_P) (b5 : zq_P → zq_P → zq_P → zq_P → zq_P → zq_P) (s1 : ∀ {J1 J2 J3 J4 J5 : zq_P}, zq_ok X nL pc1 J1 → zq_ok X nL pc2 J2 → zq_ok X nL pc3 J3 → zq_ok X nL pc4 J4 → zq_ok X nL pc5 J5 → zq_ok X nL pc1 (b1 J1 J2 J3 J4 J5)) (s2 : ∀ {J1 J2 J3 J4 J5 : zq_P}, zq_ok X nL pc1 J1 → zq_ok X nL pc2 J2 → zq_ok X nL pc3 J3 → zq_ok X nL pc4 J4 → zq_ok X nL pc5 J5 → zq_ok X nL pc2 (b2 J1 J2 J3 J4 J5)) (s3 : ∀ {J1 J2 J3 J4 J5 : zq_P}, zq_ok X nL pc1 J1 → zq_ok X nL pc2 J2 → zq_ok X nL pc3 J3 → zq_ok X nL pc4 J4 → zq_ok X nL pc5 J5 → zq_ok X nL pc3 (b3 J1 J2 J3 J4 J5)) (s4 : ∀ {J1 J2 J3 J4 J5 : zq_P}, zq_ok X nL pc1 J1 → zq_ok X nL pc2 J2 → zq_ok X nL pc3 J3 → zq_ok X nL pc4 J4 → zq_ok X nL pc5 J5 → zq_ok X nL pc4 (b4 J1 J2 J3 J4 J5)) (s5 : ∀ {J1 J2 J3 J4 J5 : zq_P}, zq_ok X nL pc1 J1 → zq_ok X nL pc2 J2 → zq_ok X nL pc3 J3 → zq_ok X nL pc4 J4 → zq_ok X nL pc5 J5 → zq_ok X nL pc5 (b5 J1 J2 J3 J4 J5)) (v1 : ∀ a ls st h, I1 a ls st h → b1 (fun ls st h => ∃ b, μ1 b < μ1 a ∧ I1 b ls st h) (fun ls st h => ∃ b, μ2 b < μ1 a ∧ I2 b ls st h) (fun ls st h => ∃ b, μ3 b < μ1 a ∧ I3 b ls st h) (fun ls st h => ∃ b, μ4 b < μ1 a ∧ I4 b ls st h) (fun ls st h => ∃ b, μ5 b < μ1 a ∧ I5 b ls st h) ls st h) (v2 : ∀ a ls st h, I2 a ls st h → b2 (fun ls st h => ∃ b, μ1 b < μ2 a ∧ I1 b ls st h) (fun ls st h => ∃ b, μ2 b < μ2 a ∧ I2 b ls st h) (fun ls st h => ∃ b, μ3 b < μ2 a ∧ I3 b ls st h) (fun ls st h => ∃ b, μ4 b < μ2 a ∧ I4 b ls st h) (fun ls st h => ∃ b, μ5 b < μ2 a ∧ I5 b ls st h) ls st h) (v3 : ∀ a ls st h, I3 a ls st h → b3 (fun ls st h => ∃ b, μ1 b < μ3 a ∧ I1 b ls st h) (fun ls st h => ∃ b, μ2 b < μ3 a ∧ I2 b ls st h) (fun ls st h => ∃ b, μ3 b < μ3 a ∧ I3 b ls st h) (fun ls st h => ∃ b, μ4 b < μ3 a ∧ I4 b ls st h) (fun ls st h => ∃ b, μ5 b < μ3 a ∧ I5 b ls st h) ls st h) (v4 : ∀ a ls st h, I4 a ls st h → b4 (fun ls st h => ∃ b, μ1 b < μ4 a ∧ I1 b ls st h) (fun ls st h => ∃ b, μ2 b < μ4 a ∧ I2 b ls st h) (fun ls st h => ∃ b, μ3 b < μ4 a ∧ I3 b ls st h) (fun ls st h => ∃ b, μ4 b < μ4 a ∧ I4 b ls st h) (fun ls st h => ∃ b, μ5 b < μ4 a ∧ I5 b ls st h) ls st h) (v5 : ∀ a ls st h, I5 a ls st h → b5 (fun ls st h => ∃ b, μ1 b < μ5 a ∧ I1 b ls st h) (fun ls st h => ∃ b, μ2 b < μ5 a ∧ I2 b ls st h) (fun ls st h => ∃ b, μ3 b < μ5 a ∧ I3 b ls st h) (fun ls st h => ∃ b, μ4 b < μ5 a ∧ I4 b ls st h) (fun ls st h => ∃ b, μ5 b < μ5 a ∧ I5 b ls st h) ls st h)  : zq_ok X nL pc1 (fun ls st h => ∃ a, I1 a ls st h) ∧ zq_ok X nL pc2 (fun ls st h => ∃ a, I2 a ls st h) ∧ zq_ok X nL pc3 (fun ls st h => ∃ a, I3 a ls st h) ∧ zq_ok X nL pc4 (fun ls st h => ∃ a, I4 a ls st h) ∧ zq_ok X nL pc5 (fun ls st h => ∃ a, I5 a ls st h) := by
  have key : ∀ n : Nat, (∀ a, μ1 a < n → zq_ok X nL pc1 (I1 a)) ∧ (∀ a, μ2 a < n → zq_ok X nL pc2 (I2 a)) ∧ (∀ a, μ3 a < n → zq_ok X nL pc3 (I3 a)) ∧ (∀ a, μ4 a < n → zq_ok X nL pc4 (I4 a)) ∧ (∀ a, μ5 a < n → zq_ok X nL pc5 (I5 a)) := by
    intro n
    induction n with
    | zero => exact ⟨fun a h => absurd h (Nat.not_lt_zero _), fun a h => absurd h (Nat.not_lt_zero _), fun a h => absurd h (Nat.not_lt_zero _), fun a h => absurd h (Nat.not_lt_zero _), fun a h => absurd h (Nat.not_lt_zero _)⟩
    | succ n ih =>
      obtain ⟨ih1, ih2, ih3, ih4, ih5⟩ := ih
      have lift : ∀ {σ : Type} {pc : Nat} (μ : σ → Nat) (I : σ → zq_P) (m : Nat), m ≤ n → (∀ a, μ a < n → zq_ok X nL pc (I a)) → zq_ok X nL pc (fun ls st h => ∃ b, μ b < m ∧ I b ls st h) := by
        intro σ pc μ I m hm hi
        obtain ⟨p, l, e, R, s, m9, args, below, meth, c, D, Y, ad, A, kc, kn, Z⟩ := X
        intro ls st h H locs a' hP
        obtain ⟨b, hb, hI⟩ := hP
        exact hi b (by omega) ls st h H locs a' hI
      exact ⟨fun a ha => (s1 (lift μ1 I1 (μ1 a) (by omega) ih1) (lift μ2 I2 (μ1 a) (by omega) ih2) (lift μ3 I3 (μ1 a) (by omega) ih3) (lift μ4 I4 (μ1 a) (by omega) ih4) (lift μ5 I5 (μ1 a) (by omega) ih5)).mono (v1 a), fun a ha => (s2 (lift μ1 I1 (μ2 a) (by omega) ih1) (lift μ2 I2 (μ2 a) (by omega) ih2) (lift μ3 I3 (μ2 a) (by omega) ih3) (lift μ4 I4 (μ2 a) (by omega) ih4) (lift μ5 I5 (μ2 a) (by omega) ih5)).mono (v2 a), fun a ha => (s3 (lift μ1 I1 (μ3 a) (by omega) ih1) (lift μ2 I2 (μ3 a) (by omega) ih2) (lift μ3 I3 (μ3 a) (by omega) ih3) (lift μ4 I4 (μ3 a) (by omega) ih4) (lift μ5 I5 (μ3 a) (by omega) ih5)).mono (v3 a), fun a ha => (s4 (lift μ1 I1 (μ4 a) (by omega) ih1) (lift μ2 I2 (μ4 a) (by omega) ih2) (lift μ3 I3 (μ4 a) (by omega) ih3) (lift μ4 I4 (μ4 a) (by omega) ih4) (lift μ5 I5 (μ4 a) (by omega) ih5)).mono (v4 a), fun a ha => (s5 (lift μ1 I1 (μ5 a) (by omega) ih1) (lift μ2 I2 (μ5 a) (by omega) ih2) (lift μ3 I3 (μ5 a) (by omega) ih3) (lift μ4 I4 (μ5 a) (by omega) ih4) (lift μ5 I5 (μ5 a) (by omega) ih5)).mono (v5 a)⟩
  have lift : ∀ {σ : Type} {pc : Nat} (μ : σ → Nat) (I : σ → zq_P), (∀ n a, μ a < n → zq_ok X nL pc (I a)) → zq_ok X nL pc (fun ls st h => ∃ b, I b ls st h) := by
    intro σ pc μ I hi
    obtain ⟨p, l, e, R, s, m9, args, below, meth, c, D, Y, ad, A, kc, kn, Z⟩ := X
    intro ls st h H locs a' hP
    obtain ⟨b, hI⟩ := hP
    exact hi (μ b + 1) b (Nat.lt_succ_self _) ls st h H locs a' hI
  exact ⟨lift μ1 I1 (fun n => (key n).1), lift μ2 I2 (fun n => (key n).2.1), lift μ3 I3 (fun n => (key n).2.2.1), lift μ4 I4 (fun n => (key n).2.2.2.1), lift μ5 I5 (fun n => (key n).2.2.2.2)⟩

theorem zq_loop6 {X : zq_X} {nL : Nat} {pc1 : Nat} {σ1 : Type} {pc2 : Nat} {σ2 : Type} {pc3 : Nat} {σ3 : Type} {pc4 : Nat} {σ4 : Type} {pc5 : Nat} {σ5 : Type} {pc6 : Nat} {σ6 : Type} (μ1 : σ1 → Nat) (μ2 : σ2 → Nat) (μ3 : σ3 → Nat) (μ4 : σ4 → Nat) (μ5 : σ5 → Nat) (μ6 : σ6 → Nat) (I1 : σ1 → zq_P) (I2 : σ2 → zq_P) (I3 : σ3 → zq_P) (I4 : σ4 → zq_P) (I5 : σ5 → zq_P) (I6 : σ6 → zq_P) (b1 : zq_P → zq_P → zq_P → zq_P → zq_P → zq_P → zq_P) (b2 : zq_P → zq_P → zq_P → zq_P → zq_P → zq_P → zq_P) (b3 : zq_P → zq_P → zq_P → zq_P → zq_P → zq_P → zq_P) (b4 : zq_P → zq_P → zq_P → zq_P → zq_P → zq_P → zq_P) (b5 : zq_P → zq_P → zq_P → zq_P → zq_P → zq_P → zq_P) (b6 : zq_P → zq_P → zq_P → zq_P → zq_P → zq_P → zq_P) (s1 : ∀ {J1 J2 J3 J4 J5 J6 : zq_P}, zq_ok X nL pc1 J1 → zq_ok X nL pc2 J2 → zq_ok X nL pc3 J3 → zq_ok X nL pc4 J4 → zq_ok X nL pc5 J5 → zq_ok X nL pc6 J6 → zq_ok X nL pc1 (b1 J1 J2 J3 J4 J5 J6)) (s2 : ∀ {J1 J2 J3 J4 J5 J6 : zq_P}, zq_ok X nL pc1 J1 → zq_ok X nL pc2 J2 → zq_ok X nL pc3 J3 → zq_ok X nL pc4 J4 → zq_ok X nL pc5 J5 → zq_ok X nL pc6 J6 → zq_ok X nL pc2 (b2 J1 J2 J3 J4 J5 J6)) (s3 : ∀ {J1 J2 J3 J4 J5 J6 : zq_P}, zq_ok X nL pc1 J1 → zq_ok X nL pc2 J2 → zq_ok X nL pc3 J3 → zq_ok X nL pc4 J4 → zq_ok X nL pc5 J5 → zq_ok X nL pc6 J6 → zq_ok X nL pc3 (b3 J1 J2 J3 J4 J5 J6)) (s4 : ∀ {J1 J2 J3 J4 J5 J6 : zq_P}, zq_ok X nL pc1 J1 → zq_ok X nL pc2 J2 → zq_ok X nL pc3 J3 → zq_ok X nL pc4 J4 → zq_ok X nL pc5 J5 → zq_ok X nL pc6 J6 → zq_ok X nL pc4 (b4 J1 J2 J3 J4 J5 J6)) (s5 : ∀ {J1 J2 J3 J4 J5 J6 : zq_P}, zq_ok X nL pc1 J1 → zq_ok X nL pc2 J2 → zq_ok X nL pc3 J3 → zq_ok X nL pc4 J4 → zq_ok X nL pc5 J5 → zq_ok X nL pc6 J6 → zq_ok X nL pc5 (b5 J1 J2 J3 J4 J5 J6)) (s6 : ∀ {J1 J2 J3 J4 J5 J6 : zq_P}, zq_ok X nL pc1 J1 → zq_ok X nL pc2 J2 → zq_ok X nL pc3 J3 → zq_ok X nL pc4 J4 → zq_ok X nL pc5 J5 → zq_ok X nL pc6 J6 → zq_ok X nL pc6 (b6 J1 J2 J3 J4 J5 J6)) (v1 : ∀ a ls st h, I1 a ls st h → b1 (fun ls st h => ∃ b, μ1 b < μ1 a ∧ I1 b ls st h) (fun ls st h => ∃ b, μ2 b < μ1 a ∧ I2 b ls st h) (fun ls st h => ∃ b, μ3 b < μ1 a ∧ I3 b ls st h) (fun ls st h => ∃ b, μ4 b < μ1 a ∧ I4 b ls st h) (fun ls st h => ∃ b, μ5 b < μ1 a ∧ I5 b ls st h) (fun ls st h => ∃ b, μ6 b < μ1 a ∧ I6 b ls st h) ls st h) (v2 : ∀ a ls st h, I2 a ls st h → b2 (fun ls st h => ∃ b, μ1 b < μ2 a ∧ I1 b ls st h) (fun ls st h => ∃ b, μ2 b < μ2 a ∧ I2 b ls st h) (fun ls st h => ∃ b, μ3 b < μ2 a ∧ I3 b ls st h) (fun ls st h => ∃ b, μ4 b < μ2 a ∧ I4 b ls st h) (fun ls st h => ∃ b, μ5 b < μ2 a ∧ I5 b ls st h) (fun ls st h => ∃ b, μ6 b < μ2 a ∧ I6 b ls st h) ls st h) (v3 : ∀ a ls st h, I3 a ls st h → b3 (fun ls st h => ∃ b, μ1 b < μ3 a ∧ I1 b ls st h) (fun ls st h => ∃ b, μ2 b < μ3 a ∧ I2 b ls st h) (fun ls st h => ∃ b, μ3 b < μ3 a ∧ I3 b ls st h) (fun ls st h => ∃ b, μ4 b < μ3 a ∧ I4 b ls st h) (fun ls st h => ∃ b, μ5 b < μ3 a ∧ I5 b ls st h) (fun ls st h => ∃ b, μ6 b < μ3 a ∧ I6 b ls st h) ls st h) (v4 : ∀ a ls st h, I4 a ls st h → b4 (fun ls st h => ∃ b, μ1 b < μ4 a ∧ I1 b ls st h) (fun ls st h => ∃ b, μ2 b < μ4 a ∧ I2 b ls st h) (fun ls st h => ∃ b, μ3 b < μ4 a ∧ I3 b ls st h) (fun ls st h => ∃ b, μ4 b < μ4 a ∧ I4 b ls st h) (fun ls st h => ∃ b, μ5 b < μ4 a ∧ I5 b ls st h) (fun ls st h => ∃ b, μ6 b < μ4 a ∧ I6 b ls st h) ls st h) (v5 : ∀ a ls st h, I5 a ls st h → b5 (fun ls st h => ∃ b, μ1 b < μ5 a ∧ I1 b ls st h) (fun ls st h => ∃ b, μ2 b < μ5 a ∧ I2 b ls st h) (fun ls st h => ∃ b, μ3 b < μ5 a ∧ I3 b ls st h) (fun ls st h => ∃ b, μ4 b < μ5 a ∧ I4 b ls st h) (fun ls st h => ∃ b, μ5 b < μ5 a ∧ I5 b ls st h) (fun ls st h => ∃ b, μ6 b < μ5 a ∧ I6 b ls st h) ls st h) (v6 : ∀ a ls st h, I6 a ls st h → b6 (fun ls st h => ∃ b, μ1 b < μ6 a ∧ I1 b ls st h) (fun ls st h => ∃ b, μ2 b < μ6 a ∧ I2 b ls st h) (fun ls st h => ∃ b, μ3 b < μ6 a ∧ I3 b ls st h) (fun ls st h => ∃ b, μ4 b < μ6 a ∧ I4 b ls st h) (fun ls st h => ∃ b, μ5 b < μ6 a ∧ I5 b ls st h) (fun ls st h => ∃ b, μ6 b < μ6 a ∧ I6 b ls st h) ls st h)  : zq_ok X nL pc1 (fun ls st h => ∃ a, I1 a ls st h) ∧ zq_ok X nL pc2 (fun ls st h => ∃ a, I2 a ls st h) ∧ zq_ok X nL pc3 (fun ls st h => ∃ a, I3 a ls st h) ∧ zq_ok X nL pc4 (fun ls st h => ∃ a, I4 a ls st h) ∧ zq_ok X nL pc5 (fun ls st h => ∃ a, I5 a ls st h) ∧ zq_ok X nL pc6 (fun ls st h => ∃ a, I6 a ls st h) := by
  have key : ∀ n : Nat, (∀ a, μ1 a < n → zq_ok X nL pc1 (I1 a)) ∧ (∀ a, μ2 a < n → zq_ok X nL pc2 (I2 a)) ∧ (∀ a, μ3 a < n → zq_ok X nL pc3 (I3 a)) ∧ (∀ a, μ4 a < n → zq_ok X nL pc4 (I4 a)) ∧ (∀ a, μ5 a < n → zq_ok X nL pc5 (I5 a)) ∧ (∀ a, μ6 a < n → zq_ok X nL pc6 (I6 a)) := by
    intro n
    induction n with
    | zero => exact ⟨fun a h => absurd h (Nat.not_lt_zero _), fun a h => absurd h (Nat.not_lt_zero _), fun a h => absurd h (Nat.not_lt_zero _), fun a h => absurd h (Nat.not_lt_zero _), fun a h => absurd h (Nat.not_lt_zero _), fun a h => absurd h (Nat.not_lt_zero _)⟩
    | succ n ih =>
      obtain ⟨ih1, ih2, ih3, ih4, ih5, ih6⟩ := ih
      have lift : ∀ {σ : Type} {pc : Nat} (μ : σ → Nat) (I : σ → zq_P) (m : Nat), m ≤ n → (∀ a, μ a < n → zq_ok X nL pc (I a)) → zq_ok X nL pc (fun ls st h => ∃ b, μ b < m ∧ I b ls st h) := by
        intro σ pc μ I m hm hi
        obtain ⟨p, l, e, R, s, m9, args, below, meth, c, D, Y, ad, A, kc, kn, Z⟩ := X
        intro ls st h H locs a' hP
        obtain ⟨b, hb, hI⟩ := hP
        exact hi b (by omega) ls st h H locs a' hI
      exact ⟨fun a ha => (s1 (lift μ1 I1 (μ1 a) (by omega) ih1) (lift μ2 I2 (μ1 a) (by omega) ih2) (lift μ3 I3 (μ1 a) (by omega) ih3) (lift μ4 I4 (μ1 a) (by omega) ih4) (lift μ5 I5 (μ1 a) (by omega) ih5) (lift μ6 I6 (μ1 a) (by omega) ih6)).mono (v1 a), fun a ha => (s2 (lift μ1 I1 (μ2 a) (by omega) ih1) (lift μ2 I2 (μ2 a) (by omega) ih2) (lift μ3 I3 (μ2 a) (by omega) ih3) (lift μ4 I4 (μ2 a) (by omega) ih4) (lift μ5 I5 (μ2 a) (by omega) ih5) (lift μ6 I6 (μ2 a) (by omega) ih6)).mono (v2 a), fun a ha => (s3 (lift μ1 I1 (μ3 a) (by omega) ih1) (lift μ2 I2 (μ3 a) (by omega) ih2) (lift μ3 I3 (μ3 a) (by omega) ih3) (lift μ4 I4 (μ3 a) (by omega) ih4) (lift μ5 I5 (μ3 a) (by omega) ih5) (lift μ6 I6 (μ3 a) (by omega) ih6)).mono (v3 a), fun a ha => (s4 (lift μ1 I1 (μ4 a) (by omega) ih1) (lift μ2 I2 (μ4 a) (by omega) ih2) (lift μ3 I3 (μ4 a) (by omega) ih3) (lift μ4 I4 (μ4 a) (by omega) ih4) (lift μ5 I5 (μ4 a) (by omega) ih5) (lift μ6 I6 (μ4 a) (by omega) ih6)).mono (v4 a), fun a ha => (s5 (lift μ1 I1 (μ5 a) (by omega) ih1) (lift μ2 I2 (μ5 a) (by omega) ih2) (lift μ3 I3 (μ5 a) (by omega) ih3) (lift μ4 I4 (μ5 a) (by omega) ih4) (lift μ5 I5 (μ5 a) (by omega) ih5) (lift μ6 I6 (μ5 a) (by omega) ih6)).mono (v5 a), fun a ha => (s6 (lift μ1 I1 (μ6 a) (by omega) ih1) (lift μ2 I2 (μ6 a) (by omega) ih2) (lift μ3 I3 (μ6 a) (by omega) ih3) (lift μ4 I4 (μ6 a) (by omega) ih4) (lift μ5 I5 (μ6 a) (by omega) ih5) (lift μ6 I6 (μ6 a) (by omega) ih6)).mono (v6 a)⟩
  have lift : ∀ {σ : Type} {pc : Nat} (μ : σ → Nat) (I : σ → zq_P), (∀ n a, μ a < n → zq_ok X nL pc (I a)) → zq_ok X nL pc (fun ls st h => ∃ b, I b ls st h) := by
    intro σ pc μ I hi
    obtain ⟨p, l, e, R, s, m9, args, below, meth, c, D, Y, ad, A, kc, kn, Z⟩ := X
    intro ls st h H locs a' hP
    obtain ⟨b, hI⟩ := hP
    exact hi (μ b + 1) b (Nat.lt_succ_self _) ls st h H locs a' hI
  exact ⟨lift μ1 I1 (fun n => (key n).1), lift μ2 I2 (fun n => (key n).2.1), lift μ3 I3 (fun n => (key n).2.2.1), lift μ4 I4 (fun n => (key n).2.2.2.1), lift μ5 I5 (fun n => (key n).2.2.2.2.1), lift μ6 I6 (fun n => (key n).2.2.2.2.2)⟩
end
section
/-! java/lang/Integer.bitCount(I)I -/
theorem dJ6_bitCount_0f7a4_0 : decode cJ6_bitCount_0f7a4 0 = .ok (.iload_n 0, 1) := by decide +kernel
theorem dJ6_bitCount_0f7a4_1 : decode cJ6_bitCount_0f7a4 1 = .ok (.iload_n 0, 1) := by decide +kernel
theorem dJ6_bitCount_0f7a4_2 : decode cJ6_bitCount_0f7a4 2 = .ok (.iconst 1, 1) := by decide +kernel
theorem dJ6_bitCount_0f7a4_3 : decode cJ6_bitCount_0f7a4 3 = .ok (.iushr, 1) := by decide +kernel
theorem dJ6_bitCount_0f7a4_4 : decode cJ6_bitCount_0f7a4 4 = .ok (.ldc_w 265, 3) := by decide +kernel
theorem dJ6_bitCount_0f7a4_7 : decode cJ6_bitCount_0f7a4 7 = .ok (.iand, 1) := by decide +kernel
theorem dJ6_bitCount_0f7a4_8 : decode cJ6_bitCount_0f7a4 8 = .ok (.isub, 1) := by decide +kernel
theorem dJ6_bitCount_0f7a4_9 : decode cJ6_bitCount_0f7a4 9 = .ok (.istore_n 0, 1) := by decide +kernel
theorem dJ6_bitCount_0f7a4_10 : decode cJ6_bitCount_0f7a4 10 = .ok (.iload_n 0, 1) := by decide +kernel
theorem dJ6_bitCount_0f7a4_11 : decode cJ6_bitCount_0f7a4 11 = .ok (.ldc_w 266, 3) := by decide +kernel
theorem dJ6_bitCount_0f7a4_14 : decode cJ6_bitCount_0f7a4 14 = .ok (.iand, 1) := by decide +kernel
theorem dJ6_bitCount_0f7a4_15 : decode cJ6_bitCount_0f7a4 15 = .ok (.iload_n 0, 1) := by decide +kernel
theorem dJ6_bitCount_0f7a4_16 : decode cJ6_bitCount_0f7a4 16 = .ok (.iconst 2, 1) := by decide +kernel
theorem dJ6_bitCount_0f7a4_17 : decode cJ6_bitCount_0f7a4 17 = .ok (.iushr, 1) := by decide +kernel
theorem dJ6_bitCount_0f7a4_18 : decode cJ6_bitCount_0f7a4 18 = .ok (.ldc_w 266, 3) := by decide +kernel
theorem dJ6_bitCount_0f7a4_21 : decode cJ6_bitCount_0f7a4 21 = .ok (.iand, 1) := by decide +kernel
theorem dJ6_bitCount_0f7a4_22 : decode cJ6_bitCount_0f7a4 22 = .ok (.iadd, 1) := by decide +kernel
theorem dJ6_bitCount_0f7a4_23 : decode cJ6_bitCount_0f7a4 23 = .ok (.istore_n 0, 1) := by decide +kernel
theorem dJ6_bitCount_0f7a4_24 : decode cJ6_bitCount_0f7a4 24 = .ok (.iload_n 0, 1) := by decide +kernel
theorem dJ6_bitCount_0f7a4_25 : decode cJ6_bitCount_0f7a4 25 = .ok (.iload_n 0, 1) := by decide +kernel
theorem dJ6_bitCount_0f7a4_26 : decode cJ6_bitCount_0f7a4 26 = .ok (.iconst 4, 1) := by decide +kernel
theorem dJ6_bitCount_0f7a4_27 : decode cJ6_bitCount_0f7a4 27 = .ok (.iushr, 1) := by decide +kernel
theorem dJ6_bitCount_0f7a4_28 : decode cJ6_bitCount_0f7a4 28 = .ok (.iadd, 1) := by decide +kernel
theorem dJ6_bitCount_0f7a4_29 : decode cJ6_bitCount_0f7a4 29 = .ok (.ldc_w 267, 3) := by decide +kernel
theorem dJ6_bitCount_0f7a4_32 : decode cJ6_bitCount_0f7a4 32 = .ok (.iand, 1) := by decide +kernel
theorem dJ6_bitCount_0f7a4_33 : decode cJ6_bitCount_0f7a4 33 = .ok (.istore_n 0, 1) := by decide +kernel
theorem dJ6_bitCount_0f7a4_34 : decode cJ6_bitCount_0f7a4 34 = .ok (.iload_n 0, 1) := by decide +kernel
theorem dJ6_bitCount_0f7a4_35 : decode cJ6_bitCount_0f7a4 35 = .ok (.iload_n 0, 1) := by decide +kernel
theorem dJ6_bitCount_0f7a4_36 : decode cJ6_bitCount_0f7a4 36 = .ok (.bipush 8, 2) := by decide +kernel
theorem dJ6_bitCount_0f7a4_38 : decode cJ6_bitCount_0f7a4 38 = .ok (.iushr, 1) := by decide +kernel
theorem dJ6_bitCount_0f7a4_39 : decode cJ6_bitCount_0f7a4 39 = .ok (.iadd, 1) := by decide +kernel
theorem dJ6_bitCount_0f7a4_40 : decode cJ6_bitCount_0f7a4 40 = .ok (.istore_n 0, 1) := by decide +kernel
theorem dJ6_bitCount_0f7a4_41 : decode cJ6_bitCount_0f7a4 41 = .ok (.iload_n 0, 1) := by decide +kernel
theorem dJ6_bitCount_0f7a4_42 : decode cJ6_bitCount_0f7a4 42 = .ok (.iload_n 0, 1) := by decide +kernel
theorem dJ6_bitCount_0f7a4_43 : decode cJ6_bitCount_0f7a4 43 = .ok (.bipush 16, 2) := by decide +kernel
theorem dJ6_bitCount_0f7a4_45 : decode cJ6_bitCount_0f7a4 45 = .ok (.iushr, 1) := by decide +kernel
theorem dJ6_bitCount_0f7a4_46 : decode cJ6_bitCount_0f7a4 46 = .ok (.iadd, 1) := by decide +kernel
theorem dJ6_bitCount_0f7a4_47 : decode cJ6_bitCount_0f7a4 47 = .ok (.istore_n 0, 1) := by decide +kernel
theorem dJ6_bitCount_0f7a4_48 : decode cJ6_bitCount_0f7a4 48 = .ok (.iload_n 0, 1) := by decide +kernel
theorem dJ6_bitCount_0f7a4_49 : decode cJ6_bitCount_0f7a4 49 = .ok (.bipush 63, 2) := by decide +kernel
theorem dJ6_bitCount_0f7a4_51 : decode cJ6_bitCount_0f7a4 51 = .ok (.iand, 1) := by decide +kernel
theorem dJ6_bitCount_0f7a4_52 : decode cJ6_bitCount_0f7a4 52 = .ok (.ireturn, 1) := by decide +kernel
def xJ6_bitCount_0f7a4_0 (Q : zq_Q) : zq_P := zi_iload 0 (zi_iload 0 (zi_push (.int 1) (zi_i2 zf_ushr (zi_push (.int 1431655765) (zi_i2 (fun x y => x &&& y) (zi_i2 (fun x y => x - y) (zi_istore 0 (zi_iload 0 (zi_push (.int 858993459) (zi_i2 (fun x y => x &&& y) (zi_iload 0 (zi_push (.int 2) (zi_i2 zf_ushr (zi_push (.int 858993459) (zi_i2 (fun x y => x &&& y) (zi_i2 (fun x y => x + y) (zi_istore 0 (zi_iload 0 (zi_iload 0 (zi_push (.int 4) (zi_i2 zf_ushr (zi_i2 (fun x y => x + y) (zi_push (.int 252645135) (zi_i2 (fun x y => x &&& y) (zi_istore 0 (zi_iload 0 (zi_iload 0 (zi_push (.int 8) (zi_i2 zf_ushr (zi_i2 (fun x y => x + y) (zi_istore 0 (zi_iload 0 (zi_iload 0 (zi_push (.int 16) (zi_i2 zf_ushr (zi_i2 (fun x y => x + y) (zi_istore 0 (zi_iload 0 (zi_push (.int 63) (zi_i2 (fun x y => x &&& y) (zi_iret Q)))))))))))))))))))))))))))))))))))))))))
theorem kJ6_bitCount_0f7a4_0 {X : zq_X} {d : Nat} (C : zq_C X cJ6_bitCount_0f7a4 1 RJ6 d) {Q : zq_Q} (hq : zq_R X (some .int) 1 Q) : zq_ok X 1 0 (xJ6_bitCount_0f7a4_0 Q) := by
  refine zs_iload_n C dJ6_bitCount_0f7a4_0 rfl ?_
  refine zs_iload_n C dJ6_bitCount_0f7a4_1 rfl ?_
  refine zs_iconst C dJ6_bitCount_0f7a4_2 (by decide) ?_
  refine zs_iushr C dJ6_bitCount_0f7a4_3 ?_
  refine zs_ldcw C dJ6_bitCount_0f7a4_4 zw_700 ?_
  refine zs_iand C dJ6_bitCount_0f7a4_7 ?_
  refine zs_isub C dJ6_bitCount_0f7a4_8 ?_
  refine zs_istore_n C dJ6_bitCount_0f7a4_9 rfl (by decide) ?_
  refine zs_iload_n C dJ6_bitCount_0f7a4_10 rfl ?_
  refine zs_ldcw C dJ6_bitCount_0f7a4_11 zw_701 ?_
  refine zs_iand C dJ6_bitCount_0f7a4_14 ?_
  refine zs_iload_n C dJ6_bitCount_0f7a4_15 rfl ?_
  refine zs_iconst C dJ6_bitCount_0f7a4_16 (by decide) ?_
  refine zs_iushr C dJ6_bitCount_0f7a4_17 ?_
  refine zs_ldcw C dJ6_bitCount_0f7a4_18 zw_701 ?_
  refine zs_iand C dJ6_bitCount_0f7a4_21 ?_
  refine zs_iadd C dJ6_bitCount_0f7a4_22 ?_
  refine zs_istore_n C dJ6_bitCount_0f7a4_23 rfl (by decide) ?_
  refine zs_iload_n C dJ6_bitCount_0f7a4_24 rfl ?_
  refine zs_iload_n C dJ6_bitCount_0f7a4_25 rfl ?_
  refine zs_iconst C dJ6_bitCount_0f7a4_26 (by decide) ?_
  refine zs_iushr C dJ6_bitCount_0f7a4_27 ?_
  refine zs_iadd C dJ6_bitCount_0f7a4_28 ?_
  refine zs_ldcw C dJ6_bitCount_0f7a4_29 zw_702 ?_
  refine zs_iand C dJ6_bitCount_0f7a4_32 ?_
  refine zs_istore_n C dJ6_bitCount_0f7a4_33 rfl (by decide) ?_
  refine zs_iload_n C dJ6_bitCount_0f7a4_34 rfl ?_
  refine zs_iload_n C dJ6_bitCount_0f7a4_35 rfl ?_
  refine zs_bipush C dJ6_bitCount_0f7a4_36 (by decide) ?_
  refine zs_iushr C dJ6_bitCount_0f7a4_38 ?_
  refine zs_iadd C dJ6_bitCount_0f7a4_39 ?_
  refine zs_istore_n C dJ6_bitCount_0f7a4_40 rfl (by decide) ?_
  refine zs_iload_n C dJ6_bitCount_0f7a4_41 rfl ?_
  refine zs_iload_n C dJ6_bitCount_0f7a4_42 rfl ?_
  refine zs_bipush C dJ6_bitCount_0f7a4_43 (by decide) ?_
  refine zs_iushr C dJ6_bitCount_0f7a4_45 ?_
  refine zs_iadd C dJ6_bitCount_0f7a4_46 ?_
  refine zs_istore_n C dJ6_bitCount_0f7a4_47 rfl (by decide) ?_
  refine zs_iload_n C dJ6_bitCount_0f7a4_48 rfl ?_
  refine zs_bipush C dJ6_bitCount_0f7a4_49 (by decide) ?_
  refine zs_iand C dJ6_bitCount_0f7a4_51 ?_
  exact zs_iret C hq dJ6_bitCount_0f7a4_52
theorem mJ6_bitCount_0f7a4 {d : Nat} {spec : zq_Sp} (v : ∀ args h Q, spec args h Q → (zq_a args).length ≤ 1 ∧ xJ6_bitCount_0f7a4_0 Q (zq_l0 1 args) [] h) : zq_M yJ6_bitCount_0f7a4 cJ6_bitCount_0f7a4 1 (some .int) 1 d spec := by
  refine zq_met (by decide +kernel) (by decide) (fun X Q args h C hq hs => ⟨(v args h Q hs).1, _, ?_, (v args h Q hs).2⟩)
  exact kJ6_bitCount_0f7a4_0 C hq
/-! java/util/Arrays.fill([II)V -/
theorem dJ7_fill_53178_0 : decode cJ7_fill_53178 0 = .ok (.iconst 0, 1) := by decide +kernel
theorem dJ7_fill_53178_1 : decode cJ7_fill_53178 1 = .ok (.istore_n 2, 1) := by decide +kernel
theorem dJ7_fill_53178_2 : decode cJ7_fill_53178 2 = .ok (.aload_n 0, 1) := by decide +kernel
theorem dJ7_fill_53178_3 : decode cJ7_fill_53178 3 = .ok (.arraylength, 1) := by decide +kernel
theorem dJ7_fill_53178_4 : decode cJ7_fill_53178 4 = .ok (.istore_n 3, 1) := by decide +kernel
theorem dJ7_fill_53178_5 : decode cJ7_fill_53178 5 = .ok (.iload_n 2, 1) := by decide +kernel
theorem dJ7_fill_53178_6 : decode cJ7_fill_53178 6 = .ok (.iload_n 3, 1) := by decide +kernel
theorem dJ7_fill_53178_7 : decode cJ7_fill_53178 7 = .ok (.if_icmp .ge 13, 3) := by decide +kernel
theorem dJ7_fill_53178_10 : decode cJ7_fill_53178 10 = .ok (.aload_n 0, 1) := by decide +kernel
theorem dJ7_fill_53178_11 : decode cJ7_fill_53178 11 = .ok (.iload_n 2, 1) := by decide +kernel
theorem dJ7_fill_53178_12 : decode cJ7_fill_53178 12 = .ok (.iload_n 1, 1) := by decide +kernel
theorem dJ7_fill_53178_13 : decode cJ7_fill_53178 13 = .ok (.iastore, 1) := by decide +kernel
theorem dJ7_fill_53178_14 : decode cJ7_fill_53178 14 = .ok (.iinc 2 1, 3) := by decide +kernel
theorem dJ7_fill_53178_17 : decode cJ7_fill_53178 17 = .ok (.goto (-12), 3) := by decide +kernel
theorem dJ7_fill_53178_20 : decode cJ7_fill_53178 20 = .ok (.return_, 1) := by decide +kernel
def xJ7_fill_53178_20 (r n : Nat) (J5 : zq_P) (Q : zq_Q) : zq_P := zi_vret Q
theorem kJ7_fill_53178_20 {X : zq_X} {d : Nat} {r n : Nat} (C : zq_C X cJ7_fill_53178 4 RJ7 d) (hr : zq_S[r]? = some (1, n, [])) {J5 : zq_P} (j5 : zq_ok X 4 5 J5) {Q : zq_Q} (hq : zq_R X none 0 Q) : zq_ok X 4 20 (xJ7_fill_53178_20 r n J5 Q) := by
  exact zs_vret C hq dJ7_fill_53178_20
def xJ7_fill_53178_10 (r n : Nat) (J5 : zq_P) (Q : zq_Q) : zq_P := zi_aload 0 (zi_iload 2 (zi_iload 1 (zi_astI r n (zi_iinc 2 1 (J5)))))
theorem kJ7_fill_53178_10 {X : zq_X} {d : Nat} {r n : Nat} (C : zq_C X cJ7_fill_53178 4 RJ7 d) (hr : zq_S[r]? = some (1, n, [])) {J5 : zq_P} (j5 : zq_ok X 4 5 J5) {Q : zq_Q} (hq : zq_R X none 0 Q) : zq_ok X 4 10 (xJ7_fill_53178_10 r n J5 Q) := by
  refine zs_aload_n C dJ7_fill_53178_10 rfl ?_
  refine zs_iload_n C dJ7_fill_53178_11 rfl ?_
  refine zs_iload_n C dJ7_fill_53178_12 rfl ?_
  refine zs_iastore C hr dJ7_fill_53178_13 ?_
  refine zs_iinc C dJ7_fill_53178_14 (by decide) (by decide) ?_
  exact zs_goto C dJ7_fill_53178_17 (by decide) (j5)
def xJ7_fill_53178_5 (r n : Nat) (J5 : zq_P) (Q : zq_Q) : zq_P := zi_iload 2 (zi_iload 3 (zi_if2 (fun x y => y ≤ x) (xJ7_fill_53178_20 r n J5 Q) (xJ7_fill_53178_10 r n J5 Q)))
theorem kJ7_fill_53178_5 {X : zq_X} {d : Nat} {r n : Nat} (C : zq_C X cJ7_fill_53178 4 RJ7 d) (hr : zq_S[r]? = some (1, n, [])) {J5 : zq_P} (j5 : zq_ok X 4 5 J5) {Q : zq_Q} (hq : zq_R X none 0 Q) : zq_ok X 4 5 (xJ7_fill_53178_5 r n J5 Q) := by
  refine zs_iload_n C dJ7_fill_53178_5 rfl ?_
  refine zs_iload_n C dJ7_fill_53178_6 rfl ?_
  exact zs_icmp_ge C dJ7_fill_53178_7 (by decide) (kJ7_fill_53178_20 C hr j5 hq) (kJ7_fill_53178_10 C hr j5 hq)
def xJ7_fill_53178_0 (r n : Nat) (J5 : zq_P) (Q : zq_Q) : zq_P := zi_push (.int 0) (zi_istore 2 (zi_aload 0 (zi_alen r n (zi_istore 3 (J5)))))
theorem kJ7_fill_53178_0 {X : zq_X} {d : Nat} {r n : Nat} (C : zq_C X cJ7_fill_53178 4 RJ7 d) (hr : zq_S[r]? = some (1, n, [])) {J5 : zq_P} (j5 : zq_ok X 4 5 J5) {Q : zq_Q} (hq : zq_R X none 0 Q) : zq_ok X 4 0 (xJ7_fill_53178_0 r n J5 Q) := by
  refine zs_iconst C dJ7_fill_53178_0 (by decide) ?_
  refine zs_istore_n C dJ7_fill_53178_1 rfl (by decide) ?_
  refine zs_aload_n C dJ7_fill_53178_2 rfl ?_
  refine zs_alen C (Or.inl hr) dJ7_fill_53178_3 ?_
  refine zs_istore_n C dJ7_fill_53178_4 rfl (by decide) ?_
  exact j5
theorem mJ7_fill_53178 {d : Nat} {r n : Nat} {spec : zq_Sp} {σ5 : Type} (hr9 : ∀ args h Q, spec args h Q → zq_S[r]? = some (1, n, [])) (μ5 : σ5 → Nat) (I5 : zq_Q → σ5 → zq_P) (v : ∀ args h Q, spec args h Q → (zq_a args).length ≤ 4 ∧ xJ7_fill_53178_0 r n (fun ls st h => ∃ b, I5 Q b ls st h) Q (zq_l0 4 args) [] h) (v5 : ∀ Q a ls st h, I5 Q a ls st h → xJ7_fill_53178_5 r n (fun ls st h => ∃ b, μ5 b < μ5 a ∧ I5 Q b ls st h) Q ls st h) : zq_M yJ7_fill_53178 cJ7_fill_53178 4 none 0 d spec := by
  refine zq_met (by decide +kernel) (by decide) (fun X Q args h C hq hs => ⟨(v args h Q hs).1, _, ?_, (v args h Q hs).2⟩)
  have hr := hr9 args h Q hs
  have hl := zq_loop1 (X := X) (nL := 4) (pc1 := 5) μ5 (I5 Q) (fun J5 => xJ7_fill_53178_5 r n J5 Q) (fun j5 => kJ7_fill_53178_5 C hr j5 hq) (v5 Q)
  exact kJ7_fill_53178_0 C hr hl hq
end
section
/-! ToOneCrumb$Text.addFour(I)I -/
theorem dX8_addFour_0 : decode cX8_addFour 0 = .ok (.aload_n 0, 1) := by decide +kernel
theorem dX8_addFour_1 : decode cX8_addFour 1 = .ok (.getfield 15, 3) := by decide +kernel
theorem dX8_addFour_4 : decode cX8_addFour 4 = .ok (.iconst 4, 1) := by decide +kernel
theorem dX8_addFour_5 : decode cX8_addFour 5 = .ok (.iadd, 1) := by decide +kernel
theorem dX8_addFour_6 : decode cX8_addFour 6 = .ok (.bipush 80, 2) := by decide +kernel
theorem dX8_addFour_8 : decode cX8_addFour 8 = .ok (.if_icmp .le 5, 3) := by decide +kernel
theorem dX8_addFour_11 : decode cX8_addFour 11 = .ok (.iconst (-1), 1) := by decide +kernel
theorem dX8_addFour_12 : decode cX8_addFour 12 = .ok (.ireturn, 1) := by decide +kernel
theorem dX8_addFour_13 : decode cX8_addFour 13 = .ok (.bipush 24, 2) := by decide +kernel
theorem dX8_addFour_15 : decode cX8_addFour 15 = .ok (.istore_n 2, 1) := by decide +kernel
theorem dX8_addFour_16 : decode cX8_addFour 16 = .ok (.iload_n 2, 1) := by decide +kernel
theorem dX8_addFour_17 : decode cX8_addFour 17 = .ok (.ifCond .lt 35, 3) := by decide +kernel
theorem dX8_addFour_20 : decode cX8_addFour 20 = .ok (.aload_n 0, 1) := by decide +kernel
theorem dX8_addFour_21 : decode cX8_addFour 21 = .ok (.getfield 11, 3) := by decide +kernel
theorem dX8_addFour_24 : decode cX8_addFour 24 = .ok (.aload_n 0, 1) := by decide +kernel
theorem dX8_addFour_25 : decode cX8_addFour 25 = .ok (.getfield 15, 3) := by decide +kernel
theorem dX8_addFour_28 : decode cX8_addFour 28 = .ok (.iload_n 1, 1) := by decide +kernel
theorem dX8_addFour_29 : decode cX8_addFour 29 = .ok (.iload_n 2, 1) := by decide +kernel
theorem dX8_addFour_30 : decode cX8_addFour 30 = .ok (.iushr, 1) := by decide +kernel
theorem dX8_addFour_31 : decode cX8_addFour 31 = .ok (.sipush 255, 3) := by decide +kernel
theorem dX8_addFour_34 : decode cX8_addFour 34 = .ok (.iand, 1) := by decide +kernel
theorem dX8_addFour_35 : decode cX8_addFour 35 = .ok (.iastore, 1) := by decide +kernel
theorem dX8_addFour_36 : decode cX8_addFour 36 = .ok (.aload_n 0, 1) := by decide +kernel
theorem dX8_addFour_37 : decode cX8_addFour 37 = .ok (.dup, 1) := by decide +kernel
theorem dX8_addFour_38 : decode cX8_addFour 38 = .ok (.getfield 15, 3) := by decide +kernel
theorem dX8_addFour_41 : decode cX8_addFour 41 = .ok (.iconst 1, 1) := by decide +kernel
theorem dX8_addFour_42 : decode cX8_addFour 42 = .ok (.iadd, 1) := by decide +kernel
theorem dX8_addFour_43 : decode cX8_addFour 43 = .ok (.putfield 15, 3) := by decide +kernel
theorem dX8_addFour_46 : decode cX8_addFour 46 = .ok (.iinc 2 (-8), 3) := by decide +kernel
theorem dX8_addFour_49 : decode cX8_addFour 49 = .ok (.goto (-33), 3) := by decide +kernel
theorem dX8_addFour_52 : decode cX8_addFour 52 = .ok (.aload_n 0, 1) := by decide +kernel
theorem dX8_addFour_53 : decode cX8_addFour 53 = .ok (.getfield 15, 3) := by decide +kernel
theorem dX8_addFour_56 : decode cX8_addFour 56 = .ok (.ireturn, 1) := by decide +kernel
def xX8_addFour_52 (J16 : zq_P) (Q : zq_Q) : zq_P := zi_aload 0 (zi_getI 1 1 (zi_iret Q))
theorem kX8_addFour_52 {X : zq_X} {d : Nat} (C : zq_C X cX8_addFour 3 RX8 d) {J16 : zq_P} (j16 : zq_ok X 3 16 J16) {Q : zq_Q} (hq : zq_R X (some .int) 1 Q) : zq_ok X 3 52 (xX8_addFour_52 J16 Q) := by
  refine zs_aload_n C dX8_addFour_52 rfl ?_
  refine zs_getI C zp_1 zF8 (j := 1) ⟨by decide, rfl⟩ zw_41 dX8_addFour_53 ?_
  exact zs_iret C hq dX8_addFour_56
def xX8_addFour_20 (J16 : zq_P) (Q : zq_Q) : zq_P := zi_aload 0 (zi_getR 1 2 (zi_aload 0 (zi_getI 1 1 (zi_iload 1 (zi_iload 2 (zi_i2 zf_ushr (zi_push (.int 255) (zi_i2 (fun x y => x &&& y) (zi_astI 2 80 (zi_aload 0 (zi_dup (zi_getI 1 1 (zi_push (.int 1) (zi_i2 (fun x y => x + y) (zi_putI 1 1 (zi_iinc 2 (-8) (J16)))))))))))))))))
theorem kX8_addFour_20 {X : zq_X} {d : Nat} (C : zq_C X cX8_addFour 3 RX8 d) {J16 : zq_P} (j16 : zq_ok X 3 16 J16) {Q : zq_Q} (hq : zq_R X (some .int) 1 Q) : zq_ok X 3 20 (xX8_addFour_20 J16 Q) := by
  refine zs_aload_n C dX8_addFour_20 rfl ?_
  refine zs_getR C zp_1 zF8 (j := 0) ⟨by decide, rfl⟩ zw_40 dX8_addFour_21 ?_
  refine zs_aload_n C dX8_addFour_24 rfl ?_
  refine zs_getI C zp_1 zF8 (j := 1) ⟨by decide, rfl⟩ zw_41 dX8_addFour_25 ?_
  refine zs_iload_n C dX8_addFour_28 rfl ?_
  refine zs_iload_n C dX8_addFour_29 rfl ?_
  refine zs_iushr C dX8_addFour_30 ?_
  refine zs_sipush C dX8_addFour_31 (by decide) ?_
  refine zs_iand C dX8_addFour_34 ?_
  refine zs_iastore C zp_2 dX8_addFour_35 ?_
  refine zs_aload_n C dX8_addFour_36 rfl ?_
  refine zs_dup C dX8_addFour_37 ?_
  refine zs_getI C zp_1 zF8 (j := 1) ⟨by decide, rfl⟩ zw_41 dX8_addFour_38 ?_
  refine zs_iconst C dX8_addFour_41 (by decide) ?_
  refine zs_iadd C dX8_addFour_42 ?_
  refine zs_putI C zp_1 zF8 (j := 1) ⟨by decide, rfl⟩ ⟨rfl, by decide +kernel⟩ zw_41 dX8_addFour_43 ?_
  refine zs_iinc C dX8_addFour_46 (by decide) (by decide) ?_
  exact zs_goto C dX8_addFour_49 (by decide) (j16)
def xX8_addFour_16 (J16 : zq_P) (Q : zq_Q) : zq_P := zi_iload 2 (zi_if1 (fun x => x < 0) (xX8_addFour_52 J16 Q) (xX8_addFour_20 J16 Q))
theorem kX8_addFour_16 {X : zq_X} {d : Nat} (C : zq_C X cX8_addFour 3 RX8 d) {J16 : zq_P} (j16 : zq_ok X 3 16 J16) {Q : zq_Q} (hq : zq_R X (some .int) 1 Q) : zq_ok X 3 16 (xX8_addFour_16 J16 Q) := by
  refine zs_iload_n C dX8_addFour_16 rfl ?_
  exact zs_if_lt C dX8_addFour_17 (by decide) (kX8_addFour_52 C j16 hq) (kX8_addFour_20 C j16 hq)
def xX8_addFour_13 (J16 : zq_P) (Q : zq_Q) : zq_P := zi_push (.int 24) (zi_istore 2 (J16))
theorem kX8_addFour_13 {X : zq_X} {d : Nat} (C : zq_C X cX8_addFour 3 RX8 d) {J16 : zq_P} (j16 : zq_ok X 3 16 J16) {Q : zq_Q} (hq : zq_R X (some .int) 1 Q) : zq_ok X 3 13 (xX8_addFour_13 J16 Q) := by
  refine zs_bipush C dX8_addFour_13 (by decide) ?_
  refine zs_istore_n C dX8_addFour_15 rfl (by decide) ?_
  exact j16
def xX8_addFour_11 (J16 : zq_P) (Q : zq_Q) : zq_P := zi_push (.int (-1)) (zi_iret Q)
theorem kX8_addFour_11 {X : zq_X} {d : Nat} (C : zq_C X cX8_addFour 3 RX8 d) {J16 : zq_P} (j16 : zq_ok X 3 16 J16) {Q : zq_Q} (hq : zq_R X (some .int) 1 Q) : zq_ok X 3 11 (xX8_addFour_11 J16 Q) := by
  refine zs_iconst C dX8_addFour_11 (by decide) ?_
  exact zs_iret C hq dX8_addFour_12
def xX8_addFour_0 (J16 : zq_P) (Q : zq_Q) : zq_P := zi_aload 0 (zi_getI 1 1 (zi_push (.int 4) (zi_i2 (fun x y => x + y) (zi_push (.int 80) (zi_if2 (fun x y => x ≤ y) (xX8_addFour_13 J16 Q) (xX8_addFour_11 J16 Q))))))
theorem kX8_addFour_0 {X : zq_X} {d : Nat} (C : zq_C X cX8_addFour 3 RX8 d) {J16 : zq_P} (j16 : zq_ok X 3 16 J16) {Q : zq_Q} (hq : zq_R X (some .int) 1 Q) : zq_ok X 3 0 (xX8_addFour_0 J16 Q) := by
  refine zs_aload_n C dX8_addFour_0 rfl ?_
  refine zs_getI C zp_1 zF8 (j := 1) ⟨by decide, rfl⟩ zw_41 dX8_addFour_1 ?_
  refine zs_iconst C dX8_addFour_4 (by decide) ?_
  refine zs_iadd C dX8_addFour_5 ?_
  refine zs_bipush C dX8_addFour_6 (by decide) ?_
  exact zs_icmp_le C dX8_addFour_8 (by decide) (kX8_addFour_13 C j16 hq) (kX8_addFour_11 C j16 hq)
theorem mX8_addFour {d : Nat} {spec : zq_Sp} {σ16 : Type} (μ16 : σ16 → Nat) (I16 : zq_Q → σ16 → zq_P) (v : ∀ args h Q, spec args h Q → (zq_a args).length ≤ 3 ∧ xX8_addFour_0 (fun ls st h => ∃ b, I16 Q b ls st h) Q (zq_l0 3 args) [] h) (v16 : ∀ Q a ls st h, I16 Q a ls st h → xX8_addFour_16 (fun ls st h => ∃ b, μ16 b < μ16 a ∧ I16 Q b ls st h) Q ls st h) : zq_M yX8_addFour cX8_addFour 3 (some .int) 1 d spec := by
  refine zq_met (by decide +kernel) (by decide) (fun X Q args h C hq hs => ⟨(v args h Q hs).1, _, ?_, (v args h Q hs).2⟩)
  have hl := zq_loop1 (X := X) (nL := 3) (pc1 := 16) μ16 (I16 Q) (fun J16 => xX8_addFour_16 J16 Q) (fun j16 => kX8_addFour_16 C j16 hq) (v16 Q)
  exact kX8_addFour_0 C hl hq
/-! ToOneCrumb$Text.shorten(I)Z -/
theorem dX8_shorten_0 : decode cX8_shorten 0 = .ok (.iload_n 1, 1) := by decide +kernel
theorem dX8_shorten_1 : decode cX8_shorten 1 = .ok (.ifCond .lt 11, 3) := by decide +kernel
theorem dX8_shorten_4 : decode cX8_shorten 4 = .ok (.iload_n 1, 1) := by decide +kernel
theorem dX8_shorten_5 : decode cX8_shorten 5 = .ok (.aload_n 0, 1) := by decide +kernel
theorem dX8_shorten_6 : decode cX8_shorten 6 = .ok (.getfield 15, 3) := by decide +kernel
theorem dX8_shorten_9 : decode cX8_shorten 9 = .ok (.if_icmp .le 5, 3) := by decide +kernel
theorem dX8_shorten_12 : decode cX8_shorten 12 = .ok (.iconst 0, 1) := by decide +kernel
theorem dX8_shorten_13 : decode cX8_shorten 13 = .ok (.ireturn, 1) := by decide +kernel
theorem dX8_shorten_14 : decode cX8_shorten 14 = .ok (.aload_n 0, 1) := by decide +kernel
theorem dX8_shorten_15 : decode cX8_shorten 15 = .ok (.iload_n 1, 1) := by decide +kernel
theorem dX8_shorten_16 : decode cX8_shorten 16 = .ok (.putfield 15, 3) := by decide +kernel
theorem dX8_shorten_19 : decode cX8_shorten 19 = .ok (.iconst 1, 1) := by decide +kernel
theorem dX8_shorten_20 : decode cX8_shorten 20 = .ok (.ireturn, 1) := by decide +kernel
def xX8_shorten_14 (Q : zq_Q) : zq_P := zi_aload 0 (zi_iload 1 (zi_putI 1 1 (zi_push (.int 1) (zi_zret Q))))
theorem kX8_shorten_14 {X : zq_X} {d : Nat} (C : zq_C X cX8_shorten 2 RX8 d) {Q : zq_Q} (hq : zq_R X (some .boolean) 1 Q) : zq_ok X 2 14 (xX8_shorten_14 Q) := by
  refine zs_aload_n C dX8_shorten_14 rfl ?_
  refine zs_iload_n C dX8_shorten_15 rfl ?_
  refine zs_putI C zp_1 zF8 (j := 1) ⟨by decide, rfl⟩ ⟨rfl, by decide +kernel⟩ zw_41 dX8_shorten_16 ?_
  refine zs_iconst C dX8_shorten_19 (by decide) ?_
  exact zs_zret C hq dX8_shorten_20
def xX8_shorten_12 (Q : zq_Q) : zq_P := zi_push (.int 0) (zi_zret Q)
theorem kX8_shorten_12 {X : zq_X} {d : Nat} (C : zq_C X cX8_shorten 2 RX8 d) {Q : zq_Q} (hq : zq_R X (some .boolean) 1 Q) : zq_ok X 2 12 (xX8_shorten_12 Q) := by
  refine zs_iconst C dX8_shorten_12 (by decide) ?_
  exact zs_zret C hq dX8_shorten_13
def xX8_shorten_4 (Q : zq_Q) : zq_P := zi_iload 1 (zi_aload 0 (zi_getI 1 1 (zi_if2 (fun x y => x ≤ y) (xX8_shorten_14 Q) (xX8_shorten_12 Q))))
theorem kX8_shorten_4 {X : zq_X} {d : Nat} (C : zq_C X cX8_shorten 2 RX8 d) {Q : zq_Q} (hq : zq_R X (some .boolean) 1 Q) : zq_ok X 2 4 (xX8_shorten_4 Q) := by
  refine zs_iload_n C dX8_shorten_4 rfl ?_
  refine zs_aload_n C dX8_shorten_5 rfl ?_
  refine zs_getI C zp_1 zF8 (j := 1) ⟨by decide, rfl⟩ zw_41 dX8_shorten_6 ?_
  exact zs_icmp_le C dX8_shorten_9 (by decide) (kX8_shorten_14 C hq) (kX8_shorten_12 C hq)
def xX8_shorten_0 (Q : zq_Q) : zq_P := zi_iload 1 (zi_if1 (fun x => x < 0) (xX8_shorten_12 Q) (xX8_shorten_4 Q))
theorem kX8_shorten_0 {X : zq_X} {d : Nat} (C : zq_C X cX8_shorten 2 RX8 d) {Q : zq_Q} (hq : zq_R X (some .boolean) 1 Q) : zq_ok X 2 0 (xX8_shorten_0 Q) := by
  refine zs_iload_n C dX8_shorten_0 rfl ?_
  exact zs_if_lt C dX8_shorten_1 (by decide) (kX8_shorten_12 C hq) (kX8_shorten_4 C hq)
theorem mX8_shorten {d : Nat} {spec : zq_Sp} (v : ∀ args h Q, spec args h Q → (zq_a args).length ≤ 2 ∧ xX8_shorten_0 Q (zq_l0 2 args) [] h) : zq_M yX8_shorten cX8_shorten 2 (some .boolean) 1 d spec := by
  refine zq_met (by decide +kernel) (by decide) (fun X Q args h C hq hs => ⟨(v args h Q hs).1, _, ?_, (v args h Q hs).2⟩)
  exact kX8_shorten_0 C hq
/-! ToOneCrumb$Text.clear()V -/
theorem dX8_clear_0 : decode cX8_clear 0 = .ok (.aload_n 0, 1) := by decide +kernel
theorem dX8_clear_1 : decode cX8_clear 1 = .ok (.iconst 0, 1) := by decide +kernel
theorem dX8_clear_2 : decode cX8_clear 2 = .ok (.putfield 15, 3) := by decide +kernel
theorem dX8_clear_5 : decode cX8_clear 5 = .ok (.return_, 1) := by decide +kernel
def xX8_clear_0 (Q : zq_Q) : zq_P := zi_aload 0 (zi_push (.int 0) (zi_putI 1 1 (zi_vret Q)))
theorem kX8_clear_0 {X : zq_X} {d : Nat} (C : zq_C X cX8_clear 1 RX8 d) {Q : zq_Q} (hq : zq_R X none 0 Q) : zq_ok X 1 0 (xX8_clear_0 Q) := by
  refine zs_aload_n C dX8_clear_0 rfl ?_
  refine zs_iconst C dX8_clear_1 (by decide) ?_
  refine zs_putI C zp_1 zF8 (j := 1) ⟨by decide, rfl⟩ ⟨rfl, by decide +kernel⟩ zw_41 dX8_clear_2 ?_
  exact zs_vret C hq dX8_clear_5
theorem mX8_clear {d : Nat} {spec : zq_Sp} (v : ∀ args h Q, spec args h Q → (zq_a args).length ≤ 1 ∧ xX8_clear_0 Q (zq_l0 1 args) [] h) : zq_M yX8_clear cX8_clear 1 none 0 d spec := by
  refine zq_met (by decide +kernel) (by decide) (fun X Q args h C hq hs => ⟨(v args h Q hs).1, _, ?_, (v args h Q hs).2⟩)
  exact kX8_clear_0 C hq
/-! ToOneCrumb$Text.start(I)V -/
theorem dX8_start_0 : decode cX8_start 0 = .ok (.aload_n 0, 1) := by decide +kernel
theorem dX8_start_1 : decode cX8_start 1 = .ok (.iconst 0, 1) := by decide +kernel
theorem dX8_start_2 : decode cX8_start 2 = .ok (.putfield 19, 3) := by decide +kernel
theorem dX8_start_5 : decode cX8_start 5 = .ok (.aload_n 0, 1) := by decide +kernel
theorem dX8_start_6 : decode cX8_start 6 = .ok (.aload_n 0, 1) := by decide +kernel
theorem dX8_start_7 : decode cX8_start 7 = .ok (.getfield 15, 3) := by decide +kernel
theorem dX8_start_10 : decode cX8_start 10 = .ok (.iload_n 1, 1) := by decide +kernel
theorem dX8_start_11 : decode cX8_start 11 = .ok (.invokestatic 22, 3) := by decide +kernel
theorem dX8_start_14 : decode cX8_start 14 = .ok (.putfield 28, 3) := by decide +kernel
theorem dX8_start_17 : decode cX8_start 17 = .ok (.return_, 1) := by decide +kernel
def xX8_start_0 (Q : zq_Q) : zq_P := zi_aload 0 (zi_push (.int 0) (zi_putI 1 3 (zi_aload 0 (zi_aload 0 (zi_getI 1 1 (zi_iload 1 (zi_m2 zf_min (zi_putI 1 2 (zi_vret Q)))))))))
theorem kX8_start_0 {X : zq_X} {d : Nat} (C : zq_C X cX8_start 2 RX8 d) (hd1 : 1 ≤ d) {Q : zq_Q} (hq : zq_R X none 0 Q) : zq_ok X 2 0 (xX8_start_0 Q) := by
  refine zs_aload_n C dX8_start_0 rfl ?_
  refine zs_iconst C dX8_start_1 (by decide) ?_
  refine zs_putI C zp_1 zF8 (j := 3) ⟨by decide, rfl⟩ ⟨rfl, by decide +kernel⟩ zw_44 dX8_start_2 ?_
  refine zs_aload_n C dX8_start_5 rfl ?_
  refine zs_aload_n C dX8_start_6 rfl ?_
  refine zs_getI C zp_1 zF8 (j := 1) ⟨by decide, rfl⟩ zw_41 dX8_start_7 ?_
  refine zs_iload_n C dX8_start_10 rfl ?_
  refine zs_mmin C hd1 zw_394 zw_395 zw_14 zw_396 dX8_start_11 ?_
  refine zs_putI C zp_1 zF8 (j := 2) ⟨by decide, rfl⟩ ⟨rfl, by decide +kernel⟩ zw_43 dX8_start_14 ?_
  exact zs_vret C hq dX8_start_17
theorem mX8_start {d : Nat} {spec : zq_Sp} (hd1 : 1 ≤ d) (v : ∀ args h Q, spec args h Q → (zq_a args).length ≤ 2 ∧ xX8_start_0 Q (zq_l0 2 args) [] h) : zq_M yX8_start cX8_start 2 none 0 d spec := by
  refine zq_met (by decide +kernel) (by decide) (fun X Q args h C hq hs => ⟨(v args h Q hs).1, _, ?_, (v args h Q hs).2⟩)
  exact kX8_start_0 C hd1 hq
/-! ToOneCrumb$Text.isFinished()Z -/
theorem dX8_isFinished_0 : decode cX8_isFinished 0 = .ok (.aload_n 0, 1) := by decide +kernel
theorem dX8_isFinished_1 : decode cX8_isFinished 1 = .ok (.getfield 19, 3) := by decide +kernel
theorem dX8_isFinished_4 : decode cX8_isFinished 4 = .ok (.aload_n 0, 1) := by decide +kernel
theorem dX8_isFinished_5 : decode cX8_isFinished 5 = .ok (.getfield 15, 3) := by decide +kernel
theorem dX8_isFinished_8 : decode cX8_isFinished 8 = .ok (.if_icmp .lt 7, 3) := by decide +kernel
theorem dX8_isFinished_11 : decode cX8_isFinished 11 = .ok (.iconst 1, 1) := by decide +kernel
theorem dX8_isFinished_12 : decode cX8_isFinished 12 = .ok (.goto 4, 3) := by decide +kernel
theorem dX8_isFinished_15 : decode cX8_isFinished 15 = .ok (.iconst 0, 1) := by decide +kernel
theorem dX8_isFinished_16 : decode cX8_isFinished 16 = .ok (.ireturn, 1) := by decide +kernel
def xX8_isFinished_16 (Q : zq_Q) : zq_P := zi_zret Q
theorem kX8_isFinished_16 {X : zq_X} {d : Nat} (C : zq_C X cX8_isFinished 1 RX8 d) {Q : zq_Q} (hq : zq_R X (some .boolean) 1 Q) : zq_ok X 1 16 (xX8_isFinished_16 Q) := by
  exact zs_zret C hq dX8_isFinished_16
def xX8_isFinished_15 (Q : zq_Q) : zq_P := zi_push (.int 0) ((xX8_isFinished_16 Q))
theorem kX8_isFinished_15 {X : zq_X} {d : Nat} (C : zq_C X cX8_isFinished 1 RX8 d) {Q : zq_Q} (hq : zq_R X (some .boolean) 1 Q) : zq_ok X 1 15 (xX8_isFinished_15 Q) := by
  refine zs_iconst C dX8_isFinished_15 (by decide) ?_
  exact kX8_isFinished_16 C hq
def xX8_isFinished_11 (Q : zq_Q) : zq_P := zi_push (.int 1) ((xX8_isFinished_16 Q))
theorem kX8_isFinished_11 {X : zq_X} {d : Nat} (C : zq_C X cX8_isFinished 1 RX8 d) {Q : zq_Q} (hq : zq_R X (some .boolean) 1 Q) : zq_ok X 1 11 (xX8_isFinished_11 Q) := by
  refine zs_iconst C dX8_isFinished_11 (by decide) ?_
  exact zs_goto C dX8_isFinished_12 (by decide) (kX8_isFinished_16 C hq)
def xX8_isFinished_0 (Q : zq_Q) : zq_P := zi_aload 0 (zi_getI 1 3 (zi_aload 0 (zi_getI 1 1 (zi_if2 (fun x y => x < y) (xX8_isFinished_15 Q) (xX8_isFinished_11 Q)))))
theorem kX8_isFinished_0 {X : zq_X} {d : Nat} (C : zq_C X cX8_isFinished 1 RX8 d) {Q : zq_Q} (hq : zq_R X (some .boolean) 1 Q) : zq_ok X 1 0 (xX8_isFinished_0 Q) := by
  refine zs_aload_n C dX8_isFinished_0 rfl ?_
  refine zs_getI C zp_1 zF8 (j := 3) ⟨by decide, rfl⟩ zw_44 dX8_isFinished_1 ?_
  refine zs_aload_n C dX8_isFinished_4 rfl ?_
  refine zs_getI C zp_1 zF8 (j := 1) ⟨by decide, rfl⟩ zw_41 dX8_isFinished_5 ?_
  exact zs_icmp_lt C dX8_isFinished_8 (by decide) (kX8_isFinished_15 C hq) (kX8_isFinished_11 C hq)
theorem mX8_isFinished {d : Nat} {spec : zq_Sp} (v : ∀ args h Q, spec args h Q → (zq_a args).length ≤ 1 ∧ xX8_isFinished_0 Q (zq_l0 1 args) [] h) : zq_M yX8_isFinished cX8_isFinished 1 (some .boolean) 1 d spec := by
  refine zq_met (by decide +kernel) (by decide) (fun X Q args h C hq hs => ⟨(v args h Q hs).1, _, ?_, (v args h Q hs).2⟩)
  exact kX8_isFinished_0 C hq
/-! ToOneCrumb$Text.fault()I -/
theorem dX8_fault_0 : decode cX8_fault 0 = .ok (.iconst (-1), 1) := by decide +kernel
theorem dX8_fault_1 : decode cX8_fault 1 = .ok (.aload_n 0, 1) := by decide +kernel
theorem dX8_fault_2 : decode cX8_fault 2 = .ok (.getfield 19, 3) := by decide +kernel
theorem dX8_fault_5 : decode cX8_fault 5 = .ok (.isub, 1) := by decide +kernel
theorem dX8_fault_6 : decode cX8_fault 6 = .ok (.ireturn, 1) := by decide +kernel
def xX8_fault_0 (Q : zq_Q) : zq_P := zi_push (.int (-1)) (zi_aload 0 (zi_getI 1 3 (zi_i2 (fun x y => x - y) (zi_iret Q))))
theorem kX8_fault_0 {X : zq_X} {d : Nat} (C : zq_C X cX8_fault 1 RX8 d) {Q : zq_Q} (hq : zq_R X (some .int) 1 Q) : zq_ok X 1 0 (xX8_fault_0 Q) := by
  refine zs_iconst C dX8_fault_0 (by decide) ?_
  refine zs_aload_n C dX8_fault_1 rfl ?_
  refine zs_getI C zp_1 zF8 (j := 3) ⟨by decide, rfl⟩ zw_44 dX8_fault_2 ?_
  refine zs_isub C dX8_fault_5 ?_
  exact zs_iret C hq dX8_fault_6
theorem mX8_fault {d : Nat} {spec : zq_Sp} (v : ∀ args h Q, spec args h Q → (zq_a args).length ≤ 1 ∧ xX8_fault_0 Q (zq_l0 1 args) [] h) : zq_M yX8_fault cX8_fault 1 (some .int) 1 d spec := by
  refine zq_met (by decide +kernel) (by decide) (fun X Q args h C hq hs => ⟨(v args h Q hs).1, _, ?_, (v args h Q hs).2⟩)
  exact kX8_fault_0 C hq
/-! ToOneCrumb$Text.next()I -/
theorem dX8_next_0 : decode cX8_next 0 = .ok (.aload_n 0, 1) := by decide +kernel
theorem dX8_next_1 : decode cX8_next 1 = .ok (.getfield 19, 3) := by decide +kernel
theorem dX8_next_4 : decode cX8_next 4 = .ok (.aload_n 0, 1) := by decide +kernel
theorem dX8_next_5 : decode cX8_next 5 = .ok (.getfield 28, 3) := by decide +kernel
theorem dX8_next_8 : decode cX8_next 8 = .ok (.if_icmp .ge 15, 3) := by decide +kernel
theorem dX8_next_11 : decode cX8_next 11 = .ok (.aload_n 0, 1) := by decide +kernel
theorem dX8_next_12 : decode cX8_next 12 = .ok (.getfield 11, 3) := by decide +kernel
theorem dX8_next_15 : decode cX8_next 15 = .ok (.aload_n 0, 1) := by decide +kernel
theorem dX8_next_16 : decode cX8_next 16 = .ok (.getfield 19, 3) := by decide +kernel
theorem dX8_next_19 : decode cX8_next 19 = .ok (.iaload, 1) := by decide +kernel
theorem dX8_next_20 : decode cX8_next 20 = .ok (.goto 4, 3) := by decide +kernel
theorem dX8_next_23 : decode cX8_next 23 = .ok (.iconst (-1), 1) := by decide +kernel
theorem dX8_next_24 : decode cX8_next 24 = .ok (.ireturn, 1) := by decide +kernel
def xX8_next_24 (Q : zq_Q) : zq_P := zi_iret Q
theorem kX8_next_24 {X : zq_X} {d : Nat} (C : zq_C X cX8_next 1 RX8 d) {Q : zq_Q} (hq : zq_R X (some .int) 1 Q) : zq_ok X 1 24 (xX8_next_24 Q) := by
  exact zs_iret C hq dX8_next_24
def xX8_next_23 (Q : zq_Q) : zq_P := zi_push (.int (-1)) ((xX8_next_24 Q))
theorem kX8_next_23 {X : zq_X} {d : Nat} (C : zq_C X cX8_next 1 RX8 d) {Q : zq_Q} (hq : zq_R X (some .int) 1 Q) : zq_ok X 1 23 (xX8_next_23 Q) := by
  refine zs_iconst C dX8_next_23 (by decide) ?_
  exact kX8_next_24 C hq
def xX8_next_11 (Q : zq_Q) : zq_P := zi_aload 0 (zi_getR 1 2 (zi_aload 0 (zi_getI 1 3 (zi_aldI 2 80 ((xX8_next_24 Q))))))
theorem kX8_next_11 {X : zq_X} {d : Nat} (C : zq_C X cX8_next 1 RX8 d) {Q : zq_Q} (hq : zq_R X (some .int) 1 Q) : zq_ok X 1 11 (xX8_next_11 Q) := by
  refine zs_aload_n C dX8_next_11 rfl ?_
  refine zs_getR C zp_1 zF8 (j := 0) ⟨by decide, rfl⟩ zw_40 dX8_next_12 ?_
  refine zs_aload_n C dX8_next_15 rfl ?_
  refine zs_getI C zp_1 zF8 (j := 3) ⟨by decide, rfl⟩ zw_44 dX8_next_16 ?_
  refine zs_iaload C zp_2 dX8_next_19 ?_
  exact zs_goto C dX8_next_20 (by decide) (kX8_next_24 C hq)
def xX8_next_0 (Q : zq_Q) : zq_P := zi_aload 0 (zi_getI 1 3 (zi_aload 0 (zi_getI 1 2 (zi_if2 (fun x y => y ≤ x) (xX8_next_23 Q) (xX8_next_11 Q)))))
theorem kX8_next_0 {X : zq_X} {d : Nat} (C : zq_C X cX8_next 1 RX8 d) {Q : zq_Q} (hq : zq_R X (some .int) 1 Q) : zq_ok X 1 0 (xX8_next_0 Q) := by
  refine zs_aload_n C dX8_next_0 rfl ?_
  refine zs_getI C zp_1 zF8 (j := 3) ⟨by decide, rfl⟩ zw_44 dX8_next_1 ?_
  refine zs_aload_n C dX8_next_4 rfl ?_
  refine zs_getI C zp_1 zF8 (j := 2) ⟨by decide, rfl⟩ zw_43 dX8_next_5 ?_
  exact zs_icmp_ge C dX8_next_8 (by decide) (kX8_next_23 C hq) (kX8_next_11 C hq)
theorem mX8_next {d : Nat} {spec : zq_Sp} (v : ∀ args h Q, spec args h Q → (zq_a args).length ≤ 1 ∧ xX8_next_0 Q (zq_l0 1 args) [] h) : zq_M yX8_next cX8_next 1 (some .int) 1 d spec := by
  refine zq_met (by decide +kernel) (by decide) (fun X Q args h C hq hs => ⟨(v args h Q hs).1, _, ?_, (v args h Q hs).2⟩)
  exact kX8_next_0 C hq
/-! ToOneCrumb$Text.skip(I)Z -/
theorem dX8_skip_0 : decode cX8_skip 0 = .ok (.aload_n 0, 1) := by decide +kernel
theorem dX8_skip_1 : decode cX8_skip 1 = .ok (.getfield 19, 3) := by decide +kernel
theorem dX8_skip_4 : decode cX8_skip 4 = .ok (.aload_n 0, 1) := by decide +kernel
theorem dX8_skip_5 : decode cX8_skip 5 = .ok (.getfield 28, 3) := by decide +kernel
theorem dX8_skip_8 : decode cX8_skip 8 = .ok (.if_icmp .ge 16, 3) := by decide +kernel
theorem dX8_skip_11 : decode cX8_skip 11 = .ok (.aload_n 0, 1) := by decide +kernel
theorem dX8_skip_12 : decode cX8_skip 12 = .ok (.getfield 11, 3) := by decide +kernel
theorem dX8_skip_15 : decode cX8_skip 15 = .ok (.aload_n 0, 1) := by decide +kernel
theorem dX8_skip_16 : decode cX8_skip 16 = .ok (.getfield 19, 3) := by decide +kernel
theorem dX8_skip_19 : decode cX8_skip 19 = .ok (.iaload, 1) := by decide +kernel
theorem dX8_skip_20 : decode cX8_skip 20 = .ok (.iload_n 1, 1) := by decide +kernel
theorem dX8_skip_21 : decode cX8_skip 21 = .ok (.if_icmp .eq 5, 3) := by decide +kernel
theorem dX8_skip_24 : decode cX8_skip 24 = .ok (.iconst 0, 1) := by decide +kernel
theorem dX8_skip_25 : decode cX8_skip 25 = .ok (.ireturn, 1) := by decide +kernel
theorem dX8_skip_26 : decode cX8_skip 26 = .ok (.aload_n 0, 1) := by decide +kernel
theorem dX8_skip_27 : decode cX8_skip 27 = .ok (.dup, 1) := by decide +kernel
theorem dX8_skip_28 : decode cX8_skip 28 = .ok (.getfield 19, 3) := by decide +kernel
theorem dX8_skip_31 : decode cX8_skip 31 = .ok (.iconst 1, 1) := by decide +kernel
theorem dX8_skip_32 : decode cX8_skip 32 = .ok (.iadd, 1) := by decide +kernel
theorem dX8_skip_33 : decode cX8_skip 33 = .ok (.putfield 19, 3) := by decide +kernel
theorem dX8_skip_36 : decode cX8_skip 36 = .ok (.iconst 1, 1) := by decide +kernel
theorem dX8_skip_37 : decode cX8_skip 37 = .ok (.ireturn, 1) := by decide +kernel
def xX8_skip_26 (Q : zq_Q) : zq_P := zi_aload 0 (zi_dup (zi_getI 1 3 (zi_push (.int 1) (zi_i2 (fun x y => x + y) (zi_putI 1 3 (zi_push (.int 1) (zi_zret Q)))))))
theorem kX8_skip_26 {X : zq_X} {d : Nat} (C : zq_C X cX8_skip 2 RX8 d) {Q : zq_Q} (hq : zq_R X (some .boolean) 1 Q) : zq_ok X 2 26 (xX8_skip_26 Q) := by
  refine zs_aload_n C dX8_skip_26 rfl ?_
  refine zs_dup C dX8_skip_27 ?_
  refine zs_getI C zp_1 zF8 (j := 3) ⟨by decide, rfl⟩ zw_44 dX8_skip_28 ?_
  refine zs_iconst C dX8_skip_31 (by decide) ?_
  refine zs_iadd C dX8_skip_32 ?_
  refine zs_putI C zp_1 zF8 (j := 3) ⟨by decide, rfl⟩ ⟨rfl, by decide +kernel⟩ zw_44 dX8_skip_33 ?_
  refine zs_iconst C dX8_skip_36 (by decide) ?_
  exact zs_zret C hq dX8_skip_37
def xX8_skip_24 (Q : zq_Q) : zq_P := zi_push (.int 0) (zi_zret Q)
theorem kX8_skip_24 {X : zq_X} {d : Nat} (C : zq_C X cX8_skip 2 RX8 d) {Q : zq_Q} (hq : zq_R X (some .boolean) 1 Q) : zq_ok X 2 24 (xX8_skip_24 Q) := by
  refine zs_iconst C dX8_skip_24 (by decide) ?_
  exact zs_zret C hq dX8_skip_25
def xX8_skip_11 (Q : zq_Q) : zq_P := zi_aload 0 (zi_getR 1 2 (zi_aload 0 (zi_getI 1 3 (zi_aldI 2 80 (zi_iload 1 (zi_if2 (fun x y => x = y) (xX8_skip_26 Q) (xX8_skip_24 Q)))))))
theorem kX8_skip_11 {X : zq_X} {d : Nat} (C : zq_C X cX8_skip 2 RX8 d) {Q : zq_Q} (hq : zq_R X (some .boolean) 1 Q) : zq_ok X 2 11 (xX8_skip_11 Q) := by
  refine zs_aload_n C dX8_skip_11 rfl ?_
  refine zs_getR C zp_1 zF8 (j := 0) ⟨by decide, rfl⟩ zw_40 dX8_skip_12 ?_
  refine zs_aload_n C dX8_skip_15 rfl ?_
  refine zs_getI C zp_1 zF8 (j := 3) ⟨by decide, rfl⟩ zw_44 dX8_skip_16 ?_
  refine zs_iaload C zp_2 dX8_skip_19 ?_
  refine zs_iload_n C dX8_skip_20 rfl ?_
  exact zs_icmp_eq C dX8_skip_21 (by decide) (kX8_skip_26 C hq) (kX8_skip_24 C hq)
def xX8_skip_0 (Q : zq_Q) : zq_P := zi_aload 0 (zi_getI 1 3 (zi_aload 0 (zi_getI 1 2 (zi_if2 (fun x y => y ≤ x) (xX8_skip_24 Q) (xX8_skip_11 Q)))))
theorem kX8_skip_0 {X : zq_X} {d : Nat} (C : zq_C X cX8_skip 2 RX8 d) {Q : zq_Q} (hq : zq_R X (some .boolean) 1 Q) : zq_ok X 2 0 (xX8_skip_0 Q) := by
  refine zs_aload_n C dX8_skip_0 rfl ?_
  refine zs_getI C zp_1 zF8 (j := 3) ⟨by decide, rfl⟩ zw_44 dX8_skip_1 ?_
  refine zs_aload_n C dX8_skip_4 rfl ?_
  refine zs_getI C zp_1 zF8 (j := 2) ⟨by decide, rfl⟩ zw_43 dX8_skip_5 ?_
  exact zs_icmp_ge C dX8_skip_8 (by decide) (kX8_skip_24 C hq) (kX8_skip_11 C hq)
theorem mX8_skip {d : Nat} {spec : zq_Sp} (v : ∀ args h Q, spec args h Q → (zq_a args).length ≤ 2 ∧ xX8_skip_0 Q (zq_l0 2 args) [] h) : zq_M yX8_skip cX8_skip 2 (some .boolean) 1 d spec := by
  refine zq_met (by decide +kernel) (by decide) (fun X Q args h C hq hs => ⟨(v args h Q hs).1, _, ?_, (v args h Q hs).2⟩)
  exact kX8_skip_0 C hq
/-! ToOneCrumb$Text.takeDigit(I)I -/
theorem dX8_takeDigit_0 : decode cX8_takeDigit 0 = .ok (.aload_n 0, 1) := by decide +kernel
theorem dX8_takeDigit_1 : decode cX8_takeDigit 1 = .ok (.invokevirtual 31, 3) := by decide +kernel
theorem dX8_takeDigit_4 : decode cX8_takeDigit 4 = .ok (.bipush 48, 2) := by decide +kernel
theorem dX8_takeDigit_6 : decode cX8_takeDigit 6 = .ok (.isub, 1) := by decide +kernel
theorem dX8_takeDigit_7 : decode cX8_takeDigit 7 = .ok (.istore_n 2, 1) := by decide +kernel
theorem dX8_takeDigit_8 : decode cX8_takeDigit 8 = .ok (.iload_n 2, 1) := by decide +kernel
theorem dX8_takeDigit_9 : decode cX8_takeDigit 9 = .ok (.iload_n 1, 1) := by decide +kernel
theorem dX8_takeDigit_10 : decode cX8_takeDigit 10 = .ok (.if_icmp .lt 9, 3) := by decide +kernel
theorem dX8_takeDigit_13 : decode cX8_takeDigit 13 = .ok (.iload_n 2, 1) := by decide +kernel
theorem dX8_takeDigit_14 : decode cX8_takeDigit 14 = .ok (.bipush 9, 2) := by decide +kernel
theorem dX8_takeDigit_16 : decode cX8_takeDigit 16 = .ok (.if_icmp .le 5, 3) := by decide +kernel
theorem dX8_takeDigit_19 : decode cX8_takeDigit 19 = .ok (.iconst (-1), 1) := by decide +kernel
theorem dX8_takeDigit_20 : decode cX8_takeDigit 20 = .ok (.ireturn, 1) := by decide +kernel
theorem dX8_takeDigit_21 : decode cX8_takeDigit 21 = .ok (.aload_n 0, 1) := by decide +kernel
theorem dX8_takeDigit_22 : decode cX8_takeDigit 22 = .ok (.dup, 1) := by decide +kernel
theorem dX8_takeDigit_23 : decode cX8_takeDigit 23 = .ok (.getfield 19, 3) := by decide +kernel
theorem dX8_takeDigit_26 : decode cX8_takeDigit 26 = .ok (.iconst 1, 1) := by decide +kernel
theorem dX8_takeDigit_27 : decode cX8_takeDigit 27 = .ok (.iadd, 1) := by decide +kernel
theorem dX8_takeDigit_28 : decode cX8_takeDigit 28 = .ok (.putfield 19, 3) := by decide +kernel
theorem dX8_takeDigit_31 : decode cX8_takeDigit 31 = .ok (.iload_n 2, 1) := by decide +kernel
theorem dX8_takeDigit_32 : decode cX8_takeDigit 32 = .ok (.ireturn, 1) := by decide +kernel
def xX8_takeDigit_21 (s_X8_next : zq_Sp) (Q : zq_Q) : zq_P := zi_aload 0 (zi_dup (zi_getI 1 3 (zi_push (.int 1) (zi_i2 (fun x y => x + y) (zi_putI 1 3 (zi_iload 2 (zi_iret Q)))))))
theorem kX8_takeDigit_21 {X : zq_X} {d : Nat} (C : zq_C X cX8_takeDigit 3 RX8 d) {d_X8_next : Nat} {s_X8_next : zq_Sp} (h_X8_next : zq_M yX8_next cX8_next 1 (some .int) 1 d_X8_next s_X8_next) (g_X8_next : d_X8_next + 1 ≤ d) {Q : zq_Q} (hq : zq_R X (some .int) 1 Q) : zq_ok X 3 21 (xX8_takeDigit_21 s_X8_next Q) := by
  refine zs_aload_n C dX8_takeDigit_21 rfl ?_
  refine zs_dup C dX8_takeDigit_22 ?_
  refine zs_getI C zp_1 zF8 (j := 3) ⟨by decide, rfl⟩ zw_44 dX8_takeDigit_23 ?_
  refine zs_iconst C dX8_takeDigit_26 (by decide) ?_
  refine zs_iadd C dX8_takeDigit_27 ?_
  refine zs_putI C zp_1 zF8 (j := 3) ⟨by decide, rfl⟩ ⟨rfl, by decide +kernel⟩ zw_44 dX8_takeDigit_28 ?_
  refine zs_iload_n C dX8_takeDigit_31 rfl ?_
  exact zs_iret C hq dX8_takeDigit_32
def xX8_takeDigit_19 (s_X8_next : zq_Sp) (Q : zq_Q) : zq_P := zi_push (.int (-1)) (zi_iret Q)
theorem kX8_takeDigit_19 {X : zq_X} {d : Nat} (C : zq_C X cX8_takeDigit 3 RX8 d) {d_X8_next : Nat} {s_X8_next : zq_Sp} (h_X8_next : zq_M yX8_next cX8_next 1 (some .int) 1 d_X8_next s_X8_next) (g_X8_next : d_X8_next + 1 ≤ d) {Q : zq_Q} (hq : zq_R X (some .int) 1 Q) : zq_ok X 3 19 (xX8_takeDigit_19 s_X8_next Q) := by
  refine zs_iconst C dX8_takeDigit_19 (by decide) ?_
  exact zs_iret C hq dX8_takeDigit_20
def xX8_takeDigit_13 (s_X8_next : zq_Sp) (Q : zq_Q) : zq_P := zi_iload 2 (zi_push (.int 9) (zi_if2 (fun x y => x ≤ y) (xX8_takeDigit_21 s_X8_next Q) (xX8_takeDigit_19 s_X8_next Q)))
theorem kX8_takeDigit_13 {X : zq_X} {d : Nat} (C : zq_C X cX8_takeDigit 3 RX8 d) {d_X8_next : Nat} {s_X8_next : zq_Sp} (h_X8_next : zq_M yX8_next cX8_next 1 (some .int) 1 d_X8_next s_X8_next) (g_X8_next : d_X8_next + 1 ≤ d) {Q : zq_Q} (hq : zq_R X (some .int) 1 Q) : zq_ok X 3 13 (xX8_takeDigit_13 s_X8_next Q) := by
  refine zs_iload_n C dX8_takeDigit_13 rfl ?_
  refine zs_bipush C dX8_takeDigit_14 (by decide) ?_
  exact zs_icmp_le C dX8_takeDigit_16 (by decide) (kX8_takeDigit_21 C h_X8_next g_X8_next hq) (kX8_takeDigit_19 C h_X8_next g_X8_next hq)
def xX8_takeDigit_0 (s_X8_next : zq_Sp) (Q : zq_Q) : zq_P := zi_aload 0 (zi_callV 0 1 s_X8_next (zi_push (.int 48) (zi_i2 (fun x y => x - y) (zi_istore 2 (zi_iload 2 (zi_iload 1 (zi_if2 (fun x y => x < y) (xX8_takeDigit_19 s_X8_next Q) (xX8_takeDigit_13 s_X8_next Q))))))))
theorem kX8_takeDigit_0 {X : zq_X} {d : Nat} (C : zq_C X cX8_takeDigit 3 RX8 d) {d_X8_next : Nat} {s_X8_next : zq_Sp} (h_X8_next : zq_M yX8_next cX8_next 1 (some .int) 1 d_X8_next s_X8_next) (g_X8_next : d_X8_next + 1 ≤ d) {Q : zq_Q} (hq : zq_R X (some .int) 1 Q) : zq_ok X 3 0 (xX8_takeDigit_0 s_X8_next Q) := by
  refine zs_aload_n C dX8_takeDigit_0 rfl ?_
  refine zs_callV C h_X8_next g_X8_next zy_X8_next zp_1 (show vwCl[8]? = some (RX8, TX8, 4) from rfl) zw_405 zw_406 zs9_X8_next dX8_takeDigit_1 ?_
  refine zs_bipush C dX8_takeDigit_4 (by decide) ?_
  refine zs_isub C dX8_takeDigit_6 ?_
  refine zs_istore_n C dX8_takeDigit_7 rfl (by decide) ?_
  refine zs_iload_n C dX8_takeDigit_8 rfl ?_
  refine zs_iload_n C dX8_takeDigit_9 rfl ?_
  exact zs_icmp_lt C dX8_takeDigit_10 (by decide) (kX8_takeDigit_19 C h_X8_next g_X8_next hq) (kX8_takeDigit_13 C h_X8_next g_X8_next hq)
theorem mX8_takeDigit {d : Nat} {spec : zq_Sp} {d_X8_next : Nat} {s_X8_next : zq_Sp} (h_X8_next : zq_M yX8_next cX8_next 1 (some .int) 1 d_X8_next s_X8_next) (g_X8_next : d_X8_next + 1 ≤ d) (v : ∀ args h Q, spec args h Q → (zq_a args).length ≤ 3 ∧ xX8_takeDigit_0 s_X8_next Q (zq_l0 3 args) [] h) : zq_M yX8_takeDigit cX8_takeDigit 3 (some .int) 1 d spec := by
  refine zq_met (by decide +kernel) (by decide) (fun X Q args h C hq hs => ⟨(v args h Q hs).1, _, ?_, (v args h Q hs).2⟩)
  exact kX8_takeDigit_0 C h_X8_next g_X8_next hq
/-! ToOneCrumb$Text.takeNumber(I)I -/
theorem dX8_takeNumber_0 : decode cX8_takeNumber 0 = .ok (.aload_n 0, 1) := by decide +kernel
theorem dX8_takeNumber_1 : decode cX8_takeNumber 1 = .ok (.iconst 0, 1) := by decide +kernel
theorem dX8_takeNumber_2 : decode cX8_takeNumber 2 = .ok (.invokevirtual 35, 3) := by decide +kernel
theorem dX8_takeNumber_5 : decode cX8_takeNumber 5 = .ok (.istore_n 2, 1) := by decide +kernel
theorem dX8_takeNumber_6 : decode cX8_takeNumber 6 = .ok (.iconst 1, 1) := by decide +kernel
theorem dX8_takeNumber_7 : decode cX8_takeNumber 7 = .ok (.istore_n 3, 1) := by decide +kernel
theorem dX8_takeNumber_8 : decode cX8_takeNumber 8 = .ok (.iload_n 2, 1) := by decide +kernel
theorem dX8_takeNumber_9 : decode cX8_takeNumber 9 = .ok (.ifCond .lt 37, 3) := by decide +kernel
theorem dX8_takeNumber_12 : decode cX8_takeNumber 12 = .ok (.iload_n 3, 1) := by decide +kernel
theorem dX8_takeNumber_13 : decode cX8_takeNumber 13 = .ok (.iload_n 1, 1) := by decide +kernel
theorem dX8_takeNumber_14 : decode cX8_takeNumber 14 = .ok (.if_icmp .ge 32, 3) := by decide +kernel
theorem dX8_takeNumber_17 : decode cX8_takeNumber 17 = .ok (.aload_n 0, 1) := by decide +kernel
theorem dX8_takeNumber_18 : decode cX8_takeNumber 18 = .ok (.iconst 0, 1) := by decide +kernel
theorem dX8_takeNumber_19 : decode cX8_takeNumber 19 = .ok (.invokevirtual 35, 3) := by decide +kernel
theorem dX8_takeNumber_22 : decode cX8_takeNumber 22 = .ok (.istore 4, 2) := by decide +kernel
theorem dX8_takeNumber_24 : decode cX8_takeNumber 24 = .ok (.iload 4, 2) := by decide +kernel
theorem dX8_takeNumber_26 : decode cX8_takeNumber 26 = .ok (.ifCond .ge 6, 3) := by decide +kernel
theorem dX8_takeNumber_29 : decode cX8_takeNumber 29 = .ok (.goto 17, 3) := by decide +kernel
theorem dX8_takeNumber_32 : decode cX8_takeNumber 32 = .ok (.iload_n 2, 1) := by decide +kernel
theorem dX8_takeNumber_33 : decode cX8_takeNumber 33 = .ok (.bipush 10, 2) := by decide +kernel
theorem dX8_takeNumber_35 : decode cX8_takeNumber 35 = .ok (.imul, 1) := by decide +kernel
theorem dX8_takeNumber_36 : decode cX8_takeNumber 36 = .ok (.iload 4, 2) := by decide +kernel
theorem dX8_takeNumber_38 : decode cX8_takeNumber 38 = .ok (.iadd, 1) := by decide +kernel
theorem dX8_takeNumber_39 : decode cX8_takeNumber 39 = .ok (.istore_n 2, 1) := by decide +kernel
theorem dX8_takeNumber_40 : decode cX8_takeNumber 40 = .ok (.iinc 3 1, 3) := by decide +kernel
theorem dX8_takeNumber_43 : decode cX8_takeNumber 43 = .ok (.goto (-35), 3) := by decide +kernel
theorem dX8_takeNumber_46 : decode cX8_takeNumber 46 = .ok (.iload_n 2, 1) := by decide +kernel
theorem dX8_takeNumber_47 : decode cX8_takeNumber 47 = .ok (.ireturn, 1) := by decide +kernel
def xX8_takeNumber_46 (s_X8_takeDigit : zq_Sp) (J8 : zq_P) (Q : zq_Q) : zq_P := zi_iload 2 (zi_iret Q)
theorem kX8_takeNumber_46 {X : zq_X} {d : Nat} (C : zq_C X cX8_takeNumber 5 RX8 d) {d_X8_takeDigit : Nat} {s_X8_takeDigit : zq_Sp} (h_X8_takeDigit : zq_M yX8_takeDigit cX8_takeDigit 3 (some .int) 1 d_X8_takeDigit s_X8_takeDigit) (g_X8_takeDigit : d_X8_takeDigit + 1 ≤ d) {J8 : zq_P} (j8 : zq_ok X 5 8 J8) {Q : zq_Q} (hq : zq_R X (some .int) 1 Q) : zq_ok X 5 46 (xX8_takeNumber_46 s_X8_takeDigit J8 Q) := by
  refine zs_iload_n C dX8_takeNumber_46 rfl ?_
  exact zs_iret C hq dX8_takeNumber_47
def xX8_takeNumber_32 (s_X8_takeDigit : zq_Sp) (J8 : zq_P) (Q : zq_Q) : zq_P := zi_iload 2 (zi_push (.int 10) (zi_i2 (fun x y => x * y) (zi_iload 4 (zi_i2 (fun x y => x + y) (zi_istore 2 (zi_iinc 3 1 (J8)))))))
theorem kX8_takeNumber_32 {X : zq_X} {d : Nat} (C : zq_C X cX8_takeNumber 5 RX8 d) {d_X8_takeDigit : Nat} {s_X8_takeDigit : zq_Sp} (h_X8_takeDigit : zq_M yX8_takeDigit cX8_takeDigit 3 (some .int) 1 d_X8_takeDigit s_X8_takeDigit) (g_X8_takeDigit : d_X8_takeDigit + 1 ≤ d) {J8 : zq_P} (j8 : zq_ok X 5 8 J8) {Q : zq_Q} (hq : zq_R X (some .int) 1 Q) : zq_ok X 5 32 (xX8_takeNumber_32 s_X8_takeDigit J8 Q) := by
  refine zs_iload_n C dX8_takeNumber_32 rfl ?_
  refine zs_bipush C dX8_takeNumber_33 (by decide) ?_
  refine zs_imul C dX8_takeNumber_35 ?_
  refine zs_iload C dX8_takeNumber_36 ?_
  refine zs_iadd C dX8_takeNumber_38 ?_
  refine zs_istore_n C dX8_takeNumber_39 rfl (by decide) ?_
  refine zs_iinc C dX8_takeNumber_40 (by decide) (by decide) ?_
  exact zs_goto C dX8_takeNumber_43 (by decide) (j8)
def xX8_takeNumber_29 (s_X8_takeDigit : zq_Sp) (J8 : zq_P) (Q : zq_Q) : zq_P := (xX8_takeNumber_46 s_X8_takeDigit J8 Q)
theorem kX8_takeNumber_29 {X : zq_X} {d : Nat} (C : zq_C X cX8_takeNumber 5 RX8 d) {d_X8_takeDigit : Nat} {s_X8_takeDigit : zq_Sp} (h_X8_takeDigit : zq_M yX8_takeDigit cX8_takeDigit 3 (some .int) 1 d_X8_takeDigit s_X8_takeDigit) (g_X8_takeDigit : d_X8_takeDigit + 1 ≤ d) {J8 : zq_P} (j8 : zq_ok X 5 8 J8) {Q : zq_Q} (hq : zq_R X (some .int) 1 Q) : zq_ok X 5 29 (xX8_takeNumber_29 s_X8_takeDigit J8 Q) := by
  exact zs_goto C dX8_takeNumber_29 (by decide) (kX8_takeNumber_46 C h_X8_takeDigit g_X8_takeDigit j8 hq)
def xX8_takeNumber_17 (s_X8_takeDigit : zq_Sp) (J8 : zq_P) (Q : zq_Q) : zq_P := zi_aload 0 (zi_push (.int 0) (zi_callV 1 1 s_X8_takeDigit (zi_istore 4 (zi_iload 4 (zi_if1 (fun x => 0 ≤ x) (xX8_takeNumber_32 s_X8_takeDigit J8 Q) (xX8_takeNumber_29 s_X8_takeDigit J8 Q))))))
theorem kX8_takeNumber_17 {X : zq_X} {d : Nat} (C : zq_C X cX8_takeNumber 5 RX8 d) {d_X8_takeDigit : Nat} {s_X8_takeDigit : zq_Sp} (h_X8_takeDigit : zq_M yX8_takeDigit cX8_takeDigit 3 (some .int) 1 d_X8_takeDigit s_X8_takeDigit) (g_X8_takeDigit : d_X8_takeDigit + 1 ≤ d) {J8 : zq_P} (j8 : zq_ok X 5 8 J8) {Q : zq_Q} (hq : zq_R X (some .int) 1 Q) : zq_ok X 5 17 (xX8_takeNumber_17 s_X8_takeDigit J8 Q) := by
  refine zs_aload_n C dX8_takeNumber_17 rfl ?_
  refine zs_iconst C dX8_takeNumber_18 (by decide) ?_
  refine zs_callV C h_X8_takeDigit g_X8_takeDigit zy_X8_takeDigit zp_1 (show vwCl[8]? = some (RX8, TX8, 4) from rfl) zw_523 zw_402 zs9_X8_takeDigit dX8_takeNumber_19 ?_
  refine zs_istore C dX8_takeNumber_22 (by decide) ?_
  refine zs_iload C dX8_takeNumber_24 ?_
  exact zs_if_ge C dX8_takeNumber_26 (by decide) (kX8_takeNumber_32 C h_X8_takeDigit g_X8_takeDigit j8 hq) (kX8_takeNumber_29 C h_X8_takeDigit g_X8_takeDigit j8 hq)
def xX8_takeNumber_12 (s_X8_takeDigit : zq_Sp) (J8 : zq_P) (Q : zq_Q) : zq_P := zi_iload 3 (zi_iload 1 (zi_if2 (fun x y => y ≤ x) (xX8_takeNumber_46 s_X8_takeDigit J8 Q) (xX8_takeNumber_17 s_X8_takeDigit J8 Q)))
theorem kX8_takeNumber_12 {X : zq_X} {d : Nat} (C : zq_C X cX8_takeNumber 5 RX8 d) {d_X8_takeDigit : Nat} {s_X8_takeDigit : zq_Sp} (h_X8_takeDigit : zq_M yX8_takeDigit cX8_takeDigit 3 (some .int) 1 d_X8_takeDigit s_X8_takeDigit) (g_X8_takeDigit : d_X8_takeDigit + 1 ≤ d) {J8 : zq_P} (j8 : zq_ok X 5 8 J8) {Q : zq_Q} (hq : zq_R X (some .int) 1 Q) : zq_ok X 5 12 (xX8_takeNumber_12 s_X8_takeDigit J8 Q) := by
  refine zs_iload_n C dX8_takeNumber_12 rfl ?_
  refine zs_iload_n C dX8_takeNumber_13 rfl ?_
  exact zs_icmp_ge C dX8_takeNumber_14 (by decide) (kX8_takeNumber_46 C h_X8_takeDigit g_X8_takeDigit j8 hq) (kX8_takeNumber_17 C h_X8_takeDigit g_X8_takeDigit j8 hq)
def xX8_takeNumber_8 (s_X8_takeDigit : zq_Sp) (J8 : zq_P) (Q : zq_Q) : zq_P := zi_iload 2 (zi_if1 (fun x => x < 0) (xX8_takeNumber_46 s_X8_takeDigit J8 Q) (xX8_takeNumber_12 s_X8_takeDigit J8 Q))
theorem kX8_takeNumber_8 {X : zq_X} {d : Nat} (C : zq_C X cX8_takeNumber 5 RX8 d) {d_X8_takeDigit : Nat} {s_X8_takeDigit : zq_Sp} (h_X8_takeDigit : zq_M yX8_takeDigit cX8_takeDigit 3 (some .int) 1 d_X8_takeDigit s_X8_takeDigit) (g_X8_takeDigit : d_X8_takeDigit + 1 ≤ d) {J8 : zq_P} (j8 : zq_ok X 5 8 J8) {Q : zq_Q} (hq : zq_R X (some .int) 1 Q) : zq_ok X 5 8 (xX8_takeNumber_8 s_X8_takeDigit J8 Q) := by
  refine zs_iload_n C dX8_takeNumber_8 rfl ?_
  exact zs_if_lt C dX8_takeNumber_9 (by decide) (kX8_takeNumber_46 C h_X8_takeDigit g_X8_takeDigit j8 hq) (kX8_takeNumber_12 C h_X8_takeDigit g_X8_takeDigit j8 hq)
def xX8_takeNumber_0 (s_X8_takeDigit : zq_Sp) (J8 : zq_P) (Q : zq_Q) : zq_P := zi_aload 0 (zi_push (.int 0) (zi_callV 1 1 s_X8_takeDigit (zi_istore 2 (zi_push (.int 1) (zi_istore 3 (J8))))))
theorem kX8_takeNumber_0 {X : zq_X} {d : Nat} (C : zq_C X cX8_takeNumber 5 RX8 d) {d_X8_takeDigit : Nat} {s_X8_takeDigit : zq_Sp} (h_X8_takeDigit : zq_M yX8_takeDigit cX8_takeDigit 3 (some .int) 1 d_X8_takeDigit s_X8_takeDigit) (g_X8_takeDigit : d_X8_takeDigit + 1 ≤ d) {J8 : zq_P} (j8 : zq_ok X 5 8 J8) {Q : zq_Q} (hq : zq_R X (some .int) 1 Q) : zq_ok X 5 0 (xX8_takeNumber_0 s_X8_takeDigit J8 Q) := by
  refine zs_aload_n C dX8_takeNumber_0 rfl ?_
  refine zs_iconst C dX8_takeNumber_1 (by decide) ?_
  refine zs_callV C h_X8_takeDigit g_X8_takeDigit zy_X8_takeDigit zp_1 (show vwCl[8]? = some (RX8, TX8, 4) from rfl) zw_523 zw_402 zs9_X8_takeDigit dX8_takeNumber_2 ?_
  refine zs_istore_n C dX8_takeNumber_5 rfl (by decide) ?_
  refine zs_iconst C dX8_takeNumber_6 (by decide) ?_
  refine zs_istore_n C dX8_takeNumber_7 rfl (by decide) ?_
  exact j8
theorem mX8_takeNumber {d : Nat} {spec : zq_Sp} {σ8 : Type} {d_X8_takeDigit : Nat} {s_X8_takeDigit : zq_Sp} (h_X8_takeDigit : zq_M yX8_takeDigit cX8_takeDigit 3 (some .int) 1 d_X8_takeDigit s_X8_takeDigit) (g_X8_takeDigit : d_X8_takeDigit + 1 ≤ d) (μ8 : σ8 → Nat) (I8 : zq_Q → σ8 → zq_P) (v : ∀ args h Q, spec args h Q → (zq_a args).length ≤ 5 ∧ xX8_takeNumber_0 s_X8_takeDigit (fun ls st h => ∃ b, I8 Q b ls st h) Q (zq_l0 5 args) [] h) (v8 : ∀ Q a ls st h, I8 Q a ls st h → xX8_takeNumber_8 s_X8_takeDigit (fun ls st h => ∃ b, μ8 b < μ8 a ∧ I8 Q b ls st h) Q ls st h) : zq_M yX8_takeNumber cX8_takeNumber 5 (some .int) 1 d spec := by
  refine zq_met (by decide +kernel) (by decide) (fun X Q args h C hq hs => ⟨(v args h Q hs).1, _, ?_, (v args h Q hs).2⟩)
  have hl := zq_loop1 (X := X) (nL := 5) (pc1 := 8) μ8 (I8 Q) (fun J8 => xX8_takeNumber_8 s_X8_takeDigit J8 Q) (fun j8 => kX8_takeNumber_8 C h_X8_takeDigit g_X8_takeDigit j8 hq) (v8 Q)
  exact kX8_takeNumber_0 C h_X8_takeDigit g_X8_takeDigit hl hq
/-! ToOneCrumb$Text.takeLetter(I)I -/
theorem dX8_takeLetter_0 : decode cX8_takeLetter 0 = .ok (.aload_n 0, 1) := by decide +kernel
theorem dX8_takeLetter_1 : decode cX8_takeLetter 1 = .ok (.invokevirtual 31, 3) := by decide +kernel
theorem dX8_takeLetter_4 : decode cX8_takeLetter 4 = .ok (.bipush 97, 2) := by decide +kernel
theorem dX8_takeLetter_6 : decode cX8_takeLetter 6 = .ok (.isub, 1) := by decide +kernel
theorem dX8_takeLetter_7 : decode cX8_takeLetter 7 = .ok (.istore_n 2, 1) := by decide +kernel
theorem dX8_takeLetter_8 : decode cX8_takeLetter 8 = .ok (.iload_n 2, 1) := by decide +kernel
theorem dX8_takeLetter_9 : decode cX8_takeLetter 9 = .ok (.ifCond .lt 8, 3) := by decide +kernel
theorem dX8_takeLetter_12 : decode cX8_takeLetter 12 = .ok (.iload_n 2, 1) := by decide +kernel
theorem dX8_takeLetter_13 : decode cX8_takeLetter 13 = .ok (.iload_n 1, 1) := by decide +kernel
theorem dX8_takeLetter_14 : decode cX8_takeLetter 14 = .ok (.if_icmp .lt 5, 3) := by decide +kernel
theorem dX8_takeLetter_17 : decode cX8_takeLetter 17 = .ok (.iconst (-1), 1) := by decide +kernel
theorem dX8_takeLetter_18 : decode cX8_takeLetter 18 = .ok (.ireturn, 1) := by decide +kernel
theorem dX8_takeLetter_19 : decode cX8_takeLetter 19 = .ok (.aload_n 0, 1) := by decide +kernel
theorem dX8_takeLetter_20 : decode cX8_takeLetter 20 = .ok (.dup, 1) := by decide +kernel
theorem dX8_takeLetter_21 : decode cX8_takeLetter 21 = .ok (.getfield 19, 3) := by decide +kernel
theorem dX8_takeLetter_24 : decode cX8_takeLetter 24 = .ok (.iconst 1, 1) := by decide +kernel
theorem dX8_takeLetter_25 : decode cX8_takeLetter 25 = .ok (.iadd, 1) := by decide +kernel
theorem dX8_takeLetter_26 : decode cX8_takeLetter 26 = .ok (.putfield 19, 3) := by decide +kernel
theorem dX8_takeLetter_29 : decode cX8_takeLetter 29 = .ok (.iload_n 2, 1) := by decide +kernel
theorem dX8_takeLetter_30 : decode cX8_takeLetter 30 = .ok (.ireturn, 1) := by decide +kernel
def xX8_takeLetter_19 (s_X8_next : zq_Sp) (Q : zq_Q) : zq_P := zi_aload 0 (zi_dup (zi_getI 1 3 (zi_push (.int 1) (zi_i2 (fun x y => x + y) (zi_putI 1 3 (zi_iload 2 (zi_iret Q)))))))
theorem kX8_takeLetter_19 {X : zq_X} {d : Nat} (C : zq_C X cX8_takeLetter 3 RX8 d) {d_X8_next : Nat} {s_X8_next : zq_Sp} (h_X8_next : zq_M yX8_next cX8_next 1 (some .int) 1 d_X8_next s_X8_next) (g_X8_next : d_X8_next + 1 ≤ d) {Q : zq_Q} (hq : zq_R X (some .int) 1 Q) : zq_ok X 3 19 (xX8_takeLetter_19 s_X8_next Q) := by
  refine zs_aload_n C dX8_takeLetter_19 rfl ?_
  refine zs_dup C dX8_takeLetter_20 ?_
  refine zs_getI C zp_1 zF8 (j := 3) ⟨by decide, rfl⟩ zw_44 dX8_takeLetter_21 ?_
  refine zs_iconst C dX8_takeLetter_24 (by decide) ?_
  refine zs_iadd C dX8_takeLetter_25 ?_
  refine zs_putI C zp_1 zF8 (j := 3) ⟨by decide, rfl⟩ ⟨rfl, by decide +kernel⟩ zw_44 dX8_takeLetter_26 ?_
  refine zs_iload_n C dX8_takeLetter_29 rfl ?_
  exact zs_iret C hq dX8_takeLetter_30
def xX8_takeLetter_17 (s_X8_next : zq_Sp) (Q : zq_Q) : zq_P := zi_push (.int (-1)) (zi_iret Q)
theorem kX8_takeLetter_17 {X : zq_X} {d : Nat} (C : zq_C X cX8_takeLetter 3 RX8 d) {d_X8_next : Nat} {s_X8_next : zq_Sp} (h_X8_next : zq_M yX8_next cX8_next 1 (some .int) 1 d_X8_next s_X8_next) (g_X8_next : d_X8_next + 1 ≤ d) {Q : zq_Q} (hq : zq_R X (some .int) 1 Q) : zq_ok X 3 17 (xX8_takeLetter_17 s_X8_next Q) := by
  refine zs_iconst C dX8_takeLetter_17 (by decide) ?_
  exact zs_iret C hq dX8_takeLetter_18
def xX8_takeLetter_12 (s_X8_next : zq_Sp) (Q : zq_Q) : zq_P := zi_iload 2 (zi_iload 1 (zi_if2 (fun x y => x < y) (xX8_takeLetter_19 s_X8_next Q) (xX8_takeLetter_17 s_X8_next Q)))
theorem kX8_takeLetter_12 {X : zq_X} {d : Nat} (C : zq_C X cX8_takeLetter 3 RX8 d) {d_X8_next : Nat} {s_X8_next : zq_Sp} (h_X8_next : zq_M yX8_next cX8_next 1 (some .int) 1 d_X8_next s_X8_next) (g_X8_next : d_X8_next + 1 ≤ d) {Q : zq_Q} (hq : zq_R X (some .int) 1 Q) : zq_ok X 3 12 (xX8_takeLetter_12 s_X8_next Q) := by
  refine zs_iload_n C dX8_takeLetter_12 rfl ?_
  refine zs_iload_n C dX8_takeLetter_13 rfl ?_
  exact zs_icmp_lt C dX8_takeLetter_14 (by decide) (kX8_takeLetter_19 C h_X8_next g_X8_next hq) (kX8_takeLetter_17 C h_X8_next g_X8_next hq)
def xX8_takeLetter_0 (s_X8_next : zq_Sp) (Q : zq_Q) : zq_P := zi_aload 0 (zi_callV 0 1 s_X8_next (zi_push (.int 97) (zi_i2 (fun x y => x - y) (zi_istore 2 (zi_iload 2 (zi_if1 (fun x => x < 0) (xX8_takeLetter_17 s_X8_next Q) (xX8_takeLetter_12 s_X8_next Q)))))))
theorem kX8_takeLetter_0 {X : zq_X} {d : Nat} (C : zq_C X cX8_takeLetter 3 RX8 d) {d_X8_next : Nat} {s_X8_next : zq_Sp} (h_X8_next : zq_M yX8_next cX8_next 1 (some .int) 1 d_X8_next s_X8_next) (g_X8_next : d_X8_next + 1 ≤ d) {Q : zq_Q} (hq : zq_R X (some .int) 1 Q) : zq_ok X 3 0 (xX8_takeLetter_0 s_X8_next Q) := by
  refine zs_aload_n C dX8_takeLetter_0 rfl ?_
  refine zs_callV C h_X8_next g_X8_next zy_X8_next zp_1 (show vwCl[8]? = some (RX8, TX8, 4) from rfl) zw_405 zw_406 zs9_X8_next dX8_takeLetter_1 ?_
  refine zs_bipush C dX8_takeLetter_4 (by decide) ?_
  refine zs_isub C dX8_takeLetter_6 ?_
  refine zs_istore_n C dX8_takeLetter_7 rfl (by decide) ?_
  refine zs_iload_n C dX8_takeLetter_8 rfl ?_
  exact zs_if_lt C dX8_takeLetter_9 (by decide) (kX8_takeLetter_17 C h_X8_next g_X8_next hq) (kX8_takeLetter_12 C h_X8_next g_X8_next hq)
theorem mX8_takeLetter {d : Nat} {spec : zq_Sp} {d_X8_next : Nat} {s_X8_next : zq_Sp} (h_X8_next : zq_M yX8_next cX8_next 1 (some .int) 1 d_X8_next s_X8_next) (g_X8_next : d_X8_next + 1 ≤ d) (v : ∀ args h Q, spec args h Q → (zq_a args).length ≤ 3 ∧ xX8_takeLetter_0 s_X8_next Q (zq_l0 3 args) [] h) : zq_M yX8_takeLetter cX8_takeLetter 3 (some .int) 1 d spec := by
  refine zq_met (by decide +kernel) (by decide) (fun X Q args h C hq hs => ⟨(v args h Q hs).1, _, ?_, (v args h Q hs).2⟩)
  exact kX8_takeLetter_0 C h_X8_next g_X8_next hq
/-! ToOneCrumb$Row.clear()V -/
theorem dX5_clear_0 : decode cX5_clear 0 = .ok (.aload_n 0, 1) := by decide +kernel
theorem dX5_clear_1 : decode cX5_clear 1 = .ok (.iconst 0, 1) := by decide +kernel
theorem dX5_clear_2 : decode cX5_clear 2 = .ok (.putfield 15, 3) := by decide +kernel
theorem dX5_clear_5 : decode cX5_clear 5 = .ok (.return_, 1) := by decide +kernel
def xX5_clear_0 (Q : zq_Q) : zq_P := zi_aload 0 (zi_push (.int 0) (zi_putI 3 1 (zi_vret Q)))
theorem kX5_clear_0 {X : zq_X} {d : Nat} (C : zq_C X cX5_clear 1 RX5 d) {Q : zq_Q} (hq : zq_R X none 0 Q) : zq_ok X 1 0 (xX5_clear_0 Q) := by
  refine zs_aload_n C dX5_clear_0 rfl ?_
  refine zs_iconst C dX5_clear_1 (by decide) ?_
  refine zs_putI C zp_3 zF5 (j := 1) ⟨by decide, rfl⟩ ⟨rfl, by decide +kernel⟩ zw_63 dX5_clear_2 ?_
  exact zs_vret C hq dX5_clear_5
theorem mX5_clear {d : Nat} {spec : zq_Sp} (v : ∀ args h Q, spec args h Q → (zq_a args).length ≤ 1 ∧ xX5_clear_0 Q (zq_l0 1 args) [] h) : zq_M yX5_clear cX5_clear 1 none 0 d spec := by
  refine zq_met (by decide +kernel) (by decide) (fun X Q args h C hq hs => ⟨(v args h Q hs).1, _, ?_, (v args h Q hs).2⟩)
  exact kX5_clear_0 C hq
/-! ToOneCrumb$Row.add(J)V -/
theorem dX5_add_0 : decode cX5_add 0 = .ok (.aload_n 0, 1) := by decide +kernel
theorem dX5_add_1 : decode cX5_add 1 = .ok (.getfield 15, 3) := by decide +kernel
theorem dX5_add_4 : decode cX5_add 4 = .ok (.aload_n 0, 1) := by decide +kernel
theorem dX5_add_5 : decode cX5_add 5 = .ok (.getfield 9, 3) := by decide +kernel
theorem dX5_add_8 : decode cX5_add 8 = .ok (.arraylength, 1) := by decide +kernel
theorem dX5_add_9 : decode cX5_add 9 = .ok (.if_icmp .ge 23, 3) := by decide +kernel
theorem dX5_add_12 : decode cX5_add 12 = .ok (.aload_n 0, 1) := by decide +kernel
theorem dX5_add_13 : decode cX5_add 13 = .ok (.getfield 9, 3) := by decide +kernel
theorem dX5_add_16 : decode cX5_add 16 = .ok (.aload_n 0, 1) := by decide +kernel
theorem dX5_add_17 : decode cX5_add 17 = .ok (.getfield 15, 3) := by decide +kernel
theorem dX5_add_20 : decode cX5_add 20 = .ok (.lload_n 1, 1) := by decide +kernel
theorem dX5_add_21 : decode cX5_add 21 = .ok (.lastore, 1) := by decide +kernel
theorem dX5_add_22 : decode cX5_add 22 = .ok (.aload_n 0, 1) := by decide +kernel
theorem dX5_add_23 : decode cX5_add 23 = .ok (.dup, 1) := by decide +kernel
theorem dX5_add_24 : decode cX5_add 24 = .ok (.getfield 15, 3) := by decide +kernel
theorem dX5_add_27 : decode cX5_add 27 = .ok (.iconst 1, 1) := by decide +kernel
theorem dX5_add_28 : decode cX5_add 28 = .ok (.iadd, 1) := by decide +kernel
theorem dX5_add_29 : decode cX5_add 29 = .ok (.putfield 15, 3) := by decide +kernel
theorem dX5_add_32 : decode cX5_add 32 = .ok (.return_, 1) := by decide +kernel
def xX5_add_32 (Q : zq_Q) : zq_P := zi_vret Q
theorem kX5_add_32 {X : zq_X} {d : Nat} (C : zq_C X cX5_add 3 RX5 d) {Q : zq_Q} (hq : zq_R X none 0 Q) : zq_ok X 3 32 (xX5_add_32 Q) := by
  exact zs_vret C hq dX5_add_32
def xX5_add_12 (Q : zq_Q) : zq_P := zi_aload 0 (zi_getR 3 4 (zi_aload 0 (zi_getI 3 1 (zi_lload 1 (zi_astL 4 16 (zi_aload 0 (zi_dup (zi_getI 3 1 (zi_push (.int 1) (zi_i2 (fun x y => x + y) (zi_putI 3 1 ((xX5_add_32 Q)))))))))))))
theorem kX5_add_12 {X : zq_X} {d : Nat} (C : zq_C X cX5_add 3 RX5 d) {Q : zq_Q} (hq : zq_R X none 0 Q) : zq_ok X 3 12 (xX5_add_12 Q) := by
  refine zs_aload_n C dX5_add_12 rfl ?_
  refine zs_getR C zp_3 zF5 (j := 0) ⟨by decide, rfl⟩ zw_61 dX5_add_13 ?_
  refine zs_aload_n C dX5_add_16 rfl ?_
  refine zs_getI C zp_3 zF5 (j := 1) ⟨by decide, rfl⟩ zw_63 dX5_add_17 ?_
  refine zs_lload_n C dX5_add_20 rfl ?_
  refine zs_lastore C zp_4 dX5_add_21 ?_
  refine zs_aload_n C dX5_add_22 rfl ?_
  refine zs_dup C dX5_add_23 ?_
  refine zs_getI C zp_3 zF5 (j := 1) ⟨by decide, rfl⟩ zw_63 dX5_add_24 ?_
  refine zs_iconst C dX5_add_27 (by decide) ?_
  refine zs_iadd C dX5_add_28 ?_
  refine zs_putI C zp_3 zF5 (j := 1) ⟨by decide, rfl⟩ ⟨rfl, by decide +kernel⟩ zw_63 dX5_add_29 ?_
  exact kX5_add_32 C hq
def xX5_add_0 (Q : zq_Q) : zq_P := zi_aload 0 (zi_getI 3 1 (zi_aload 0 (zi_getR 3 4 (zi_alen 4 16 (zi_if2 (fun x y => y ≤ x) (xX5_add_32 Q) (xX5_add_12 Q))))))
theorem kX5_add_0 {X : zq_X} {d : Nat} (C : zq_C X cX5_add 3 RX5 d) {Q : zq_Q} (hq : zq_R X none 0 Q) : zq_ok X 3 0 (xX5_add_0 Q) := by
  refine zs_aload_n C dX5_add_0 rfl ?_
  refine zs_getI C zp_3 zF5 (j := 1) ⟨by decide, rfl⟩ zw_63 dX5_add_1 ?_
  refine zs_aload_n C dX5_add_4 rfl ?_
  refine zs_getR C zp_3 zF5 (j := 0) ⟨by decide, rfl⟩ zw_61 dX5_add_5 ?_
  refine zs_alen C (Or.inr zp_4) dX5_add_8 ?_
  exact zs_icmp_ge C dX5_add_9 (by decide) (kX5_add_32 C hq) (kX5_add_12 C hq)
theorem mX5_add {d : Nat} {spec : zq_Sp} (v : ∀ args h Q, spec args h Q → (zq_a args).length ≤ 3 ∧ xX5_add_0 Q (zq_l0 3 args) [] h) : zq_M yX5_add cX5_add 3 none 0 d spec := by
  refine zq_met (by decide +kernel) (by decide) (fun X Q args h C hq hs => ⟨(v args h Q hs).1, _, ?_, (v args h Q hs).2⟩)
  exact kX5_add_0 C hq
/-! ToOneCrumb$Row.addFraction(JJ)V -/
theorem dX5_addFraction_0 : decode cX5_addFraction 0 = .ok (.lload_n 1, 1) := by decide +kernel
theorem dX5_addFraction_1 : decode cX5_addFraction 1 = .ok (.lstore 5, 2) := by decide +kernel
theorem dX5_addFraction_3 : decode cX5_addFraction 3 = .ok (.lload_n 3, 1) := by decide +kernel
theorem dX5_addFraction_4 : decode cX5_addFraction 4 = .ok (.lstore 7, 2) := by decide +kernel
theorem dX5_addFraction_6 : decode cX5_addFraction 6 = .ok (.iconst 0, 1) := by decide +kernel
theorem dX5_addFraction_7 : decode cX5_addFraction 7 = .ok (.istore 9, 2) := by decide +kernel
theorem dX5_addFraction_9 : decode cX5_addFraction 9 = .ok (.iload 9, 2) := by decide +kernel
theorem dX5_addFraction_11 : decode cX5_addFraction 11 = .ok (.bipush 100, 2) := by decide +kernel
theorem dX5_addFraction_13 : decode cX5_addFraction 13 = .ok (.if_icmp .ge 31, 3) := by decide +kernel
theorem dX5_addFraction_16 : decode cX5_addFraction 16 = .ok (.lload 7, 2) := by decide +kernel
theorem dX5_addFraction_18 : decode cX5_addFraction 18 = .ok (.lconst 0, 1) := by decide +kernel
theorem dX5_addFraction_19 : decode cX5_addFraction 19 = .ok (.lcmp, 1) := by decide +kernel
theorem dX5_addFraction_20 : decode cX5_addFraction 20 = .ok (.ifCond .eq 24, 3) := by decide +kernel
theorem dX5_addFraction_23 : decode cX5_addFraction 23 = .ok (.lload 5, 2) := by decide +kernel
theorem dX5_addFraction_25 : decode cX5_addFraction 25 = .ok (.lload 7, 2) := by decide +kernel
theorem dX5_addFraction_27 : decode cX5_addFraction 27 = .ok (.lrem, 1) := by decide +kernel
theorem dX5_addFraction_28 : decode cX5_addFraction 28 = .ok (.lstore 10, 2) := by decide +kernel
theorem dX5_addFraction_30 : decode cX5_addFraction 30 = .ok (.lload 7, 2) := by decide +kernel
theorem dX5_addFraction_32 : decode cX5_addFraction 32 = .ok (.lstore 5, 2) := by decide +kernel
theorem dX5_addFraction_34 : decode cX5_addFraction 34 = .ok (.lload 10, 2) := by decide +kernel
theorem dX5_addFraction_36 : decode cX5_addFraction 36 = .ok (.lstore 7, 2) := by decide +kernel
theorem dX5_addFraction_38 : decode cX5_addFraction 38 = .ok (.iinc 9 1, 3) := by decide +kernel
theorem dX5_addFraction_41 : decode cX5_addFraction 41 = .ok (.goto (-32), 3) := by decide +kernel
theorem dX5_addFraction_44 : decode cX5_addFraction 44 = .ok (.aload_n 0, 1) := by decide +kernel
theorem dX5_addFraction_45 : decode cX5_addFraction 45 = .ok (.lload 5, 2) := by decide +kernel
theorem dX5_addFraction_47 : decode cX5_addFraction 47 = .ok (.lconst 0, 1) := by decide +kernel
theorem dX5_addFraction_48 : decode cX5_addFraction 48 = .ok (.lcmp, 1) := by decide +kernel
theorem dX5_addFraction_49 : decode cX5_addFraction 49 = .ok (.ifCond .ne 7, 3) := by decide +kernel
theorem dX5_addFraction_52 : decode cX5_addFraction 52 = .ok (.lload_n 1, 1) := by decide +kernel
theorem dX5_addFraction_53 : decode cX5_addFraction 53 = .ok (.goto 7, 3) := by decide +kernel
theorem dX5_addFraction_56 : decode cX5_addFraction 56 = .ok (.lload_n 1, 1) := by decide +kernel
theorem dX5_addFraction_57 : decode cX5_addFraction 57 = .ok (.lload 5, 2) := by decide +kernel
theorem dX5_addFraction_59 : decode cX5_addFraction 59 = .ok (.ldiv, 1) := by decide +kernel
theorem dX5_addFraction_60 : decode cX5_addFraction 60 = .ok (.invokevirtual 19, 3) := by decide +kernel
theorem dX5_addFraction_63 : decode cX5_addFraction 63 = .ok (.aload_n 0, 1) := by decide +kernel
theorem dX5_addFraction_64 : decode cX5_addFraction 64 = .ok (.lload 5, 2) := by decide +kernel
theorem dX5_addFraction_66 : decode cX5_addFraction 66 = .ok (.lconst 0, 1) := by decide +kernel
theorem dX5_addFraction_67 : decode cX5_addFraction 67 = .ok (.lcmp, 1) := by decide +kernel
theorem dX5_addFraction_68 : decode cX5_addFraction 68 = .ok (.ifCond .ne 7, 3) := by decide +kernel
theorem dX5_addFraction_71 : decode cX5_addFraction 71 = .ok (.lload_n 3, 1) := by decide +kernel
theorem dX5_addFraction_72 : decode cX5_addFraction 72 = .ok (.goto 7, 3) := by decide +kernel
theorem dX5_addFraction_75 : decode cX5_addFraction 75 = .ok (.lload_n 3, 1) := by decide +kernel
theorem dX5_addFraction_76 : decode cX5_addFraction 76 = .ok (.lload 5, 2) := by decide +kernel
theorem dX5_addFraction_78 : decode cX5_addFraction 78 = .ok (.ldiv, 1) := by decide +kernel
theorem dX5_addFraction_79 : decode cX5_addFraction 79 = .ok (.invokevirtual 19, 3) := by decide +kernel
theorem dX5_addFraction_82 : decode cX5_addFraction 82 = .ok (.return_, 1) := by decide +kernel
def xX5_addFraction_79 (s_X5_add : zq_Sp) (J9 : zq_P) (Q : zq_Q) : zq_P := zi_callV 1 3 s_X5_add (zi_vret Q)
theorem kX5_addFraction_79 {X : zq_X} {d : Nat} (C : zq_C X cX5_addFraction 12 RX5 d) {d_X5_add : Nat} {s_X5_add : zq_Sp} (h_X5_add : zq_M yX5_add cX5_add 3 none 0 d_X5_add s_X5_add) (g_X5_add : d_X5_add + 1 ≤ d) {J9 : zq_P} (j9 : zq_ok X 12 9 J9) {Q : zq_Q} (hq : zq_R X none 0 Q) : zq_ok X 12 79 (xX5_addFraction_79 s_X5_add J9 Q) := by
  refine zs_callV C h_X5_add g_X5_add zy_X5_add zp_3 (show vwCl[5]? = some (RX5, TX5, 2) from rfl) zw_711 zw_657 zs9_X5_add dX5_addFraction_79 ?_
  exact zs_vret C hq dX5_addFraction_82
def xX5_addFraction_75 (s_X5_add : zq_Sp) (J9 : zq_P) (Q : zq_Q) : zq_P := zi_lload 3 (zi_lload 5 (zi_ldv (fun x y => x / y) ((xX5_addFraction_79 s_X5_add J9 Q))))
theorem kX5_addFraction_75 {X : zq_X} {d : Nat} (C : zq_C X cX5_addFraction 12 RX5 d) {d_X5_add : Nat} {s_X5_add : zq_Sp} (h_X5_add : zq_M yX5_add cX5_add 3 none 0 d_X5_add s_X5_add) (g_X5_add : d_X5_add + 1 ≤ d) {J9 : zq_P} (j9 : zq_ok X 12 9 J9) {Q : zq_Q} (hq : zq_R X none 0 Q) : zq_ok X 12 75 (xX5_addFraction_75 s_X5_add J9 Q) := by
  refine zs_lload_n C dX5_addFraction_75 rfl ?_
  refine zs_lload C dX5_addFraction_76 ?_
  refine zs_ldiv C dX5_addFraction_78 ?_
  exact kX5_addFraction_79 C h_X5_add g_X5_add j9 hq
def xX5_addFraction_71 (s_X5_add : zq_Sp) (J9 : zq_P) (Q : zq_Q) : zq_P := zi_lload 3 ((xX5_addFraction_79 s_X5_add J9 Q))
theorem kX5_addFraction_71 {X : zq_X} {d : Nat} (C : zq_C X cX5_addFraction 12 RX5 d) {d_X5_add : Nat} {s_X5_add : zq_Sp} (h_X5_add : zq_M yX5_add cX5_add 3 none 0 d_X5_add s_X5_add) (g_X5_add : d_X5_add + 1 ≤ d) {J9 : zq_P} (j9 : zq_ok X 12 9 J9) {Q : zq_Q} (hq : zq_R X none 0 Q) : zq_ok X 12 71 (xX5_addFraction_71 s_X5_add J9 Q) := by
  refine zs_lload_n C dX5_addFraction_71 rfl ?_
  exact zs_goto C dX5_addFraction_72 (by decide) (kX5_addFraction_79 C h_X5_add g_X5_add j9 hq)
def xX5_addFraction_60 (s_X5_add : zq_Sp) (J9 : zq_P) (Q : zq_Q) : zq_P := zi_callV 1 3 s_X5_add (zi_aload 0 (zi_lload 5 (zi_push (.long 0) (zi_lcmp (zi_if1 (fun x => x = 0) (xX5_addFraction_71 s_X5_add J9 Q) (xX5_addFraction_75 s_X5_add J9 Q))))))
theorem kX5_addFraction_60 {X : zq_X} {d : Nat} (C : zq_C X cX5_addFraction 12 RX5 d) {d_X5_add : Nat} {s_X5_add : zq_Sp} (h_X5_add : zq_M yX5_add cX5_add 3 none 0 d_X5_add s_X5_add) (g_X5_add : d_X5_add + 1 ≤ d) {J9 : zq_P} (j9 : zq_ok X 12 9 J9) {Q : zq_Q} (hq : zq_R X none 0 Q) : zq_ok X 12 60 (xX5_addFraction_60 s_X5_add J9 Q) := by
  refine zs_callV C h_X5_add g_X5_add zy_X5_add zp_3 (show vwCl[5]? = some (RX5, TX5, 2) from rfl) zw_711 zw_657 zs9_X5_add dX5_addFraction_60 ?_
  refine zs_aload_n C dX5_addFraction_63 rfl ?_
  refine zs_lload C dX5_addFraction_64 ?_
  refine zs_lconst C dX5_addFraction_66 (by decide) ?_
  refine zs_lcmp C dX5_addFraction_67 ?_
  exact zs_if_ne C dX5_addFraction_68 (by decide) (kX5_addFraction_75 C h_X5_add g_X5_add j9 hq) (kX5_addFraction_71 C h_X5_add g_X5_add j9 hq)
def xX5_addFraction_56 (s_X5_add : zq_Sp) (J9 : zq_P) (Q : zq_Q) : zq_P := zi_lload 1 (zi_lload 5 (zi_ldv (fun x y => x / y) ((xX5_addFraction_60 s_X5_add J9 Q))))
theorem kX5_addFraction_56 {X : zq_X} {d : Nat} (C : zq_C X cX5_addFraction 12 RX5 d) {d_X5_add : Nat} {s_X5_add : zq_Sp} (h_X5_add : zq_M yX5_add cX5_add 3 none 0 d_X5_add s_X5_add) (g_X5_add : d_X5_add + 1 ≤ d) {J9 : zq_P} (j9 : zq_ok X 12 9 J9) {Q : zq_Q} (hq : zq_R X none 0 Q) : zq_ok X 12 56 (xX5_addFraction_56 s_X5_add J9 Q) := by
  refine zs_lload_n C dX5_addFraction_56 rfl ?_
  refine zs_lload C dX5_addFraction_57 ?_
  refine zs_ldiv C dX5_addFraction_59 ?_
  exact kX5_addFraction_60 C h_X5_add g_X5_add j9 hq
def xX5_addFraction_52 (s_X5_add : zq_Sp) (J9 : zq_P) (Q : zq_Q) : zq_P := zi_lload 1 ((xX5_addFraction_60 s_X5_add J9 Q))
theorem kX5_addFraction_52 {X : zq_X} {d : Nat} (C : zq_C X cX5_addFraction 12 RX5 d) {d_X5_add : Nat} {s_X5_add : zq_Sp} (h_X5_add : zq_M yX5_add cX5_add 3 none 0 d_X5_add s_X5_add) (g_X5_add : d_X5_add + 1 ≤ d) {J9 : zq_P} (j9 : zq_ok X 12 9 J9) {Q : zq_Q} (hq : zq_R X none 0 Q) : zq_ok X 12 52 (xX5_addFraction_52 s_X5_add J9 Q) := by
  refine zs_lload_n C dX5_addFraction_52 rfl ?_
  exact zs_goto C dX5_addFraction_53 (by decide) (kX5_addFraction_60 C h_X5_add g_X5_add j9 hq)
def xX5_addFraction_44 (s_X5_add : zq_Sp) (J9 : zq_P) (Q : zq_Q) : zq_P := zi_aload 0 (zi_lload 5 (zi_push (.long 0) (zi_lcmp (zi_if1 (fun x => x = 0) (xX5_addFraction_52 s_X5_add J9 Q) (xX5_addFraction_56 s_X5_add J9 Q)))))
theorem kX5_addFraction_44 {X : zq_X} {d : Nat} (C : zq_C X cX5_addFraction 12 RX5 d) {d_X5_add : Nat} {s_X5_add : zq_Sp} (h_X5_add : zq_M yX5_add cX5_add 3 none 0 d_X5_add s_X5_add) (g_X5_add : d_X5_add + 1 ≤ d) {J9 : zq_P} (j9 : zq_ok X 12 9 J9) {Q : zq_Q} (hq : zq_R X none 0 Q) : zq_ok X 12 44 (xX5_addFraction_44 s_X5_add J9 Q) := by
  refine zs_aload_n C dX5_addFraction_44 rfl ?_
  refine zs_lload C dX5_addFraction_45 ?_
  refine zs_lconst C dX5_addFraction_47 (by decide) ?_
  refine zs_lcmp C dX5_addFraction_48 ?_
  exact zs_if_ne C dX5_addFraction_49 (by decide) (kX5_addFraction_56 C h_X5_add g_X5_add j9 hq) (kX5_addFraction_52 C h_X5_add g_X5_add j9 hq)
def xX5_addFraction_23 (s_X5_add : zq_Sp) (J9 : zq_P) (Q : zq_Q) : zq_P := zi_lload 5 (zi_lload 7 (zi_ldv zf_lrem (zi_lstore 10 (zi_lload 7 (zi_lstore 5 (zi_lload 10 (zi_lstore 7 (zi_iinc 9 1 (J9)))))))))
theorem kX5_addFraction_23 {X : zq_X} {d : Nat} (C : zq_C X cX5_addFraction 12 RX5 d) {d_X5_add : Nat} {s_X5_add : zq_Sp} (h_X5_add : zq_M yX5_add cX5_add 3 none 0 d_X5_add s_X5_add) (g_X5_add : d_X5_add + 1 ≤ d) {J9 : zq_P} (j9 : zq_ok X 12 9 J9) {Q : zq_Q} (hq : zq_R X none 0 Q) : zq_ok X 12 23 (xX5_addFraction_23 s_X5_add J9 Q) := by
  refine zs_lload C dX5_addFraction_23 ?_
  refine zs_lload C dX5_addFraction_25 ?_
  refine zs_lrem C dX5_addFraction_27 ?_
  refine zs_lstore C dX5_addFraction_28 (by decide) ?_
  refine zs_lload C dX5_addFraction_30 ?_
  refine zs_lstore C dX5_addFraction_32 (by decide) ?_
  refine zs_lload C dX5_addFraction_34 ?_
  refine zs_lstore C dX5_addFraction_36 (by decide) ?_
  refine zs_iinc C dX5_addFraction_38 (by decide) (by decide) ?_
  exact zs_goto C dX5_addFraction_41 (by decide) (j9)
def xX5_addFraction_16 (s_X5_add : zq_Sp) (J9 : zq_P) (Q : zq_Q) : zq_P := zi_lload 7 (zi_push (.long 0) (zi_lcmp (zi_if1 (fun x => x = 0) (xX5_addFraction_44 s_X5_add J9 Q) (xX5_addFraction_23 s_X5_add J9 Q))))
theorem kX5_addFraction_16 {X : zq_X} {d : Nat} (C : zq_C X cX5_addFraction 12 RX5 d) {d_X5_add : Nat} {s_X5_add : zq_Sp} (h_X5_add : zq_M yX5_add cX5_add 3 none 0 d_X5_add s_X5_add) (g_X5_add : d_X5_add + 1 ≤ d) {J9 : zq_P} (j9 : zq_ok X 12 9 J9) {Q : zq_Q} (hq : zq_R X none 0 Q) : zq_ok X 12 16 (xX5_addFraction_16 s_X5_add J9 Q) := by
  refine zs_lload C dX5_addFraction_16 ?_
  refine zs_lconst C dX5_addFraction_18 (by decide) ?_
  refine zs_lcmp C dX5_addFraction_19 ?_
  exact zs_if_eq C dX5_addFraction_20 (by decide) (kX5_addFraction_44 C h_X5_add g_X5_add j9 hq) (kX5_addFraction_23 C h_X5_add g_X5_add j9 hq)
def xX5_addFraction_9 (s_X5_add : zq_Sp) (J9 : zq_P) (Q : zq_Q) : zq_P := zi_iload 9 (zi_push (.int 100) (zi_if2 (fun x y => y ≤ x) (xX5_addFraction_44 s_X5_add J9 Q) (xX5_addFraction_16 s_X5_add J9 Q)))
theorem kX5_addFraction_9 {X : zq_X} {d : Nat} (C : zq_C X cX5_addFraction 12 RX5 d) {d_X5_add : Nat} {s_X5_add : zq_Sp} (h_X5_add : zq_M yX5_add cX5_add 3 none 0 d_X5_add s_X5_add) (g_X5_add : d_X5_add + 1 ≤ d) {J9 : zq_P} (j9 : zq_ok X 12 9 J9) {Q : zq_Q} (hq : zq_R X none 0 Q) : zq_ok X 12 9 (xX5_addFraction_9 s_X5_add J9 Q) := by
  refine zs_iload C dX5_addFraction_9 ?_
  refine zs_bipush C dX5_addFraction_11 (by decide) ?_
  exact zs_icmp_ge C dX5_addFraction_13 (by decide) (kX5_addFraction_44 C h_X5_add g_X5_add j9 hq) (kX5_addFraction_16 C h_X5_add g_X5_add j9 hq)
def xX5_addFraction_0 (s_X5_add : zq_Sp) (J9 : zq_P) (Q : zq_Q) : zq_P := zi_lload 1 (zi_lstore 5 (zi_lload 3 (zi_lstore 7 (zi_push (.int 0) (zi_istore 9 (J9))))))
theorem kX5_addFraction_0 {X : zq_X} {d : Nat} (C : zq_C X cX5_addFraction 12 RX5 d) {d_X5_add : Nat} {s_X5_add : zq_Sp} (h_X5_add : zq_M yX5_add cX5_add 3 none 0 d_X5_add s_X5_add) (g_X5_add : d_X5_add + 1 ≤ d) {J9 : zq_P} (j9 : zq_ok X 12 9 J9) {Q : zq_Q} (hq : zq_R X none 0 Q) : zq_ok X 12 0 (xX5_addFraction_0 s_X5_add J9 Q) := by
  refine zs_lload_n C dX5_addFraction_0 rfl ?_
  refine zs_lstore C dX5_addFraction_1 (by decide) ?_
  refine zs_lload_n C dX5_addFraction_3 rfl ?_
  refine zs_lstore C dX5_addFraction_4 (by decide) ?_
  refine zs_iconst C dX5_addFraction_6 (by decide) ?_
  refine zs_istore C dX5_addFraction_7 (by decide) ?_
  exact j9
theorem mX5_addFraction {d : Nat} {spec : zq_Sp} {σ9 : Type} {d_X5_add : Nat} {s_X5_add : zq_Sp} (h_X5_add : zq_M yX5_add cX5_add 3 none 0 d_X5_add s_X5_add) (g_X5_add : d_X5_add + 1 ≤ d) (μ9 : σ9 → Nat) (I9 : zq_Q → σ9 → zq_P) (v : ∀ args h Q, spec args h Q → (zq_a args).length ≤ 12 ∧ xX5_addFraction_0 s_X5_add (fun ls st h => ∃ b, I9 Q b ls st h) Q (zq_l0 12 args) [] h) (v9 : ∀ Q a ls st h, I9 Q a ls st h → xX5_addFraction_9 s_X5_add (fun ls st h => ∃ b, μ9 b < μ9 a ∧ I9 Q b ls st h) Q ls st h) : zq_M yX5_addFraction cX5_addFraction 12 none 0 d spec := by
  refine zq_met (by decide +kernel) (by decide) (fun X Q args h C hq hs => ⟨(v args h Q hs).1, _, ?_, (v args h Q hs).2⟩)
  have hl := zq_loop1 (X := X) (nL := 12) (pc1 := 9) μ9 (I9 Q) (fun J9 => xX5_addFraction_9 s_X5_add J9 Q) (fun j9 => kX5_addFraction_9 C h_X5_add g_X5_add j9 hq) (v9 Q)
  exact kX5_addFraction_0 C h_X5_add g_X5_add hl hq
/-! ToOneCrumb$Loaf.read(LToOneCrumb$Text;)Z -/
theorem dX2_read_0 : decode cX2_read 0 = .ok (.aload_n 1, 1) := by decide +kernel
theorem dX2_read_1 : decode cX2_read 1 = .ok (.bipush 64, 2) := by decide +kernel
theorem dX2_read_3 : decode cX2_read 3 = .ok (.invokevirtual 21, 3) := by decide +kernel
theorem dX2_read_6 : decode cX2_read 6 = .ok (.aload_n 0, 1) := by decide +kernel
theorem dX2_read_7 : decode cX2_read 7 = .ok (.iconst 0, 1) := by decide +kernel
theorem dX2_read_8 : decode cX2_read 8 = .ok (.putfield 27, 3) := by decide +kernel
theorem dX2_read_11 : decode cX2_read 11 = .ok (.aload_n 0, 1) := by decide +kernel
theorem dX2_read_12 : decode cX2_read 12 = .ok (.getfield 27, 3) := by decide +kernel
theorem dX2_read_15 : decode cX2_read 15 = .ok (.bipush 16, 2) := by decide +kernel
theorem dX2_read_17 : decode cX2_read 17 = .ok (.if_icmp .ge 95, 3) := by decide +kernel
theorem dX2_read_20 : decode cX2_read 20 = .ok (.aload_n 1, 1) := by decide +kernel
theorem dX2_read_21 : decode cX2_read 21 = .ok (.invokevirtual 31, 3) := by decide +kernel
theorem dX2_read_24 : decode cX2_read 24 = .ok (.ifCond .ne 88, 3) := by decide +kernel
theorem dX2_read_27 : decode cX2_read 27 = .ok (.aload_n 1, 1) := by decide +kernel
theorem dX2_read_28 : decode cX2_read 28 = .ok (.iconst 1, 1) := by decide +kernel
theorem dX2_read_29 : decode cX2_read 29 = .ok (.invokevirtual 35, 3) := by decide +kernel
theorem dX2_read_32 : decode cX2_read 32 = .ok (.istore_n 2, 1) := by decide +kernel
theorem dX2_read_33 : decode cX2_read 33 = .ok (.iload_n 2, 1) := by decide +kernel
theorem dX2_read_34 : decode cX2_read 34 = .ok (.ifCond .ge 5, 3) := by decide +kernel
theorem dX2_read_37 : decode cX2_read 37 = .ok (.iconst 0, 1) := by decide +kernel
theorem dX2_read_38 : decode cX2_read 38 = .ok (.ireturn, 1) := by decide +kernel
theorem dX2_read_39 : decode cX2_read 39 = .ok (.aload_n 0, 1) := by decide +kernel
theorem dX2_read_40 : decode cX2_read 40 = .ok (.getfield 9, 3) := by decide +kernel
theorem dX2_read_43 : decode cX2_read 43 = .ok (.aload_n 0, 1) := by decide +kernel
theorem dX2_read_44 : decode cX2_read 44 = .ok (.getfield 27, 3) := by decide +kernel
theorem dX2_read_47 : decode cX2_read 47 = .ok (.iload_n 2, 1) := by decide +kernel
theorem dX2_read_48 : decode cX2_read 48 = .ok (.iastore, 1) := by decide +kernel
theorem dX2_read_49 : decode cX2_read 49 = .ok (.aload_n 1, 1) := by decide +kernel
theorem dX2_read_50 : decode cX2_read 50 = .ok (.bipush 9, 2) := by decide +kernel
theorem dX2_read_52 : decode cX2_read 52 = .ok (.invokevirtual 39, 3) := by decide +kernel
theorem dX2_read_55 : decode cX2_read 55 = .ok (.istore_n 3, 1) := by decide +kernel
theorem dX2_read_56 : decode cX2_read 56 = .ok (.aload_n 0, 1) := by decide +kernel
theorem dX2_read_57 : decode cX2_read 57 = .ok (.getfield 15, 3) := by decide +kernel
theorem dX2_read_60 : decode cX2_read 60 = .ok (.aload_n 0, 1) := by decide +kernel
theorem dX2_read_61 : decode cX2_read 61 = .ok (.getfield 27, 3) := by decide +kernel
theorem dX2_read_64 : decode cX2_read 64 = .ok (.iload_n 3, 1) := by decide +kernel
theorem dX2_read_65 : decode cX2_read 65 = .ok (.ifCond .ge 7, 3) := by decide +kernel
theorem dX2_read_68 : decode cX2_read 68 = .ok (.iconst 0, 1) := by decide +kernel
theorem dX2_read_69 : decode cX2_read 69 = .ok (.goto 6, 3) := by decide +kernel
theorem dX2_read_72 : decode cX2_read 72 = .ok (.iload_n 3, 1) := by decide +kernel
theorem dX2_read_73 : decode cX2_read 73 = .ok (.iconst 1, 1) := by decide +kernel
theorem dX2_read_74 : decode cX2_read 74 = .ok (.iadd, 1) := by decide +kernel
theorem dX2_read_75 : decode cX2_read 75 = .ok (.iastore, 1) := by decide +kernel
theorem dX2_read_76 : decode cX2_read 76 = .ok (.aload_n 0, 1) := by decide +kernel
theorem dX2_read_77 : decode cX2_read 77 = .ok (.getfield 18, 3) := by decide +kernel
theorem dX2_read_80 : decode cX2_read 80 = .ok (.aload_n 0, 1) := by decide +kernel
theorem dX2_read_81 : decode cX2_read 81 = .ok (.getfield 27, 3) := by decide +kernel
theorem dX2_read_84 : decode cX2_read 84 = .ok (.aload_n 1, 1) := by decide +kernel
theorem dX2_read_85 : decode cX2_read 85 = .ok (.bipush 42, 2) := by decide +kernel
theorem dX2_read_87 : decode cX2_read 87 = .ok (.invokevirtual 42, 3) := by decide +kernel
theorem dX2_read_90 : decode cX2_read 90 = .ok (.ifCond .eq 7, 3) := by decide +kernel
theorem dX2_read_93 : decode cX2_read 93 = .ok (.iconst 1, 1) := by decide +kernel
theorem dX2_read_94 : decode cX2_read 94 = .ok (.goto 4, 3) := by decide +kernel
theorem dX2_read_97 : decode cX2_read 97 = .ok (.iconst 0, 1) := by decide +kernel
theorem dX2_read_98 : decode cX2_read 98 = .ok (.iastore, 1) := by decide +kernel
theorem dX2_read_99 : decode cX2_read 99 = .ok (.aload_n 0, 1) := by decide +kernel
theorem dX2_read_100 : decode cX2_read 100 = .ok (.dup, 1) := by decide +kernel
theorem dX2_read_101 : decode cX2_read 101 = .ok (.getfield 27, 3) := by decide +kernel
theorem dX2_read_104 : decode cX2_read 104 = .ok (.iconst 1, 1) := by decide +kernel
theorem dX2_read_105 : decode cX2_read 105 = .ok (.iadd, 1) := by decide +kernel
theorem dX2_read_106 : decode cX2_read 106 = .ok (.putfield 27, 3) := by decide +kernel
theorem dX2_read_109 : decode cX2_read 109 = .ok (.goto (-98), 3) := by decide +kernel
theorem dX2_read_112 : decode cX2_read 112 = .ok (.aload_n 1, 1) := by decide +kernel
theorem dX2_read_113 : decode cX2_read 113 = .ok (.invokevirtual 31, 3) := by decide +kernel
theorem dX2_read_116 : decode cX2_read 116 = .ok (.ireturn, 1) := by decide +kernel
def xX2_read_112 (s_X8_start : zq_Sp) (s_X8_isFinished : zq_Sp) (s_X8_takeDigit : zq_Sp) (s_X8_takeLetter : zq_Sp) (s_X8_skip : zq_Sp) (J11 : zq_P) (Q : zq_Q) : zq_P := zi_aload 1 (zi_callV 0 1 s_X8_isFinished (zi_zret Q))
theorem kX2_read_112 {X : zq_X} {d : Nat} (C : zq_C X cX2_read 4 RX2 d) {d_X8_start : Nat} {s_X8_start : zq_Sp} (h_X8_start : zq_M yX8_start cX8_start 2 none 0 d_X8_start s_X8_start) (g_X8_start : d_X8_start + 1 ≤ d) {d_X8_isFinished : Nat} {s_X8_isFinished : zq_Sp} (h_X8_isFinished : zq_M yX8_isFinished cX8_isFinished 1 (some .boolean) 1 d_X8_isFinished s_X8_isFinished) (g_X8_isFinished : d_X8_isFinished + 1 ≤ d) {d_X8_takeDigit : Nat} {s_X8_takeDigit : zq_Sp} (h_X8_takeDigit : zq_M yX8_takeDigit cX8_takeDigit 3 (some .int) 1 d_X8_takeDigit s_X8_takeDigit) (g_X8_takeDigit : d_X8_takeDigit + 1 ≤ d) {d_X8_takeLetter : Nat} {s_X8_takeLetter : zq_Sp} (h_X8_takeLetter : zq_M yX8_takeLetter cX8_takeLetter 3 (some .int) 1 d_X8_takeLetter s_X8_takeLetter) (g_X8_takeLetter : d_X8_takeLetter + 1 ≤ d) {d_X8_skip : Nat} {s_X8_skip : zq_Sp} (h_X8_skip : zq_M yX8_skip cX8_skip 2 (some .boolean) 1 d_X8_skip s_X8_skip) (g_X8_skip : d_X8_skip + 1 ≤ d) {J11 : zq_P} (j11 : zq_ok X 4 11 J11) {Q : zq_Q} (hq : zq_R X (some .boolean) 1 Q) : zq_ok X 4 112 (xX2_read_112 s_X8_start s_X8_isFinished s_X8_takeDigit s_X8_takeLetter s_X8_skip J11 Q) := by
  refine zs_aload_n C dX2_read_112 rfl ?_
  refine zs_callV C h_X8_isFinished g_X8_isFinished zy_X8_isFinished zp_1 (show vwCl[8]? = some (RX8, TX8, 4) from rfl) zw_397 zw_398 zs9_X8_isFinished dX2_read_113 ?_
  exact zs_zret C hq dX2_read_116
def xX2_read_98 (s_X8_start : zq_Sp) (s_X8_isFinished : zq_Sp) (s_X8_takeDigit : zq_Sp) (s_X8_takeLetter : zq_Sp) (s_X8_skip : zq_Sp) (J11 : zq_P) (Q : zq_Q) : zq_P := zi_astI 47 16 (zi_aload 0 (zi_dup (zi_getI 44 3 (zi_push (.int 1) (zi_i2 (fun x y => x + y) (zi_putI 44 3 (J11)))))))
theorem kX2_read_98 {X : zq_X} {d : Nat} (C : zq_C X cX2_read 4 RX2 d) {d_X8_start : Nat} {s_X8_start : zq_Sp} (h_X8_start : zq_M yX8_start cX8_start 2 none 0 d_X8_start s_X8_start) (g_X8_start : d_X8_start + 1 ≤ d) {d_X8_isFinished : Nat} {s_X8_isFinished : zq_Sp} (h_X8_isFinished : zq_M yX8_isFinished cX8_isFinished 1 (some .boolean) 1 d_X8_isFinished s_X8_isFinished) (g_X8_isFinished : d_X8_isFinished + 1 ≤ d) {d_X8_takeDigit : Nat} {s_X8_takeDigit : zq_Sp} (h_X8_takeDigit : zq_M yX8_takeDigit cX8_takeDigit 3 (some .int) 1 d_X8_takeDigit s_X8_takeDigit) (g_X8_takeDigit : d_X8_takeDigit + 1 ≤ d) {d_X8_takeLetter : Nat} {s_X8_takeLetter : zq_Sp} (h_X8_takeLetter : zq_M yX8_takeLetter cX8_takeLetter 3 (some .int) 1 d_X8_takeLetter s_X8_takeLetter) (g_X8_takeLetter : d_X8_takeLetter + 1 ≤ d) {d_X8_skip : Nat} {s_X8_skip : zq_Sp} (h_X8_skip : zq_M yX8_skip cX8_skip 2 (some .boolean) 1 d_X8_skip s_X8_skip) (g_X8_skip : d_X8_skip + 1 ≤ d) {J11 : zq_P} (j11 : zq_ok X 4 11 J11) {Q : zq_Q} (hq : zq_R X (some .boolean) 1 Q) : zq_ok X 4 98 (xX2_read_98 s_X8_start s_X8_isFinished s_X8_takeDigit s_X8_takeLetter s_X8_skip J11 Q) := by
  refine zs_iastore C zp_47 dX2_read_98 ?_
  refine zs_aload_n C dX2_read_99 rfl ?_
  refine zs_dup C dX2_read_100 ?_
  refine zs_getI C zp_44 zF2 (j := 3) ⟨by decide, rfl⟩ zw_273 dX2_read_101 ?_
  refine zs_iconst C dX2_read_104 (by decide) ?_
  refine zs_iadd C dX2_read_105 ?_
  refine zs_putI C zp_44 zF2 (j := 3) ⟨by decide, rfl⟩ ⟨rfl, by decide +kernel⟩ zw_273 dX2_read_106 ?_
  exact zs_goto C dX2_read_109 (by decide) (j11)
def xX2_read_97 (s_X8_start : zq_Sp) (s_X8_isFinished : zq_Sp) (s_X8_takeDigit : zq_Sp) (s_X8_takeLetter : zq_Sp) (s_X8_skip : zq_Sp) (J11 : zq_P) (Q : zq_Q) : zq_P := zi_push (.int 0) ((xX2_read_98 s_X8_start s_X8_isFinished s_X8_takeDigit s_X8_takeLetter s_X8_skip J11 Q))
theorem kX2_read_97 {X : zq_X} {d : Nat} (C : zq_C X cX2_read 4 RX2 d) {d_X8_start : Nat} {s_X8_start : zq_Sp} (h_X8_start : zq_M yX8_start cX8_start 2 none 0 d_X8_start s_X8_start) (g_X8_start : d_X8_start + 1 ≤ d) {d_X8_isFinished : Nat} {s_X8_isFinished : zq_Sp} (h_X8_isFinished : zq_M yX8_isFinished cX8_isFinished 1 (some .boolean) 1 d_X8_isFinished s_X8_isFinished) (g_X8_isFinished : d_X8_isFinished + 1 ≤ d) {d_X8_takeDigit : Nat} {s_X8_takeDigit : zq_Sp} (h_X8_takeDigit : zq_M yX8_takeDigit cX8_takeDigit 3 (some .int) 1 d_X8_takeDigit s_X8_takeDigit) (g_X8_takeDigit : d_X8_takeDigit + 1 ≤ d) {d_X8_takeLetter : Nat} {s_X8_takeLetter : zq_Sp} (h_X8_takeLetter : zq_M yX8_takeLetter cX8_takeLetter 3 (some .int) 1 d_X8_takeLetter s_X8_takeLetter) (g_X8_takeLetter : d_X8_takeLetter + 1 ≤ d) {d_X8_skip : Nat} {s_X8_skip : zq_Sp} (h_X8_skip : zq_M yX8_skip cX8_skip 2 (some .boolean) 1 d_X8_skip s_X8_skip) (g_X8_skip : d_X8_skip + 1 ≤ d) {J11 : zq_P} (j11 : zq_ok X 4 11 J11) {Q : zq_Q} (hq : zq_R X (some .boolean) 1 Q) : zq_ok X 4 97 (xX2_read_97 s_X8_start s_X8_isFinished s_X8_takeDigit s_X8_takeLetter s_X8_skip J11 Q) := by
  refine zs_iconst C dX2_read_97 (by decide) ?_
  exact kX2_read_98 C h_X8_start g_X8_start h_X8_isFinished g_X8_isFinished h_X8_takeDigit g_X8_takeDigit h_X8_takeLetter g_X8_takeLetter h_X8_skip g_X8_skip j11 hq
def xX2_read_93 (s_X8_start : zq_Sp) (s_X8_isFinished : zq_Sp) (s_X8_takeDigit : zq_Sp) (s_X8_takeLetter : zq_Sp) (s_X8_skip : zq_Sp) (J11 : zq_P) (Q : zq_Q) : zq_P := zi_push (.int 1) ((xX2_read_98 s_X8_start s_X8_isFinished s_X8_takeDigit s_X8_takeLetter s_X8_skip J11 Q))
theorem kX2_read_93 {X : zq_X} {d : Nat} (C : zq_C X cX2_read 4 RX2 d) {d_X8_start : Nat} {s_X8_start : zq_Sp} (h_X8_start : zq_M yX8_start cX8_start 2 none 0 d_X8_start s_X8_start) (g_X8_start : d_X8_start + 1 ≤ d) {d_X8_isFinished : Nat} {s_X8_isFinished : zq_Sp} (h_X8_isFinished : zq_M yX8_isFinished cX8_isFinished 1 (some .boolean) 1 d_X8_isFinished s_X8_isFinished) (g_X8_isFinished : d_X8_isFinished + 1 ≤ d) {d_X8_takeDigit : Nat} {s_X8_takeDigit : zq_Sp} (h_X8_takeDigit : zq_M yX8_takeDigit cX8_takeDigit 3 (some .int) 1 d_X8_takeDigit s_X8_takeDigit) (g_X8_takeDigit : d_X8_takeDigit + 1 ≤ d) {d_X8_takeLetter : Nat} {s_X8_takeLetter : zq_Sp} (h_X8_takeLetter : zq_M yX8_takeLetter cX8_takeLetter 3 (some .int) 1 d_X8_takeLetter s_X8_takeLetter) (g_X8_takeLetter : d_X8_takeLetter + 1 ≤ d) {d_X8_skip : Nat} {s_X8_skip : zq_Sp} (h_X8_skip : zq_M yX8_skip cX8_skip 2 (some .boolean) 1 d_X8_skip s_X8_skip) (g_X8_skip : d_X8_skip + 1 ≤ d) {J11 : zq_P} (j11 : zq_ok X 4 11 J11) {Q : zq_Q} (hq : zq_R X (some .boolean) 1 Q) : zq_ok X 4 93 (xX2_read_93 s_X8_start s_X8_isFinished s_X8_takeDigit s_X8_takeLetter s_X8_skip J11 Q) := by
  refine zs_iconst C dX2_read_93 (by decide) ?_
  exact zs_goto C dX2_read_94 (by decide) (kX2_read_98 C h_X8_start g_X8_start h_X8_isFinished g_X8_isFinished h_X8_takeDigit g_X8_takeDigit h_X8_takeLetter g_X8_takeLetter h_X8_skip g_X8_skip j11 hq)
def xX2_read_75 (s_X8_start : zq_Sp) (s_X8_isFinished : zq_Sp) (s_X8_takeDigit : zq_Sp) (s_X8_takeLetter : zq_Sp) (s_X8_skip : zq_Sp) (J11 : zq_P) (Q : zq_Q) : zq_P := zi_astI 46 16 (zi_aload 0 (zi_getR 44 47 (zi_aload 0 (zi_getI 44 3 (zi_aload 1 (zi_push (.int 42) (zi_callV 1 1 s_X8_skip (zi_if1 (fun x => x = 0) (xX2_read_97 s_X8_start s_X8_isFinished s_X8_takeDigit s_X8_takeLetter s_X8_skip J11 Q) (xX2_read_93 s_X8_start s_X8_isFinished s_X8_takeDigit s_X8_takeLetter s_X8_skip J11 Q)))))))))
theorem kX2_read_75 {X : zq_X} {d : Nat} (C : zq_C X cX2_read 4 RX2 d) {d_X8_start : Nat} {s_X8_start : zq_Sp} (h_X8_start : zq_M yX8_start cX8_start 2 none 0 d_X8_start s_X8_start) (g_X8_start : d_X8_start + 1 ≤ d) {d_X8_isFinished : Nat} {s_X8_isFinished : zq_Sp} (h_X8_isFinished : zq_M yX8_isFinished cX8_isFinished 1 (some .boolean) 1 d_X8_isFinished s_X8_isFinished) (g_X8_isFinished : d_X8_isFinished + 1 ≤ d) {d_X8_takeDigit : Nat} {s_X8_takeDigit : zq_Sp} (h_X8_takeDigit : zq_M yX8_takeDigit cX8_takeDigit 3 (some .int) 1 d_X8_takeDigit s_X8_takeDigit) (g_X8_takeDigit : d_X8_takeDigit + 1 ≤ d) {d_X8_takeLetter : Nat} {s_X8_takeLetter : zq_Sp} (h_X8_takeLetter : zq_M yX8_takeLetter cX8_takeLetter 3 (some .int) 1 d_X8_takeLetter s_X8_takeLetter) (g_X8_takeLetter : d_X8_takeLetter + 1 ≤ d) {d_X8_skip : Nat} {s_X8_skip : zq_Sp} (h_X8_skip : zq_M yX8_skip cX8_skip 2 (some .boolean) 1 d_X8_skip s_X8_skip) (g_X8_skip : d_X8_skip + 1 ≤ d) {J11 : zq_P} (j11 : zq_ok X 4 11 J11) {Q : zq_Q} (hq : zq_R X (some .boolean) 1 Q) : zq_ok X 4 75 (xX2_read_75 s_X8_start s_X8_isFinished s_X8_takeDigit s_X8_takeLetter s_X8_skip J11 Q) := by
  refine zs_iastore C zp_46 dX2_read_75 ?_
  refine zs_aload_n C dX2_read_76 rfl ?_
  refine zs_getR C zp_44 zF2 (j := 2) ⟨by decide, rfl⟩ zw_269 dX2_read_77 ?_
  refine zs_aload_n C dX2_read_80 rfl ?_
  refine zs_getI C zp_44 zF2 (j := 3) ⟨by decide, rfl⟩ zw_273 dX2_read_81 ?_
  refine zs_aload_n C dX2_read_84 rfl ?_
  refine zs_bipush C dX2_read_85 (by decide) ?_
  refine zs_callV C h_X8_skip g_X8_skip zy_X8_skip zp_1 (show vwCl[8]? = some (RX8, TX8, 4) from rfl) zw_413 zw_414 zs9_X8_skip dX2_read_87 ?_
  exact zs_if_eq C dX2_read_90 (by decide) (kX2_read_97 C h_X8_start g_X8_start h_X8_isFinished g_X8_isFinished h_X8_takeDigit g_X8_takeDigit h_X8_takeLetter g_X8_takeLetter h_X8_skip g_X8_skip j11 hq) (kX2_read_93 C h_X8_start g_X8_start h_X8_isFinished g_X8_isFinished h_X8_takeDigit g_X8_takeDigit h_X8_takeLetter g_X8_takeLetter h_X8_skip g_X8_skip j11 hq)
def xX2_read_72 (s_X8_start : zq_Sp) (s_X8_isFinished : zq_Sp) (s_X8_takeDigit : zq_Sp) (s_X8_takeLetter : zq_Sp) (s_X8_skip : zq_Sp) (J11 : zq_P) (Q : zq_Q) : zq_P := zi_iload 3 (zi_push (.int 1) (zi_i2 (fun x y => x + y) ((xX2_read_75 s_X8_start s_X8_isFinished s_X8_takeDigit s_X8_takeLetter s_X8_skip J11 Q))))
theorem kX2_read_72 {X : zq_X} {d : Nat} (C : zq_C X cX2_read 4 RX2 d) {d_X8_start : Nat} {s_X8_start : zq_Sp} (h_X8_start : zq_M yX8_start cX8_start 2 none 0 d_X8_start s_X8_start) (g_X8_start : d_X8_start + 1 ≤ d) {d_X8_isFinished : Nat} {s_X8_isFinished : zq_Sp} (h_X8_isFinished : zq_M yX8_isFinished cX8_isFinished 1 (some .boolean) 1 d_X8_isFinished s_X8_isFinished) (g_X8_isFinished : d_X8_isFinished + 1 ≤ d) {d_X8_takeDigit : Nat} {s_X8_takeDigit : zq_Sp} (h_X8_takeDigit : zq_M yX8_takeDigit cX8_takeDigit 3 (some .int) 1 d_X8_takeDigit s_X8_takeDigit) (g_X8_takeDigit : d_X8_takeDigit + 1 ≤ d) {d_X8_takeLetter : Nat} {s_X8_takeLetter : zq_Sp} (h_X8_takeLetter : zq_M yX8_takeLetter cX8_takeLetter 3 (some .int) 1 d_X8_takeLetter s_X8_takeLetter) (g_X8_takeLetter : d_X8_takeLetter + 1 ≤ d) {d_X8_skip : Nat} {s_X8_skip : zq_Sp} (h_X8_skip : zq_M yX8_skip cX8_skip 2 (some .boolean) 1 d_X8_skip s_X8_skip) (g_X8_skip : d_X8_skip + 1 ≤ d) {J11 : zq_P} (j11 : zq_ok X 4 11 J11) {Q : zq_Q} (hq : zq_R X (some .boolean) 1 Q) : zq_ok X 4 72 (xX2_read_72 s_X8_start s_X8_isFinished s_X8_takeDigit s_X8_takeLetter s_X8_skip J11 Q) := by
  refine zs_iload_n C dX2_read_72 rfl ?_
  refine zs_iconst C dX2_read_73 (by decide) ?_
  refine zs_iadd C dX2_read_74 ?_
  exact kX2_read_75 C h_X8_start g_X8_start h_X8_isFinished g_X8_isFinished h_X8_takeDigit g_X8_takeDigit h_X8_takeLetter g_X8_takeLetter h_X8_skip g_X8_skip j11 hq
def xX2_read_68 (s_X8_start : zq_Sp) (s_X8_isFinished : zq_Sp) (s_X8_takeDigit : zq_Sp) (s_X8_takeLetter : zq_Sp) (s_X8_skip : zq_Sp) (J11 : zq_P) (Q : zq_Q) : zq_P := zi_push (.int 0) ((xX2_read_75 s_X8_start s_X8_isFinished s_X8_takeDigit s_X8_takeLetter s_X8_skip J11 Q))
theorem kX2_read_68 {X : zq_X} {d : Nat} (C : zq_C X cX2_read 4 RX2 d) {d_X8_start : Nat} {s_X8_start : zq_Sp} (h_X8_start : zq_M yX8_start cX8_start 2 none 0 d_X8_start s_X8_start) (g_X8_start : d_X8_start + 1 ≤ d) {d_X8_isFinished : Nat} {s_X8_isFinished : zq_Sp} (h_X8_isFinished : zq_M yX8_isFinished cX8_isFinished 1 (some .boolean) 1 d_X8_isFinished s_X8_isFinished) (g_X8_isFinished : d_X8_isFinished + 1 ≤ d) {d_X8_takeDigit : Nat} {s_X8_takeDigit : zq_Sp} (h_X8_takeDigit : zq_M yX8_takeDigit cX8_takeDigit 3 (some .int) 1 d_X8_takeDigit s_X8_takeDigit) (g_X8_takeDigit : d_X8_takeDigit + 1 ≤ d) {d_X8_takeLetter : Nat} {s_X8_takeLetter : zq_Sp} (h_X8_takeLetter : zq_M yX8_takeLetter cX8_takeLetter 3 (some .int) 1 d_X8_takeLetter s_X8_takeLetter) (g_X8_takeLetter : d_X8_takeLetter + 1 ≤ d) {d_X8_skip : Nat} {s_X8_skip : zq_Sp} (h_X8_skip : zq_M yX8_skip cX8_skip 2 (some .boolean) 1 d_X8_skip s_X8_skip) (g_X8_skip : d_X8_skip + 1 ≤ d) {J11 : zq_P} (j11 : zq_ok X 4 11 J11) {Q : zq_Q} (hq : zq_R X (some .boolean) 1 Q) : zq_ok X 4 68 (xX2_read_68 s_X8_start s_X8_isFinished s_X8_takeDigit s_X8_takeLetter s_X8_skip J11 Q) := by
  refine zs_iconst C dX2_read_68 (by decide) ?_
  exact zs_goto C dX2_read_69 (by decide) (kX2_read_75 C h_X8_start g_X8_start h_X8_isFinished g_X8_isFinished h_X8_takeDigit g_X8_takeDigit h_X8_takeLetter g_X8_takeLetter h_X8_skip g_X8_skip j11 hq)
def xX2_read_39 (s_X8_start : zq_Sp) (s_X8_isFinished : zq_Sp) (s_X8_takeDigit : zq_Sp) (s_X8_takeLetter : zq_Sp) (s_X8_skip : zq_Sp) (J11 : zq_P) (Q : zq_Q) : zq_P := zi_aload 0 (zi_getR 44 45 (zi_aload 0 (zi_getI 44 3 (zi_iload 2 (zi_astI 45 16 (zi_aload 1 (zi_push (.int 9) (zi_callV 1 1 s_X8_takeLetter (zi_istore 3 (zi_aload 0 (zi_getR 44 46 (zi_aload 0 (zi_getI 44 3 (zi_iload 3 (zi_if1 (fun x => 0 ≤ x) (xX2_read_72 s_X8_start s_X8_isFinished s_X8_takeDigit s_X8_takeLetter s_X8_skip J11 Q) (xX2_read_68 s_X8_start s_X8_isFinished s_X8_takeDigit s_X8_takeLetter s_X8_skip J11 Q))))))))))))))))
theorem kX2_read_39 {X : zq_X} {d : Nat} (C : zq_C X cX2_read 4 RX2 d) {d_X8_start : Nat} {s_X8_start : zq_Sp} (h_X8_start : zq_M yX8_start cX8_start 2 none 0 d_X8_start s_X8_start) (g_X8_start : d_X8_start + 1 ≤ d) {d_X8_isFinished : Nat} {s_X8_isFinished : zq_Sp} (h_X8_isFinished : zq_M yX8_isFinished cX8_isFinished 1 (some .boolean) 1 d_X8_isFinished s_X8_isFinished) (g_X8_isFinished : d_X8_isFinished + 1 ≤ d) {d_X8_takeDigit : Nat} {s_X8_takeDigit : zq_Sp} (h_X8_takeDigit : zq_M yX8_takeDigit cX8_takeDigit 3 (some .int) 1 d_X8_takeDigit s_X8_takeDigit) (g_X8_takeDigit : d_X8_takeDigit + 1 ≤ d) {d_X8_takeLetter : Nat} {s_X8_takeLetter : zq_Sp} (h_X8_takeLetter : zq_M yX8_takeLetter cX8_takeLetter 3 (some .int) 1 d_X8_takeLetter s_X8_takeLetter) (g_X8_takeLetter : d_X8_takeLetter + 1 ≤ d) {d_X8_skip : Nat} {s_X8_skip : zq_Sp} (h_X8_skip : zq_M yX8_skip cX8_skip 2 (some .boolean) 1 d_X8_skip s_X8_skip) (g_X8_skip : d_X8_skip + 1 ≤ d) {J11 : zq_P} (j11 : zq_ok X 4 11 J11) {Q : zq_Q} (hq : zq_R X (some .boolean) 1 Q) : zq_ok X 4 39 (xX2_read_39 s_X8_start s_X8_isFinished s_X8_takeDigit s_X8_takeLetter s_X8_skip J11 Q) := by
  refine zs_aload_n C dX2_read_39 rfl ?_
  refine zs_getR C zp_44 zF2 (j := 0) ⟨by decide, rfl⟩ zw_263 dX2_read_40 ?_
  refine zs_aload_n C dX2_read_43 rfl ?_
  refine zs_getI C zp_44 zF2 (j := 3) ⟨by decide, rfl⟩ zw_273 dX2_read_44 ?_
  refine zs_iload_n C dX2_read_47 rfl ?_
  refine zs_iastore C zp_45 dX2_read_48 ?_
  refine zs_aload_n C dX2_read_49 rfl ?_
  refine zs_bipush C dX2_read_50 (by decide) ?_
  refine zs_callV C h_X8_takeLetter g_X8_takeLetter zy_X8_takeLetter zp_1 (show vwCl[8]? = some (RX8, TX8, 4) from rfl) zw_409 zw_410 zs9_X8_takeLetter dX2_read_52 ?_
  refine zs_istore_n C dX2_read_55 rfl (by decide) ?_
  refine zs_aload_n C dX2_read_56 rfl ?_
  refine zs_getR C zp_44 zF2 (j := 1) ⟨by decide, rfl⟩ zw_266 dX2_read_57 ?_
  refine zs_aload_n C dX2_read_60 rfl ?_
  refine zs_getI C zp_44 zF2 (j := 3) ⟨by decide, rfl⟩ zw_273 dX2_read_61 ?_
  refine zs_iload_n C dX2_read_64 rfl ?_
  exact zs_if_ge C dX2_read_65 (by decide) (kX2_read_72 C h_X8_start g_X8_start h_X8_isFinished g_X8_isFinished h_X8_takeDigit g_X8_takeDigit h_X8_takeLetter g_X8_takeLetter h_X8_skip g_X8_skip j11 hq) (kX2_read_68 C h_X8_start g_X8_start h_X8_isFinished g_X8_isFinished h_X8_takeDigit g_X8_takeDigit h_X8_takeLetter g_X8_takeLetter h_X8_skip g_X8_skip j11 hq)
def xX2_read_37 (s_X8_start : zq_Sp) (s_X8_isFinished : zq_Sp) (s_X8_takeDigit : zq_Sp) (s_X8_takeLetter : zq_Sp) (s_X8_skip : zq_Sp) (J11 : zq_P) (Q : zq_Q) : zq_P := zi_push (.int 0) (zi_zret Q)
theorem kX2_read_37 {X : zq_X} {d : Nat} (C : zq_C X cX2_read 4 RX2 d) {d_X8_start : Nat} {s_X8_start : zq_Sp} (h_X8_start : zq_M yX8_start cX8_start 2 none 0 d_X8_start s_X8_start) (g_X8_start : d_X8_start + 1 ≤ d) {d_X8_isFinished : Nat} {s_X8_isFinished : zq_Sp} (h_X8_isFinished : zq_M yX8_isFinished cX8_isFinished 1 (some .boolean) 1 d_X8_isFinished s_X8_isFinished) (g_X8_isFinished : d_X8_isFinished + 1 ≤ d) {d_X8_takeDigit : Nat} {s_X8_takeDigit : zq_Sp} (h_X8_takeDigit : zq_M yX8_takeDigit cX8_takeDigit 3 (some .int) 1 d_X8_takeDigit s_X8_takeDigit) (g_X8_takeDigit : d_X8_takeDigit + 1 ≤ d) {d_X8_takeLetter : Nat} {s_X8_takeLetter : zq_Sp} (h_X8_takeLetter : zq_M yX8_takeLetter cX8_takeLetter 3 (some .int) 1 d_X8_takeLetter s_X8_takeLetter) (g_X8_takeLetter : d_X8_takeLetter + 1 ≤ d) {d_X8_skip : Nat} {s_X8_skip : zq_Sp} (h_X8_skip : zq_M yX8_skip cX8_skip 2 (some .boolean) 1 d_X8_skip s_X8_skip) (g_X8_skip : d_X8_skip + 1 ≤ d) {J11 : zq_P} (j11 : zq_ok X 4 11 J11) {Q : zq_Q} (hq : zq_R X (some .boolean) 1 Q) : zq_ok X 4 37 (xX2_read_37 s_X8_start s_X8_isFinished s_X8_takeDigit s_X8_takeLetter s_X8_skip J11 Q) := by
  refine zs_iconst C dX2_read_37 (by decide) ?_
  exact zs_zret C hq dX2_read_38
def xX2_read_27 (s_X8_start : zq_Sp) (s_X8_isFinished : zq_Sp) (s_X8_takeDigit : zq_Sp) (s_X8_takeLetter : zq_Sp) (s_X8_skip : zq_Sp) (J11 : zq_P) (Q : zq_Q) : zq_P := zi_aload 1 (zi_push (.int 1) (zi_callV 1 1 s_X8_takeDigit (zi_istore 2 (zi_iload 2 (zi_if1 (fun x => 0 ≤ x) (xX2_read_39 s_X8_start s_X8_isFinished s_X8_takeDigit s_X8_takeLetter s_X8_skip J11 Q) (xX2_read_37 s_X8_start s_X8_isFinished s_X8_takeDigit s_X8_takeLetter s_X8_skip J11 Q))))))
theorem kX2_read_27 {X : zq_X} {d : Nat} (C : zq_C X cX2_read 4 RX2 d) {d_X8_start : Nat} {s_X8_start : zq_Sp} (h_X8_start : zq_M yX8_start cX8_start 2 none 0 d_X8_start s_X8_start) (g_X8_start : d_X8_start + 1 ≤ d) {d_X8_isFinished : Nat} {s_X8_isFinished : zq_Sp} (h_X8_isFinished : zq_M yX8_isFinished cX8_isFinished 1 (some .boolean) 1 d_X8_isFinished s_X8_isFinished) (g_X8_isFinished : d_X8_isFinished + 1 ≤ d) {d_X8_takeDigit : Nat} {s_X8_takeDigit : zq_Sp} (h_X8_takeDigit : zq_M yX8_takeDigit cX8_takeDigit 3 (some .int) 1 d_X8_takeDigit s_X8_takeDigit) (g_X8_takeDigit : d_X8_takeDigit + 1 ≤ d) {d_X8_takeLetter : Nat} {s_X8_takeLetter : zq_Sp} (h_X8_takeLetter : zq_M yX8_takeLetter cX8_takeLetter 3 (some .int) 1 d_X8_takeLetter s_X8_takeLetter) (g_X8_takeLetter : d_X8_takeLetter + 1 ≤ d) {d_X8_skip : Nat} {s_X8_skip : zq_Sp} (h_X8_skip : zq_M yX8_skip cX8_skip 2 (some .boolean) 1 d_X8_skip s_X8_skip) (g_X8_skip : d_X8_skip + 1 ≤ d) {J11 : zq_P} (j11 : zq_ok X 4 11 J11) {Q : zq_Q} (hq : zq_R X (some .boolean) 1 Q) : zq_ok X 4 27 (xX2_read_27 s_X8_start s_X8_isFinished s_X8_takeDigit s_X8_takeLetter s_X8_skip J11 Q) := by
  refine zs_aload_n C dX2_read_27 rfl ?_
  refine zs_iconst C dX2_read_28 (by decide) ?_
  refine zs_callV C h_X8_takeDigit g_X8_takeDigit zy_X8_takeDigit zp_1 (show vwCl[8]? = some (RX8, TX8, 4) from rfl) zw_401 zw_402 zs9_X8_takeDigit dX2_read_29 ?_
  refine zs_istore_n C dX2_read_32 rfl (by decide) ?_
  refine zs_iload_n C dX2_read_33 rfl ?_
  exact zs_if_ge C dX2_read_34 (by decide) (kX2_read_39 C h_X8_start g_X8_start h_X8_isFinished g_X8_isFinished h_X8_takeDigit g_X8_takeDigit h_X8_takeLetter g_X8_takeLetter h_X8_skip g_X8_skip j11 hq) (kX2_read_37 C h_X8_start g_X8_start h_X8_isFinished g_X8_isFinished h_X8_takeDigit g_X8_takeDigit h_X8_takeLetter g_X8_takeLetter h_X8_skip g_X8_skip j11 hq)
def xX2_read_20 (s_X8_start : zq_Sp) (s_X8_isFinished : zq_Sp) (s_X8_takeDigit : zq_Sp) (s_X8_takeLetter : zq_Sp) (s_X8_skip : zq_Sp) (J11 : zq_P) (Q : zq_Q) : zq_P := zi_aload 1 (zi_callV 0 1 s_X8_isFinished (zi_if1 (fun x => x = 0) (xX2_read_27 s_X8_start s_X8_isFinished s_X8_takeDigit s_X8_takeLetter s_X8_skip J11 Q) (xX2_read_112 s_X8_start s_X8_isFinished s_X8_takeDigit s_X8_takeLetter s_X8_skip J11 Q)))
theorem kX2_read_20 {X : zq_X} {d : Nat} (C : zq_C X cX2_read 4 RX2 d) {d_X8_start : Nat} {s_X8_start : zq_Sp} (h_X8_start : zq_M yX8_start cX8_start 2 none 0 d_X8_start s_X8_start) (g_X8_start : d_X8_start + 1 ≤ d) {d_X8_isFinished : Nat} {s_X8_isFinished : zq_Sp} (h_X8_isFinished : zq_M yX8_isFinished cX8_isFinished 1 (some .boolean) 1 d_X8_isFinished s_X8_isFinished) (g_X8_isFinished : d_X8_isFinished + 1 ≤ d) {d_X8_takeDigit : Nat} {s_X8_takeDigit : zq_Sp} (h_X8_takeDigit : zq_M yX8_takeDigit cX8_takeDigit 3 (some .int) 1 d_X8_takeDigit s_X8_takeDigit) (g_X8_takeDigit : d_X8_takeDigit + 1 ≤ d) {d_X8_takeLetter : Nat} {s_X8_takeLetter : zq_Sp} (h_X8_takeLetter : zq_M yX8_takeLetter cX8_takeLetter 3 (some .int) 1 d_X8_takeLetter s_X8_takeLetter) (g_X8_takeLetter : d_X8_takeLetter + 1 ≤ d) {d_X8_skip : Nat} {s_X8_skip : zq_Sp} (h_X8_skip : zq_M yX8_skip cX8_skip 2 (some .boolean) 1 d_X8_skip s_X8_skip) (g_X8_skip : d_X8_skip + 1 ≤ d) {J11 : zq_P} (j11 : zq_ok X 4 11 J11) {Q : zq_Q} (hq : zq_R X (some .boolean) 1 Q) : zq_ok X 4 20 (xX2_read_20 s_X8_start s_X8_isFinished s_X8_takeDigit s_X8_takeLetter s_X8_skip J11 Q) := by
  refine zs_aload_n C dX2_read_20 rfl ?_
  refine zs_callV C h_X8_isFinished g_X8_isFinished zy_X8_isFinished zp_1 (show vwCl[8]? = some (RX8, TX8, 4) from rfl) zw_397 zw_398 zs9_X8_isFinished dX2_read_21 ?_
  exact zs_if_ne C dX2_read_24 (by decide) (kX2_read_112 C h_X8_start g_X8_start h_X8_isFinished g_X8_isFinished h_X8_takeDigit g_X8_takeDigit h_X8_takeLetter g_X8_takeLetter h_X8_skip g_X8_skip j11 hq) (kX2_read_27 C h_X8_start g_X8_start h_X8_isFinished g_X8_isFinished h_X8_takeDigit g_X8_takeDigit h_X8_takeLetter g_X8_takeLetter h_X8_skip g_X8_skip j11 hq)
def xX2_read_11 (s_X8_start : zq_Sp) (s_X8_isFinished : zq_Sp) (s_X8_takeDigit : zq_Sp) (s_X8_takeLetter : zq_Sp) (s_X8_skip : zq_Sp) (J11 : zq_P) (Q : zq_Q) : zq_P := zi_aload 0 (zi_getI 44 3 (zi_push (.int 16) (zi_if2 (fun x y => y ≤ x) (xX2_read_112 s_X8_start s_X8_isFinished s_X8_takeDigit s_X8_takeLetter s_X8_skip J11 Q) (xX2_read_20 s_X8_start s_X8_isFinished s_X8_takeDigit s_X8_takeLetter s_X8_skip J11 Q))))
theorem kX2_read_11 {X : zq_X} {d : Nat} (C : zq_C X cX2_read 4 RX2 d) {d_X8_start : Nat} {s_X8_start : zq_Sp} (h_X8_start : zq_M yX8_start cX8_start 2 none 0 d_X8_start s_X8_start) (g_X8_start : d_X8_start + 1 ≤ d) {d_X8_isFinished : Nat} {s_X8_isFinished : zq_Sp} (h_X8_isFinished : zq_M yX8_isFinished cX8_isFinished 1 (some .boolean) 1 d_X8_isFinished s_X8_isFinished) (g_X8_isFinished : d_X8_isFinished + 1 ≤ d) {d_X8_takeDigit : Nat} {s_X8_takeDigit : zq_Sp} (h_X8_takeDigit : zq_M yX8_takeDigit cX8_takeDigit 3 (some .int) 1 d_X8_takeDigit s_X8_takeDigit) (g_X8_takeDigit : d_X8_takeDigit + 1 ≤ d) {d_X8_takeLetter : Nat} {s_X8_takeLetter : zq_Sp} (h_X8_takeLetter : zq_M yX8_takeLetter cX8_takeLetter 3 (some .int) 1 d_X8_takeLetter s_X8_takeLetter) (g_X8_takeLetter : d_X8_takeLetter + 1 ≤ d) {d_X8_skip : Nat} {s_X8_skip : zq_Sp} (h_X8_skip : zq_M yX8_skip cX8_skip 2 (some .boolean) 1 d_X8_skip s_X8_skip) (g_X8_skip : d_X8_skip + 1 ≤ d) {J11 : zq_P} (j11 : zq_ok X 4 11 J11) {Q : zq_Q} (hq : zq_R X (some .boolean) 1 Q) : zq_ok X 4 11 (xX2_read_11 s_X8_start s_X8_isFinished s_X8_takeDigit s_X8_takeLetter s_X8_skip J11 Q) := by
  refine zs_aload_n C dX2_read_11 rfl ?_
  refine zs_getI C zp_44 zF2 (j := 3) ⟨by decide, rfl⟩ zw_273 dX2_read_12 ?_
  refine zs_bipush C dX2_read_15 (by decide) ?_
  exact zs_icmp_ge C dX2_read_17 (by decide) (kX2_read_112 C h_X8_start g_X8_start h_X8_isFinished g_X8_isFinished h_X8_takeDigit g_X8_takeDigit h_X8_takeLetter g_X8_takeLetter h_X8_skip g_X8_skip j11 hq) (kX2_read_20 C h_X8_start g_X8_start h_X8_isFinished g_X8_isFinished h_X8_takeDigit g_X8_takeDigit h_X8_takeLetter g_X8_takeLetter h_X8_skip g_X8_skip j11 hq)
def xX2_read_0 (s_X8_start : zq_Sp) (s_X8_isFinished : zq_Sp) (s_X8_takeDigit : zq_Sp) (s_X8_takeLetter : zq_Sp) (s_X8_skip : zq_Sp) (J11 : zq_P) (Q : zq_Q) : zq_P := zi_aload 1 (zi_push (.int 64) (zi_callV 1 1 s_X8_start (zi_aload 0 (zi_push (.int 0) (zi_putI 44 3 (J11))))))
theorem kX2_read_0 {X : zq_X} {d : Nat} (C : zq_C X cX2_read 4 RX2 d) {d_X8_start : Nat} {s_X8_start : zq_Sp} (h_X8_start : zq_M yX8_start cX8_start 2 none 0 d_X8_start s_X8_start) (g_X8_start : d_X8_start + 1 ≤ d) {d_X8_isFinished : Nat} {s_X8_isFinished : zq_Sp} (h_X8_isFinished : zq_M yX8_isFinished cX8_isFinished 1 (some .boolean) 1 d_X8_isFinished s_X8_isFinished) (g_X8_isFinished : d_X8_isFinished + 1 ≤ d) {d_X8_takeDigit : Nat} {s_X8_takeDigit : zq_Sp} (h_X8_takeDigit : zq_M yX8_takeDigit cX8_takeDigit 3 (some .int) 1 d_X8_takeDigit s_X8_takeDigit) (g_X8_takeDigit : d_X8_takeDigit + 1 ≤ d) {d_X8_takeLetter : Nat} {s_X8_takeLetter : zq_Sp} (h_X8_takeLetter : zq_M yX8_takeLetter cX8_takeLetter 3 (some .int) 1 d_X8_takeLetter s_X8_takeLetter) (g_X8_takeLetter : d_X8_takeLetter + 1 ≤ d) {d_X8_skip : Nat} {s_X8_skip : zq_Sp} (h_X8_skip : zq_M yX8_skip cX8_skip 2 (some .boolean) 1 d_X8_skip s_X8_skip) (g_X8_skip : d_X8_skip + 1 ≤ d) {J11 : zq_P} (j11 : zq_ok X 4 11 J11) {Q : zq_Q} (hq : zq_R X (some .boolean) 1 Q) : zq_ok X 4 0 (xX2_read_0 s_X8_start s_X8_isFinished s_X8_takeDigit s_X8_takeLetter s_X8_skip J11 Q) := by
  refine zs_aload_n C dX2_read_0 rfl ?_
  refine zs_bipush C dX2_read_1 (by decide) ?_
  refine zs_callV C h_X8_start g_X8_start zy_X8_start zp_1 (show vwCl[8]? = some (RX8, TX8, 4) from rfl) zw_390 zw_391 zs9_X8_start dX2_read_3 ?_
  refine zs_aload_n C dX2_read_6 rfl ?_
  refine zs_iconst C dX2_read_7 (by decide) ?_
  refine zs_putI C zp_44 zF2 (j := 3) ⟨by decide, rfl⟩ ⟨rfl, by decide +kernel⟩ zw_273 dX2_read_8 ?_
  exact j11
theorem mX2_read {d : Nat} {spec : zq_Sp} {σ11 : Type} {d_X8_start : Nat} {s_X8_start : zq_Sp} (h_X8_start : zq_M yX8_start cX8_start 2 none 0 d_X8_start s_X8_start) (g_X8_start : d_X8_start + 1 ≤ d) {d_X8_isFinished : Nat} {s_X8_isFinished : zq_Sp} (h_X8_isFinished : zq_M yX8_isFinished cX8_isFinished 1 (some .boolean) 1 d_X8_isFinished s_X8_isFinished) (g_X8_isFinished : d_X8_isFinished + 1 ≤ d) {d_X8_takeDigit : Nat} {s_X8_takeDigit : zq_Sp} (h_X8_takeDigit : zq_M yX8_takeDigit cX8_takeDigit 3 (some .int) 1 d_X8_takeDigit s_X8_takeDigit) (g_X8_takeDigit : d_X8_takeDigit + 1 ≤ d) {d_X8_takeLetter : Nat} {s_X8_takeLetter : zq_Sp} (h_X8_takeLetter : zq_M yX8_takeLetter cX8_takeLetter 3 (some .int) 1 d_X8_takeLetter s_X8_takeLetter) (g_X8_takeLetter : d_X8_takeLetter + 1 ≤ d) {d_X8_skip : Nat} {s_X8_skip : zq_Sp} (h_X8_skip : zq_M yX8_skip cX8_skip 2 (some .boolean) 1 d_X8_skip s_X8_skip) (g_X8_skip : d_X8_skip + 1 ≤ d) (μ11 : σ11 → Nat) (I11 : zq_Q → σ11 → zq_P) (v : ∀ args h Q, spec args h Q → (zq_a args).length ≤ 4 ∧ xX2_read_0 s_X8_start s_X8_isFinished s_X8_takeDigit s_X8_takeLetter s_X8_skip (fun ls st h => ∃ b, I11 Q b ls st h) Q (zq_l0 4 args) [] h) (v11 : ∀ Q a ls st h, I11 Q a ls st h → xX2_read_11 s_X8_start s_X8_isFinished s_X8_takeDigit s_X8_takeLetter s_X8_skip (fun ls st h => ∃ b, μ11 b < μ11 a ∧ I11 Q b ls st h) Q ls st h) : zq_M yX2_read cX2_read 4 (some .boolean) 1 d spec := by
  refine zq_met (by decide +kernel) (by decide) (fun X Q args h C hq hs => ⟨(v args h Q hs).1, _, ?_, (v args h Q hs).2⟩)
  have hl := zq_loop1 (X := X) (nL := 4) (pc1 := 11) μ11 (I11 Q) (fun J11 => xX2_read_11 s_X8_start s_X8_isFinished s_X8_takeDigit s_X8_takeLetter s_X8_skip J11 Q) (fun j11 => kX2_read_11 C h_X8_start g_X8_start h_X8_isFinished g_X8_isFinished h_X8_takeDigit g_X8_takeDigit h_X8_takeLetter g_X8_takeLetter h_X8_skip g_X8_skip j11 hq) (v11 Q)
  exact kX2_read_0 C h_X8_start g_X8_start h_X8_isFinished g_X8_isFinished h_X8_takeDigit g_X8_takeDigit h_X8_takeLetter g_X8_takeLetter h_X8_skip g_X8_skip hl hq
/-! ToOneCrumb$Loaf.allCrumbs()I -/
theorem dX2_allCrumbs_0 : decode cX2_allCrumbs 0 = .ok (.iconst 0, 1) := by decide +kernel
theorem dX2_allCrumbs_1 : decode cX2_allCrumbs 1 = .ok (.istore_n 1, 1) := by decide +kernel
theorem dX2_allCrumbs_2 : decode cX2_allCrumbs 2 = .ok (.iconst 0, 1) := by decide +kernel
theorem dX2_allCrumbs_3 : decode cX2_allCrumbs 3 = .ok (.istore_n 2, 1) := by decide +kernel
theorem dX2_allCrumbs_4 : decode cX2_allCrumbs 4 = .ok (.iload_n 2, 1) := by decide +kernel
theorem dX2_allCrumbs_5 : decode cX2_allCrumbs 5 = .ok (.aload_n 0, 1) := by decide +kernel
theorem dX2_allCrumbs_6 : decode cX2_allCrumbs 6 = .ok (.getfield 27, 3) := by decide +kernel
theorem dX2_allCrumbs_9 : decode cX2_allCrumbs 9 = .ok (.if_icmp .ge 18, 3) := by decide +kernel
theorem dX2_allCrumbs_12 : decode cX2_allCrumbs 12 = .ok (.iload_n 1, 1) := by decide +kernel
theorem dX2_allCrumbs_13 : decode cX2_allCrumbs 13 = .ok (.aload_n 0, 1) := by decide +kernel
theorem dX2_allCrumbs_14 : decode cX2_allCrumbs 14 = .ok (.getfield 9, 3) := by decide +kernel
theorem dX2_allCrumbs_17 : decode cX2_allCrumbs 17 = .ok (.iload_n 2, 1) := by decide +kernel
theorem dX2_allCrumbs_18 : decode cX2_allCrumbs 18 = .ok (.iaload, 1) := by decide +kernel
theorem dX2_allCrumbs_19 : decode cX2_allCrumbs 19 = .ok (.iadd, 1) := by decide +kernel
theorem dX2_allCrumbs_20 : decode cX2_allCrumbs 20 = .ok (.istore_n 1, 1) := by decide +kernel
theorem dX2_allCrumbs_21 : decode cX2_allCrumbs 21 = .ok (.iinc 2 1, 3) := by decide +kernel
theorem dX2_allCrumbs_24 : decode cX2_allCrumbs 24 = .ok (.goto (-20), 3) := by decide +kernel
theorem dX2_allCrumbs_27 : decode cX2_allCrumbs 27 = .ok (.iload_n 1, 1) := by decide +kernel
theorem dX2_allCrumbs_28 : decode cX2_allCrumbs 28 = .ok (.ireturn, 1) := by decide +kernel
def xX2_allCrumbs_27 (J4 : zq_P) (Q : zq_Q) : zq_P := zi_iload 1 (zi_iret Q)
theorem kX2_allCrumbs_27 {X : zq_X} {d : Nat} (C : zq_C X cX2_allCrumbs 3 RX2 d) {J4 : zq_P} (j4 : zq_ok X 3 4 J4) {Q : zq_Q} (hq : zq_R X (some .int) 1 Q) : zq_ok X 3 27 (xX2_allCrumbs_27 J4 Q) := by
  refine zs_iload_n C dX2_allCrumbs_27 rfl ?_
  exact zs_iret C hq dX2_allCrumbs_28
def xX2_allCrumbs_12 (J4 : zq_P) (Q : zq_Q) : zq_P := zi_iload 1 (zi_aload 0 (zi_getR 40 41 (zi_iload 2 (zi_aldI 41 16 (zi_i2 (fun x y => x + y) (zi_istore 1 (zi_iinc 2 1 (J4))))))))
theorem kX2_allCrumbs_12 {X : zq_X} {d : Nat} (C : zq_C X cX2_allCrumbs 3 RX2 d) {J4 : zq_P} (j4 : zq_ok X 3 4 J4) {Q : zq_Q} (hq : zq_R X (some .int) 1 Q) : zq_ok X 3 12 (xX2_allCrumbs_12 J4 Q) := by
  refine zs_iload_n C dX2_allCrumbs_12 rfl ?_
  refine zs_aload_n C dX2_allCrumbs_13 rfl ?_
  refine zs_getR C zp_40 zF2 (j := 0) ⟨by decide, rfl⟩ zw_263 dX2_allCrumbs_14 ?_
  refine zs_iload_n C dX2_allCrumbs_17 rfl ?_
  refine zs_iaload C zp_41 dX2_allCrumbs_18 ?_
  refine zs_iadd C dX2_allCrumbs_19 ?_
  refine zs_istore_n C dX2_allCrumbs_20 rfl (by decide) ?_
  refine zs_iinc C dX2_allCrumbs_21 (by decide) (by decide) ?_
  exact zs_goto C dX2_allCrumbs_24 (by decide) (j4)
def xX2_allCrumbs_4 (J4 : zq_P) (Q : zq_Q) : zq_P := zi_iload 2 (zi_aload 0 (zi_getI 40 3 (zi_if2 (fun x y => y ≤ x) (xX2_allCrumbs_27 J4 Q) (xX2_allCrumbs_12 J4 Q))))
theorem kX2_allCrumbs_4 {X : zq_X} {d : Nat} (C : zq_C X cX2_allCrumbs 3 RX2 d) {J4 : zq_P} (j4 : zq_ok X 3 4 J4) {Q : zq_Q} (hq : zq_R X (some .int) 1 Q) : zq_ok X 3 4 (xX2_allCrumbs_4 J4 Q) := by
  refine zs_iload_n C dX2_allCrumbs_4 rfl ?_
  refine zs_aload_n C dX2_allCrumbs_5 rfl ?_
  refine zs_getI C zp_40 zF2 (j := 3) ⟨by decide, rfl⟩ zw_273 dX2_allCrumbs_6 ?_
  exact zs_icmp_ge C dX2_allCrumbs_9 (by decide) (kX2_allCrumbs_27 C j4 hq) (kX2_allCrumbs_12 C j4 hq)
def xX2_allCrumbs_0 (J4 : zq_P) (Q : zq_Q) : zq_P := zi_push (.int 0) (zi_istore 1 (zi_push (.int 0) (zi_istore 2 (J4))))
theorem kX2_allCrumbs_0 {X : zq_X} {d : Nat} (C : zq_C X cX2_allCrumbs 3 RX2 d) {J4 : zq_P} (j4 : zq_ok X 3 4 J4) {Q : zq_Q} (hq : zq_R X (some .int) 1 Q) : zq_ok X 3 0 (xX2_allCrumbs_0 J4 Q) := by
  refine zs_iconst C dX2_allCrumbs_0 (by decide) ?_
  refine zs_istore_n C dX2_allCrumbs_1 rfl (by decide) ?_
  refine zs_iconst C dX2_allCrumbs_2 (by decide) ?_
  refine zs_istore_n C dX2_allCrumbs_3 rfl (by decide) ?_
  exact j4
theorem mX2_allCrumbs {d : Nat} {spec : zq_Sp} {σ4 : Type} (μ4 : σ4 → Nat) (I4 : zq_Q → σ4 → zq_P) (v : ∀ args h Q, spec args h Q → (zq_a args).length ≤ 3 ∧ xX2_allCrumbs_0 (fun ls st h => ∃ b, I4 Q b ls st h) Q (zq_l0 3 args) [] h) (v4 : ∀ Q a ls st h, I4 Q a ls st h → xX2_allCrumbs_4 (fun ls st h => ∃ b, μ4 b < μ4 a ∧ I4 Q b ls st h) Q ls st h) : zq_M yX2_allCrumbs cX2_allCrumbs 3 (some .int) 1 d spec := by
  refine zq_met (by decide +kernel) (by decide) (fun X Q args h C hq hs => ⟨(v args h Q hs).1, _, ?_, (v args h Q hs).2⟩)
  have hl := zq_loop1 (X := X) (nL := 3) (pc1 := 4) μ4 (I4 Q) (fun J4 => xX2_allCrumbs_4 J4 Q) (fun j4 => kX2_allCrumbs_4 C j4 hq) (v4 Q)
  exact kX2_allCrumbs_0 C hl hq
/-! ToOneCrumb$Board.holderOf(I)I -/
theorem dX0_holderOf_0 : decode cX0_holderOf 0 = .ok (.aload_n 0, 1) := by decide +kernel
theorem dX0_holderOf_1 : decode cX0_holderOf 1 = .ok (.getfield 18, 3) := by decide +kernel
theorem dX0_holderOf_4 : decode cX0_holderOf 4 = .ok (.iconst 4, 1) := by decide +kernel
theorem dX0_holderOf_5 : decode cX0_holderOf 5 = .ok (.iload_n 1, 1) := by decide +kernel
theorem dX0_holderOf_6 : decode cX0_holderOf 6 = .ok (.imul, 1) := by decide +kernel
theorem dX0_holderOf_7 : decode cX0_holderOf 7 = .ok (.lushr, 1) := by decide +kernel
theorem dX0_holderOf_8 : decode cX0_holderOf 8 = .ok (.ldc2_w 22, 3) := by decide +kernel
theorem dX0_holderOf_11 : decode cX0_holderOf 11 = .ok (.land, 1) := by decide +kernel
theorem dX0_holderOf_12 : decode cX0_holderOf 12 = .ok (.l2i, 1) := by decide +kernel
theorem dX0_holderOf_13 : decode cX0_holderOf 13 = .ok (.iconst 1, 1) := by decide +kernel
theorem dX0_holderOf_14 : decode cX0_holderOf 14 = .ok (.isub, 1) := by decide +kernel
theorem dX0_holderOf_15 : decode cX0_holderOf 15 = .ok (.ireturn, 1) := by decide +kernel
def xX0_holderOf_0 (Q : zq_Q) : zq_P := zi_aload 0 (zi_getL 12 2 (zi_push (.int 4) (zi_iload 1 (zi_i2 (fun x y => x * y) (zi_lsh zf_lushr (zi_push (.long 15) (zi_l2 (fun x y => x &&& y) (zi_l2i (zi_push (.int 1) (zi_i2 (fun x y => x - y) (zi_iret Q)))))))))))
theorem kX0_holderOf_0 {X : zq_X} {d : Nat} (C : zq_C X cX0_holderOf 2 RX0 d) {Q : zq_Q} (hq : zq_R X (some .int) 1 Q) : zq_ok X 2 0 (xX0_holderOf_0 Q) := by
  refine zs_aload_n C dX0_holderOf_0 rfl ?_
  refine zs_getL C zp_12 zF0 (j := 2) ⟨by decide, rfl⟩ zw_121 dX0_holderOf_1 ?_
  refine zs_iconst C dX0_holderOf_4 (by decide) ?_
  refine zs_iload_n C dX0_holderOf_5 rfl ?_
  refine zs_imul C dX0_holderOf_6 ?_
  refine zs_lushr C dX0_holderOf_7 ?_
  refine zs_ldc2 C dX0_holderOf_8 zw_593 ?_
  refine zs_land C dX0_holderOf_11 ?_
  refine zs_l2i C dX0_holderOf_12 ?_
  refine zs_iconst C dX0_holderOf_13 (by decide) ?_
  refine zs_isub C dX0_holderOf_14 ?_
  exact zs_iret C hq dX0_holderOf_15
theorem mX0_holderOf {d : Nat} {spec : zq_Sp} (v : ∀ args h Q, spec args h Q → (zq_a args).length ≤ 2 ∧ xX0_holderOf_0 Q (zq_l0 2 args) [] h) : zq_M yX0_holderOf cX0_holderOf 2 (some .int) 1 d spec := by
  refine zq_met (by decide +kernel) (by decide) (fun X Q args h C hq hs => ⟨(v args h Q hs).1, _, ?_, (v args h Q hs).2⟩)
  exact kX0_holderOf_0 C hq
/-! ToOneCrumb$Board.put(II)V -/
theorem dX0_put_0 : decode cX0_put 0 = .ok (.aload_n 0, 1) := by decide +kernel
theorem dX0_put_1 : decode cX0_put 1 = .ok (.getfield 18, 3) := by decide +kernel
theorem dX0_put_4 : decode cX0_put 4 = .ok (.ldc2_w 22, 3) := by decide +kernel
theorem dX0_put_7 : decode cX0_put 7 = .ok (.iconst 4, 1) := by decide +kernel
theorem dX0_put_8 : decode cX0_put 8 = .ok (.iload_n 1, 1) := by decide +kernel
theorem dX0_put_9 : decode cX0_put 9 = .ok (.imul, 1) := by decide +kernel
theorem dX0_put_10 : decode cX0_put 10 = .ok (.lshl, 1) := by decide +kernel
theorem dX0_put_11 : decode cX0_put 11 = .ok (.ldc2_w 24, 3) := by decide +kernel
theorem dX0_put_14 : decode cX0_put 14 = .ok (.lxor, 1) := by decide +kernel
theorem dX0_put_15 : decode cX0_put 15 = .ok (.land, 1) := by decide +kernel
theorem dX0_put_16 : decode cX0_put 16 = .ok (.lstore_n 3, 1) := by decide +kernel
theorem dX0_put_17 : decode cX0_put 17 = .ok (.aload_n 0, 1) := by decide +kernel
theorem dX0_put_18 : decode cX0_put 18 = .ok (.lload_n 3, 1) := by decide +kernel
theorem dX0_put_19 : decode cX0_put 19 = .ok (.iload_n 2, 1) := by decide +kernel
theorem dX0_put_20 : decode cX0_put 20 = .ok (.iconst 1, 1) := by decide +kernel
theorem dX0_put_21 : decode cX0_put 21 = .ok (.iadd, 1) := by decide +kernel
theorem dX0_put_22 : decode cX0_put 22 = .ok (.i2l, 1) := by decide +kernel
theorem dX0_put_23 : decode cX0_put 23 = .ok (.iconst 4, 1) := by decide +kernel
theorem dX0_put_24 : decode cX0_put 24 = .ok (.iload_n 1, 1) := by decide +kernel
theorem dX0_put_25 : decode cX0_put 25 = .ok (.imul, 1) := by decide +kernel
theorem dX0_put_26 : decode cX0_put 26 = .ok (.lshl, 1) := by decide +kernel
theorem dX0_put_27 : decode cX0_put 27 = .ok (.lor, 1) := by decide +kernel
theorem dX0_put_28 : decode cX0_put 28 = .ok (.putfield 18, 3) := by decide +kernel
theorem dX0_put_31 : decode cX0_put 31 = .ok (.return_, 1) := by decide +kernel
def xX0_put_0 (Q : zq_Q) : zq_P := zi_aload 0 (zi_getL 12 2 (zi_push (.long 15) (zi_push (.int 4) (zi_iload 1 (zi_i2 (fun x y => x * y) (zi_lsh zf_lshl (zi_push (.long (-1)) (zi_l2 (fun x y => x ^^^ y) (zi_l2 (fun x y => x &&& y) (zi_lstore 3 (zi_aload 0 (zi_lload 3 (zi_iload 2 (zi_push (.int 1) (zi_i2 (fun x y => x + y) (zi_i2l (zi_push (.int 4) (zi_iload 1 (zi_i2 (fun x y => x * y) (zi_lsh zf_lshl (zi_l2 (fun x y => x ||| y) (zi_putL 12 2 (zi_vret Q)))))))))))))))))))))))
theorem kX0_put_0 {X : zq_X} {d : Nat} (C : zq_C X cX0_put 5 RX0 d) {Q : zq_Q} (hq : zq_R X none 0 Q) : zq_ok X 5 0 (xX0_put_0 Q) := by
  refine zs_aload_n C dX0_put_0 rfl ?_
  refine zs_getL C zp_12 zF0 (j := 2) ⟨by decide, rfl⟩ zw_121 dX0_put_1 ?_
  refine zs_ldc2 C dX0_put_4 zw_593 ?_
  refine zs_iconst C dX0_put_7 (by decide) ?_
  refine zs_iload_n C dX0_put_8 rfl ?_
  refine zs_imul C dX0_put_9 ?_
  refine zs_lshl C dX0_put_10 ?_
  refine zs_ldc2 C dX0_put_11 zw_598 ?_
  refine zs_lxor C dX0_put_14 ?_
  refine zs_land C dX0_put_15 ?_
  refine zs_lstore_n C dX0_put_16 rfl (by decide) ?_
  refine zs_aload_n C dX0_put_17 rfl ?_
  refine zs_lload_n C dX0_put_18 rfl ?_
  refine zs_iload_n C dX0_put_19 rfl ?_
  refine zs_iconst C dX0_put_20 (by decide) ?_
  refine zs_iadd C dX0_put_21 ?_
  refine zs_i2l C dX0_put_22 ?_
  refine zs_iconst C dX0_put_23 (by decide) ?_
  refine zs_iload_n C dX0_put_24 rfl ?_
  refine zs_imul C dX0_put_25 ?_
  refine zs_lshl C dX0_put_26 ?_
  refine zs_lor C dX0_put_27 ?_
  refine zs_putL C zp_12 zF0 (j := 2) ⟨by decide, rfl⟩ ⟨rfl, by decide +kernel⟩ zw_121 dX0_put_28 ?_
  exact zs_vret C hq dX0_put_31
theorem mX0_put {d : Nat} {spec : zq_Sp} (v : ∀ args h Q, spec args h Q → (zq_a args).length ≤ 5 ∧ xX0_put_0 Q (zq_l0 5 args) [] h) : zq_M yX0_put cX0_put 5 none 0 d spec := by
  refine zq_met (by decide +kernel) (by decide) (fun X Q args h C hq hs => ⟨(v args h Q hs).1, _, ?_, (v args h Q hs).2⟩)
  exact kX0_put_0 C hq
/-! ToOneCrumb$Board.startAnew()V -/
theorem dX0_startAnew_0 : decode cX0_startAnew 0 = .ok (.aload_n 0, 1) := by decide +kernel
theorem dX0_startAnew_1 : decode cX0_startAnew 1 = .ok (.lconst 0, 1) := by decide +kernel
theorem dX0_startAnew_2 : decode cX0_startAnew 2 = .ok (.putfield 18, 3) := by decide +kernel
theorem dX0_startAnew_5 : decode cX0_startAnew 5 = .ok (.aload_n 0, 1) := by decide +kernel
theorem dX0_startAnew_6 : decode cX0_startAnew 6 = .ok (.iconst 0, 1) := by decide +kernel
theorem dX0_startAnew_7 : decode cX0_startAnew 7 = .ok (.putfield 26, 3) := by decide +kernel
theorem dX0_startAnew_10 : decode cX0_startAnew 10 = .ok (.aload_n 0, 1) := by decide +kernel
theorem dX0_startAnew_11 : decode cX0_startAnew 11 = .ok (.iconst 0, 1) := by decide +kernel
theorem dX0_startAnew_12 : decode cX0_startAnew 12 = .ok (.putfield 30, 3) := by decide +kernel
theorem dX0_startAnew_15 : decode cX0_startAnew 15 = .ok (.return_, 1) := by decide +kernel
def xX0_startAnew_0 (Q : zq_Q) : zq_P := zi_aload 0 (zi_push (.long 0) (zi_putL 12 2 (zi_aload 0 (zi_push (.int 0) (zi_putI 12 3 (zi_aload 0 (zi_push (.int 0) (zi_putI 12 4 (zi_vret Q)))))))))
theorem kX0_startAnew_0 {X : zq_X} {d : Nat} (C : zq_C X cX0_startAnew 1 RX0 d) {Q : zq_Q} (hq : zq_R X none 0 Q) : zq_ok X 1 0 (xX0_startAnew_0 Q) := by
  refine zs_aload_n C dX0_startAnew_0 rfl ?_
  refine zs_lconst C dX0_startAnew_1 (by decide) ?_
  refine zs_putL C zp_12 zF0 (j := 2) ⟨by decide, rfl⟩ ⟨rfl, by decide +kernel⟩ zw_121 dX0_startAnew_2 ?_
  refine zs_aload_n C dX0_startAnew_5 rfl ?_
  refine zs_iconst C dX0_startAnew_6 (by decide) ?_
  refine zs_putI C zp_12 zF0 (j := 3) ⟨by decide, rfl⟩ ⟨rfl, by decide +kernel⟩ zw_123 dX0_startAnew_7 ?_
  refine zs_aload_n C dX0_startAnew_10 rfl ?_
  refine zs_iconst C dX0_startAnew_11 (by decide) ?_
  refine zs_putI C zp_12 zF0 (j := 4) ⟨by decide, rfl⟩ ⟨rfl, by decide +kernel⟩ zw_125 dX0_startAnew_12 ?_
  exact zs_vret C hq dX0_startAnew_15
theorem mX0_startAnew {d : Nat} {spec : zq_Sp} (v : ∀ args h Q, spec args h Q → (zq_a args).length ≤ 1 ∧ xX0_startAnew_0 Q (zq_l0 1 args) [] h) : zq_M yX0_startAnew cX0_startAnew 1 none 0 d spec := by
  refine zq_met (by decide +kernel) (by decide) (fun X Q args h C hq hs => ⟨(v args h Q hs).1, _, ?_, (v args h Q hs).2⟩)
  exact kX0_startAnew_0 C hq
/-! ToOneCrumb$Board.remember(J)V -/
theorem dX0_remember_0 : decode cX0_remember 0 = .ok (.aload_n 0, 1) := by decide +kernel
theorem dX0_remember_1 : decode cX0_remember 1 = .ok (.getfield 26, 3) := by decide +kernel
theorem dX0_remember_4 : decode cX0_remember 4 = .ok (.bipush 15, 2) := by decide +kernel
theorem dX0_remember_6 : decode cX0_remember 6 = .ok (.if_icmp .ne 30, 3) := by decide +kernel
theorem dX0_remember_9 : decode cX0_remember 9 = .ok (.aload_n 0, 1) := by decide +kernel
theorem dX0_remember_10 : decode cX0_remember 10 = .ok (.dup, 1) := by decide +kernel
theorem dX0_remember_11 : decode cX0_remember 11 = .ok (.getfield 26, 3) := by decide +kernel
theorem dX0_remember_14 : decode cX0_remember 14 = .ok (.iconst 1, 1) := by decide +kernel
theorem dX0_remember_15 : decode cX0_remember 15 = .ok (.isub, 1) := by decide +kernel
theorem dX0_remember_16 : decode cX0_remember 16 = .ok (.putfield 26, 3) := by decide +kernel
theorem dX0_remember_19 : decode cX0_remember 19 = .ok (.aload_n 0, 1) := by decide +kernel
theorem dX0_remember_20 : decode cX0_remember 20 = .ok (.getfield 11, 3) := by decide +kernel
theorem dX0_remember_23 : decode cX0_remember 23 = .ok (.iconst 1, 1) := by decide +kernel
theorem dX0_remember_24 : decode cX0_remember 24 = .ok (.aload_n 0, 1) := by decide +kernel
theorem dX0_remember_25 : decode cX0_remember 25 = .ok (.getfield 11, 3) := by decide +kernel
theorem dX0_remember_28 : decode cX0_remember 28 = .ok (.iconst 0, 1) := by decide +kernel
theorem dX0_remember_29 : decode cX0_remember 29 = .ok (.aload_n 0, 1) := by decide +kernel
theorem dX0_remember_30 : decode cX0_remember 30 = .ok (.getfield 26, 3) := by decide +kernel
theorem dX0_remember_33 : decode cX0_remember 33 = .ok (.invokestatic 33, 3) := by decide +kernel
theorem dX0_remember_36 : decode cX0_remember 36 = .ok (.aload_n 0, 1) := by decide +kernel
theorem dX0_remember_37 : decode cX0_remember 37 = .ok (.getfield 11, 3) := by decide +kernel
theorem dX0_remember_40 : decode cX0_remember 40 = .ok (.aload_n 0, 1) := by decide +kernel
theorem dX0_remember_41 : decode cX0_remember 41 = .ok (.getfield 26, 3) := by decide +kernel
theorem dX0_remember_44 : decode cX0_remember 44 = .ok (.lload_n 1, 1) := by decide +kernel
theorem dX0_remember_45 : decode cX0_remember 45 = .ok (.lastore, 1) := by decide +kernel
theorem dX0_remember_46 : decode cX0_remember 46 = .ok (.aload_n 0, 1) := by decide +kernel
theorem dX0_remember_47 : decode cX0_remember 47 = .ok (.dup, 1) := by decide +kernel
theorem dX0_remember_48 : decode cX0_remember 48 = .ok (.getfield 26, 3) := by decide +kernel
theorem dX0_remember_51 : decode cX0_remember 51 = .ok (.iconst 1, 1) := by decide +kernel
theorem dX0_remember_52 : decode cX0_remember 52 = .ok (.iadd, 1) := by decide +kernel
theorem dX0_remember_53 : decode cX0_remember 53 = .ok (.putfield 26, 3) := by decide +kernel
theorem dX0_remember_56 : decode cX0_remember 56 = .ok (.return_, 1) := by decide +kernel
def xX0_remember_36 (Q : zq_Q) : zq_P := zi_aload 0 (zi_getR 12 13 (zi_aload 0 (zi_getI 12 3 (zi_lload 1 (zi_astL 13 15 (zi_aload 0 (zi_dup (zi_getI 12 3 (zi_push (.int 1) (zi_i2 (fun x y => x + y) (zi_putI 12 3 (zi_vret Q))))))))))))
theorem kX0_remember_36 {X : zq_X} {d : Nat} (C : zq_C X cX0_remember 3 RX0 d) (hd1 : 1 ≤ d) {Q : zq_Q} (hq : zq_R X none 0 Q) : zq_ok X 3 36 (xX0_remember_36 Q) := by
  refine zs_aload_n C dX0_remember_36 rfl ?_
  refine zs_getR C zp_12 zF0 (j := 0) ⟨by decide, rfl⟩ zw_119 dX0_remember_37 ?_
  refine zs_aload_n C dX0_remember_40 rfl ?_
  refine zs_getI C zp_12 zF0 (j := 3) ⟨by decide, rfl⟩ zw_123 dX0_remember_41 ?_
  refine zs_lload_n C dX0_remember_44 rfl ?_
  refine zs_lastore C zp_13 dX0_remember_45 ?_
  refine zs_aload_n C dX0_remember_46 rfl ?_
  refine zs_dup C dX0_remember_47 ?_
  refine zs_getI C zp_12 zF0 (j := 3) ⟨by decide, rfl⟩ zw_123 dX0_remember_48 ?_
  refine zs_iconst C dX0_remember_51 (by decide) ?_
  refine zs_iadd C dX0_remember_52 ?_
  refine zs_putI C zp_12 zF0 (j := 3) ⟨by decide, rfl⟩ ⟨rfl, by decide +kernel⟩ zw_123 dX0_remember_53 ?_
  exact zs_vret C hq dX0_remember_56
def xX0_remember_9 (Q : zq_Q) : zq_P := zi_aload 0 (zi_dup (zi_getI 12 3 (zi_push (.int 1) (zi_i2 (fun x y => x - y) (zi_putI 12 3 (zi_aload 0 (zi_getR 12 13 (zi_push (.int 1) (zi_aload 0 (zi_getR 12 13 (zi_push (.int 0) (zi_aload 0 (zi_getI 12 3 (zi_copyL 13 15 13 15 ((xX0_remember_36 Q))))))))))))))))
theorem kX0_remember_9 {X : zq_X} {d : Nat} (C : zq_C X cX0_remember 3 RX0 d) (hd1 : 1 ≤ d) {Q : zq_Q} (hq : zq_R X none 0 Q) : zq_ok X 3 9 (xX0_remember_9 Q) := by
  refine zs_aload_n C dX0_remember_9 rfl ?_
  refine zs_dup C dX0_remember_10 ?_
  refine zs_getI C zp_12 zF0 (j := 3) ⟨by decide, rfl⟩ zw_123 dX0_remember_11 ?_
  refine zs_iconst C dX0_remember_14 (by decide) ?_
  refine zs_isub C dX0_remember_15 ?_
  refine zs_putI C zp_12 zF0 (j := 3) ⟨by decide, rfl⟩ ⟨rfl, by decide +kernel⟩ zw_123 dX0_remember_16 ?_
  refine zs_aload_n C dX0_remember_19 rfl ?_
  refine zs_getR C zp_12 zF0 (j := 0) ⟨by decide, rfl⟩ zw_119 dX0_remember_20 ?_
  refine zs_iconst C dX0_remember_23 (by decide) ?_
  refine zs_aload_n C dX0_remember_24 rfl ?_
  refine zs_getR C zp_12 zF0 (j := 0) ⟨by decide, rfl⟩ zw_119 dX0_remember_25 ?_
  refine zs_iconst C dX0_remember_28 (by decide) ?_
  refine zs_aload_n C dX0_remember_29 rfl ?_
  refine zs_getI C zp_12 zF0 (j := 3) ⟨by decide, rfl⟩ zw_123 dX0_remember_30 ?_
  refine zs_copyL C zp_13 zp_13 zw_611 zw_613 zw_612 zw_24 hd1 dX0_remember_33 ?_
  exact kX0_remember_36 C hd1 hq
def xX0_remember_0 (Q : zq_Q) : zq_P := zi_aload 0 (zi_getI 12 3 (zi_push (.int 15) (zi_if2 (fun x y => x = y) (xX0_remember_9 Q) (xX0_remember_36 Q))))
theorem kX0_remember_0 {X : zq_X} {d : Nat} (C : zq_C X cX0_remember 3 RX0 d) (hd1 : 1 ≤ d) {Q : zq_Q} (hq : zq_R X none 0 Q) : zq_ok X 3 0 (xX0_remember_0 Q) := by
  refine zs_aload_n C dX0_remember_0 rfl ?_
  refine zs_getI C zp_12 zF0 (j := 3) ⟨by decide, rfl⟩ zw_123 dX0_remember_1 ?_
  refine zs_bipush C dX0_remember_4 (by decide) ?_
  exact zs_icmp_ne C dX0_remember_6 (by decide) (kX0_remember_36 C hd1 hq) (kX0_remember_9 C hd1 hq)
theorem mX0_remember {d : Nat} {spec : zq_Sp} (hd1 : 1 ≤ d) (v : ∀ args h Q, spec args h Q → (zq_a args).length ≤ 3 ∧ xX0_remember_0 Q (zq_l0 3 args) [] h) : zq_M yX0_remember cX0_remember 3 none 0 d spec := by
  refine zq_met (by decide +kernel) (by decide) (fun X Q args h C hq hs => ⟨(v args h Q hs).1, _, ?_, (v args h Q hs).2⟩)
  exact kX0_remember_0 C hd1 hq
/-! ToOneCrumb$Board.stepBack()I -/
theorem dX0_stepBack_0 : decode cX0_stepBack 0 = .ok (.aload_n 0, 1) := by decide +kernel
theorem dX0_stepBack_1 : decode cX0_stepBack 1 = .ok (.getfield 26, 3) := by decide +kernel
theorem dX0_stepBack_4 : decode cX0_stepBack 4 = .ok (.ifCond .gt 5, 3) := by decide +kernel
theorem dX0_stepBack_7 : decode cX0_stepBack 7 = .ok (.iconst (-1), 1) := by decide +kernel
theorem dX0_stepBack_8 : decode cX0_stepBack 8 = .ok (.ireturn, 1) := by decide +kernel
theorem dX0_stepBack_9 : decode cX0_stepBack 9 = .ok (.aload_n 0, 1) := by decide +kernel
theorem dX0_stepBack_10 : decode cX0_stepBack 10 = .ok (.dup, 1) := by decide +kernel
theorem dX0_stepBack_11 : decode cX0_stepBack 11 = .ok (.getfield 26, 3) := by decide +kernel
theorem dX0_stepBack_14 : decode cX0_stepBack 14 = .ok (.iconst 1, 1) := by decide +kernel
theorem dX0_stepBack_15 : decode cX0_stepBack 15 = .ok (.isub, 1) := by decide +kernel
theorem dX0_stepBack_16 : decode cX0_stepBack 16 = .ok (.putfield 26, 3) := by decide +kernel
theorem dX0_stepBack_19 : decode cX0_stepBack 19 = .ok (.aload_n 0, 1) := by decide +kernel
theorem dX0_stepBack_20 : decode cX0_stepBack 20 = .ok (.aload_n 0, 1) := by decide +kernel
theorem dX0_stepBack_21 : decode cX0_stepBack 21 = .ok (.getfield 11, 3) := by decide +kernel
theorem dX0_stepBack_24 : decode cX0_stepBack 24 = .ok (.aload_n 0, 1) := by decide +kernel
theorem dX0_stepBack_25 : decode cX0_stepBack 25 = .ok (.getfield 26, 3) := by decide +kernel
theorem dX0_stepBack_28 : decode cX0_stepBack 28 = .ok (.laload, 1) := by decide +kernel
theorem dX0_stepBack_29 : decode cX0_stepBack 29 = .ok (.putfield 18, 3) := by decide +kernel
theorem dX0_stepBack_32 : decode cX0_stepBack 32 = .ok (.aload_n 0, 1) := by decide +kernel
theorem dX0_stepBack_33 : decode cX0_stepBack 33 = .ok (.getfield 26, 3) := by decide +kernel
theorem dX0_stepBack_36 : decode cX0_stepBack 36 = .ok (.ireturn, 1) := by decide +kernel
def xX0_stepBack_9 (Q : zq_Q) : zq_P := zi_aload 0 (zi_dup (zi_getI 12 3 (zi_push (.int 1) (zi_i2 (fun x y => x - y) (zi_putI 12 3 (zi_aload 0 (zi_aload 0 (zi_getR 12 13 (zi_aload 0 (zi_getI 12 3 (zi_aldL 13 15 (zi_putL 12 2 (zi_aload 0 (zi_getI 12 3 (zi_iret Q)))))))))))))))
theorem kX0_stepBack_9 {X : zq_X} {d : Nat} (C : zq_C X cX0_stepBack 1 RX0 d) {Q : zq_Q} (hq : zq_R X (some .int) 1 Q) : zq_ok X 1 9 (xX0_stepBack_9 Q) := by
  refine zs_aload_n C dX0_stepBack_9 rfl ?_
  refine zs_dup C dX0_stepBack_10 ?_
  refine zs_getI C zp_12 zF0 (j := 3) ⟨by decide, rfl⟩ zw_123 dX0_stepBack_11 ?_
  refine zs_iconst C dX0_stepBack_14 (by decide) ?_
  refine zs_isub C dX0_stepBack_15 ?_
  refine zs_putI C zp_12 zF0 (j := 3) ⟨by decide, rfl⟩ ⟨rfl, by decide +kernel⟩ zw_123 dX0_stepBack_16 ?_
  refine zs_aload_n C dX0_stepBack_19 rfl ?_
  refine zs_aload_n C dX0_stepBack_20 rfl ?_
  refine zs_getR C zp_12 zF0 (j := 0) ⟨by decide, rfl⟩ zw_119 dX0_stepBack_21 ?_
  refine zs_aload_n C dX0_stepBack_24 rfl ?_
  refine zs_getI C zp_12 zF0 (j := 3) ⟨by decide, rfl⟩ zw_123 dX0_stepBack_25 ?_
  refine zs_laload C zp_13 dX0_stepBack_28 ?_
  refine zs_putL C zp_12 zF0 (j := 2) ⟨by decide, rfl⟩ ⟨rfl, by decide +kernel⟩ zw_121 dX0_stepBack_29 ?_
  refine zs_aload_n C dX0_stepBack_32 rfl ?_
  refine zs_getI C zp_12 zF0 (j := 3) ⟨by decide, rfl⟩ zw_123 dX0_stepBack_33 ?_
  exact zs_iret C hq dX0_stepBack_36
def xX0_stepBack_7 (Q : zq_Q) : zq_P := zi_push (.int (-1)) (zi_iret Q)
theorem kX0_stepBack_7 {X : zq_X} {d : Nat} (C : zq_C X cX0_stepBack 1 RX0 d) {Q : zq_Q} (hq : zq_R X (some .int) 1 Q) : zq_ok X 1 7 (xX0_stepBack_7 Q) := by
  refine zs_iconst C dX0_stepBack_7 (by decide) ?_
  exact zs_iret C hq dX0_stepBack_8
def xX0_stepBack_0 (Q : zq_Q) : zq_P := zi_aload 0 (zi_getI 12 3 (zi_if1 (fun x => 0 < x) (xX0_stepBack_9 Q) (xX0_stepBack_7 Q)))
theorem kX0_stepBack_0 {X : zq_X} {d : Nat} (C : zq_C X cX0_stepBack 1 RX0 d) {Q : zq_Q} (hq : zq_R X (some .int) 1 Q) : zq_ok X 1 0 (xX0_stepBack_0 Q) := by
  refine zs_aload_n C dX0_stepBack_0 rfl ?_
  refine zs_getI C zp_12 zF0 (j := 3) ⟨by decide, rfl⟩ zw_123 dX0_stepBack_1 ?_
  exact zs_if_gt C dX0_stepBack_4 (by decide) (kX0_stepBack_9 C hq) (kX0_stepBack_7 C hq)
theorem mX0_stepBack {d : Nat} {spec : zq_Sp} (v : ∀ args h Q, spec args h Q → (zq_a args).length ≤ 1 ∧ xX0_stepBack_0 Q (zq_l0 1 args) [] h) : zq_M yX0_stepBack cX0_stepBack 1 (some .int) 1 d spec := by
  refine zq_met (by decide +kernel) (by decide) (fun X Q args h C hq hs => ⟨(v args h Q hs).1, _, ?_, (v args h Q hs).2⟩)
  exact kX0_stepBack_0 C hq
/-! ToOneCrumb$Board.store(I)Z -/
theorem dX0_store_0 : decode cX0_store 0 = .ok (.iload_n 1, 1) := by decide +kernel
theorem dX0_store_1 : decode cX0_store 1 = .ok (.ifCond .lt 8, 3) := by decide +kernel
theorem dX0_store_4 : decode cX0_store 4 = .ok (.iload_n 1, 1) := by decide +kernel
theorem dX0_store_5 : decode cX0_store 5 = .ok (.iconst 3, 1) := by decide +kernel
theorem dX0_store_6 : decode cX0_store 6 = .ok (.if_icmp .lt 5, 3) := by decide +kernel
theorem dX0_store_9 : decode cX0_store 9 = .ok (.iconst 0, 1) := by decide +kernel
theorem dX0_store_10 : decode cX0_store 10 = .ok (.ireturn, 1) := by decide +kernel
theorem dX0_store_11 : decode cX0_store 11 = .ok (.aload_n 0, 1) := by decide +kernel
theorem dX0_store_12 : decode cX0_store 12 = .ok (.getfield 15, 3) := by decide +kernel
theorem dX0_store_15 : decode cX0_store 15 = .ok (.iload_n 1, 1) := by decide +kernel
theorem dX0_store_16 : decode cX0_store 16 = .ok (.aload_n 0, 1) := by decide +kernel
theorem dX0_store_17 : decode cX0_store 17 = .ok (.getfield 18, 3) := by decide +kernel
theorem dX0_store_20 : decode cX0_store 20 = .ok (.lastore, 1) := by decide +kernel
theorem dX0_store_21 : decode cX0_store 21 = .ok (.aload_n 0, 1) := by decide +kernel
theorem dX0_store_22 : decode cX0_store 22 = .ok (.dup, 1) := by decide +kernel
theorem dX0_store_23 : decode cX0_store 23 = .ok (.getfield 30, 3) := by decide +kernel
theorem dX0_store_26 : decode cX0_store 26 = .ok (.iconst 1, 1) := by decide +kernel
theorem dX0_store_27 : decode cX0_store 27 = .ok (.iload_n 1, 1) := by decide +kernel
theorem dX0_store_28 : decode cX0_store 28 = .ok (.ishl, 1) := by decide +kernel
theorem dX0_store_29 : decode cX0_store 29 = .ok (.ior, 1) := by decide +kernel
theorem dX0_store_30 : decode cX0_store 30 = .ok (.putfield 30, 3) := by decide +kernel
theorem dX0_store_33 : decode cX0_store 33 = .ok (.iconst 1, 1) := by decide +kernel
theorem dX0_store_34 : decode cX0_store 34 = .ok (.ireturn, 1) := by decide +kernel
def xX0_store_11 (Q : zq_Q) : zq_P := zi_aload 0 (zi_getR 12 14 (zi_iload 1 (zi_aload 0 (zi_getL 12 2 (zi_astL 14 3 (zi_aload 0 (zi_dup (zi_getI 12 4 (zi_push (.int 1) (zi_iload 1 (zi_i2 zf_shl (zi_i2 (fun x y => x ||| y) (zi_putI 12 4 (zi_push (.int 1) (zi_zret Q)))))))))))))))
theorem kX0_store_11 {X : zq_X} {d : Nat} (C : zq_C X cX0_store 2 RX0 d) {Q : zq_Q} (hq : zq_R X (some .boolean) 1 Q) : zq_ok X 2 11 (xX0_store_11 Q) := by
  refine zs_aload_n C dX0_store_11 rfl ?_
  refine zs_getR C zp_12 zF0 (j := 1) ⟨by decide, rfl⟩ zw_120 dX0_store_12 ?_
  refine zs_iload_n C dX0_store_15 rfl ?_
  refine zs_aload_n C dX0_store_16 rfl ?_
  refine zs_getL C zp_12 zF0 (j := 2) ⟨by decide, rfl⟩ zw_121 dX0_store_17 ?_
  refine zs_lastore C zp_14 dX0_store_20 ?_
  refine zs_aload_n C dX0_store_21 rfl ?_
  refine zs_dup C dX0_store_22 ?_
  refine zs_getI C zp_12 zF0 (j := 4) ⟨by decide, rfl⟩ zw_125 dX0_store_23 ?_
  refine zs_iconst C dX0_store_26 (by decide) ?_
  refine zs_iload_n C dX0_store_27 rfl ?_
  refine zs_ishl C dX0_store_28 ?_
  refine zs_ior C dX0_store_29 ?_
  refine zs_putI C zp_12 zF0 (j := 4) ⟨by decide, rfl⟩ ⟨rfl, by decide +kernel⟩ zw_125 dX0_store_30 ?_
  refine zs_iconst C dX0_store_33 (by decide) ?_
  exact zs_zret C hq dX0_store_34
def xX0_store_9 (Q : zq_Q) : zq_P := zi_push (.int 0) (zi_zret Q)
theorem kX0_store_9 {X : zq_X} {d : Nat} (C : zq_C X cX0_store 2 RX0 d) {Q : zq_Q} (hq : zq_R X (some .boolean) 1 Q) : zq_ok X 2 9 (xX0_store_9 Q) := by
  refine zs_iconst C dX0_store_9 (by decide) ?_
  exact zs_zret C hq dX0_store_10
def xX0_store_4 (Q : zq_Q) : zq_P := zi_iload 1 (zi_push (.int 3) (zi_if2 (fun x y => x < y) (xX0_store_11 Q) (xX0_store_9 Q)))
theorem kX0_store_4 {X : zq_X} {d : Nat} (C : zq_C X cX0_store 2 RX0 d) {Q : zq_Q} (hq : zq_R X (some .boolean) 1 Q) : zq_ok X 2 4 (xX0_store_4 Q) := by
  refine zs_iload_n C dX0_store_4 rfl ?_
  refine zs_iconst C dX0_store_5 (by decide) ?_
  exact zs_icmp_lt C dX0_store_6 (by decide) (kX0_store_11 C hq) (kX0_store_9 C hq)
def xX0_store_0 (Q : zq_Q) : zq_P := zi_iload 1 (zi_if1 (fun x => x < 0) (xX0_store_9 Q) (xX0_store_4 Q))
theorem kX0_store_0 {X : zq_X} {d : Nat} (C : zq_C X cX0_store 2 RX0 d) {Q : zq_Q} (hq : zq_R X (some .boolean) 1 Q) : zq_ok X 2 0 (xX0_store_0 Q) := by
  refine zs_iload_n C dX0_store_0 rfl ?_
  exact zs_if_lt C dX0_store_1 (by decide) (kX0_store_9 C hq) (kX0_store_4 C hq)
theorem mX0_store {d : Nat} {spec : zq_Sp} (v : ∀ args h Q, spec args h Q → (zq_a args).length ≤ 2 ∧ xX0_store_0 Q (zq_l0 2 args) [] h) : zq_M yX0_store cX0_store 2 (some .boolean) 1 d spec := by
  refine zq_met (by decide +kernel) (by decide) (fun X Q args h C hq hs => ⟨(v args h Q hs).1, _, ?_, (v args h Q hs).2⟩)
  exact kX0_store_0 C hq
/-! ToOneCrumb$Board.restore(I)Z -/
theorem dX0_restore_0 : decode cX0_restore 0 = .ok (.iload_n 1, 1) := by decide +kernel
theorem dX0_restore_1 : decode cX0_restore 1 = .ok (.ifCond .lt 19, 3) := by decide +kernel
theorem dX0_restore_4 : decode cX0_restore 4 = .ok (.iload_n 1, 1) := by decide +kernel
theorem dX0_restore_5 : decode cX0_restore 5 = .ok (.iconst 3, 1) := by decide +kernel
theorem dX0_restore_6 : decode cX0_restore 6 = .ok (.if_icmp .ge 14, 3) := by decide +kernel
theorem dX0_restore_9 : decode cX0_restore 9 = .ok (.aload_n 0, 1) := by decide +kernel
theorem dX0_restore_10 : decode cX0_restore 10 = .ok (.getfield 30, 3) := by decide +kernel
theorem dX0_restore_13 : decode cX0_restore 13 = .ok (.iload_n 1, 1) := by decide +kernel
theorem dX0_restore_14 : decode cX0_restore 14 = .ok (.ishr, 1) := by decide +kernel
theorem dX0_restore_15 : decode cX0_restore 15 = .ok (.iconst 1, 1) := by decide +kernel
theorem dX0_restore_16 : decode cX0_restore 16 = .ok (.iand, 1) := by decide +kernel
theorem dX0_restore_17 : decode cX0_restore 17 = .ok (.ifCond .ne 5, 3) := by decide +kernel
theorem dX0_restore_20 : decode cX0_restore 20 = .ok (.iconst 0, 1) := by decide +kernel
theorem dX0_restore_21 : decode cX0_restore 21 = .ok (.ireturn, 1) := by decide +kernel
theorem dX0_restore_22 : decode cX0_restore 22 = .ok (.aload_n 0, 1) := by decide +kernel
theorem dX0_restore_23 : decode cX0_restore 23 = .ok (.aload_n 0, 1) := by decide +kernel
theorem dX0_restore_24 : decode cX0_restore 24 = .ok (.getfield 15, 3) := by decide +kernel
theorem dX0_restore_27 : decode cX0_restore 27 = .ok (.iload_n 1, 1) := by decide +kernel
theorem dX0_restore_28 : decode cX0_restore 28 = .ok (.laload, 1) := by decide +kernel
theorem dX0_restore_29 : decode cX0_restore 29 = .ok (.putfield 18, 3) := by decide +kernel
theorem dX0_restore_32 : decode cX0_restore 32 = .ok (.aload_n 0, 1) := by decide +kernel
theorem dX0_restore_33 : decode cX0_restore 33 = .ok (.iconst 0, 1) := by decide +kernel
theorem dX0_restore_34 : decode cX0_restore 34 = .ok (.putfield 26, 3) := by decide +kernel
theorem dX0_restore_37 : decode cX0_restore 37 = .ok (.iconst 1, 1) := by decide +kernel
theorem dX0_restore_38 : decode cX0_restore 38 = .ok (.ireturn, 1) := by decide +kernel
def xX0_restore_22 (Q : zq_Q) : zq_P := zi_aload 0 (zi_aload 0 (zi_getR 12 14 (zi_iload 1 (zi_aldL 14 3 (zi_putL 12 2 (zi_aload 0 (zi_push (.int 0) (zi_putI 12 3 (zi_push (.int 1) (zi_zret Q))))))))))
theorem kX0_restore_22 {X : zq_X} {d : Nat} (C : zq_C X cX0_restore 2 RX0 d) {Q : zq_Q} (hq : zq_R X (some .boolean) 1 Q) : zq_ok X 2 22 (xX0_restore_22 Q) := by
  refine zs_aload_n C dX0_restore_22 rfl ?_
  refine zs_aload_n C dX0_restore_23 rfl ?_
  refine zs_getR C zp_12 zF0 (j := 1) ⟨by decide, rfl⟩ zw_120 dX0_restore_24 ?_
  refine zs_iload_n C dX0_restore_27 rfl ?_
  refine zs_laload C zp_14 dX0_restore_28 ?_
  refine zs_putL C zp_12 zF0 (j := 2) ⟨by decide, rfl⟩ ⟨rfl, by decide +kernel⟩ zw_121 dX0_restore_29 ?_
  refine zs_aload_n C dX0_restore_32 rfl ?_
  refine zs_iconst C dX0_restore_33 (by decide) ?_
  refine zs_putI C zp_12 zF0 (j := 3) ⟨by decide, rfl⟩ ⟨rfl, by decide +kernel⟩ zw_123 dX0_restore_34 ?_
  refine zs_iconst C dX0_restore_37 (by decide) ?_
  exact zs_zret C hq dX0_restore_38
def xX0_restore_20 (Q : zq_Q) : zq_P := zi_push (.int 0) (zi_zret Q)
theorem kX0_restore_20 {X : zq_X} {d : Nat} (C : zq_C X cX0_restore 2 RX0 d) {Q : zq_Q} (hq : zq_R X (some .boolean) 1 Q) : zq_ok X 2 20 (xX0_restore_20 Q) := by
  refine zs_iconst C dX0_restore_20 (by decide) ?_
  exact zs_zret C hq dX0_restore_21
def xX0_restore_9 (Q : zq_Q) : zq_P := zi_aload 0 (zi_getI 12 4 (zi_iload 1 (zi_i2 zf_shr (zi_push (.int 1) (zi_i2 (fun x y => x &&& y) (zi_if1 (fun x => x = 0) (xX0_restore_20 Q) (xX0_restore_22 Q)))))))
theorem kX0_restore_9 {X : zq_X} {d : Nat} (C : zq_C X cX0_restore 2 RX0 d) {Q : zq_Q} (hq : zq_R X (some .boolean) 1 Q) : zq_ok X 2 9 (xX0_restore_9 Q) := by
  refine zs_aload_n C dX0_restore_9 rfl ?_
  refine zs_getI C zp_12 zF0 (j := 4) ⟨by decide, rfl⟩ zw_125 dX0_restore_10 ?_
  refine zs_iload_n C dX0_restore_13 rfl ?_
  refine zs_ishr C dX0_restore_14 ?_
  refine zs_iconst C dX0_restore_15 (by decide) ?_
  refine zs_iand C dX0_restore_16 ?_
  exact zs_if_ne C dX0_restore_17 (by decide) (kX0_restore_22 C hq) (kX0_restore_20 C hq)
def xX0_restore_4 (Q : zq_Q) : zq_P := zi_iload 1 (zi_push (.int 3) (zi_if2 (fun x y => y ≤ x) (xX0_restore_20 Q) (xX0_restore_9 Q)))
theorem kX0_restore_4 {X : zq_X} {d : Nat} (C : zq_C X cX0_restore 2 RX0 d) {Q : zq_Q} (hq : zq_R X (some .boolean) 1 Q) : zq_ok X 2 4 (xX0_restore_4 Q) := by
  refine zs_iload_n C dX0_restore_4 rfl ?_
  refine zs_iconst C dX0_restore_5 (by decide) ?_
  exact zs_icmp_ge C dX0_restore_6 (by decide) (kX0_restore_20 C hq) (kX0_restore_9 C hq)
def xX0_restore_0 (Q : zq_Q) : zq_P := zi_iload 1 (zi_if1 (fun x => x < 0) (xX0_restore_20 Q) (xX0_restore_4 Q))
theorem kX0_restore_0 {X : zq_X} {d : Nat} (C : zq_C X cX0_restore 2 RX0 d) {Q : zq_Q} (hq : zq_R X (some .boolean) 1 Q) : zq_ok X 2 0 (xX0_restore_0 Q) := by
  refine zs_iload_n C dX0_restore_0 rfl ?_
  exact zs_if_lt C dX0_restore_1 (by decide) (kX0_restore_20 C hq) (kX0_restore_4 C hq)
theorem mX0_restore {d : Nat} {spec : zq_Sp} (v : ∀ args h Q, spec args h Q → (zq_a args).length ≤ 2 ∧ xX0_restore_0 Q (zq_l0 2 args) [] h) : zq_M yX0_restore cX0_restore 2 (some .boolean) 1 d spec := by
  refine zq_met (by decide +kernel) (by decide) (fun X Q args h C hq hs => ⟨(v args h Q hs).1, _, ?_, (v args h Q hs).2⟩)
  exact kX0_restore_0 C hq
end
