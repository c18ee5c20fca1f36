section
-- ===== PART A: goes FIRST, ahead of the names: the tables' words, and 'selects' of the private methods out of them =====
/-- a private method of a class that the tables say can be made, by its rows of tables_1 -/
def lw_okq (q : MethodName × Nat) : Prop := (q.1.cls ≠ "java/lang/invoke/MethodHandle" ∧ q.1.cls ≠ "java/lang/invoke/VarHandle") ∧ Cond.instantiable q.1.cls q.2 ∈ tables_1 ∧ Cond.privateMethod q.1 ∈ tables_1 ∧ Cond.instanceMethod q.1 ∈ tables_1
theorem lw_p0 : lw_okq (⟨"ToOneCrumb", "renewWorths", "()V"⟩, 16) := ⟨⟨by decide +kernel, by decide +kernel⟩, List.mem_of_getElem? (i := 27) (by decide +kernel), List.mem_of_getElem? (i := 430) (by decide +kernel), List.mem_of_getElem? (i := 431) (by decide +kernel)⟩
theorem lw_p1 : lw_okq (⟨"ToOneCrumb$Rule", "walk", "(LToOneCrumb$Loaf;II[II)I"⟩, 8) := ⟨⟨by decide +kernel, by decide +kernel⟩, List.mem_of_getElem? (i := 287) (by decide +kernel), List.mem_of_getElem? (i := 442) (by decide +kernel), List.mem_of_getElem? (i := 443) (by decide +kernel)⟩
theorem lw_p2 : lw_okq (⟨"ToOneCrumb$Party", "readDeed", "(LToOneCrumb$Text;)Z"⟩, 4) := ⟨⟨by decide +kernel, by decide +kernel⟩, List.mem_of_getElem? (i := 72) (by decide +kernel), List.mem_of_getElem? (i := 486) (by decide +kernel), List.mem_of_getElem? (i := 487) (by decide +kernel)⟩
theorem lw_p3 : lw_okq (⟨"ToOneCrumb$Rule", "readThing", "(LToOneCrumb$Text;)Z"⟩, 8) := ⟨⟨by decide +kernel, by decide +kernel⟩, List.mem_of_getElem? (i := 287) (by decide +kernel), List.mem_of_getElem? (i := 516) (by decide +kernel), List.mem_of_getElem? (i := 517) (by decide +kernel)⟩
theorem lw_p4 : lw_okq (⟨"ToOneCrumb$Rule", "addStep", "(I)V"⟩, 8) := ⟨⟨by decide +kernel, by decide +kernel⟩, List.mem_of_getElem? (i := 287) (by decide +kernel), List.mem_of_getElem? (i := 525) (by decide +kernel), List.mem_of_getElem? (i := 526) (by decide +kernel)⟩
theorem lw_p5 : lw_okq (⟨"ToOneCrumb$Rule", "hold", "(I)V"⟩, 8) := ⟨⟨by decide +kernel, by decide +kernel⟩, List.mem_of_getElem? (i := 287) (by decide +kernel), List.mem_of_getElem? (i := 529) (by decide +kernel), List.mem_of_getElem? (i := 530) (by decide +kernel)⟩
theorem lw_p6 : lw_okq (⟨"ToOneCrumb$Rule", "readJoint", "(LToOneCrumb$Text;)Z"⟩, 8) := ⟨⟨by decide +kernel, by decide +kernel⟩, List.mem_of_getElem? (i := 287) (by decide +kernel), List.mem_of_getElem? (i := 537) (by decide +kernel), List.mem_of_getElem? (i := 538) (by decide +kernel)⟩
theorem lw_p7 : lw_okq (⟨"ToOneCrumb$Rule", "release", "(I)V"⟩, 8) := ⟨⟨by decide +kernel, by decide +kernel⟩, List.mem_of_getElem? (i := 287) (by decide +kernel), List.mem_of_getElem? (i := 541) (by decide +kernel), List.mem_of_getElem? (i := 542) (by decide +kernel)⟩
theorem lw_p8 : lw_okq (⟨"ToOneCrumb", "isGuest", "(I)Z"⟩, 16) := ⟨⟨by decide +kernel, by decide +kernel⟩, List.mem_of_getElem? (i := 27) (by decide +kernel), List.mem_of_getElem? (i := 549) (by decide +kernel), List.mem_of_getElem? (i := 550) (by decide +kernel)⟩
theorem lw_p9 : lw_okq (⟨"ToOneCrumb", "isCell", "(I)Z"⟩, 16) := ⟨⟨by decide +kernel, by decide +kernel⟩, List.mem_of_getElem? (i := 27) (by decide +kernel), List.mem_of_getElem? (i := 553) (by decide +kernel), List.mem_of_getElem? (i := 554) (by decide +kernel)⟩
theorem lw_p10 : lw_okq (⟨"ToOneCrumb", "giveSlice", "(III)I"⟩, 16) := ⟨⟨by decide +kernel, by decide +kernel⟩, List.mem_of_getElem? (i := 27) (by decide +kernel), List.mem_of_getElem? (i := 582) (by decide +kernel), List.mem_of_getElem? (i := 583) (by decide +kernel)⟩
theorem lw_p11 : lw_okq (⟨"ToOneCrumb", "isSlice", "(II)Z"⟩, 16) := ⟨⟨by decide +kernel, by decide +kernel⟩, List.mem_of_getElem? (i := 27) (by decide +kernel), List.mem_of_getElem? (i := 586) (by decide +kernel), List.mem_of_getElem? (i := 587) (by decide +kernel)⟩
theorem lw_p12 : lw_okq (⟨"ToOneCrumb", "remembered", "(JI)I"⟩, 16) := ⟨⟨by decide +kernel, by decide +kernel⟩, List.mem_of_getElem? (i := 27) (by decide +kernel), List.mem_of_getElem? (i := 604) (by decide +kernel), List.mem_of_getElem? (i := 605) (by decide +kernel)⟩
theorem lw_p13 : lw_okq (⟨"ToOneCrumb", "takeBack", "(II)I"⟩, 16) := ⟨⟨by decide +kernel, by decide +kernel⟩, List.mem_of_getElem? (i := 27) (by decide +kernel), List.mem_of_getElem? (i := 619) (by decide +kernel), List.mem_of_getElem? (i := 620) (by decide +kernel)⟩
theorem lw_p14 : lw_okq (⟨"ToOneCrumb", "feedMouse", "(I)I"⟩, 16) := ⟨⟨by decide +kernel, by decide +kernel⟩, List.mem_of_getElem? (i := 27) (by decide +kernel), List.mem_of_getElem? (i := 627) (by decide +kernel), List.mem_of_getElem? (i := 628) (by decide +kernel)⟩
theorem lw_p15 : lw_okq (⟨"ToOneCrumb", "readActs", "()Z"⟩, 16) := ⟨⟨by decide +kernel, by decide +kernel⟩, List.mem_of_getElem? (i := 27) (by decide +kernel), List.mem_of_getElem? (i := 635) (by decide +kernel), List.mem_of_getElem? (i := 636) (by decide +kernel)⟩
def lw_privs_1 : List (MethodName × Nat) := [(⟨"ToOneCrumb", "renewWorths", "()V"⟩, 16), (⟨"ToOneCrumb$Rule", "walk", "(LToOneCrumb$Loaf;II[II)I"⟩, 8), (⟨"ToOneCrumb$Party", "readDeed", "(LToOneCrumb$Text;)Z"⟩, 4), (⟨"ToOneCrumb$Rule", "readThing", "(LToOneCrumb$Text;)Z"⟩, 8), (⟨"ToOneCrumb$Rule", "addStep", "(I)V"⟩, 8), (⟨"ToOneCrumb$Rule", "hold", "(I)V"⟩, 8), (⟨"ToOneCrumb$Rule", "readJoint", "(LToOneCrumb$Text;)Z"⟩, 8), (⟨"ToOneCrumb$Rule", "release", "(I)V"⟩, 8), (⟨"ToOneCrumb", "isGuest", "(I)Z"⟩, 16), (⟨"ToOneCrumb", "isCell", "(I)Z"⟩, 16), (⟨"ToOneCrumb", "giveSlice", "(III)I"⟩, 16), (⟨"ToOneCrumb", "isSlice", "(II)Z"⟩, 16), (⟨"ToOneCrumb", "remembered", "(JI)I"⟩, 16), (⟨"ToOneCrumb", "takeBack", "(II)I"⟩, 16), (⟨"ToOneCrumb", "feedMouse", "(I)I"⟩, 16), (⟨"ToOneCrumb", "readActs", "()Z"⟩, 16)]
theorem lw_r1 : ∀ q ∈ lw_privs_1, lw_okq q := List.forall_mem_cons.mpr ⟨lw_p0, List.forall_mem_cons.mpr ⟨lw_p1, List.forall_mem_cons.mpr ⟨lw_p2, List.forall_mem_cons.mpr ⟨lw_p3, List.forall_mem_cons.mpr ⟨lw_p4, List.forall_mem_cons.mpr ⟨lw_p5, List.forall_mem_cons.mpr ⟨lw_p6, List.forall_mem_cons.mpr ⟨lw_p7, List.forall_mem_cons.mpr ⟨lw_p8, List.forall_mem_cons.mpr ⟨lw_p9, List.forall_mem_cons.mpr ⟨lw_p10, List.forall_mem_cons.mpr ⟨lw_p11, List.forall_mem_cons.mpr ⟨lw_p12, List.forall_mem_cons.mpr ⟨lw_p13, List.forall_mem_cons.mpr ⟨lw_p14, List.forall_mem_cons.mpr ⟨lw_p15, fun _ h => absurd h List.not_mem_nil⟩⟩⟩⟩⟩⟩⟩⟩⟩⟩⟩⟩⟩⟩⟩⟩
theorem lw_p16 : lw_okq (⟨"ToOneCrumb", "readAct", "(I)Z"⟩, 16) := ⟨⟨by decide +kernel, by decide +kernel⟩, List.mem_of_getElem? (i := 27) (by decide +kernel), List.mem_of_getElem? (i := 641) (by decide +kernel), List.mem_of_getElem? (i := 642) (by decide +kernel)⟩
theorem lw_p17 : lw_okq (⟨"ToOneCrumb", "doAct", "(I)I"⟩, 16) := ⟨⟨by decide +kernel, by decide +kernel⟩, List.mem_of_getElem? (i := 27) (by decide +kernel), List.mem_of_getElem? (i := 649) (by decide +kernel), List.mem_of_getElem? (i := 650) (by decide +kernel)⟩
theorem lw_p18 : lw_okq (⟨"ToOneCrumb", "cellsWith", "(I)I"⟩, 16) := ⟨⟨by decide +kernel, by decide +kernel⟩, List.mem_of_getElem? (i := 27) (by decide +kernel), List.mem_of_getElem? (i := 661) (by decide +kernel), List.mem_of_getElem? (i := 662) (by decide +kernel)⟩
theorem lw_p19 : lw_okq (⟨"ToOneCrumb", "worthHeld", "(II)I"⟩, 16) := ⟨⟨by decide +kernel, by decide +kernel⟩, List.mem_of_getElem? (i := 27) (by decide +kernel), List.mem_of_getElem? (i := 677) (by decide +kernel), List.mem_of_getElem? (i := 678) (by decide +kernel)⟩
theorem lw_p20 : lw_okq (⟨"ToOneCrumb", "hasDue", "(I)Z"⟩, 16) := ⟨⟨by decide +kernel, by decide +kernel⟩, List.mem_of_getElem? (i := 27) (by decide +kernel), List.mem_of_getElem? (i := 689) (by decide +kernel), List.mem_of_getElem? (i := 690) (by decide +kernel)⟩
theorem lw_p21 : lw_okq (⟨"ToOneCrumb", "jointGain", "(IIII)I"⟩, 16) := ⟨⟨by decide +kernel, by decide +kernel⟩, List.mem_of_getElem? (i := 27) (by decide +kernel), List.mem_of_getElem? (i := 721) (by decide +kernel), List.mem_of_getElem? (i := 722) (by decide +kernel)⟩
theorem lw_p22 : lw_okq (⟨"ToOneCrumb", "areGuests", "(I)Z"⟩, 16) := ⟨⟨by decide +kernel, by decide +kernel⟩, List.mem_of_getElem? (i := 27) (by decide +kernel), List.mem_of_getElem? (i := 729) (by decide +kernel), List.mem_of_getElem? (i := 730) (by decide +kernel)⟩
theorem lw_p23 : lw_okq (⟨"ToOneCrumb", "everyone", "()I"⟩, 16) := ⟨⟨by decide +kernel, by decide +kernel⟩, List.mem_of_getElem? (i := 27) (by decide +kernel), List.mem_of_getElem? (i := 733) (by decide +kernel), List.mem_of_getElem? (i := 734) (by decide +kernel)⟩
theorem lw_p24 : lw_okq (⟨"ToOneCrumb", "placeGuests", "(I)V"⟩, 16) := ⟨⟨by decide +kernel, by decide +kernel⟩, List.mem_of_getElem? (i := 27) (by decide +kernel), List.mem_of_getElem? (i := 737) (by decide +kernel), List.mem_of_getElem? (i := 738) (by decide +kernel)⟩
theorem lw_p25 : lw_okq (⟨"ToOneCrumb$Placing", "shortest", "(LToOneCrumb$Worths;II)I"⟩, 8) := ⟨⟨by decide +kernel, by decide +kernel⟩, List.mem_of_getElem? (i := 171) (by decide +kernel), List.mem_of_getElem? (i := 754) (by decide +kernel), List.mem_of_getElem? (i := 755) (by decide +kernel)⟩
theorem lw_p26 : lw_okq (⟨"ToOneCrumb$Placing", "reached", "(II)I"⟩, 8) := ⟨⟨by decide +kernel, by decide +kernel⟩, List.mem_of_getElem? (i := 171) (by decide +kernel), List.mem_of_getElem? (i := 759) (by decide +kernel), List.mem_of_getElem? (i := 760) (by decide +kernel)⟩
theorem lw_p27 : lw_okq (⟨"ToOneCrumb$Placing", "findOrder", "(IIII)Z"⟩, 8) := ⟨⟨by decide +kernel, by decide +kernel⟩, List.mem_of_getElem? (i := 171) (by decide +kernel), List.mem_of_getElem? (i := 772) (by decide +kernel), List.mem_of_getElem? (i := 773) (by decide +kernel)⟩
theorem lw_p28 : lw_okq (⟨"ToOneCrumb", "bestOfLeasts", "(II)I"⟩, 16) := ⟨⟨by decide +kernel, by decide +kernel⟩, List.mem_of_getElem? (i := 27) (by decide +kernel), List.mem_of_getElem? (i := 795) (by decide +kernel), List.mem_of_getElem? (i := 796) (by decide +kernel)⟩
theorem lw_p29 : lw_okq (⟨"ToOneCrumb$Seating", "part", "(III)V"⟩, 8) := ⟨⟨by decide +kernel, by decide +kernel⟩, List.mem_of_getElem? (i := 204) (by decide +kernel), List.mem_of_getElem? (i := 808) (by decide +kernel), List.mem_of_getElem? (i := 809) (by decide +kernel)⟩
theorem lw_p30 : lw_okq (⟨"ToOneCrumb$Seating", "othersAreCalm", "(I)Z"⟩, 8) := ⟨⟨by decide +kernel, by decide +kernel⟩, List.mem_of_getElem? (i := 204) (by decide +kernel), List.mem_of_getElem? (i := 812) (by decide +kernel), List.mem_of_getElem? (i := 813) (by decide +kernel)⟩
theorem lw_p31 : lw_okq (⟨"ToOneCrumb$Seating", "note", "()V"⟩, 8) := ⟨⟨by decide +kernel, by decide +kernel⟩, List.mem_of_getElem? (i := 204) (by decide +kernel), List.mem_of_getElem? (i := 817) (by decide +kernel), List.mem_of_getElem? (i := 818) (by decide +kernel)⟩
def lw_privs_2 : List (MethodName × Nat) := [(⟨"ToOneCrumb", "readAct", "(I)Z"⟩, 16), (⟨"ToOneCrumb", "doAct", "(I)I"⟩, 16), (⟨"ToOneCrumb", "cellsWith", "(I)I"⟩, 16), (⟨"ToOneCrumb", "worthHeld", "(II)I"⟩, 16), (⟨"ToOneCrumb", "hasDue", "(I)Z"⟩, 16), (⟨"ToOneCrumb", "jointGain", "(IIII)I"⟩, 16), (⟨"ToOneCrumb", "areGuests", "(I)Z"⟩, 16), (⟨"ToOneCrumb", "everyone", "()I"⟩, 16), (⟨"ToOneCrumb", "placeGuests", "(I)V"⟩, 16), (⟨"ToOneCrumb$Placing", "shortest", "(LToOneCrumb$Worths;II)I"⟩, 8), (⟨"ToOneCrumb$Placing", "reached", "(II)I"⟩, 8), (⟨"ToOneCrumb$Placing", "findOrder", "(IIII)Z"⟩, 8), (⟨"ToOneCrumb", "bestOfLeasts", "(II)I"⟩, 16), (⟨"ToOneCrumb$Seating", "part", "(III)V"⟩, 8), (⟨"ToOneCrumb$Seating", "othersAreCalm", "(I)Z"⟩, 8), (⟨"ToOneCrumb$Seating", "note", "()V"⟩, 8)]
theorem lw_r2 : ∀ q ∈ lw_privs_2, lw_okq q := List.forall_mem_cons.mpr ⟨lw_p16, List.forall_mem_cons.mpr ⟨lw_p17, List.forall_mem_cons.mpr ⟨lw_p18, List.forall_mem_cons.mpr ⟨lw_p19, List.forall_mem_cons.mpr ⟨lw_p20, List.forall_mem_cons.mpr ⟨lw_p21, List.forall_mem_cons.mpr ⟨lw_p22, List.forall_mem_cons.mpr ⟨lw_p23, List.forall_mem_cons.mpr ⟨lw_p24, List.forall_mem_cons.mpr ⟨lw_p25, List.forall_mem_cons.mpr ⟨lw_p26, List.forall_mem_cons.mpr ⟨lw_p27, List.forall_mem_cons.mpr ⟨lw_p28, List.forall_mem_cons.mpr ⟨lw_p29, List.forall_mem_cons.mpr ⟨lw_p30, List.forall_mem_cons.mpr ⟨lw_p31, fun _ h => absurd h List.not_mem_nil⟩⟩⟩⟩⟩⟩⟩⟩⟩⟩⟩⟩⟩⟩⟩⟩
theorem lw_p32 : lw_okq (⟨"ToOneCrumb$Seating", "isLess", "()Z"⟩, 8) := ⟨⟨by decide +kernel, by decide +kernel⟩, List.mem_of_getElem? (i := 204) (by decide +kernel), List.mem_of_getElem? (i := 821) (by decide +kernel), List.mem_of_getElem? (i := 822) (by decide +kernel)⟩
theorem lw_p33 : lw_okq (⟨"ToOneCrumb$Seating", "isCalmWith", "(II)Z"⟩, 8) := ⟨⟨by decide +kernel, by decide +kernel⟩, List.mem_of_getElem? (i := 204) (by decide +kernel), List.mem_of_getElem? (i := 826) (by decide +kernel), List.mem_of_getElem? (i := 827) (by decide +kernel)⟩
theorem lw_p34 : lw_okq (⟨"ToOneCrumb$Seating", "prefers", "(II)Z"⟩, 8) := ⟨⟨by decide +kernel, by decide +kernel⟩, List.mem_of_getElem? (i := 204) (by decide +kernel), List.mem_of_getElem? (i := 830) (by decide +kernel), List.mem_of_getElem? (i := 831) (by decide +kernel)⟩
theorem lw_p35 : lw_okq (⟨"ToOneCrumb$Turns", "favourite", "(III)I"⟩, 4) := ⟨⟨by decide +kernel, by decide +kernel⟩, List.mem_of_getElem? (i := 235) (by decide +kernel), List.mem_of_getElem? (i := 864) (by decide +kernel), List.mem_of_getElem? (i := 865) (by decide +kernel)⟩
theorem lw_p36 : lw_okq (⟨"ToOneCrumb", "hasByLie", "(III)I"⟩, 16) := ⟨⟨by decide +kernel, by decide +kernel⟩, List.mem_of_getElem? (i := 27) (by decide +kernel), List.mem_of_getElem? (i := 873) (by decide +kernel), List.mem_of_getElem? (i := 874) (by decide +kernel)⟩
theorem lw_p37 : lw_okq (⟨"ToOneCrumb$Choices", "fits", "(ILToOneCrumb$Rule;LToOneCrumb$Loaf;I)Z"⟩, 8) := ⟨⟨by decide +kernel, by decide +kernel⟩, List.mem_of_getElem? (i := 138) (by decide +kernel), List.mem_of_getElem? (i := 898) (by decide +kernel), List.mem_of_getElem? (i := 899) (by decide +kernel)⟩
theorem lw_p38 : lw_okq (⟨"ToOneCrumb$Choices", "ask", "(ILToOneCrumb$Rule;LToOneCrumb$Loaf;I)I"⟩, 8) := ⟨⟨by decide +kernel, by decide +kernel⟩, List.mem_of_getElem? (i := 138) (by decide +kernel), List.mem_of_getElem? (i := 902) (by decide +kernel), List.mem_of_getElem? (i := 903) (by decide +kernel)⟩
theorem lw_p39 : lw_okq (⟨"ToOneCrumb$Choices", "countThisTime", "(I)V"⟩, 8) := ⟨⟨by decide +kernel, by decide +kernel⟩, List.mem_of_getElem? (i := 138) (by decide +kernel), List.mem_of_getElem? (i := 917) (by decide +kernel), List.mem_of_getElem? (i := 918) (by decide +kernel)⟩
theorem lw_p40 : lw_okq (⟨"java/lang/Throwable", "fillInStackTrace", "(I)Ljava/lang/Throwable;"⟩, 6) := ⟨⟨by decide +kernel, by decide +kernel⟩, List.mem_of_getElem? (i := 1047) (by decide +kernel), List.mem_of_getElem? (i := 1045) (by decide +kernel), List.mem_of_getElem? (i := 1046) (by decide +kernel)⟩
theorem lw_p41 : lw_okq (⟨"ToOneCrumbModel", "begins", "(I)I"⟩, 67) := ⟨⟨by decide +kernel, by decide +kernel⟩, List.mem_of_getElem? (i := 1093) (by decide +kernel), List.mem_of_getElem? (i := 1321) (by decide +kernel), List.mem_of_getElem? (i := 1322) (by decide +kernel)⟩
theorem lw_p42 : lw_okq (⟨"ToOneCrumbModel", "among", "(Ljava/lang/String;)I"⟩, 67) := ⟨⟨by decide +kernel, by decide +kernel⟩, List.mem_of_getElem? (i := 1093) (by decide +kernel), List.mem_of_getElem? (i := 1327) (by decide +kernel), List.mem_of_getElem? (i := 1328) (by decide +kernel)⟩
theorem lw_p43 : lw_okq (⟨"ToOneCrumbModel", "takesOf", "(Ljava/lang/String;)I"⟩, 67) := ⟨⟨by decide +kernel, by decide +kernel⟩, List.mem_of_getElem? (i := 1093) (by decide +kernel), List.mem_of_getElem? (i := 1379) (by decide +kernel), List.mem_of_getElem? (i := 1380) (by decide +kernel)⟩
theorem lw_p44 : lw_okq (⟨"ToOneCrumbModel", "takes", "(I)Z"⟩, 67) := ⟨⟨by decide +kernel, by decide +kernel⟩, List.mem_of_getElem? (i := 1093) (by decide +kernel), List.mem_of_getElem? (i := 1387) (by decide +kernel), List.mem_of_getElem? (i := 1388) (by decide +kernel)⟩
theorem lw_p45 : lw_okq (⟨"ToOneCrumbModel", "faultOf", "(IIZ)I"⟩, 67) := ⟨⟨by decide +kernel, by decide +kernel⟩, List.mem_of_getElem? (i := 1093) (by decide +kernel), List.mem_of_getElem? (i := 1391) (by decide +kernel), List.mem_of_getElem? (i := 1392) (by decide +kernel)⟩
theorem lw_p46 : lw_okq (⟨"ToOneCrumbModel", "readsGuest", "()Z"⟩, 67) := ⟨⟨by decide +kernel, by decide +kernel⟩, List.mem_of_getElem? (i := 1093) (by decide +kernel), List.mem_of_getElem? (i := 1399) (by decide +kernel), List.mem_of_getElem? (i := 1400) (by decide +kernel)⟩
theorem lw_p47 : lw_okq (⟨"ToOneCrumbModel", "number", "(I)I"⟩, 67) := ⟨⟨by decide +kernel, by decide +kernel⟩, List.mem_of_getElem? (i := 1093) (by decide +kernel), List.mem_of_getElem? (i := 1403) (by decide +kernel), List.mem_of_getElem? (i := 1404) (by decide +kernel)⟩
def lw_privs_3 : List (MethodName × Nat) := [(⟨"ToOneCrumb$Seating", "isLess", "()Z"⟩, 8), (⟨"ToOneCrumb$Seating", "isCalmWith", "(II)Z"⟩, 8), (⟨"ToOneCrumb$Seating", "prefers", "(II)Z"⟩, 8), (⟨"ToOneCrumb$Turns", "favourite", "(III)I"⟩, 4), (⟨"ToOneCrumb", "hasByLie", "(III)I"⟩, 16), (⟨"ToOneCrumb$Choices", "fits", "(ILToOneCrumb$Rule;LToOneCrumb$Loaf;I)Z"⟩, 8), (⟨"ToOneCrumb$Choices", "ask", "(ILToOneCrumb$Rule;LToOneCrumb$Loaf;I)I"⟩, 8), (⟨"ToOneCrumb$Choices", "countThisTime", "(I)V"⟩, 8), (⟨"java/lang/Throwable", "fillInStackTrace", "(I)Ljava/lang/Throwable;"⟩, 6), (⟨"ToOneCrumbModel", "begins", "(I)I"⟩, 67), (⟨"ToOneCrumbModel", "among", "(Ljava/lang/String;)I"⟩, 67), (⟨"ToOneCrumbModel", "takesOf", "(Ljava/lang/String;)I"⟩, 67), (⟨"ToOneCrumbModel", "takes", "(I)Z"⟩, 67), (⟨"ToOneCrumbModel", "faultOf", "(IIZ)I"⟩, 67), (⟨"ToOneCrumbModel", "readsGuest", "()Z"⟩, 67), (⟨"ToOneCrumbModel", "number", "(I)I"⟩, 67)]
theorem lw_r3 : ∀ q ∈ lw_privs_3, lw_okq q := List.forall_mem_cons.mpr ⟨lw_p32, List.forall_mem_cons.mpr ⟨lw_p33, List.forall_mem_cons.mpr ⟨lw_p34, List.forall_mem_cons.mpr ⟨lw_p35, List.forall_mem_cons.mpr ⟨lw_p36, List.forall_mem_cons.mpr ⟨lw_p37, List.forall_mem_cons.mpr ⟨lw_p38, List.forall_mem_cons.mpr ⟨lw_p39, List.forall_mem_cons.mpr ⟨lw_p40, List.forall_mem_cons.mpr ⟨lw_p41, List.forall_mem_cons.mpr ⟨lw_p42, List.forall_mem_cons.mpr ⟨lw_p43, List.forall_mem_cons.mpr ⟨lw_p44, List.forall_mem_cons.mpr ⟨lw_p45, List.forall_mem_cons.mpr ⟨lw_p46, List.forall_mem_cons.mpr ⟨lw_p47, fun _ h => absurd h List.not_mem_nil⟩⟩⟩⟩⟩⟩⟩⟩⟩⟩⟩⟩⟩⟩⟩⟩
theorem lw_p48 : lw_okq (⟨"ToOneCrumbModel", "isDigit", "()Z"⟩, 67) := ⟨⟨by decide +kernel, by decide +kernel⟩, List.mem_of_getElem? (i := 1093) (by decide +kernel), List.mem_of_getElem? (i := 1407) (by decide +kernel), List.mem_of_getElem? (i := 1408) (by decide +kernel)⟩
theorem lw_p49 : lw_okq (⟨"ToOneCrumbModel", "readsDeed", "()Z"⟩, 67) := ⟨⟨by decide +kernel, by decide +kernel⟩, List.mem_of_getElem? (i := 1093) (by decide +kernel), List.mem_of_getElem? (i := 1417) (by decide +kernel), List.mem_of_getElem? (i := 1418) (by decide +kernel)⟩
theorem lw_p50 : lw_okq (⟨"ToOneCrumbModel", "letter", "(I)I"⟩, 67) := ⟨⟨by decide +kernel, by decide +kernel⟩, List.mem_of_getElem? (i := 1093) (by decide +kernel), List.mem_of_getElem? (i := 1422) (by decide +kernel), List.mem_of_getElem? (i := 1423) (by decide +kernel)⟩
theorem lw_p51 : lw_okq (⟨"ToOneCrumbModel", "allDeserts", "()I"⟩, 67) := ⟨⟨by decide +kernel, by decide +kernel⟩, List.mem_of_getElem? (i := 1093) (by decide +kernel), List.mem_of_getElem? (i := 1428) (by decide +kernel), List.mem_of_getElem? (i := 1429) (by decide +kernel)⟩
theorem lw_p52 : lw_okq (⟨"ToOneCrumbModel", "readsRank", "(I)Z"⟩, 67) := ⟨⟨by decide +kernel, by decide +kernel⟩, List.mem_of_getElem? (i := 1093) (by decide +kernel), List.mem_of_getElem? (i := 1436) (by decide +kernel), List.mem_of_getElem? (i := 1437) (by decide +kernel)⟩
theorem lw_p53 : lw_okq (⟨"ToOneCrumbModel", "readsThing", "()Z"⟩, 67) := ⟨⟨by decide +kernel, by decide +kernel⟩, List.mem_of_getElem? (i := 1093) (by decide +kernel), List.mem_of_getElem? (i := 1440) (by decide +kernel), List.mem_of_getElem? (i := 1441) (by decide +kernel)⟩
theorem lw_p54 : lw_okq (⟨"ToOneCrumbModel", "codes", "(I)V"⟩, 67) := ⟨⟨by decide +kernel, by decide +kernel⟩, List.mem_of_getElem? (i := 1093) (by decide +kernel), List.mem_of_getElem? (i := 1444) (by decide +kernel), List.mem_of_getElem? (i := 1445) (by decide +kernel)⟩
theorem lw_p55 : lw_okq (⟨"ToOneCrumbModel", "isCell", "(I)Z"⟩, 67) := ⟨⟨by decide +kernel, by decide +kernel⟩, List.mem_of_getElem? (i := 1093) (by decide +kernel), List.mem_of_getElem? (i := 1456) (by decide +kernel), List.mem_of_getElem? (i := 1457) (by decide +kernel)⟩
theorem lw_p56 : lw_okq (⟨"ToOneCrumbModel", "refuse", "()I"⟩, 67) := ⟨⟨by decide +kernel, by decide +kernel⟩, List.mem_of_getElem? (i := 1093) (by decide +kernel), List.mem_of_getElem? (i := 1461) (by decide +kernel), List.mem_of_getElem? (i := 1462) (by decide +kernel)⟩
theorem lw_p57 : lw_okq (⟨"ToOneCrumbModel", "isGuest", "(I)Z"⟩, 67) := ⟨⟨by decide +kernel, by decide +kernel⟩, List.mem_of_getElem? (i := 1093) (by decide +kernel), List.mem_of_getElem? (i := 1469) (by decide +kernel), List.mem_of_getElem? (i := 1470) (by decide +kernel)⟩
theorem lw_p58 : lw_okq (⟨"ToOneCrumbModel", "laysTable", "()V"⟩, 67) := ⟨⟨by decide +kernel, by decide +kernel⟩, List.mem_of_getElem? (i := 1093) (by decide +kernel), List.mem_of_getElem? (i := 1474) (by decide +kernel), List.mem_of_getElem? (i := 1475) (by decide +kernel)⟩
theorem lw_p59 : lw_okq (⟨"ToOneCrumbModel", "worthOf", "(II)I"⟩, 67) := ⟨⟨by decide +kernel, by decide +kernel⟩, List.mem_of_getElem? (i := 1093) (by decide +kernel), List.mem_of_getElem? (i := 1478) (by decide +kernel), List.mem_of_getElem? (i := 1479) (by decide +kernel)⟩
theorem lw_p60 : lw_okq (⟨"ToOneCrumbModel", "worthBy", "(IIIII)I"⟩, 67) := ⟨⟨by decide +kernel, by decide +kernel⟩, List.mem_of_getElem? (i := 1093) (by decide +kernel), List.mem_of_getElem? (i := 1482) (by decide +kernel), List.mem_of_getElem? (i := 1483) (by decide +kernel)⟩
theorem lw_p61 : lw_okq (⟨"ToOneCrumbModel", "ruled", "()I"⟩, 67) := ⟨⟨by decide +kernel, by decide +kernel⟩, List.mem_of_getElem? (i := 1093) (by decide +kernel), List.mem_of_getElem? (i := 1486) (by decide +kernel), List.mem_of_getElem? (i := 1487) (by decide +kernel)⟩
theorem lw_p62 : lw_okq (⟨"ToOneCrumbModel", "holds", "(I)I"⟩, 67) := ⟨⟨by decide +kernel, by decide +kernel⟩, List.mem_of_getElem? (i := 1093) (by decide +kernel), List.mem_of_getElem? (i := 1493) (by decide +kernel), List.mem_of_getElem? (i := 1494) (by decide +kernel)⟩
theorem lw_p63 : lw_okq (⟨"ToOneCrumbModel", "held", "(II)I"⟩, 67) := ⟨⟨by decide +kernel, by decide +kernel⟩, List.mem_of_getElem? (i := 1093) (by decide +kernel), List.mem_of_getElem? (i := 1497) (by decide +kernel), List.mem_of_getElem? (i := 1498) (by decide +kernel)⟩
def lw_privs_4 : List (MethodName × Nat) := [(⟨"ToOneCrumbModel", "isDigit", "()Z"⟩, 67), (⟨"ToOneCrumbModel", "readsDeed", "()Z"⟩, 67), (⟨"ToOneCrumbModel", "letter", "(I)I"⟩, 67), (⟨"ToOneCrumbModel", "allDeserts", "()I"⟩, 67), (⟨"ToOneCrumbModel", "readsRank", "(I)Z"⟩, 67), (⟨"ToOneCrumbModel", "readsThing", "()Z"⟩, 67), (⟨"ToOneCrumbModel", "codes", "(I)V"⟩, 67), (⟨"ToOneCrumbModel", "isCell", "(I)Z"⟩, 67), (⟨"ToOneCrumbModel", "refuse", "()I"⟩, 67), (⟨"ToOneCrumbModel", "isGuest", "(I)Z"⟩, 67), (⟨"ToOneCrumbModel", "laysTable", "()V"⟩, 67), (⟨"ToOneCrumbModel", "worthOf", "(II)I"⟩, 67), (⟨"ToOneCrumbModel", "worthBy", "(IIIII)I"⟩, 67), (⟨"ToOneCrumbModel", "ruled", "()I"⟩, 67), (⟨"ToOneCrumbModel", "holds", "(I)I"⟩, 67), (⟨"ToOneCrumbModel", "held", "(II)I"⟩, 67)]
theorem lw_r4 : ∀ q ∈ lw_privs_4, lw_okq q := List.forall_mem_cons.mpr ⟨lw_p48, List.forall_mem_cons.mpr ⟨lw_p49, List.forall_mem_cons.mpr ⟨lw_p50, List.forall_mem_cons.mpr ⟨lw_p51, List.forall_mem_cons.mpr ⟨lw_p52, List.forall_mem_cons.mpr ⟨lw_p53, List.forall_mem_cons.mpr ⟨lw_p54, List.forall_mem_cons.mpr ⟨lw_p55, List.forall_mem_cons.mpr ⟨lw_p56, List.forall_mem_cons.mpr ⟨lw_p57, List.forall_mem_cons.mpr ⟨lw_p58, List.forall_mem_cons.mpr ⟨lw_p59, List.forall_mem_cons.mpr ⟨lw_p60, List.forall_mem_cons.mpr ⟨lw_p61, List.forall_mem_cons.mpr ⟨lw_p62, List.forall_mem_cons.mpr ⟨lw_p63, fun _ h => absurd h List.not_mem_nil⟩⟩⟩⟩⟩⟩⟩⟩⟩⟩⟩⟩⟩⟩⟩⟩
theorem lw_p64 : lw_okq (⟨"ToOneCrumbModel", "isDue", "(IJI)Z"⟩, 67) := ⟨⟨by decide +kernel, by decide +kernel⟩, List.mem_of_getElem? (i := 1093) (by decide +kernel), List.mem_of_getElem? (i := 1501) (by decide +kernel), List.mem_of_getElem? (i := 1502) (by decide +kernel)⟩
theorem lw_p65 : lw_okq (⟨"ToOneCrumbModel", "putsBy", "()V"⟩, 67) := ⟨⟨by decide +kernel, by decide +kernel⟩, List.mem_of_getElem? (i := 1093) (by decide +kernel), List.mem_of_getElem? (i := 1528) (by decide +kernel), List.mem_of_getElem? (i := 1529) (by decide +kernel)⟩
theorem lw_p66 : lw_okq (⟨"ToOneCrumbModel", "gives", "(III)I"⟩, 67) := ⟨⟨by decide +kernel, by decide +kernel⟩, List.mem_of_getElem? (i := 1093) (by decide +kernel), List.mem_of_getElem? (i := 1532) (by decide +kernel), List.mem_of_getElem? (i := 1533) (by decide +kernel)⟩
theorem lw_p67 : lw_okq (⟨"ToOneCrumbModel", "isSlice", "(II)Z"⟩, 67) := ⟨⟨by decide +kernel, by decide +kernel⟩, List.mem_of_getElem? (i := 1093) (by decide +kernel), List.mem_of_getElem? (i := 1536) (by decide +kernel), List.mem_of_getElem? (i := 1537) (by decide +kernel)⟩
theorem lw_p68 : lw_okq (⟨"ToOneCrumbModel", "counts", "(I)I"⟩, 67) := ⟨⟨by decide +kernel, by decide +kernel⟩, List.mem_of_getElem? (i := 1093) (by decide +kernel), List.mem_of_getElem? (i := 1540) (by decide +kernel), List.mem_of_getElem? (i := 1541) (by decide +kernel)⟩
theorem lw_p69 : lw_okq (⟨"ToOneCrumbModel", "adds", "(I)I"⟩, 67) := ⟨⟨by decide +kernel, by decide +kernel⟩, List.mem_of_getElem? (i := 1093) (by decide +kernel), List.mem_of_getElem? (i := 1544) (by decide +kernel), List.mem_of_getElem? (i := 1545) (by decide +kernel)⟩
theorem lw_p70 : lw_okq (⟨"ToOneCrumbModel", "backs", "(II)I"⟩, 67) := ⟨⟨by decide +kernel, by decide +kernel⟩, List.mem_of_getElem? (i := 1093) (by decide +kernel), List.mem_of_getElem? (i := 1552) (by decide +kernel), List.mem_of_getElem? (i := 1553) (by decide +kernel)⟩
theorem lw_p71 : lw_okq (⟨"ToOneCrumbModel", "eats", "(I)I"⟩, 67) := ⟨⟨by decide +kernel, by decide +kernel⟩, List.mem_of_getElem? (i := 1093) (by decide +kernel), List.mem_of_getElem? (i := 1560) (by decide +kernel), List.mem_of_getElem? (i := 1561) (by decide +kernel)⟩
theorem lw_p72 : lw_okq (⟨"ToOneCrumbModel", "readsAct", "()Z"⟩, 67) := ⟨⟨by decide +kernel, by decide +kernel⟩, List.mem_of_getElem? (i := 1093) (by decide +kernel), List.mem_of_getElem? (i := 1568) (by decide +kernel), List.mem_of_getElem? (i := 1569) (by decide +kernel)⟩
theorem lw_p73 : lw_okq (⟨"ToOneCrumbModel", "does", "(I)Z"⟩, 67) := ⟨⟨by decide +kernel, by decide +kernel⟩, List.mem_of_getElem? (i := 1093) (by decide +kernel), List.mem_of_getElem? (i := 1573) (by decide +kernel), List.mem_of_getElem? (i := 1574) (by decide +kernel)⟩
theorem lw_p74 : lw_okq (⟨"ToOneCrumbModel", "enters", "(J)V"⟩, 67) := ⟨⟨by decide +kernel, by decide +kernel⟩, List.mem_of_getElem? (i := 1093) (by decide +kernel), List.mem_of_getElem? (i := 1577) (by decide +kernel), List.mem_of_getElem? (i := 1578) (by decide +kernel)⟩
theorem lw_p75 : lw_okq (⟨"ToOneCrumbModel", "all", "()I"⟩, 67) := ⟨⟨by decide +kernel, by decide +kernel⟩, List.mem_of_getElem? (i := 1093) (by decide +kernel), List.mem_of_getElem? (i := 1613) (by decide +kernel), List.mem_of_getElem? (i := 1614) (by decide +kernel)⟩
theorem lw_p76 : lw_okq (⟨"ToOneCrumbModel", "canServe", "(II)Z"⟩, 67) := ⟨⟨by decide +kernel, by decide +kernel⟩, List.mem_of_getElem? (i := 1093) (by decide +kernel), List.mem_of_getElem? (i := 1617) (by decide +kernel), List.mem_of_getElem? (i := 1618) (by decide +kernel)⟩
theorem lw_p77 : lw_okq (⟨"ToOneCrumbModel", "serves", "(IIII)V"⟩, 67) := ⟨⟨by decide +kernel, by decide +kernel⟩, List.mem_of_getElem? (i := 1093) (by decide +kernel), List.mem_of_getElem? (i := 1621) (by decide +kernel), List.mem_of_getElem? (i := 1622) (by decide +kernel)⟩
theorem lw_p78 : lw_okq (⟨"ToOneCrumbModel", "isTurnLess", "(I)Z"⟩, 67) := ⟨⟨by decide +kernel, by decide +kernel⟩, List.mem_of_getElem? (i := 1093) (by decide +kernel), List.mem_of_getElem? (i := 1625) (by decide +kernel), List.mem_of_getElem? (i := 1626) (by decide +kernel)⟩
theorem lw_p79 : lw_okq (⟨"ToOneCrumbModel", "endFor", "(III)I"⟩, 67) := ⟨⟨by decide +kernel, by decide +kernel⟩, List.mem_of_getElem? (i := 1093) (by decide +kernel), List.mem_of_getElem? (i := 1632) (by decide +kernel), List.mem_of_getElem? (i := 1633) (by decide +kernel)⟩
def lw_privs_5 : List (MethodName × Nat) := [(⟨"ToOneCrumbModel", "isDue", "(IJI)Z"⟩, 67), (⟨"ToOneCrumbModel", "putsBy", "()V"⟩, 67), (⟨"ToOneCrumbModel", "gives", "(III)I"⟩, 67), (⟨"ToOneCrumbModel", "isSlice", "(II)Z"⟩, 67), (⟨"ToOneCrumbModel", "counts", "(I)I"⟩, 67), (⟨"ToOneCrumbModel", "adds", "(I)I"⟩, 67), (⟨"ToOneCrumbModel", "backs", "(II)I"⟩, 67), (⟨"ToOneCrumbModel", "eats", "(I)I"⟩, 67), (⟨"ToOneCrumbModel", "readsAct", "()Z"⟩, 67), (⟨"ToOneCrumbModel", "does", "(I)Z"⟩, 67), (⟨"ToOneCrumbModel", "enters", "(J)V"⟩, 67), (⟨"ToOneCrumbModel", "all", "()I"⟩, 67), (⟨"ToOneCrumbModel", "canServe", "(II)Z"⟩, 67), (⟨"ToOneCrumbModel", "serves", "(IIII)V"⟩, 67), (⟨"ToOneCrumbModel", "isTurnLess", "(I)Z"⟩, 67), (⟨"ToOneCrumbModel", "endFor", "(III)I"⟩, 67)]
theorem lw_r5 : ∀ q ∈ lw_privs_5, lw_okq q := List.forall_mem_cons.mpr ⟨lw_p64, List.forall_mem_cons.mpr ⟨lw_p65, List.forall_mem_cons.mpr ⟨lw_p66, List.forall_mem_cons.mpr ⟨lw_p67, List.forall_mem_cons.mpr ⟨lw_p68, List.forall_mem_cons.mpr ⟨lw_p69, List.forall_mem_cons.mpr ⟨lw_p70, List.forall_mem_cons.mpr ⟨lw_p71, List.forall_mem_cons.mpr ⟨lw_p72, List.forall_mem_cons.mpr ⟨lw_p73, List.forall_mem_cons.mpr ⟨lw_p74, List.forall_mem_cons.mpr ⟨lw_p75, List.forall_mem_cons.mpr ⟨lw_p76, List.forall_mem_cons.mpr ⟨lw_p77, List.forall_mem_cons.mpr ⟨lw_p78, List.forall_mem_cons.mpr ⟨lw_p79, fun _ h => absurd h List.not_mem_nil⟩⟩⟩⟩⟩⟩⟩⟩⟩⟩⟩⟩⟩⟩⟩⟩
theorem lw_p80 : lw_okq (⟨"ToOneCrumbModel", "sliceOf", "(III)I"⟩, 67) := ⟨⟨by decide +kernel, by decide +kernel⟩, List.mem_of_getElem? (i := 1093) (by decide +kernel), List.mem_of_getElem? (i := 1648) (by decide +kernel), List.mem_of_getElem? (i := 1649) (by decide +kernel)⟩
theorem lw_p81 : lw_okq (⟨"ToOneCrumbModel", "partsOn", "(IIIII)V"⟩, 67) := ⟨⟨by decide +kernel, by decide +kernel⟩, List.mem_of_getElem? (i := 1093) (by decide +kernel), List.mem_of_getElem? (i := 1658) (by decide +kernel), List.mem_of_getElem? (i := 1659) (by decide +kernel)⟩
theorem lw_p82 : lw_okq (⟨"ToOneCrumbModel", "calmsFrom", "(II)V"⟩, 67) := ⟨⟨by decide +kernel, by decide +kernel⟩, List.mem_of_getElem? (i := 1093) (by decide +kernel), List.mem_of_getElem? (i := 1666) (by decide +kernel), List.mem_of_getElem? (i := 1667) (by decide +kernel)⟩
theorem lw_p83 : lw_okq (⟨"ToOneCrumbModel", "isCalm", "()Z"⟩, 67) := ⟨⟨by decide +kernel, by decide +kernel⟩, List.mem_of_getElem? (i := 1093) (by decide +kernel), List.mem_of_getElem? (i := 1670) (by decide +kernel), List.mem_of_getElem? (i := 1671) (by decide +kernel)⟩
theorem lw_p84 : lw_okq (⟨"ToOneCrumbModel", "goesTo", "(III)V"⟩, 67) := ⟨⟨by decide +kernel, by decide +kernel⟩, List.mem_of_getElem? (i := 1093) (by decide +kernel), List.mem_of_getElem? (i := 1674) (by decide +kernel), List.mem_of_getElem? (i := 1675) (by decide +kernel)⟩
theorem lw_p85 : lw_okq (⟨"ToOneCrumbModel", "readsTurns", "()I"⟩, 67) := ⟨⟨by decide +kernel, by decide +kernel⟩, List.mem_of_getElem? (i := 1093) (by decide +kernel), List.mem_of_getElem? (i := 1687) (by decide +kernel), List.mem_of_getElem? (i := 1688) (by decide +kernel)⟩
theorem lw_p86 : lw_okq (⟨"ToOneCrumbModel", "picksAsWorth", "()V"⟩, 67) := ⟨⟨by decide +kernel, by decide +kernel⟩, List.mem_of_getElem? (i := 1093) (by decide +kernel), List.mem_of_getElem? (i := 1691) (by decide +kernel), List.mem_of_getElem? (i := 1692) (by decide +kernel)⟩
theorem lw_p87 : lw_okq (⟨"ToOneCrumbModel", "goesByTurns", "()V"⟩, 67) := ⟨⟨by decide +kernel, by decide +kernel⟩, List.mem_of_getElem? (i := 1093) (by decide +kernel), List.mem_of_getElem? (i := 1695) (by decide +kernel), List.mem_of_getElem? (i := 1696) (by decide +kernel)⟩
theorem lw_p88 : lw_okq (⟨"ToOneCrumbModel", "fitsBy", "(IIII)Z"⟩, 67) := ⟨⟨by decide +kernel, by decide +kernel⟩, List.mem_of_getElem? (i := 1093) (by decide +kernel), List.mem_of_getElem? (i := 1715) (by decide +kernel), List.mem_of_getElem? (i := 1716) (by decide +kernel)⟩
theorem lw_p89 : lw_okq (⟨"ToOneCrumbModel", "meets", "(II)V"⟩, 67) := ⟨⟨by decide +kernel, by decide +kernel⟩, List.mem_of_getElem? (i := 1093) (by decide +kernel), List.mem_of_getElem? (i := 1727) (by decide +kernel), List.mem_of_getElem? (i := 1728) (by decide +kernel)⟩
theorem lw_p90 : lw_okq (⟨"ToOneCrumbModel", "crumbsAll", "()I"⟩, 67) := ⟨⟨by decide +kernel, by decide +kernel⟩, List.mem_of_getElem? (i := 1093) (by decide +kernel), List.mem_of_getElem? (i := 1740) (by decide +kernel), List.mem_of_getElem? (i := 1741) (by decide +kernel)⟩
theorem lw_p91 : lw_okq (⟨"ToOneCrumbModel", "desertsOf", "(I)I"⟩, 67) := ⟨⟨by decide +kernel, by decide +kernel⟩, List.mem_of_getElem? (i := 1093) (by decide +kernel), List.mem_of_getElem? (i := 1749) (by decide +kernel), List.mem_of_getElem? (i := 1750) (by decide +kernel)⟩
theorem lw_p92 : lw_okq (⟨"ToOneCrumbModel", "bets", "(II)V"⟩, 67) := ⟨⟨by decide +kernel, by decide +kernel⟩, List.mem_of_getElem? (i := 1093) (by decide +kernel), List.mem_of_getElem? (i := 1758) (by decide +kernel), List.mem_of_getElem? (i := 1759) (by decide +kernel)⟩
def lw_privs_6 : List (MethodName × Nat) := [(⟨"ToOneCrumbModel", "sliceOf", "(III)I"⟩, 67), (⟨"ToOneCrumbModel", "partsOn", "(IIIII)V"⟩, 67), (⟨"ToOneCrumbModel", "calmsFrom", "(II)V"⟩, 67), (⟨"ToOneCrumbModel", "isCalm", "()Z"⟩, 67), (⟨"ToOneCrumbModel", "goesTo", "(III)V"⟩, 67), (⟨"ToOneCrumbModel", "readsTurns", "()I"⟩, 67), (⟨"ToOneCrumbModel", "picksAsWorth", "()V"⟩, 67), (⟨"ToOneCrumbModel", "goesByTurns", "()V"⟩, 67), (⟨"ToOneCrumbModel", "fitsBy", "(IIII)Z"⟩, 67), (⟨"ToOneCrumbModel", "meets", "(II)V"⟩, 67), (⟨"ToOneCrumbModel", "crumbsAll", "()I"⟩, 67), (⟨"ToOneCrumbModel", "desertsOf", "(I)I"⟩, 67), (⟨"ToOneCrumbModel", "bets", "(II)V"⟩, 67)]
theorem lw_r6 : ∀ q ∈ lw_privs_6, lw_okq q := List.forall_mem_cons.mpr ⟨lw_p80, List.forall_mem_cons.mpr ⟨lw_p81, List.forall_mem_cons.mpr ⟨lw_p82, List.forall_mem_cons.mpr ⟨lw_p83, List.forall_mem_cons.mpr ⟨lw_p84, List.forall_mem_cons.mpr ⟨lw_p85, List.forall_mem_cons.mpr ⟨lw_p86, List.forall_mem_cons.mpr ⟨lw_p87, List.forall_mem_cons.mpr ⟨lw_p88, List.forall_mem_cons.mpr ⟨lw_p89, List.forall_mem_cons.mpr ⟨lw_p90, List.forall_mem_cons.mpr ⟨lw_p91, List.forall_mem_cons.mpr ⟨lw_p92, fun _ h => absurd h List.not_mem_nil⟩⟩⟩⟩⟩⟩⟩⟩⟩⟩⟩⟩⟩
def lw_privs : List (MethodName × Nat) := lw_privs_1 ++ (lw_privs_2 ++ (lw_privs_3 ++ (lw_privs_4 ++ (lw_privs_5 ++ (lw_privs_6)))))
def lw_tbl : List Cond := k2_sels lw_privs ++ tables_1
theorem lw_privs_ok : ∀ q ∈ lw_privs, lw_okq q := by
  show ∀ q ∈ lw_privs_1 ++ (lw_privs_2 ++ (lw_privs_3 ++ (lw_privs_4 ++ (lw_privs_5 ++ (lw_privs_6))))), lw_okq q
  exact List.forall_mem_append.mpr ⟨lw_r1, List.forall_mem_append.mpr ⟨lw_r2, List.forall_mem_append.mpr ⟨lw_r3, List.forall_mem_append.mpr ⟨lw_r4, List.forall_mem_append.mpr ⟨lw_r5, lw_r6⟩⟩⟩⟩⟩
def RX0 : String := "ToOneCrumb$Board"
def TX0 : u_T := fun k => match k with
  | 0 => ("ToOneCrumb$Board", "past", "[J", true)
  | 1 => ("ToOneCrumb$Board", "kept", "[J", true)
  | 2 => ("ToOneCrumb$Board", "holders", "J", false)
  | 3 => ("ToOneCrumb$Board", "pasts", "I", false)
  | _ => ("ToOneCrumb$Board", "whichKept", "I", false)
def tyX0 : Nat → FieldType := fun k => match k with
  | 0 => .array .long
  | 1 => .array .long
  | 2 => .long
  | 3 => .int
  | _ => .int
abbrev wsX00 : List Cond := u_ws RX0 TX0 5
theorem nmX0 : ∀ a, a < 5 → ∀ b, b < 5 → a ≠ b → (TX0 a).2.1 ≠ (TX0 b).2.1 := by decide +kernel
theorem tyX0_ok : ∀ k, k < 5 → parseFieldDescriptor (TX0 k).2.2.1 = some (tyX0 k) := by decide +kernel
abbrev cX0_init : ByteArray := prog_2_method_1_code
def yX0_init : MethodName := ⟨RX0, "<init>", "()V"⟩
abbrev cX0_holderOf : ByteArray := prog_2_method_2_code
def yX0_holderOf : MethodName := ⟨RX0, "holderOf", "(I)I"⟩
abbrev cX0_put : ByteArray := prog_2_method_3_code
def yX0_put : MethodName := ⟨RX0, "put", "(II)V"⟩
abbrev cX0_startAnew : ByteArray := prog_2_method_4_code
def yX0_startAnew : MethodName := ⟨RX0, "startAnew", "()V"⟩
abbrev cX0_remember : ByteArray := prog_2_method_5_code
def yX0_remember : MethodName := ⟨RX0, "remember", "(J)V"⟩
abbrev cX0_stepBack : ByteArray := prog_2_method_6_code
def yX0_stepBack : MethodName := ⟨RX0, "stepBack", "()I"⟩
abbrev cX0_store : ByteArray := prog_2_method_7_code
def yX0_store : MethodName := ⟨RX0, "store", "(I)Z"⟩
abbrev cX0_restore : ByteArray := prog_2_method_8_code
def yX0_restore : MethodName := ⟨RX0, "restore", "(I)Z"⟩
def RX1 : String := "ToOneCrumb$Choices"
def TX1 : u_T := fun k => match k with
  | 0 => ("ToOneCrumb$Choices", "taken", "[I", true)
  | 1 => ("ToOneCrumb$Choices", "left", "[I", true)
  | 2 => ("ToOneCrumb$Choices", "tried", "[I", true)
  | 3 => ("ToOneCrumb$Choices", "leastTastes", "[I", true)
  | 4 => ("ToOneCrumb$Choices", "asked", "[I", true)
  | 5 => ("ToOneCrumb$Choices", "noLess", "[I", true)
  | 6 => ("ToOneCrumb$Choices", "known", "I", false)
  | _ => ("ToOneCrumb$Choices", "size", "I", false)
def tyX1 : Nat → FieldType := fun k => match k with
  | 0 => .array .int
  | 1 => .array .int
  | 2 => .array .int
  | 3 => .array .int
  | 4 => .array .int
  | 5 => .array .int
  | 6 => .int
  | _ => .int
abbrev wsX10 : List Cond := u_ws RX1 TX1 8
theorem nmX1 : ∀ a, a < 8 → ∀ b, b < 8 → a ≠ b → (TX1 a).2.1 ≠ (TX1 b).2.1 := by decide +kernel
theorem tyX1_ok : ∀ k, k < 8 → parseFieldDescriptor (TX1 k).2.2.1 = some (tyX1 k) := by decide +kernel
abbrev cX1_init : ByteArray := prog_3_method_1_code
def yX1_init : MethodName := ⟨RX1, "<init>", "()V"⟩
abbrev cX1_tell : ByteArray := prog_3_method_2_code
def yX1_tell : MethodName := ⟨RX1, "tell", "(II)I"⟩
abbrev cX1_countFitting : ByteArray := prog_3_method_3_code
def yX1_countFitting : MethodName := ⟨RX1, "countFitting", "(LToOneCrumb$Rule;LToOneCrumb$Loaf;I)I"⟩
abbrev cX1_countPairs : ByteArray := prog_3_method_4_code
def yX1_countPairs : MethodName := ⟨RX1, "countPairs", "(LToOneCrumb$Rule;LToOneCrumb$Loaf;I)V"⟩
abbrev cX1_countThisTime : ByteArray := prog_3_method_5_code
def yX1_countThisTime : MethodName := ⟨RX1, "countThisTime", "(I)V"⟩
abbrev cX1_leftAtMost : ByteArray := prog_3_method_6_code
def yX1_leftAtMost : MethodName := ⟨RX1, "leftAtMost", "(II)I"⟩
abbrev cX1_fits : ByteArray := prog_3_method_7_code
def yX1_fits : MethodName := ⟨RX1, "fits", "(ILToOneCrumb$Rule;LToOneCrumb$Loaf;I)Z"⟩
abbrev cX1_ask : ByteArray := prog_3_method_8_code
def yX1_ask : MethodName := ⟨RX1, "ask", "(ILToOneCrumb$Rule;LToOneCrumb$Loaf;I)I"⟩
def RX2 : String := "ToOneCrumb$Loaf"
def TX2 : u_T := fun k => match k with
  | 0 => ("ToOneCrumb$Loaf", "crumbs", "[I", true)
  | 1 => ("ToOneCrumb$Loaf", "raisins", "[I", true)
  | 2 => ("ToOneCrumb$Loaf", "crust", "[I", true)
  | _ => ("ToOneCrumb$Loaf", "cells", "I", false)
def tyX2 : Nat → FieldType := fun k => match k with
  | 0 => .array .int
  | 1 => .array .int
  | 2 => .array .int
  | _ => .int
abbrev wsX20 : List Cond := u_ws RX2 TX2 4
theorem nmX2 : ∀ a, a < 4 → ∀ b, b < 4 → a ≠ b → (TX2 a).2.1 ≠ (TX2 b).2.1 := by decide +kernel
theorem tyX2_ok : ∀ k, k < 4 → parseFieldDescriptor (TX2 k).2.2.1 = some (tyX2 k) := by decide +kernel
abbrev cX2_init : ByteArray := prog_4_method_1_code
def yX2_init : MethodName := ⟨RX2, "<init>", "()V"⟩
abbrev cX2_read : ByteArray := prog_4_method_2_code
def yX2_read : MethodName := ⟨RX2, "read", "(LToOneCrumb$Text;)Z"⟩
abbrev cX2_allCrumbs : ByteArray := prog_4_method_3_code
def yX2_allCrumbs : MethodName := ⟨RX2, "allCrumbs", "()I"⟩
def RX3 : String := "ToOneCrumb$Party"
def TX3 : u_T := fun k => match k with
  | 0 => ("ToOneCrumb$Party", "likes", "[I", true)
  | 1 => ("ToOneCrumb$Party", "deserts", "[I", true)
  | 2 => ("ToOneCrumb$Party", "earned", "[I", true)
  | _ => ("ToOneCrumb$Party", "size", "I", false)
def tyX3 : Nat → FieldType := fun k => match k with
  | 0 => .array .int
  | 1 => .array .int
  | 2 => .array .int
  | _ => .int
abbrev wsX30 : List Cond := u_ws RX3 TX3 4
theorem nmX3 : ∀ a, a < 4 → ∀ b, b < 4 → a ≠ b → (TX3 a).2.1 ≠ (TX3 b).2.1 := by decide +kernel
theorem tyX3_ok : ∀ k, k < 4 → parseFieldDescriptor (TX3 k).2.2.1 = some (tyX3 k) := by decide +kernel
abbrev cX3_init : ByteArray := prog_5_method_1_code
def yX3_init : MethodName := ⟨RX3, "<init>", "()V"⟩
abbrev cX3_tasteOf : ByteArray := prog_5_method_2_code
def yX3_tasteOf : MethodName := ⟨RX3, "tasteOf", "(II)I"⟩
abbrev cX3_readLines : ByteArray := prog_5_method_3_code
def yX3_readLines : MethodName := ⟨RX3, "readLines", "(LToOneCrumb$Text;)I"⟩
abbrev cX3_admit : ByteArray := prog_5_method_4_code
def yX3_admit : MethodName := ⟨RX3, "admit", "(I)V"⟩
abbrev cX3_readDeeds : ByteArray := prog_5_method_5_code
def yX3_readDeeds : MethodName := ⟨RX3, "readDeeds", "(LToOneCrumb$Text;)Z"⟩
abbrev cX3_readDeed : ByteArray := prog_5_method_6_code
def yX3_readDeed : MethodName := ⟨RX3, "readDeed", "(LToOneCrumb$Text;)Z"⟩
abbrev cX3_judge : ByteArray := prog_5_method_7_code
def yX3_judge : MethodName := ⟨RX3, "judge", "()V"⟩
abbrev cX3_desertsOf : ByteArray := prog_5_method_8_code
def yX3_desertsOf : MethodName := ⟨RX3, "desertsOf", "(I)I"⟩
abbrev cX3_allDeserts : ByteArray := prog_5_method_9_code
def yX3_allDeserts : MethodName := ⟨RX3, "allDeserts", "()I"⟩
abbrev cX3_canPart : ByteArray := prog_5_method_10_code
def yX3_canPart : MethodName := ⟨RX3, "canPart", "(II)Z"⟩
abbrev cX3_chanceOf : ByteArray := prog_5_method_11_code
def yX3_chanceOf : MethodName := ⟨RX3, "chanceOf", "(II)J"⟩
abbrev cX3_allChances : ByteArray := prog_5_method_12_code
def yX3_allChances : MethodName := ⟨RX3, "allChances", "()J"⟩
def RX4 : String := "ToOneCrumb$Placing"
def TX4 : u_T := fun k => match k with
  | 0 => ("ToOneCrumb$Placing", "who", "[I", true)
  | 1 => ("ToOneCrumb$Placing", "times", "[J", true)
  | 2 => ("ToOneCrumb$Placing", "need", "[J", true)
  | 3 => ("ToOneCrumb$Placing", "reach", "[I", true)
  | 4 => ("ToOneCrumb$Placing", "least", "[I", true)
  | 5 => ("ToOneCrumb$Placing", "order", "[I", true)
  | 6 => ("ToOneCrumb$Placing", "members", "I", false)
  | _ => ("ToOneCrumb$Placing", "cells", "I", false)
def tyX4 : Nat → FieldType := fun k => match k with
  | 0 => .array .int
  | 1 => .array .long
  | 2 => .array .long
  | 3 => .array .int
  | 4 => .array .int
  | 5 => .array .int
  | 6 => .int
  | _ => .int
abbrev wsX40 : List Cond := u_ws RX4 TX4 8
theorem nmX4 : ∀ a, a < 8 → ∀ b, b < 8 → a ≠ b → (TX4 a).2.1 ≠ (TX4 b).2.1 := by decide +kernel
theorem tyX4_ok : ∀ k, k < 8 → parseFieldDescriptor (TX4 k).2.2.1 = some (tyX4 k) := by decide +kernel
abbrev cX4_init : ByteArray := prog_6_method_1_code
def yX4_init : MethodName := ⟨RX4, "<init>", "()V"⟩
abbrev cX4_start : ByteArray := prog_6_method_2_code
def yX4_start : MethodName := ⟨RX4, "start", "(I)V"⟩
abbrev cX4_addMember : ByteArray := prog_6_method_3_code
def yX4_addMember : MethodName := ⟨RX4, "addMember", "(IJJ)V"⟩
abbrev cX4_readClaims : ByteArray := prog_6_method_4_code
def yX4_readClaims : MethodName := ⟨RX4, "readClaims", "(LToOneCrumb$Text;I)Z"⟩
abbrev cX4_spread : ByteArray := prog_6_method_5_code
def yX4_spread : MethodName := ⟨RX4, "spread", "(LToOneCrumb$Worths;)V"⟩
abbrev cX4_shortest : ByteArray := prog_6_method_6_code
def yX4_shortest : MethodName := ⟨RX4, "shortest", "(LToOneCrumb$Worths;II)I"⟩
abbrev cX4_reached : ByteArray := prog_6_method_7_code
def yX4_reached : MethodName := ⟨RX4, "reached", "(II)I"⟩
abbrev cX4_canServe : ByteArray := prog_6_method_8_code
def yX4_canServe : MethodName := ⟨RX4, "canServe", "(I)Z"⟩
abbrev cX4_tellOrder : ByteArray := prog_6_method_9_code
def yX4_tellOrder : MethodName := ⟨RX4, "tellOrder", "(ILToOneCrumb$Row;)V"⟩
abbrev cX4_findOrder : ByteArray := prog_6_method_10_code
def yX4_findOrder : MethodName := ⟨RX4, "findOrder", "(IIII)Z"⟩
def RX5 : String := "ToOneCrumb$Row"
def TX5 : u_T := fun k => match k with
  | 0 => ("ToOneCrumb$Row", "numbers", "[J", true)
  | _ => ("ToOneCrumb$Row", "size", "I", false)
def tyX5 : Nat → FieldType := fun k => match k with
  | 0 => .array .long
  | _ => .int
abbrev wsX50 : List Cond := u_ws RX5 TX5 2
theorem nmX5 : ∀ a, a < 2 → ∀ b, b < 2 → a ≠ b → (TX5 a).2.1 ≠ (TX5 b).2.1 := by decide +kernel
theorem tyX5_ok : ∀ k, k < 2 → parseFieldDescriptor (TX5 k).2.2.1 = some (tyX5 k) := by decide +kernel
abbrev cX5_init : ByteArray := prog_7_method_1_code
def yX5_init : MethodName := ⟨RX5, "<init>", "()V"⟩
abbrev cX5_clear : ByteArray := prog_7_method_2_code
def yX5_clear : MethodName := ⟨RX5, "clear", "()V"⟩
abbrev cX5_add : ByteArray := prog_7_method_3_code
def yX5_add : MethodName := ⟨RX5, "add", "(J)V"⟩
abbrev cX5_addFraction : ByteArray := prog_7_method_4_code
def yX5_addFraction : MethodName := ⟨RX5, "addFraction", "(JJ)V"⟩
def RX6 : String := "ToOneCrumb$Rule"
def TX6 : u_T := fun k => match k with
  | 0 => ("ToOneCrumb$Rule", "steps", "[I", true)
  | 1 => ("ToOneCrumb$Rule", "waiting", "[I", true)
  | 2 => ("ToOneCrumb$Rule", "values", "[I", true)
  | 3 => ("ToOneCrumb$Rule", "size", "I", false)
  | 4 => ("ToOneCrumb$Rule", "waits", "I", false)
  | 5 => ("ToOneCrumb$Rule", "depth", "I", false)
  | 6 => ("ToOneCrumb$Rule", "compared", "I", false)
  | _ => ("ToOneCrumb$Rule", "wantsThing", "Z", false)
def tyX6 : Nat → FieldType := fun k => match k with
  | 0 => .array .int
  | 1 => .array .int
  | 2 => .array .int
  | 3 => .int
  | 4 => .int
  | 5 => .int
  | 6 => .int
  | _ => .boolean
abbrev wsX60 : List Cond := u_ws RX6 TX6 8
theorem nmX6 : ∀ a, a < 8 → ∀ b, b < 8 → a ≠ b → (TX6 a).2.1 ≠ (TX6 b).2.1 := by decide +kernel
theorem tyX6_ok : ∀ k, k < 8 → parseFieldDescriptor (TX6 k).2.2.1 = some (tyX6 k) := by decide +kernel
abbrev cX6_init : ByteArray := prog_8_method_1_code
def yX6_init : MethodName := ⟨RX6, "<init>", "()V"⟩
abbrev cX6_read : ByteArray := prog_8_method_2_code
def yX6_read : MethodName := ⟨RX6, "read", "(LToOneCrumb$Text;)Z"⟩
abbrev cX6_readThing : ByteArray := prog_8_method_3_code
def yX6_readThing : MethodName := ⟨RX6, "readThing", "(LToOneCrumb$Text;)Z"⟩
abbrev cX6_readJoint : ByteArray := prog_8_method_4_code
def yX6_readJoint : MethodName := ⟨RX6, "readJoint", "(LToOneCrumb$Text;)Z"⟩
abbrev cX6_isLetter : ByteArray := prog_8_method_5_code
def yX6_isLetter : MethodName := ⟨RX6, "isLetter", "(I)Z"⟩
abbrev cX6_strengthOf : ByteArray := prog_8_method_6_code
def yX6_strengthOf : MethodName := ⟨RX6, "strengthOf", "(I)I"⟩
abbrev cX6_hold : ByteArray := prog_8_method_7_code
def yX6_hold : MethodName := ⟨RX6, "hold", "(I)V"⟩
abbrev cX6_addStep : ByteArray := prog_8_method_8_code
def yX6_addStep : MethodName := ⟨RX6, "addStep", "(I)V"⟩
abbrev cX6_release : ByteArray := prog_8_method_9_code
def yX6_release : MethodName := ⟨RX6, "release", "(I)V"⟩
abbrev cX6_worthOf : ByteArray := prog_8_method_10_code
def yX6_worthOf : MethodName := ⟨RX6, "worthOf", "(LToOneCrumb$Loaf;II[II)I"⟩
abbrev cX6_walk : ByteArray := prog_8_method_11_code
def yX6_walk : MethodName := ⟨RX6, "walk", "(LToOneCrumb$Loaf;II[II)I"⟩
abbrev cX6_valueOf : ByteArray := prog_8_method_12_code
def yX6_valueOf : MethodName := ⟨RX6, "valueOf", "(ILToOneCrumb$Loaf;II[II)I"⟩
abbrev cX6_joined : ByteArray := prog_8_method_13_code
def yX6_joined : MethodName := ⟨RX6, "joined", "(III)I"⟩
def RX7 : String := "ToOneCrumb$Seating"
def TX7 : u_T := fun k => match k with
  | 0 => ("ToOneCrumb$Seating", "starts", "[I", true)
  | 1 => ("ToOneCrumb$Seating", "stops", "[I", true)
  | 2 => ("ToOneCrumb$Seating", "owners", "[I", true)
  | 3 => ("ToOneCrumb$Seating", "best", "[I", true)
  | 4 => ("ToOneCrumb$Seating", "worths", "LToOneCrumb$Worths;", true)
  | 5 => ("ToOneCrumb$Seating", "guests", "I", false)
  | 6 => ("ToOneCrumb$Seating", "cells", "I", false)
  | _ => ("ToOneCrumb$Seating", "found", "I", false)
def tyX7 : Nat → FieldType := fun k => match k with
  | 0 => .array .int
  | 1 => .array .int
  | 2 => .array .int
  | 3 => .array .int
  | 4 => .object "ToOneCrumb$Worths"
  | 5 => .int
  | 6 => .int
  | _ => .int
abbrev wsX70 : List Cond := u_ws RX7 TX7 8
theorem nmX7 : ∀ a, a < 8 → ∀ b, b < 8 → a ≠ b → (TX7 a).2.1 ≠ (TX7 b).2.1 := by decide +kernel
theorem tyX7_ok : ∀ k, k < 8 → parseFieldDescriptor (TX7 k).2.2.1 = some (tyX7 k) := by decide +kernel
abbrev cX7_init : ByteArray := prog_9_method_1_code
def yX7_init : MethodName := ⟨RX7, "<init>", "(LToOneCrumb$Worths;)V"⟩
abbrev cX7_ways : ByteArray := prog_9_method_2_code
def yX7_ways : MethodName := ⟨RX7, "ways", "(IILToOneCrumb$Row;)I"⟩
abbrev cX7_part : ByteArray := prog_9_method_3_code
def yX7_part : MethodName := ⟨RX7, "part", "(III)V"⟩
abbrev cX7_isCalmWith : ByteArray := prog_9_method_4_code
def yX7_isCalmWith : MethodName := ⟨RX7, "isCalmWith", "(II)Z"⟩
abbrev cX7_prefers : ByteArray := prog_9_method_5_code
def yX7_prefers : MethodName := ⟨RX7, "prefers", "(II)Z"⟩
abbrev cX7_othersAreCalm : ByteArray := prog_9_method_6_code
def yX7_othersAreCalm : MethodName := ⟨RX7, "othersAreCalm", "(I)Z"⟩
abbrev cX7_note : ByteArray := prog_9_method_7_code
def yX7_note : MethodName := ⟨RX7, "note", "()V"⟩
abbrev cX7_isLess : ByteArray := prog_9_method_8_code
def yX7_isLess : MethodName := ⟨RX7, "isLess", "()Z"⟩
def RX8 : String := "ToOneCrumb$Text"
def TX8 : u_T := fun k => match k with
  | 0 => ("ToOneCrumb$Text", "signs", "[I", true)
  | 1 => ("ToOneCrumb$Text", "size", "I", false)
  | 2 => ("ToOneCrumb$Text", "stop", "I", false)
  | _ => ("ToOneCrumb$Text", "place", "I", false)
def tyX8 : Nat → FieldType := fun k => match k with
  | 0 => .array .int
  | 1 => .int
  | 2 => .int
  | _ => .int
abbrev wsX80 : List Cond := u_ws RX8 TX8 4
theorem nmX8 : ∀ a, a < 4 → ∀ b, b < 4 → a ≠ b → (TX8 a).2.1 ≠ (TX8 b).2.1 := by decide +kernel
theorem tyX8_ok : ∀ k, k < 4 → parseFieldDescriptor (TX8 k).2.2.1 = some (tyX8 k) := by decide +kernel
abbrev cX8_init : ByteArray := prog_10_method_1_code
def yX8_init : MethodName := ⟨RX8, "<init>", "()V"⟩
abbrev cX8_addFour : ByteArray := prog_10_method_2_code
def yX8_addFour : MethodName := ⟨RX8, "addFour", "(I)I"⟩
abbrev cX8_shorten : ByteArray := prog_10_method_3_code
def yX8_shorten : MethodName := ⟨RX8, "shorten", "(I)Z"⟩
abbrev cX8_clear : ByteArray := prog_10_method_4_code
def yX8_clear : MethodName := ⟨RX8, "clear", "()V"⟩
abbrev cX8_start : ByteArray := prog_10_method_5_code
def yX8_start : MethodName := ⟨RX8, "start", "(I)V"⟩
abbrev cX8_isFinished : ByteArray := prog_10_method_6_code
def yX8_isFinished : MethodName := ⟨RX8, "isFinished", "()Z"⟩
abbrev cX8_fault : ByteArray := prog_10_method_7_code
def yX8_fault : MethodName := ⟨RX8, "fault", "()I"⟩
abbrev cX8_next : ByteArray := prog_10_method_8_code
def yX8_next : MethodName := ⟨RX8, "next", "()I"⟩
abbrev cX8_skip : ByteArray := prog_10_method_9_code
def yX8_skip : MethodName := ⟨RX8, "skip", "(I)Z"⟩
abbrev cX8_takeDigit : ByteArray := prog_10_method_10_code
def yX8_takeDigit : MethodName := ⟨RX8, "takeDigit", "(I)I"⟩
abbrev cX8_takeNumber : ByteArray := prog_10_method_11_code
def yX8_takeNumber : MethodName := ⟨RX8, "takeNumber", "(I)I"⟩
abbrev cX8_takeLetter : ByteArray := prog_10_method_12_code
def yX8_takeLetter : MethodName := ⟨RX8, "takeLetter", "(I)I"⟩
def RX9 : String := "ToOneCrumb$Turns"
def TX9 : u_T := fun k => match k with
  | 0 => ("ToOneCrumb$Turns", "whose", "[I", true)
  | 1 => ("ToOneCrumb$Turns", "told", "[I", true)
  | 2 => ("ToOneCrumb$Turns", "has", "[I", true)
  | _ => ("ToOneCrumb$Turns", "size", "I", false)
def tyX9 : Nat → FieldType := fun k => match k with
  | 0 => .array .int
  | 1 => .array .int
  | 2 => .array .int
  | _ => .int
abbrev wsX90 : List Cond := u_ws RX9 TX9 4
theorem nmX9 : ∀ a, a < 4 → ∀ b, b < 4 → a ≠ b → (TX9 a).2.1 ≠ (TX9 b).2.1 := by decide +kernel
theorem tyX9_ok : ∀ k, k < 4 → parseFieldDescriptor (TX9 k).2.2.1 = some (tyX9 k) := by decide +kernel
abbrev cX9_init : ByteArray := prog_11_method_1_code
def yX9_init : MethodName := ⟨RX9, "<init>", "()V"⟩
abbrev cX9_read : ByteArray := prog_11_method_2_code
def yX9_read : MethodName := ⟨RX9, "read", "(LToOneCrumb$Text;I)Z"⟩
abbrev cX9_startTaking : ByteArray := prog_11_method_3_code
def yX9_startTaking : MethodName := ⟨RX9, "startTaking", "(LToOneCrumb$Worths;)V"⟩
abbrev cX9_takeAll : ByteArray := prog_11_method_4_code
def yX9_takeAll : MethodName := ⟨RX9, "takeAll", "(LToOneCrumb$Worths;)I"⟩
abbrev cX9_favourite : ByteArray := prog_11_method_5_code
def yX9_favourite : MethodName := ⟨RX9, "favourite", "(III)I"⟩
def RX10 : String := "ToOneCrumb$Worths"
def TX10 : u_T := fun k => match k with
  | 0 => ("ToOneCrumb$Worths", "each", "[I", true)
  | 1 => ("ToOneCrumb$Worths", "ahead", "[I", true)
  | _ => ("ToOneCrumb$Worths", "cells", "I", false)
def tyX10 : Nat → FieldType := fun k => match k with
  | 0 => .array .int
  | 1 => .array .int
  | _ => .int
abbrev wsX100 : List Cond := u_ws RX10 TX10 3
theorem nmX10 : ∀ a, a < 3 → ∀ b, b < 3 → a ≠ b → (TX10 a).2.1 ≠ (TX10 b).2.1 := by decide +kernel
theorem tyX10_ok : ∀ k, k < 3 → parseFieldDescriptor (TX10 k).2.2.1 = some (tyX10 k) := by decide +kernel
abbrev cX10_init : ByteArray := prog_12_method_1_code
def yX10_init : MethodName := ⟨RX10, "<init>", "()V"⟩
abbrev cX10_renew : ByteArray := prog_12_method_2_code
def yX10_renew : MethodName := ⟨RX10, "renew", "(LToOneCrumb$Rule;LToOneCrumb$Loaf;LToOneCrumb$Party;)V"⟩
abbrev cX10_of : ByteArray := prog_12_method_3_code
def yX10_of : MethodName := ⟨RX10, "of", "(II)I"⟩
abbrev cX10_between : ByteArray := prog_12_method_4_code
def yX10_between : MethodName := ⟨RX10, "between", "(III)I"⟩
abbrev cX10_whole : ByteArray := prog_12_method_5_code
def yX10_whole : MethodName := ⟨RX10, "whole", "(I)I"⟩
def RX11 : String := "ToOneCrumb"
def TX11 : u_T := fun k => match k with
  | 0 => ("ToOneCrumb", "text", "LToOneCrumb$Text;", true)
  | 1 => ("ToOneCrumb", "row", "LToOneCrumb$Row;", true)
  | 2 => ("ToOneCrumb", "party", "LToOneCrumb$Party;", true)
  | 3 => ("ToOneCrumb", "worths", "LToOneCrumb$Worths;", true)
  | 4 => ("ToOneCrumb", "board", "LToOneCrumb$Board;", true)
  | 5 => ("ToOneCrumb", "choices", "LToOneCrumb$Choices;", true)
  | 6 => ("ToOneCrumb", "placing", "LToOneCrumb$Placing;", true)
  | 7 => ("ToOneCrumb", "seating", "LToOneCrumb$Seating;", true)
  | 8 => ("ToOneCrumb", "turns", "LToOneCrumb$Turns;", true)
  | 9 => ("ToOneCrumb", "acts", "[I", true)
  | 10 => ("ToOneCrumb", "leasts", "[I", true)
  | 11 => ("ToOneCrumb", "bread", "LToOneCrumb$Loaf;", false)
  | 12 => ("ToOneCrumb", "dough", "LToOneCrumb$Loaf;", false)
  | 13 => ("ToOneCrumb", "law", "LToOneCrumb$Rule;", false)
  | 14 => ("ToOneCrumb", "bill", "LToOneCrumb$Rule;", false)
  | _ => ("ToOneCrumb", "actCount", "I", false)
def tyX11 : Nat → FieldType := fun k => match k with
  | 0 => .object "ToOneCrumb$Text"
  | 1 => .object "ToOneCrumb$Row"
  | 2 => .object "ToOneCrumb$Party"
  | 3 => .object "ToOneCrumb$Worths"
  | 4 => .object "ToOneCrumb$Board"
  | 5 => .object "ToOneCrumb$Choices"
  | 6 => .object "ToOneCrumb$Placing"
  | 7 => .object "ToOneCrumb$Seating"
  | 8 => .object "ToOneCrumb$Turns"
  | 9 => .array .int
  | 10 => .array .int
  | 11 => .object "ToOneCrumb$Loaf"
  | 12 => .object "ToOneCrumb$Loaf"
  | 13 => .object "ToOneCrumb$Rule"
  | 14 => .object "ToOneCrumb$Rule"
  | _ => .int
abbrev wsX110 : List Cond := u_ws RX11 TX11 16
theorem nmX11 : ∀ a, a < 16 → ∀ b, b < 16 → a ≠ b → (TX11 a).2.1 ≠ (TX11 b).2.1 := by decide +kernel
theorem tyX11_ok : ∀ k, k < 16 → parseFieldDescriptor (TX11 k).2.2.1 = some (tyX11 k) := by decide +kernel
abbrev cX11_init : ByteArray := prog_1_method_1_code
def yX11_init : MethodName := ⟨RX11, "<init>", "()V"⟩
abbrev cX11_sign : ByteArray := prog_1_method_2_code
def yX11_sign : MethodName := ⟨RX11, "sign", "(I)I"⟩
abbrev cX11_end : ByteArray := prog_1_method_3_code
def yX11_end : MethodName := ⟨RX11, "end", "(I)Z"⟩
abbrev cX11_loaf : ByteArray := prog_1_method_4_code
def yX11_loaf : MethodName := ⟨RX11, "loaf", "()I"⟩
abbrev cX11_guests : ByteArray := prog_1_method_5_code
def yX11_guests : MethodName := ⟨RX11, "guests", "()I"⟩
abbrev cX11_deeds : ByteArray := prog_1_method_6_code
def yX11_deeds : MethodName := ⟨RX11, "deeds", "()I"⟩
abbrev cX11_rule : ByteArray := prog_1_method_7_code
def yX11_rule : MethodName := ⟨RX11, "rule", "()I"⟩
abbrev cX11_cell : ByteArray := prog_1_method_8_code
def yX11_cell : MethodName := ⟨RX11, "cell", "(II)I"⟩
abbrev cX11_guest : ByteArray := prog_1_method_9_code
def yX11_guest : MethodName := ⟨RX11, "guest", "(II)I"⟩
abbrev cX11_worth : ByteArray := prog_1_method_10_code
def yX11_worth : MethodName := ⟨RX11, "worth", "(II)I"⟩
abbrev cX11_taste : ByteArray := prog_1_method_11_code
def yX11_taste : MethodName := ⟨RX11, "taste", "(III)I"⟩
abbrev cX11_sheet : ByteArray := prog_1_method_12_code
def yX11_sheet : MethodName := ⟨RX11, "sheet", "(IIII)I"⟩
abbrev cX11_give : ByteArray := prog_1_method_13_code
def yX11_give : MethodName := ⟨RX11, "give", "(III)I"⟩
abbrev cX11_back : ByteArray := prog_1_method_14_code
def yX11_back : MethodName := ⟨RX11, "back", "(II)I"⟩
abbrev cX11_mouse : ByteArray := prog_1_method_15_code
def yX11_mouse : MethodName := ⟨RX11, "mouse", "(I)I"⟩
abbrev cX11_supper : ByteArray := prog_1_method_16_code
def yX11_supper : MethodName := ⟨RX11, "supper", "()I"⟩
abbrev cX11_undo : ByteArray := prog_1_method_17_code
def yX11_undo : MethodName := ⟨RX11, "undo", "()I"⟩
abbrev cX11_seen : ByteArray := prog_1_method_18_code
def yX11_seen : MethodName := ⟨RX11, "seen", "(II)I"⟩
abbrev cX11_envy : ByteArray := prog_1_method_19_code
def yX11_envy : MethodName := ⟨RX11, "envy", "()I"⟩
abbrev cX11_wronged : ByteArray := prog_1_method_20_code
def yX11_wronged : MethodName := ⟨RX11, "wronged", "()I"⟩
abbrev cX11_happiest : ByteArray := prog_1_method_21_code
def yX11_happiest : MethodName := ⟨RX11, "happiest", "()I"⟩
abbrev cX11_pieces : ByteArray := prog_1_method_22_code
def yX11_pieces : MethodName := ⟨RX11, "pieces", "(I)I"⟩
abbrev cX11_trade : ByteArray := prog_1_method_23_code
def yX11_trade : MethodName := ⟨RX11, "trade", "(II)I"⟩
abbrev cX11_slices : ByteArray := prog_1_method_24_code
def yX11_slices : MethodName := ⟨RX11, "slices", "(I)I"⟩
abbrev cX11_quarrel : ByteArray := prog_1_method_25_code
def yX11_quarrel : MethodName := ⟨RX11, "quarrel", "()I"⟩
abbrev cX11_stretch : ByteArray := prog_1_method_26_code
def yX11_stretch : MethodName := ⟨RX11, "stretch", "()I"⟩
abbrev cX11_richest : ByteArray := prog_1_method_27_code
def yX11_richest : MethodName := ⟨RX11, "richest", "(II)I"⟩
abbrev cX11_parts : ByteArray := prog_1_method_28_code
def yX11_parts : MethodName := ⟨RX11, "parts", "(II)I"⟩
abbrev cX11_calm : ByteArray := prog_1_method_29_code
def yX11_calm : MethodName := ⟨RX11, "calm", "()I"⟩
abbrev cX11_cuts : ByteArray := prog_1_method_30_code
def yX11_cuts : MethodName := ⟨RX11, "cuts", "(II)I"⟩
abbrev cX11_byturns : ByteArray := prog_1_method_31_code
def yX11_byturns : MethodName := ⟨RX11, "byturns", "()I"⟩
abbrev cX11_lies : ByteArray := prog_1_method_32_code
def yX11_lies : MethodName := ⟨RX11, "lies", "(I)I"⟩
abbrev cX11_chose : ByteArray := prog_1_method_33_code
def yX11_chose : MethodName := ⟨RX11, "chose", "(II)I"⟩
abbrev cX11_forget : ByteArray := prog_1_method_34_code
def yX11_forget : MethodName := ⟨RX11, "forget", "()I"⟩
abbrev cX11_tastes : ByteArray := prog_1_method_35_code
def yX11_tastes : MethodName := ⟨RX11, "tastes", "(I)I"⟩
abbrev cX11_offer : ByteArray := prog_1_method_36_code
def yX11_offer : MethodName := ⟨RX11, "offer", "(I)I"⟩
abbrev cX11_claims : ByteArray := prog_1_method_37_code
def yX11_claims : MethodName := ⟨RX11, "claims", "()I"⟩
abbrev cX11_settle : ByteArray := prog_1_method_38_code
def yX11_settle : MethodName := ⟨RX11, "settle", "(II)I"⟩
abbrev cX11_nothing : ByteArray := prog_1_method_39_code
def yX11_nothing : MethodName := ⟨RX11, "nothing", "()I"⟩
abbrev cX11_ate : ByteArray := prog_1_method_40_code
def yX11_ate : MethodName := ⟨RX11, "ate", "(I)I"⟩
abbrev cX11_enough : ByteArray := prog_1_method_41_code
def yX11_enough : MethodName := ⟨RX11, "enough", "(II)I"⟩
abbrev cX11_wide : ByteArray := prog_1_method_42_code
def yX11_wide : MethodName := ⟨RX11, "wide", "(II)I"⟩
abbrev cX11_suppers : ByteArray := prog_1_method_43_code
def yX11_suppers : MethodName := ⟨RX11, "suppers", "(II)I"⟩
abbrev cX11_keep : ByteArray := prog_1_method_44_code
def yX11_keep : MethodName := ⟨RX11, "keep", "(I)Z"⟩
abbrev cX11_again : ByteArray := prog_1_method_45_code
def yX11_again : MethodName := ⟨RX11, "again", "(I)Z"⟩
abbrev cX11_count : ByteArray := prog_1_method_46_code
def yX11_count : MethodName := ⟨RX11, "count", "(I)I"⟩
abbrev cX11_row : ByteArray := prog_1_method_47_code
def yX11_row : MethodName := ⟨RX11, "row", "(I)J"⟩
abbrev cX11_isCell : ByteArray := prog_1_method_48_code
def yX11_isCell : MethodName := ⟨RX11, "isCell", "(I)Z"⟩
abbrev cX11_isGuest : ByteArray := prog_1_method_49_code
def yX11_isGuest : MethodName := ⟨RX11, "isGuest", "(I)Z"⟩
abbrev cX11_everyone : ByteArray := prog_1_method_50_code
def yX11_everyone : MethodName := ⟨RX11, "everyone", "()I"⟩
abbrev cX11_areGuests : ByteArray := prog_1_method_51_code
def yX11_areGuests : MethodName := ⟨RX11, "areGuests", "(I)Z"⟩
abbrev cX11_renewWorths : ByteArray := prog_1_method_52_code
def yX11_renewWorths : MethodName := ⟨RX11, "renewWorths", "()V"⟩
abbrev cX11_sheetEntry : ByteArray := prog_1_method_53_code
def yX11_sheetEntry : MethodName := ⟨RX11, "sheetEntry", "(II)I"⟩
abbrev cX11_cellsWith : ByteArray := prog_1_method_54_code
def yX11_cellsWith : MethodName := ⟨RX11, "cellsWith", "(I)I"⟩
abbrev cX11_worthHeld : ByteArray := prog_1_method_55_code
def yX11_worthHeld : MethodName := ⟨RX11, "worthHeld", "(II)I"⟩
abbrev cX11_hasDue : ByteArray := prog_1_method_56_code
def yX11_hasDue : MethodName := ⟨RX11, "hasDue", "(I)Z"⟩
abbrev cX11_remembered : ByteArray := prog_1_method_57_code
def yX11_remembered : MethodName := ⟨RX11, "remembered", "(JI)I"⟩
abbrev cX11_isSlice : ByteArray := prog_1_method_58_code
def yX11_isSlice : MethodName := ⟨RX11, "isSlice", "(II)Z"⟩
abbrev cX11_giveSlice : ByteArray := prog_1_method_59_code
def yX11_giveSlice : MethodName := ⟨RX11, "giveSlice", "(III)I"⟩
abbrev cX11_takeBack : ByteArray := prog_1_method_60_code
def yX11_takeBack : MethodName := ⟨RX11, "takeBack", "(II)I"⟩
abbrev cX11_feedMouse : ByteArray := prog_1_method_61_code
def yX11_feedMouse : MethodName := ⟨RX11, "feedMouse", "(I)I"⟩
abbrev cX11_readActs : ByteArray := prog_1_method_62_code
def yX11_readActs : MethodName := ⟨RX11, "readActs", "()Z"⟩
abbrev cX11_readAct : ByteArray := prog_1_method_63_code
def yX11_readAct : MethodName := ⟨RX11, "readAct", "(I)Z"⟩
abbrev cX11_doAct : ByteArray := prog_1_method_64_code
def yX11_doAct : MethodName := ⟨RX11, "doAct", "(I)I"⟩
abbrev cX11_jointGain : ByteArray := prog_1_method_65_code
def yX11_jointGain : MethodName := ⟨RX11, "jointGain", "(IIII)I"⟩
abbrev cX11_placeGuests : ByteArray := prog_1_method_66_code
def yX11_placeGuests : MethodName := ⟨RX11, "placeGuests", "(I)V"⟩
abbrev cX11_bestOfLeasts : ByteArray := prog_1_method_67_code
def yX11_bestOfLeasts : MethodName := ⟨RX11, "bestOfLeasts", "(II)I"⟩
abbrev cX11_hasByLie : ByteArray := prog_1_method_68_code
def yX11_hasByLie : MethodName := ⟨RX11, "hasByLie", "(III)I"⟩
def RX12 : String := "ToOneCrumbModel"
def TX12 : u_T := fun k => match k with
  | 0 => ("ToOneCrumbModel", "thrown", "I", false)
  | 1 => ("ToOneCrumbModel", "rows", "I", false)
  | 2 => ("ToOneCrumbModel", "row", "[J", true)
  | 3 => ("ToOneCrumbModel", "cells", "I", false)
  | 4 => ("ToOneCrumbModel", "guests", "I", false)
  | 5 => ("ToOneCrumbModel", "loaves", "I", false)
  | 6 => ("ToOneCrumbModel", "crumbs", "[I", true)
  | 7 => ("ToOneCrumbModel", "raisins", "[I", true)
  | 8 => ("ToOneCrumbModel", "crust", "[Z", true)
  | 9 => ("ToOneCrumbModel", "tastes", "[I", true)
  | 10 => ("ToOneCrumbModel", "deserts", "[I", true)
  | 11 => ("ToOneCrumbModel", "now", "[I", true)
  | 12 => ("ToOneCrumbModel", "tape", "[I", true)
  | 13 => ("ToOneCrumbModel", "taped", "I", false)
  | 14 => ("ToOneCrumbModel", "at", "I", false)
  | 15 => ("ToOneCrumbModel", "to", "I", false)
  | 16 => ("ToOneCrumbModel", "nest", "I", false)
  | 17 => ("ToOneCrumbModel", "readCrumbs", "[I", true)
  | 18 => ("ToOneCrumbModel", "readRaisins", "[I", true)
  | 19 => ("ToOneCrumbModel", "readCrust", "[Z", true)
  | 20 => ("ToOneCrumbModel", "readTastes", "[I", true)
  | 21 => ("ToOneCrumbModel", "readGuests", "I", false)
  | 22 => ("ToOneCrumbModel", "readDeserts", "[I", true)
  | 23 => ("ToOneCrumbModel", "code", "[I", true)
  | 24 => ("ToOneCrumbModel", "readCode", "[I", true)
  | 25 => ("ToOneCrumbModel", "codeLong", "I", false)
  | 26 => ("ToOneCrumbModel", "readLong", "I", false)
  | 27 => ("ToOneCrumbModel", "stack", "[I", true)
  | 28 => ("ToOneCrumbModel", "asked", "[I", true)
  | 29 => ("ToOneCrumbModel", "table", "[I", true)
  | 30 => ("ToOneCrumbModel", "whole", "[I", true)
  | 31 => ("ToOneCrumbModel", "undos", "I", false)
  | 32 => ("ToOneCrumbModel", "undone", "[I", true)
  | 33 => ("ToOneCrumbModel", "actSign", "[I", true)
  | 34 => ("ToOneCrumbModel", "actOne", "[I", true)
  | 35 => ("ToOneCrumbModel", "actFrom", "[I", true)
  | 36 => ("ToOneCrumbModel", "actLast", "[I", true)
  | 37 => ("ToOneCrumbModel", "acts", "I", false)
  | 38 => ("ToOneCrumbModel", "turn", "[I", true)
  | 39 => ("ToOneCrumbModel", "bestTurn", "[I", true)
  | 40 => ("ToOneCrumbModel", "bestCells", "I", false)
  | 41 => ("ToOneCrumbModel", "partEnd", "[I", true)
  | 42 => ("ToOneCrumbModel", "bestEnd", "[I", true)
  | 43 => ("ToOneCrumbModel", "bestLeast", "I", false)
  | 44 => ("ToOneCrumbModel", "whose", "[I", true)
  | 45 => ("ToOneCrumbModel", "firstWhose", "[I", true)
  | 46 => ("ToOneCrumbModel", "sliceWorth", "[I", true)
  | 47 => ("ToOneCrumbModel", "calmMany", "I", false)
  | 48 => ("ToOneCrumbModel", "turns", "[I", true)
  | 49 => ("ToOneCrumbModel", "turnMany", "I", false)
  | 50 => ("ToOneCrumbModel", "taken", "I", false)
  | 51 => ("ToOneCrumbModel", "picks", "[I", true)
  | 52 => ("ToOneCrumbModel", "has", "[I", true)
  | 53 => ("ToOneCrumbModel", "choices", "I", false)
  | 54 => ("ToOneCrumbModel", "choseOne", "[I", true)
  | 55 => ("ToOneCrumbModel", "choseOther", "[I", true)
  | 56 => ("ToOneCrumbModel", "thought", "[I", true)
  | 57 => ("ToOneCrumbModel", "byFirst", "[I", true)
  | 58 => ("ToOneCrumbModel", "bySecond", "[I", true)
  | 59 => ("ToOneCrumbModel", "claimWho", "[I", true)
  | 60 => ("ToOneCrumbModel", "claimed", "[I", true)
  | 61 => ("ToOneCrumbModel", "up", "J", false)
  | 62 => ("ToOneCrumbModel", "down", "J", false)
  | 63 => ("ToOneCrumbModel", "hadAll", "[I", true)
  | 64 => ("ToOneCrumbModel", "isKept", "[Z", true)
  | 65 => ("ToOneCrumbModel", "keptLoaves", "[I", true)
  | _ => ("ToOneCrumbModel", "kept", "[I", true)
def tyX12 : Nat → FieldType := fun k => match k with
  | 0 => .int
  | 1 => .int
  | 2 => .array .long
  | 3 => .int
  | 4 => .int
  | 5 => .int
  | 6 => .array .int
  | 7 => .array .int
  | 8 => .array .boolean
  | 9 => .array .int
  | 10 => .array .int
  | 11 => .array .int
  | 12 => .array .int
  | 13 => .int
  | 14 => .int
  | 15 => .int
  | 16 => .int
  | 17 => .array .int
  | 18 => .array .int
  | 19 => .array .boolean
  | 20 => .array .int
  | 21 => .int
  | 22 => .array .int
  | 23 => .array .int
  | 24 => .array .int
  | 25 => .int
  | 26 => .int
  | 27 => .array .int
  | 28 => .array .int
  | 29 => .array .int
  | 30 => .array .int
  | 31 => .int
  | 32 => .array .int
  | 33 => .array .int
  | 34 => .array .int
  | 35 => .array .int
  | 36 => .array .int
  | 37 => .int
  | 38 => .array .int
  | 39 => .array .int
  | 40 => .int
  | 41 => .array .int
  | 42 => .array .int
  | 43 => .int
  | 44 => .array .int
  | 45 => .array .int
  | 46 => .array .int
  | 47 => .int
  | 48 => .array .int
  | 49 => .int
  | 50 => .int
  | 51 => .array .int
  | 52 => .array .int
  | 53 => .int
  | 54 => .array .int
  | 55 => .array .int
  | 56 => .array .int
  | 57 => .array .int
  | 58 => .array .int
  | 59 => .array .int
  | 60 => .array .int
  | 61 => .long
  | 62 => .long
  | 63 => .array .int
  | 64 => .array .boolean
  | 65 => .array .int
  | _ => .array .int
abbrev wsX120 : List Cond := u_ws RX12 TX12 67
theorem nmX12 : ∀ a, a < 67 → ∀ b, b < 67 → a ≠ b → (TX12 a).2.1 ≠ (TX12 b).2.1 := by decide +kernel
theorem tyX12_ok : ∀ k, k < 67 → parseFieldDescriptor (TX12 k).2.2.1 = some (tyX12 k) := by decide +kernel
abbrev cX12_init : ByteArray := prog_14_method_1_code
def yX12_init : MethodName := ⟨RX12, "<init>", "()V"⟩
abbrev cX12_thrown : ByteArray := prog_14_method_2_code
def yX12_thrown : MethodName := ⟨RX12, "thrown", "()I"⟩
abbrev cX12_refuse : ByteArray := prog_14_method_3_code
def yX12_refuse : MethodName := ⟨RX12, "refuse", "()I"⟩
abbrev cX12_in : ByteArray := prog_14_method_4_code
def yX12_in : MethodName := ⟨RX12, "in", "(JJJ)Z"⟩
abbrev cX12_has : ByteArray := prog_14_method_5_code
def yX12_has : MethodName := ⟨RX12, "has", "(II)Z"⟩
abbrev cX12_flag : ByteArray := prog_14_method_6_code
def yX12_flag : MethodName := ⟨RX12, "flag", "(Z)I"⟩
abbrev cX12_common : ByteArray := prog_14_method_7_code
def yX12_common : MethodName := ⟨RX12, "common", "(JJ)J"⟩
abbrev cX12_enters : ByteArray := prog_14_method_8_code
def yX12_enters : MethodName := ⟨RX12, "enters", "(J)V"⟩
abbrev cX12_isCell : ByteArray := prog_14_method_9_code
def yX12_isCell : MethodName := ⟨RX12, "isCell", "(I)Z"⟩
abbrev cX12_isGuest : ByteArray := prog_14_method_10_code
def yX12_isGuest : MethodName := ⟨RX12, "isGuest", "(I)Z"⟩
abbrev cX12_all : ByteArray := prog_14_method_11_code
def yX12_all : MethodName := ⟨RX12, "all", "()I"⟩
abbrev cX12_isSlice : ByteArray := prog_14_method_12_code
def yX12_isSlice : MethodName := ⟨RX12, "isSlice", "(II)Z"⟩
abbrev cX12_sign : ByteArray := prog_14_method_13_code
def yX12_sign : MethodName := ⟨RX12, "sign", "(I)I"⟩
abbrev cX12_end : ByteArray := prog_14_method_14_code
def yX12_end : MethodName := ⟨RX12, "end", "(I)Z"⟩
abbrev cX12_begins : ByteArray := prog_14_method_15_code
def yX12_begins : MethodName := ⟨RX12, "begins", "(I)I"⟩
abbrev cX12_takes : ByteArray := prog_14_method_16_code
def yX12_takes : MethodName := ⟨RX12, "takes", "(I)Z"⟩
abbrev cX12_isDigit : ByteArray := prog_14_method_17_code
def yX12_isDigit : MethodName := ⟨RX12, "isDigit", "()Z"⟩
abbrev cX12_among : ByteArray := prog_14_method_18_code
def yX12_among : MethodName := ⟨RX12, "among", "(Ljava/lang/String;)I"⟩
abbrev cX12_takesOf : ByteArray := prog_14_method_19_code
def yX12_takesOf : MethodName := ⟨RX12, "takesOf", "(Ljava/lang/String;)I"⟩
abbrev cX12_number : ByteArray := prog_14_method_20_code
def yX12_number : MethodName := ⟨RX12, "number", "(I)I"⟩
abbrev cX12_letter : ByteArray := prog_14_method_21_code
def yX12_letter : MethodName := ⟨RX12, "letter", "(I)I"⟩
abbrev cX12_faultOf : ByteArray := prog_14_method_22_code
def yX12_faultOf : MethodName := ⟨RX12, "faultOf", "(IIZ)I"⟩
abbrev cX12_loaf : ByteArray := prog_14_method_23_code
def yX12_loaf : MethodName := ⟨RX12, "loaf", "()I"⟩
abbrev cX12_readsGuest : ByteArray := prog_14_method_24_code
def yX12_readsGuest : MethodName := ⟨RX12, "readsGuest", "()Z"⟩
abbrev cX12_guests : ByteArray := prog_14_method_25_code
def yX12_guests : MethodName := ⟨RX12, "guests", "()I"⟩
abbrev cX12_readsDeed : ByteArray := prog_14_method_26_code
def yX12_readsDeed : MethodName := ⟨RX12, "readsDeed", "()Z"⟩
abbrev cX12_allDeserts : ByteArray := prog_14_method_27_code
def yX12_allDeserts : MethodName := ⟨RX12, "allDeserts", "()I"⟩
abbrev cX12_deeds : ByteArray := prog_14_method_28_code
def yX12_deeds : MethodName := ⟨RX12, "deeds", "()I"⟩
abbrev cX12_codes : ByteArray := prog_14_method_29_code
def yX12_codes : MethodName := ⟨RX12, "codes", "(I)V"⟩
abbrev cX12_readsThing : ByteArray := prog_14_method_30_code
def yX12_readsThing : MethodName := ⟨RX12, "readsThing", "()Z"⟩
abbrev cX12_readsRank : ByteArray := prog_14_method_31_code
def yX12_readsRank : MethodName := ⟨RX12, "readsRank", "(I)Z"⟩
abbrev cX12_rule : ByteArray := prog_14_method_32_code
def yX12_rule : MethodName := ⟨RX12, "rule", "()I"⟩
abbrev cX12_worked : ByteArray := prog_14_method_33_code
def yX12_worked : MethodName := ⟨RX12, "worked", "(III)I"⟩
abbrev cX12_ruled : ByteArray := prog_14_method_34_code
def yX12_ruled : MethodName := ⟨RX12, "ruled", "()I"⟩
abbrev cX12_worthBy : ByteArray := prog_14_method_35_code
def yX12_worthBy : MethodName := ⟨RX12, "worthBy", "(IIIII)I"⟩
abbrev cX12_worthOf : ByteArray := prog_14_method_36_code
def yX12_worthOf : MethodName := ⟨RX12, "worthOf", "(II)I"⟩
abbrev cX12_laysTable : ByteArray := prog_14_method_37_code
def yX12_laysTable : MethodName := ⟨RX12, "laysTable", "()V"⟩
abbrev cX12_held : ByteArray := prog_14_method_38_code
def yX12_held : MethodName := ⟨RX12, "held", "(II)I"⟩
abbrev cX12_isDue : ByteArray := prog_14_method_39_code
def yX12_isDue : MethodName := ⟨RX12, "isDue", "(IJI)Z"⟩
abbrev cX12_holds : ByteArray := prog_14_method_40_code
def yX12_holds : MethodName := ⟨RX12, "holds", "(I)I"⟩
abbrev cX12_cell : ByteArray := prog_14_method_41_code
def yX12_cell : MethodName := ⟨RX12, "cell", "(II)I"⟩
abbrev cX12_guest : ByteArray := prog_14_method_42_code
def yX12_guest : MethodName := ⟨RX12, "guest", "(II)I"⟩
abbrev cX12_worth : ByteArray := prog_14_method_43_code
def yX12_worth : MethodName := ⟨RX12, "worth", "(II)I"⟩
abbrev cX12_taste : ByteArray := prog_14_method_44_code
def yX12_taste : MethodName := ⟨RX12, "taste", "(III)I"⟩
abbrev cX12_sheet : ByteArray := prog_14_method_45_code
def yX12_sheet : MethodName := ⟨RX12, "sheet", "(IIII)I"⟩
abbrev cX12_putsBy : ByteArray := prog_14_method_46_code
def yX12_putsBy : MethodName := ⟨RX12, "putsBy", "()V"⟩
abbrev cX12_adds : ByteArray := prog_14_method_47_code
def yX12_adds : MethodName := ⟨RX12, "adds", "(I)I"⟩
abbrev cX12_counts : ByteArray := prog_14_method_48_code
def yX12_counts : MethodName := ⟨RX12, "counts", "(I)I"⟩
abbrev cX12_undo : ByteArray := prog_14_method_49_code
def yX12_undo : MethodName := ⟨RX12, "undo", "()I"⟩
abbrev cX12_gives : ByteArray := prog_14_method_50_code
def yX12_gives : MethodName := ⟨RX12, "gives", "(III)I"⟩
abbrev cX12_backs : ByteArray := prog_14_method_51_code
def yX12_backs : MethodName := ⟨RX12, "backs", "(II)I"⟩
abbrev cX12_eats : ByteArray := prog_14_method_52_code
def yX12_eats : MethodName := ⟨RX12, "eats", "(I)I"⟩
abbrev cX12_give : ByteArray := prog_14_method_53_code
def yX12_give : MethodName := ⟨RX12, "give", "(III)I"⟩
abbrev cX12_back : ByteArray := prog_14_method_54_code
def yX12_back : MethodName := ⟨RX12, "back", "(II)I"⟩
abbrev cX12_mouse : ByteArray := prog_14_method_55_code
def yX12_mouse : MethodName := ⟨RX12, "mouse", "(I)I"⟩
abbrev cX12_readsAct : ByteArray := prog_14_method_56_code
def yX12_readsAct : MethodName := ⟨RX12, "readsAct", "()Z"⟩
abbrev cX12_does : ByteArray := prog_14_method_57_code
def yX12_does : MethodName := ⟨RX12, "does", "(I)Z"⟩
abbrev cX12_supper : ByteArray := prog_14_method_58_code
def yX12_supper : MethodName := ⟨RX12, "supper", "()I"⟩
abbrev cX12_seen : ByteArray := prog_14_method_59_code
def yX12_seen : MethodName := ⟨RX12, "seen", "(II)I"⟩
abbrev cX12_envy : ByteArray := prog_14_method_60_code
def yX12_envy : MethodName := ⟨RX12, "envy", "()I"⟩
abbrev cX12_wronged : ByteArray := prog_14_method_61_code
def yX12_wronged : MethodName := ⟨RX12, "wronged", "()I"⟩
abbrev cX12_happiest : ByteArray := prog_14_method_62_code
def yX12_happiest : MethodName := ⟨RX12, "happiest", "()I"⟩
abbrev cX12_pieces : ByteArray := prog_14_method_63_code
def yX12_pieces : MethodName := ⟨RX12, "pieces", "(I)I"⟩
abbrev cX12_trade : ByteArray := prog_14_method_64_code
def yX12_trade : MethodName := ⟨RX12, "trade", "(II)I"⟩
abbrev cX12_endFor : ByteArray := prog_14_method_65_code
def yX12_endFor : MethodName := ⟨RX12, "endFor", "(III)I"⟩
abbrev cX12_isTurnLess : ByteArray := prog_14_method_66_code
def yX12_isTurnLess : MethodName := ⟨RX12, "isTurnLess", "(I)Z"⟩
abbrev cX12_serves : ByteArray := prog_14_method_67_code
def yX12_serves : MethodName := ⟨RX12, "serves", "(IIII)V"⟩
abbrev cX12_canServe : ByteArray := prog_14_method_68_code
def yX12_canServe : MethodName := ⟨RX12, "canServe", "(II)Z"⟩
abbrev cX12_slices : ByteArray := prog_14_method_69_code
def yX12_slices : MethodName := ⟨RX12, "slices", "(I)I"⟩
abbrev cX12_quarrel : ByteArray := prog_14_method_70_code
def yX12_quarrel : MethodName := ⟨RX12, "quarrel", "()I"⟩
abbrev cX12_stretch : ByteArray := prog_14_method_71_code
def yX12_stretch : MethodName := ⟨RX12, "stretch", "()I"⟩
abbrev cX12_sliceOf : ByteArray := prog_14_method_72_code
def yX12_sliceOf : MethodName := ⟨RX12, "sliceOf", "(III)I"⟩
abbrev cX12_richest : ByteArray := prog_14_method_73_code
def yX12_richest : MethodName := ⟨RX12, "richest", "(II)I"⟩
abbrev cX12_partsOn : ByteArray := prog_14_method_74_code
def yX12_partsOn : MethodName := ⟨RX12, "partsOn", "(IIIII)V"⟩
abbrev cX12_parts : ByteArray := prog_14_method_75_code
def yX12_parts : MethodName := ⟨RX12, "parts", "(II)I"⟩
abbrev cX12_isCalm : ByteArray := prog_14_method_76_code
def yX12_isCalm : MethodName := ⟨RX12, "isCalm", "()Z"⟩
abbrev cX12_goesTo : ByteArray := prog_14_method_77_code
def yX12_goesTo : MethodName := ⟨RX12, "goesTo", "(III)V"⟩
abbrev cX12_calmsFrom : ByteArray := prog_14_method_78_code
def yX12_calmsFrom : MethodName := ⟨RX12, "calmsFrom", "(II)V"⟩
abbrev cX12_calm : ByteArray := prog_14_method_79_code
def yX12_calm : MethodName := ⟨RX12, "calm", "()I"⟩
abbrev cX12_cuts : ByteArray := prog_14_method_80_code
def yX12_cuts : MethodName := ⟨RX12, "cuts", "(II)I"⟩
abbrev cX12_readsTurns : ByteArray := prog_14_method_81_code
def yX12_readsTurns : MethodName := ⟨RX12, "readsTurns", "()I"⟩
abbrev cX12_picksAsWorth : ByteArray := prog_14_method_82_code
def yX12_picksAsWorth : MethodName := ⟨RX12, "picksAsWorth", "()V"⟩
abbrev cX12_goesByTurns : ByteArray := prog_14_method_83_code
def yX12_goesByTurns : MethodName := ⟨RX12, "goesByTurns", "()V"⟩
abbrev cX12_byturns : ByteArray := prog_14_method_84_code
def yX12_byturns : MethodName := ⟨RX12, "byturns", "()I"⟩
abbrev cX12_lies : ByteArray := prog_14_method_85_code
def yX12_lies : MethodName := ⟨RX12, "lies", "(I)I"⟩
abbrev cX12_chose : ByteArray := prog_14_method_86_code
def yX12_chose : MethodName := ⟨RX12, "chose", "(II)I"⟩
abbrev cX12_forget : ByteArray := prog_14_method_87_code
def yX12_forget : MethodName := ⟨RX12, "forget", "()I"⟩
abbrev cX12_fitsBy : ByteArray := prog_14_method_88_code
def yX12_fitsBy : MethodName := ⟨RX12, "fitsBy", "(IIII)Z"⟩
abbrev cX12_tastes : ByteArray := prog_14_method_89_code
def yX12_tastes : MethodName := ⟨RX12, "tastes", "(I)I"⟩
abbrev cX12_offer : ByteArray := prog_14_method_90_code
def yX12_offer : MethodName := ⟨RX12, "offer", "(I)I"⟩
abbrev cX12_meets : ByteArray := prog_14_method_91_code
def yX12_meets : MethodName := ⟨RX12, "meets", "(II)V"⟩
abbrev cX12_claims : ByteArray := prog_14_method_92_code
def yX12_claims : MethodName := ⟨RX12, "claims", "()I"⟩
abbrev cX12_settle : ByteArray := prog_14_method_93_code
def yX12_settle : MethodName := ⟨RX12, "settle", "(II)I"⟩
abbrev cX12_crumbsAll : ByteArray := prog_14_method_94_code
def yX12_crumbsAll : MethodName := ⟨RX12, "crumbsAll", "()I"⟩
abbrev cX12_nothing : ByteArray := prog_14_method_95_code
def yX12_nothing : MethodName := ⟨RX12, "nothing", "()I"⟩
abbrev cX12_desertsOf : ByteArray := prog_14_method_96_code
def yX12_desertsOf : MethodName := ⟨RX12, "desertsOf", "(I)I"⟩
abbrev cX12_ate : ByteArray := prog_14_method_97_code
def yX12_ate : MethodName := ⟨RX12, "ate", "(I)I"⟩
abbrev cX12_bets : ByteArray := prog_14_method_98_code
def yX12_bets : MethodName := ⟨RX12, "bets", "(II)V"⟩
abbrev cX12_enough : ByteArray := prog_14_method_99_code
def yX12_enough : MethodName := ⟨RX12, "enough", "(II)I"⟩
abbrev cX12_wide : ByteArray := prog_14_method_100_code
def yX12_wide : MethodName := ⟨RX12, "wide", "(II)I"⟩
abbrev cX12_suppers : ByteArray := prog_14_method_101_code
def yX12_suppers : MethodName := ⟨RX12, "suppers", "(II)I"⟩
abbrev cX12_keep : ByteArray := prog_14_method_102_code
def yX12_keep : MethodName := ⟨RX12, "keep", "(I)Z"⟩
abbrev cX12_again : ByteArray := prog_14_method_103_code
def yX12_again : MethodName := ⟨RX12, "again", "(I)Z"⟩
abbrev cX12_count : ByteArray := prog_14_method_104_code
def yX12_count : MethodName := ⟨RX12, "count", "(I)I"⟩
abbrev cX12_row : ByteArray := prog_14_method_105_code
def yX12_row : MethodName := ⟨RX12, "row", "(I)J"⟩
def RJx145de : String := "java/io/Serializable"
def TJx145de : u_T := fun k => match k with
  | _ => ("", "", "", false)
def tyJx145de : Nat → FieldType := fun k => match k with
  | _ => .int
def RJx9f9b0 : String := "java/lang/CharSequence"
def TJx9f9b0 : u_T := fun k => match k with
  | _ => ("", "", "", false)
def tyJx9f9b0 : Nat → FieldType := fun k => match k with
  | _ => .int
def RJxb160c : String := "java/lang/Comparable"
def TJxb160c : u_T := fun k => match k with
  | _ => ("", "", "", false)
def tyJxb160c : Nat → FieldType := fun k => match k with
  | _ => .int
def RJ6 : String := "java/lang/Integer"
def TJ6 : u_T := fun k => match k with
  | _ => ("", "", "", false)
def tyJ6 : Nat → FieldType := fun k => match k with
  | _ => .int
abbrev cJ6_bitCount_0f7a4 : ByteArray := prog_19_method_49_code
def yJ6_bitCount_0f7a4 : MethodName := ⟨RJ6, "bitCount", "(I)I"⟩
def RJ9 : String := "java/lang/Math"
def TJ9 : u_T := fun k => match k with
  | _ => ("", "", "", false)
def tyJ9 : Nat → FieldType := fun k => match k with
  | _ => .int
abbrev cJ9_abs_0f7a4 : ByteArray := prog_20_method_59_code
def yJ9_abs_0f7a4 : MethodName := ⟨RJ9, "abs", "(I)I"⟩
abbrev cJ9_max_7cf53 : ByteArray := prog_20_method_65_code
def yJ9_max_7cf53 : MethodName := ⟨RJ9, "max", "(II)I"⟩
abbrev cJ9_min_7cf53 : ByteArray := prog_20_method_69_code
def yJ9_min_7cf53 : MethodName := ⟨RJ9, "min", "(II)I"⟩
def RJ0 : String := "java/lang/String"
def TJ0 : u_T := fun k => match k with
  | _ => ("", "", "", false)
def tyJ0 : Nat → FieldType := fun k => match k with
  | _ => .int
abbrev cJ0_length_8abf5 : ByteArray := prog_22_method_54_code
def yJ0_length_8abf5 : MethodName := ⟨RJ0, "length", "()I"⟩
abbrev cJ0_charAt_5068e : ByteArray := prog_22_method_56_code
def yJ0_charAt_5068e : MethodName := ⟨RJ0, "charAt", "(I)C"⟩
abbrev cJ0_coder_7d493 : ByteArray := prog_22_method_152_code
def yJ0_coder_7d493 : MethodName := ⟨RJ0, "coder", "()B"⟩
abbrev cJ0_isLatin1_aae02 : ByteArray := prog_22_method_154_code
def yJ0_isLatin1_aae02 : MethodName := ⟨RJ0, "isLatin1", "()Z"⟩
abbrev cJ0_checkIndex_df160 : ByteArray := prog_22_method_155_code
def yJ0_checkIndex_df160 : MethodName := ⟨RJ0, "checkIndex", "(II)V"⟩
def RJ1 : String := "java/lang/StringLatin1"
def TJ1 : u_T := fun k => match k with
  | _ => ("", "", "", false)
def tyJ1 : Nat → FieldType := fun k => match k with
  | _ => .int
abbrev cJ1_charAt_3b067 : ByteArray := prog_23_method_2_code
def yJ1_charAt_3b067 : MethodName := ⟨RJ1, "charAt", "([BI)C"⟩
def RJ2 : String := "java/lang/StringUTF16"
def TJ2 : u_T := fun k => match k with
  | _ => ("", "", "", false)
def tyJ2 : Nat → FieldType := fun k => match k with
  | _ => .int
abbrev cJ2_getChar_3b067 : ByteArray := prog_24_method_5_code
def yJ2_getChar_3b067 : MethodName := ⟨RJ2, "getChar", "([BI)C"⟩
abbrev cJ2_length_9d52b : ByteArray := prog_24_method_6_code
def yJ2_length_9d52b : MethodName := ⟨RJ2, "length", "([B)I"⟩
abbrev cJ2_charAt_3b067 : ByteArray := prog_24_method_83_code
def yJ2_charAt_3b067 : MethodName := ⟨RJ2, "charAt", "([BI)C"⟩
abbrev cJ2_checkIndex_2214a : ByteArray := prog_24_method_91_code
def yJ2_checkIndex_2214a : MethodName := ⟨RJ2, "checkIndex", "(I[B)V"⟩
def RJ10 : String := "java/lang/System"
def TJ10 : u_T := fun k => match k with
  | _ => ("", "", "", false)
def tyJ10 : Nat → FieldType := fun k => match k with
  | _ => .int
def RJxfd54e : String := "java/lang/constant/Constable"
def TJxfd54e : u_T := fun k => match k with
  | _ => ("", "", "", false)
def tyJxfd54e : Nat → FieldType := fun k => match k with
  | _ => .int
def RJx3cf43 : String := "java/lang/constant/ConstantDesc"
def TJx3cf43 : u_T := fun k => match k with
  | _ => ("", "", "", false)
def tyJx3cf43 : Nat → FieldType := fun k => match k with
  | _ => .int
def RJ7 : String := "java/util/Arrays"
def TJ7 : u_T := fun k => match k with
  | _ => ("", "", "", false)
def tyJ7 : Nat → FieldType := fun k => match k with
  | _ => .int
abbrev cJ7_fill_53178 : ByteArray := prog_29_method_103_code
def yJ7_fill_53178 : MethodName := ⟨RJ7, "fill", "([II)V"⟩
def RJ3 : String := "jdk/internal/util/Preconditions"
def TJ3 : u_T := fun k => match k with
  | _ => ("", "", "", false)
def tyJ3 : Nat → FieldType := fun k => match k with
  | _ => .int
abbrev cJ3_checkIndex_8e157 : ByteArray := prog_31_method_11_code
def yJ3_checkIndex_8e157 : MethodName := ⟨RJ3, "checkIndex", "(IILjava/util/function/BiFunction;)I"⟩
def RL : String := "ToOneCrumbLaw"
abbrev cL_cell : ByteArray := method_3_code
def yL_cell : MethodName := ⟨RL, "cell", "(LToOneCrumb;II[J)I"⟩
abbrev cL_guest : ByteArray := method_4_code
def yL_guest : MethodName := ⟨RL, "guest", "(LToOneCrumb;II[J)I"⟩
abbrev cL_row : ByteArray := method_5_code
def yL_row : MethodName := ⟨RL, "row", "(LToOneCrumb;I[J)I"⟩
abbrev cL_law : ByteArray := code
def yL_law : MethodName := ⟨RL, "law", "([I)Z"⟩
abbrev vwCl : List vw_C := [(RX0, TX0, 5), (RX1, TX1, 8), (RX2, TX2, 4), (RX3, TX3, 4), (RX4, TX4, 8), (RX5, TX5, 2), (RX6, TX6, 8), (RX7, TX7, 8), (RX8, TX8, 4), (RX9, TX9, 4), (RX10, TX10, 3), (RX11, TX11, 16), (RX12, TX12, 67)]
/-! the world: a thing a place: (0, the number of its kind in vwCl, its fields: 0 an int, 1 a long, k + 2 the thing at place k), (1, n, []) n ints, (2, n, []) n longs, (3, n, []) n booleans -/
def zq_S : List (Nat × Nat × List Nat) := [(0, 11, [3, 5, 7, 11, 14, 17, 24, 31, 36, 40, 41, 42, 46, 50, 54, 0]), (0, 8, [4, 0, 0, 0]), (1, 80, []), (0, 5, [6, 0]), (2, 16, []), (0, 3, [8, 9, 10, 0]), (1, 18, []), (1, 6, []), (1, 6, []), (0, 10, [12, 13, 0]), (1, 96, []), (1, 102, []), (0, 0, [15, 16, 1, 0, 0]), (2, 15, []), (2, 3, []), (0, 1, [18, 19, 20, 21, 22, 23, 0, 0]), (1, 12, []), (1, 12, []), (1, 3, []), (1, 3, []), (1, 16, []), (1, 256, []), (0, 4, [25, 26, 27, 28, 29, 30, 0, 0]), (1, 6, []), (2, 6, []), (2, 6, []), (1, 102, []), (1, 64, []), (1, 6, []), (0, 7, [32, 33, 34, 35, 11, 0, 0, 0]), (1, 4, []), (1, 4, []), (1, 16, []), (1, 16, []), (0, 9, [37, 38, 39, 0]), (1, 16, []), (1, 96, []), (1, 6, []), (1, 80, []), (1, 17, []), (0, 2, [43, 44, 45, 0]), (1, 16, []), (1, 16, []), (1, 16, []), (0, 2, [47, 48, 49, 0]), (1, 16, []), (1, 16, []), (1, 16, []), (0, 6, [51, 52, 53, 0, 0, 0, 0, 0]), (1, 40, []), (1, 40, []), (1, 40, []), (0, 6, [55, 56, 57, 0, 0, 0, 0, 0]), (1, 40, []), (1, 40, []), (1, 40, []), (0, 12, [0, 0, 59, 0, 0, 0, 60, 61, 62, 63, 64, 65, 66, 0, 0, 0, 0, 67, 68, 69, 70, 0, 71, 72, 73, 0, 0, 74, 75, 76, 77, 0, 78, 79, 80, 81, 82, 0, 83, 84, 0, 85, 86, 0, 87, 88, 89, 0, 90, 0, 0, 91, 92, 0, 93, 94, 95, 96, 97, 98, 99, 1, 1, 100, 101, 102, 103]), (2, 24, []), (1, 16, []), (1, 16, []), (3, 16, []), (1, 18, []), (1, 6, []), (1, 16, []), (1, 80, []), (1, 16, []), (1, 16, []), (3, 16, []), (1, 18, []), (1, 6, []), (1, 80, []), (1, 80, []), (1, 80, []), (1, 9, []), (1, 96, []), (1, 6, []), (1, 256, []), (1, 60, []), (1, 60, []), (1, 60, []), (1, 60, []), (1, 12, []), (1, 12, []), (1, 6, []), (1, 6, []), (1, 16, []), (1, 16, []), (1, 36, []), (1, 16, []), (1, 96, []), (1, 6, []), (1, 12, []), (1, 12, []), (1, 16, []), (1, 256, []), (1, 256, []), (1, 6, []), (1, 6, []), (1, 6, []), (3, 3, []), (1, 3, []), (1, 48, []), (2, 1, [])]
end
section
/-! ===== the engine: assertions at points of a method; a transformer an instruction, each proved over the machine by the kit's rows ===== -/
abbrev zq_H : Type := (Nat → Nat → Int32) × (Nat → Nat → Int64)
abbrev zq_Y : Type := ClassId × ClassId × ClassId
abbrev zq_L : Type := List (Option Value)
abbrev zq_Q : Type := Option Value → zq_H → Prop
abbrev zq_P : Type := zq_L → List Value → zq_H → Prop
abbrev zq_Sp : Type := List Value → zq_H → zq_Q → Prop
def zq_cv (ad : Nat → Nat) (v : Value) : Value := match v with
  | .ref k => .ref (ad k)
  | w => w
theorem zq_cv_cat (ad : Nat → Nat) (v : Value) : (zq_cv ad v).category = v.category := by cases v <;> rfl
def zq_nth : zq_L → Nat → Option Value
  | [], _ => none
  | v :: _, 0 => v
  | _ :: l, n + 1 => zq_nth l n
def zq_nl (u : Option Value) : Option Value := match u with
  | some (.long _) => none
  | some (.double _) => none
  | w => w
def zq_put1 : zq_L → Nat → Value → zq_L
  | [], _, _ => []
  | _ :: l, 0, v => some v :: l
  | u :: l, 1, v => zq_nl u :: zq_put1 l 0 v
  | u :: l, n + 2, v => u :: zq_put1 l (n + 1) v
def zq_clr : zq_L → Nat → zq_L
  | [], _ => []
  | _ :: l, 0 => none :: l
  | u :: l, n + 1 => u :: zq_clr l n
def zq_put2 (l : zq_L) (i : Nat) (v : Value) : zq_L := zq_clr (zq_put1 l i v) (i + 1)
theorem zq_nth_nl {u : Option Value} {w : Value} (h : zq_nl u = some w) : u = some w ∧ ¬ w.category = 2 := by
  unfold zq_nl at h
  split at h
  · cases h
  · cases h
  · next h1 h2 =>
    refine ⟨h, ?_⟩
    subst h
    cases w <;> first | (intro q; cases q; done) | (exact absurd rfl (h1 _)) | (exact absurd rfl (h2 _))
theorem zq_nth_put1 : ∀ (l : zq_L) (i j : Nat) (v w : Value), zq_nth (zq_put1 l i v) j = some w → (j = i ∧ w = v) ∨ (j ≠ i ∧ zq_nth l j = some w ∧ ¬ (j + 1 = i ∧ w.category = 2))
  | [], i, j, v, w, h => by simp [zq_put1, zq_nth] at h
  | u :: l, 0, 0, v, w, h => by
    simp only [zq_put1, zq_nth, Option.some.injEq] at h
    exact Or.inl ⟨rfl, h.symm⟩
  | u :: l, 0, j + 1, v, w, h => Or.inr ⟨by omega, h, by omega⟩
  | u :: l, 1, 0, v, w, h => by
    obtain ⟨h1, h2⟩ := zq_nth_nl (show zq_nl u = some w from h)
    exact Or.inr ⟨by omega, h1, fun q => h2 q.2⟩
  | u :: l, 1, j + 1, v, w, h => by
    rcases zq_nth_put1 l 0 j v w h with ⟨h1, h2⟩ | ⟨h1, h2, h3⟩
    · exact Or.inl ⟨by omega, h2⟩
    · exact Or.inr ⟨by omega, h2, by omega⟩
  | u :: l, n + 2, 0, v, w, h => Or.inr ⟨by omega, h, by omega⟩
  | u :: l, n + 2, j + 1, v, w, h => by
    rcases zq_nth_put1 l (n + 1) j v w h with ⟨h1, h2⟩ | ⟨h1, h2, h3⟩
    · exact Or.inl ⟨by omega, h2⟩
    · exact Or.inr ⟨by omega, h2, fun q => h3 ⟨by omega, q.2⟩⟩
theorem zq_nth_clr : ∀ (l : zq_L) (i j : Nat) (w : Value), zq_nth (zq_clr l i) j = some w → j ≠ i ∧ zq_nth l j = some w
  | [], i, j, w, h => by simp [zq_clr, zq_nth] at h
  | u :: l, 0, 0, w, h => by cases h
  | u :: l, 0, j + 1, w, h => ⟨by omega, h⟩
  | u :: l, i + 1, 0, w, h => ⟨by omega, h⟩
  | u :: l, i + 1, j + 1, w, h => by
    obtain ⟨h1, h2⟩ := zq_nth_clr l i j w h
    exact ⟨by omega, h2⟩
theorem zq_nth_lt : ∀ (l : zq_L) (i : Nat) (v : Value), zq_nth l i = some v → i < l.length
  | [], i, v, h => by simp [zq_nth] at h
  | u :: l, 0, v, h => by simp
  | u :: l, i + 1, v, h => by
    have := zq_nth_lt l i v h
    simp; omega
def zq_en (ad : Nat → Nat) (l : zq_L) : List (Nat × Value) := (List.range l.length).filterMap (fun i => (zq_nth l i).map (fun v => (i, zq_cv ad v)))
theorem zq_en_mem {ad : Nat → Nat} {l : zq_L} {i : Nat} {v : Value} (h : zq_nth l i = some v) : (i, zq_cv ad v) ∈ zq_en ad l :=
  List.mem_filterMap.mpr ⟨i, List.mem_range.mpr (zq_nth_lt l i v h), by rw [h]; rfl⟩
theorem zq_en_of {ad : Nat → Nat} {l : zq_L} {q : Nat × Value} (h : q ∈ zq_en ad l) : ∃ v, zq_nth l q.1 = some v ∧ q.2 = zq_cv ad v := by
  obtain ⟨i, -, hi⟩ := List.mem_filterMap.mp h
  cases hn : zq_nth l i with
  | none => rw [hn] at hi; cases hi
  | some v => rw [hn] at hi; cases hi; exact ⟨v, hn, rfl⟩
def zq_lr (ad : Nat → Nat) (nL : Nat) (l : zq_L) (a : Array Slot) : Prop := lv_has a nL (zq_en ad l)
theorem zq_lr.at {ad : Nat → Nat} {nL : Nat} {l : zq_L} {a : Array Slot} (h : zq_lr ad nL l a) {i : Nat} {v : Value} (hi : zq_nth l i = some v) : a[i]? = some (.val (zq_cv ad v)) := h.2.2 _ (zq_en_mem hi)
theorem zq_lr.of {ad : Nat → Nat} {nL : Nat} {l : zq_L} {a : Array Slot} {lv : List (Nat × Value)} (h : lv_has a nL lv) (k : ∀ i v, zq_nth l i = some v → (i, zq_cv ad v) ∈ lv) : zq_lr ad nL l a := by
  refine ⟨h.1, h.2.1, fun q hq => ?_⟩
  obtain ⟨v, h1, h2⟩ := zq_en_of hq
  have h3 := h.2.2 _ (k _ _ h1)
  rw [h2]
  exact h3
theorem zq_lr.put1 {ad : Nat → Nat} {nL : Nat} {l : zq_L} {a : Array Slot} {i : Nat} {v : Value} (h : lv_has a nL ((i, zq_cv ad v) :: (zq_en ad l).filter (fun q => !(q.1 == i) && !(q.1 + 1 == i && q.2.category == 2)))) : zq_lr ad nL (zq_put1 l i v) a := by
  refine zq_lr.of h fun j w hw => ?_
  rcases zq_nth_put1 l i j v w hw with ⟨rfl, rfl⟩ | ⟨h1, h2, h3⟩
  · exact List.mem_cons_self
  · refine List.mem_cons_of_mem _ (List.mem_filter.mpr ⟨zq_en_mem h2, ?_⟩)
    simp only [Bool.and_eq_true, Bool.not_eq_true', beq_eq_false_iff_ne, ne_eq, Bool.and_eq_false_iff, zq_cv_cat]
    refine ⟨h1, ?_⟩
    by_cases q : j + 1 = i
    · exact Or.inr (fun z => h3 ⟨q, z⟩)
    · exact Or.inl q
theorem zq_lr.put2 {ad : Nat → Nat} {nL : Nat} {l : zq_L} {a : Array Slot} {i : Nat} {v : Value} (h : lv_has a nL ((i, zq_cv ad v) :: (zq_en ad l).filter (fun q => !(q.1 == i) && (!(q.1 == i + 1) && !(q.1 + 1 == i && q.2.category == 2))))) : zq_lr ad nL (zq_put2 l i v) a := by
  refine zq_lr.of h fun j w hw => ?_
  obtain ⟨h0, hw⟩ := zq_nth_clr _ _ _ _ hw
  rcases zq_nth_put1 l i j v w hw with ⟨rfl, rfl⟩ | ⟨h1, h2, h3⟩
  · exact List.mem_cons_self
  · refine List.mem_cons_of_mem _ (List.mem_filter.mpr ⟨zq_en_mem h2, ?_⟩)
    simp only [Bool.and_eq_true, Bool.not_eq_true', beq_eq_false_iff_ne, ne_eq, Bool.and_eq_false_iff, zq_cv_cat]
    refine ⟨h1, h0, ?_⟩
    by_cases q : j + 1 = i
    · exact Or.inr (fun z => h3 ⟨q, z⟩)
    · exact Or.inl q
/-! the world -/
def zq_fv (ad : Nat → Nat) (h : zq_H) (p j : Nat) (kd : Nat) : Value := match kd with
  | 0 => .int (h.1 p j)
  | 1 => .long (h.2 p j)
  | k + 2 => .ref (ad k)
def zq_fs (ad : Nat → Nat) (h : zq_H) (p : Nat) (kd : List Nat) : List Value := (List.range kd.length).map (fun j => zq_fv ad h p j (kd.getD j 0))
def zq_ent (Y : zq_Y) (ad : Nat → Nat) (h : zq_H) (p : Nat) (e : Nat × Nat × List Nat) : va_E := match e with
  | (0, ci, kd) => .inr (ci, zq_fs ad h p kd)
  | (1, n, _) => .inl (Y.1, n, .inl (h.1 p))
  | (2, n, _) => .inl (Y.2.1, n, .inr (.inl (h.2 p)))
  | (_, n, _) => .inl (Y.2.2, n, .inl (h.1 p))
def zq_ws (Y : zq_Y) (ad : Nat → Nat) (h : zq_H) : va_W := (List.range zq_S.length).map (fun p => (ad p, zq_ent Y ad h p (zq_S.getD p (0, 0, []))))
abbrev zq_ty (Y : zq_Y) : List (ClassId × FieldType) := [(Y.1, .int), (Y.2.1, .long), (Y.2.2, .boolean)]
theorem zq_ws_at {Y : zq_Y} {ad : Nat → Nat} {h : zq_H} {p : Nat} {e : Nat × Nat × List Nat} (hp : zq_S[p]? = some e) : (zq_ws Y ad h)[p]? = some (ad p, zq_ent Y ad h p e) := by
  have hl : p < zq_S.length := (List.getElem?_eq_some_iff.mp hp).1
  unfold zq_ws
  rw [List.getElem?_map, List.getElem?_range hl]
  simp [List.getD, hp]
theorem zq_ws_of {Y : zq_Y} {ad : Nat → Nat} {h : zq_H} {p : Nat} {q : Nat × va_E} (hp : (zq_ws Y ad h)[p]? = some q) : p < zq_S.length ∧ q.1 = ad p := by
  unfold zq_ws at hp
  rw [List.getElem?_map] at hp
  cases hr : (List.range zq_S.length)[p]? with
  | none => rw [hr] at hp; cases hp
  | some i =>
    rw [hr] at hp
    obtain ⟨h1, h2⟩ := List.getElem?_eq_some_iff.mp hr
    rw [List.getElem_range] at h2
    subst h2
    cases hp
    exact ⟨by simpa using h1, rfl⟩
theorem zq_fs_at {ad : Nat → Nat} {h : zq_H} {p j k : Nat} {kd : List Nat} (hj : kd[j]? = some k) : (zq_fs ad h p kd)[j]? = some (zq_fv ad h p j k) := by
  have hl : j < kd.length := (List.getElem?_eq_some_iff.mp hj).1
  unfold zq_fs
  rw [List.getElem?_map, List.getElem?_range hl]
  simp [List.getD, hj]
def zq_setI (h : zq_H) (p j : Nat) (x : Int32) : zq_H := (fun q i => if q = p ∧ i = j then x else h.1 q i, h.2)
def zq_setL (h : zq_H) (p j : Nat) (x : Int64) : zq_H := (h.1, fun q i => if q = p ∧ i = j then x else h.2 q i)
theorem zq_ws_set {Y : zq_Y} {ad : Nat → Nat} {h h' : zq_H} {p : Nat} {e : Nat × Nat × List Nat} (hp : zq_S[p]? = some e) {v : va_E} (hv : zq_ent Y ad h' p e = v) (ho : ∀ q, q ≠ p → h'.1 q = h.1 q ∧ h'.2 q = h.2 q) : (zq_ws Y ad h).set p (ad p, v) = zq_ws Y ad h' := by
  have hl : p < zq_S.length := (List.getElem?_eq_some_iff.mp hp).1
  apply List.ext_getElem?
  intro k
  by_cases hk : k = p
  · subst hk
    rw [List.getElem?_set_self (by simpa [zq_ws] using hl), zq_ws_at hp, hv]
  · rw [List.getElem?_set_ne (Ne.symm hk)]
    unfold zq_ws
    rw [List.getElem?_map, List.getElem?_map]
    cases hr : (List.range zq_S.length)[k]? with
    | none => rfl
    | some i =>
      obtain ⟨h1, h2⟩ := List.getElem?_eq_some_iff.mp hr
      rw [List.getElem_range] at h2
      subst h2
      obtain ⟨o1, o2⟩ := ho k hk
      have he : ∀ e : Nat × Nat × List Nat, zq_ent Y ad h k e = zq_ent Y ad h' k e := by
        intro e
        unfold zq_ent
        split
        · have : ∀ kd, zq_fs ad h k kd = zq_fs ad h' k kd := by
            intro kd
            unfold zq_fs zq_fv
            rw [o1, o2]
          rw [this]
        · rw [o1]
        · rw [o2]
        · rw [o1]
      exact congrArg (fun z => some (ad k, z)) (he _)
theorem zq_ws_setI {Y : zq_Y} {ad : Nat → Nat} {h : zq_H} {p n : Nat} {kd : List Nat} (hp : zq_S[p]? = some (1, n, kd)) (i : Nat) (x : Int32) : (zq_ws Y ad h).set p (ad p, .inl (Y.1, n, .inl (upd (h.1 p) i x))) = zq_ws Y ad (zq_setI h p i x) := by
  refine zq_ws_set hp ?_ (fun q hq => ⟨?_, rfl⟩)
  · show Sum.inl (Y.1, n, Sum.inl _) = _
    congr 4
    funext j
    simp only [zq_setI, upd, true_and]
  · funext j
    simp [zq_setI, hq]
theorem zq_ws_setZ {Y : zq_Y} {ad : Nat → Nat} {h : zq_H} {p n : Nat} {kd : List Nat} (hp : zq_S[p]? = some (3, n, kd)) (i : Nat) (x : Int32) : (zq_ws Y ad h).set p (ad p, .inl (Y.2.2, n, .inl (upd (h.1 p) i x))) = zq_ws Y ad (zq_setI h p i x) := by
  refine zq_ws_set hp ?_ (fun q hq => ⟨?_, rfl⟩)
  · show Sum.inl (Y.2.2, n, Sum.inl _) = _
    congr 4
    funext j
    simp only [zq_setI, upd, true_and]
  · funext j
    simp [zq_setI, hq]
theorem zq_ws_setL {Y : zq_Y} {ad : Nat → Nat} {h : zq_H} {p n : Nat} {kd : List Nat} (hp : zq_S[p]? = some (2, n, kd)) (i : Nat) (x : Int64) : (zq_ws Y ad h).set p (ad p, .inl (Y.2.1, n, .inr (.inl (vp_updL (h.2 p) i x)))) = zq_ws Y ad (zq_setL h p i x) := by
  refine zq_ws_set hp ?_ (fun q hq => ⟨rfl, ?_⟩)
  · show Sum.inl (Y.2.1, n, Sum.inr (Sum.inl _)) = _
    congr 5
    funext j
    simp only [zq_setL, vp_updL, true_and]
  · funext j
    simp [zq_setL, hq]
end
section
theorem zq_fs_setI {ad : Nat → Nat} {h : zq_H} {p j : Nat} {kd : List Nat} (hj : kd[j]? = some 0) (x : Int32) : zq_fs ad (zq_setI h p j x) p kd = (zq_fs ad h p kd).set j (.int x) := by
  have hl : j < kd.length := (List.getElem?_eq_some_iff.mp hj).1
  apply List.ext_getElem?
  intro k
  by_cases hk : k = j
  · subst hk
    rw [List.getElem?_set_self (by simpa [zq_fs] using hl), zq_fs_at hj]
    simp [zq_fv, zq_setI]
  · rw [List.getElem?_set_ne (Ne.symm hk)]
    cases hd : kd[k]? with
    | none =>
      have : kd.length ≤ k := by simpa using hd
      rw [List.getElem?_eq_none (by simpa [zq_fs] using this), List.getElem?_eq_none (by simpa [zq_fs] using this)]
    | some d =>
      rw [zq_fs_at hd, zq_fs_at hd]
      unfold zq_fv
      split <;> simp [zq_setI, hk]
theorem zq_fs_setL {ad : Nat → Nat} {h : zq_H} {p j : Nat} {kd : List Nat} (hj : kd[j]? = some 1) (x : Int64) : zq_fs ad (zq_setL h p j x) p kd = (zq_fs ad h p kd).set j (.long x) := by
  have hl : j < kd.length := (List.getElem?_eq_some_iff.mp hj).1
  apply List.ext_getElem?
  intro k
  by_cases hk : k = j
  · subst hk
    rw [List.getElem?_set_self (by simpa [zq_fs] using hl), zq_fs_at hj]
    simp [zq_fv, zq_setL]
  · rw [List.getElem?_set_ne (Ne.symm hk)]
    cases hd : kd[k]? with
    | none =>
      have : kd.length ≤ k := by simpa using hd
      rw [List.getElem?_eq_none (by simpa [zq_fs] using this), List.getElem?_eq_none (by simpa [zq_fs] using this)]
    | some d =>
      rw [zq_fs_at hd, zq_fs_at hd]
      unfold zq_fv
      split <;> simp [zq_setL, hk]
theorem zq_ws_putI {Y : zq_Y} {ad : Nat → Nat} {h : zq_H} {p ci : Nat} {kd : List Nat} (hp : zq_S[p]? = some (0, ci, kd)) {j : Nat} (hj : kd[j]? = some 0) (x : Int32) : (zq_ws Y ad h).set p (ad p, .inr (ci, (zq_fs ad h p kd).set j (.int x))) = zq_ws Y ad (zq_setI h p j x) := by
  refine zq_ws_set hp ?_ (fun q hq => ⟨?_, rfl⟩)
  · show Sum.inr (ci, zq_fs _ _ _ _) = _
    rw [zq_fs_setI hj]
  · funext i
    simp [zq_setI, hq]
theorem zq_ws_putL {Y : zq_Y} {ad : Nat → Nat} {h : zq_H} {p ci : Nat} {kd : List Nat} (hp : zq_S[p]? = some (0, ci, kd)) {j : Nat} (hj : kd[j]? = some 1) (x : Int64) : (zq_ws Y ad h).set p (ad p, .inr (ci, (zq_fs ad h p kd).set j (.long x))) = zq_ws Y ad (zq_setL h p j x) := by
  refine zq_ws_set hp ?_ (fun q hq => ⟨rfl, ?_⟩)
  · show Sum.inr (ci, zq_fs _ _ _ _) = _
    rw [zq_fs_setL hj]
  · funext i
    simp [zq_setL, hq]
/-! where a method stands, what it may use, what it owes at its end -/
abbrev zq_X : Type := Program × Launch × Env × Room × State × MethodId × Array Value × List Frame × Method × Code × va_G × zq_Y × (Nat → Nat) × (Nat → Prop) × Nat × Nat × (State → Prop)
def zq_tb : List Cond := lw_tbl.filter goodWord
/-- the text constants of the reference, by their places: pool number and text -/
def zq_str : List (Nat × String) := [(222, "123456789"), (227, "abcdefghi"), (254, "fyxg"), (278, "crkabdipe"), (283, "<>="), (285, "+-"), (287, "*/"), (360, "gbm")]
def zq_len : List Nat := [9, 9, 4, 9, 3, 2, 2, 3]
def zq_byt : List (List Int32) := [[49, 50, 51, 52, 53, 54, 55, 56, 57], [97, 98, 99, 100, 101, 102, 103, 104, 105], [102, 121, 120, 103], [99, 114, 107, 97, 98, 100, 105, 112, 101], [60, 62, 61], [43, 45], [42, 47], [103, 98, 109]]
def zq_E (ad : Nat → Nat) (A : Nat → Prop) (U : State) (H : Heap) : Prop := vk_S 8 zq_len zq_byt (fun i => ad (200 + i)) (fun i => ad (300 + i)) A U H ∧ (∀ (i : Nat) (q : Nat × String), zq_str[i]? = some q → vk_R "ToOneCrumbModel" q.1 q.2 (ad (200 + i)) U) ∧ va_Z "java/lang/String" "COMPACT_STRINGS" "Z" (.int 1) A U H
def zq_C (X : zq_X) (cc : ByteArray) (nL : Nat) (own : String) (d : Nat) : Prop := match X with
  | (p, _, _, R, s, m, args, _, _, c, D, Y, ad, A, k, n, _) => p.tables.exec = Jvm.exec ∧ c.code = cc ∧ c.maxLocals = nL ∧ s.vm.findClass own = some m.cls ∧ (∀ w ∈ zq_tb, w.before args s = true) ∧ va_K D vwCl (zq_ty Y) s ∧ d ≤ R.frames ∧ 64 * d ≤ R.locals ∧ k ≤ R.cells ∧ n ≤ R.slots ∧ zq_E ad A s s.heap
def zq_ok (X : zq_X) (nL pc : Nat) (P : zq_P) : Prop := match X with
  | (p, l, e, R, s, m, args, below, meth, c, D, Y, ad, A, k, n, Z) => ∀ (ls : zq_L) (st : List Value) (h : zq_H) (H : Heap) (locs : List Loc) (a : Array Slot), P ls st h → zq_lr ad nL ls a → va_P D vwCl (zq_ws Y ad h) H → va_D A (zq_ws Y ad h) → va_S A s.heap H locs → W p l e R s m args below meth c H locs k n Z (F0 m pc a (st.map (zq_cv ad)))
/-- a method's end: nothing (0), an int (1), a long (2) -/
def zq_kd (rk : Nat) (v : Option Value) : Prop := match rk, v with
  | 0, none => True
  | 1, some (.int _) => True
  | 2, some (.long _) => True
  | _, _ => False
def zq_R (X : zq_X) (rt : Option FieldType) (rk : Nat) (Q : zq_Q) : Prop := match X with
  | (_, _, _, _, s, _, args, below, meth, _, D, Y, ad, A, k, n, Z) => meth.locks = false ∧ meth.sig.returnType = rt ∧ ∃ (free : Addr → Prop) (Qc : Array Value → State → Outcome → State → Prop), Z = MQ below Qc args s k n free ∧ (∀ q, A q → free q) ∧
      ∀ (v : Option Value) (h : zq_H) (t : State), zq_kd rk v → Q v h → va_P D vwCl (zq_ws Y ad h) t.heap → va_D A (zq_ws Y ad h) → va_F A s t → s.WarmedH t.vm → Qc args s (.returned v) t
theorem zq_ok.mono {X : zq_X} {nL pc : Nat} {P P' : zq_P} (h : ∀ ls st h, P' ls st h → P ls st h) (k : zq_ok X nL pc P) : zq_ok X nL pc P' := by
  obtain ⟨p, l, e, R, s, m, args, below, meth, c, D, Y, ad, A, kc, kn, Z⟩ := X
  intro ls st hh H locs a hP
  exact k ls st hh H locs a (h _ _ _ hP)
/-! transformers -/
def zi_push (v : Value) (K : zq_P) : zq_P := fun ls st h => K ls (v :: st) h
def zi_iload (i : Nat) (K : zq_P) : zq_P := fun ls st h => match zq_nth ls i with
  | some (.int x) => K ls (.int x :: st) h
  | _ => False
def zi_lload (i : Nat) (K : zq_P) : zq_P := fun ls st h => match zq_nth ls i with
  | some (.long x) => K ls (.long x :: st) h
  | _ => False
def zi_aload (i : Nat) (K : zq_P) : zq_P := fun ls st h => match zq_nth ls i with
  | some (.ref x) => K ls (.ref x :: st) h
  | _ => False
def zi_istore (i : Nat) (K : zq_P) : zq_P := fun ls st h => match st with
  | .int x :: st => K (zq_put1 ls i (.int x)) st h
  | _ => False
def zi_astore (i : Nat) (K : zq_P) : zq_P := fun ls st h => match st with
  | .ref x :: st => K (zq_put1 ls i (.ref x)) st h
  | _ => False
def zi_lstore (i : Nat) (K : zq_P) : zq_P := fun ls st h => match st with
  | .long x :: st => K (zq_put2 ls i (.long x)) st h
  | _ => False
def zi_iinc (i : Nat) (v : Int32) (K : zq_P) : zq_P := fun ls st h => match zq_nth ls i with
  | some (.int x) => K (zq_put1 ls i (.int (x + v))) st h
  | _ => False
def zi_i2 (f : Int32 → Int32 → Int32) (K : zq_P) : zq_P := fun ls st h => match st with
  | .int y :: .int x :: st => K ls (.int (f x y) :: st) h
  | _ => False
def zi_i1 (f : Int32 → Int32) (K : zq_P) : zq_P := fun ls st h => match st with
  | .int x :: st => K ls (.int (f x) :: st) h
  | _ => False
def zi_idv (f : Int32 → Int32 → Int32) (K : zq_P) : zq_P := fun ls st h => match st with
  | .int y :: .int x :: st => ¬ y = 0 ∧ K ls (.int (f x y) :: st) h
  | _ => False
def zi_l2 (f : Int64 → Int64 → Int64) (K : zq_P) : zq_P := fun ls st h => match st with
  | .long y :: .long x :: st => K ls (.long (f x y) :: st) h
  | _ => False
def zi_ldv (f : Int64 → Int64 → Int64) (K : zq_P) : zq_P := fun ls st h => match st with
  | .long y :: .long x :: st => ¬ y = 0 ∧ K ls (.long (f x y) :: st) h
  | _ => False
def zi_lsh (f : Int64 → Int32 → Int64) (K : zq_P) : zq_P := fun ls st h => match st with
  | .int y :: .long x :: st => K ls (.long (f x y) :: st) h
  | _ => False
def zi_i2l (K : zq_P) : zq_P := fun ls st h => match st with
  | .int x :: st => K ls (.long x.toInt64 :: st) h
  | _ => False
def zi_l2i (K : zq_P) : zq_P := fun ls st h => match st with
  | .long x :: st => K ls (.int x.toInt32 :: st) h
  | _ => False
def zi_lcmp (K : zq_P) : zq_P := fun ls st h => match st with
  | .long y :: .long x :: st => K ls (.int (lg_cmp x y) :: st) h
  | _ => False
def zi_dup (K : zq_P) : zq_P := fun ls st h => match st with
  | .int x :: st => K ls (.int x :: .int x :: st) h
  | .ref x :: st => K ls (.ref x :: .ref x :: st) h
  | _ => False
def zi_dup2 (K : zq_P) : zq_P := fun ls st h => match st with
  | .int y :: .int x :: st => K ls (.int y :: .int x :: .int y :: .int x :: st) h
  | .int y :: .ref x :: st => K ls (.int y :: .ref x :: .int y :: .ref x :: st) h
  | _ => False
def zi_pop (K : zq_P) : zq_P := fun ls st h => match st with
  | .int _ :: st => K ls st h
  | _ => False
def zi_if1 (f : Int32 → Prop) (J K : zq_P) : zq_P := fun ls st h => match st with
  | .int x :: st => (f x → J ls st h) ∧ (¬ f x → K ls st h)
  | _ => False
def zi_if2 (f : Int32 → Int32 → Prop) (J K : zq_P) : zq_P := fun ls st h => match st with
  | .int y :: .int x :: st => (f x y → J ls st h) ∧ (¬ f x y → K ls st h)
  | _ => False
def zi_getI (p j : Nat) (K : zq_P) : zq_P := fun ls st h => match st with
  | .ref q :: st => q = p ∧ K ls (.int (h.1 p j) :: st) h
  | _ => False
def zi_getL (p j : Nat) (K : zq_P) : zq_P := fun ls st h => match st with
  | .ref q :: st => q = p ∧ K ls (.long (h.2 p j) :: st) h
  | _ => False
def zi_getR (p r : Nat) (K : zq_P) : zq_P := fun ls st h => match st with
  | .ref q :: st => q = p ∧ K ls (.ref r :: st) h
  | _ => False
def zi_putI (p j : Nat) (K : zq_P) : zq_P := fun ls st h => match st with
  | .int x :: .ref q :: st => q = p ∧ K ls st (zq_setI h p j x)
  | _ => False
def zi_putZ (p j : Nat) (K : zq_P) : zq_P := fun ls st h => match st with
  | .int x :: .ref q :: st => q = p ∧ (x = 0 ∨ x = 1) ∧ K ls st (zq_setI h p j x)
  | _ => False
def zi_putL (p j : Nat) (K : zq_P) : zq_P := fun ls st h => match st with
  | .long x :: .ref q :: st => q = p ∧ K ls st (zq_setL h p j x)
  | _ => False
def zi_aldI (p n : Nat) (K : zq_P) : zq_P := fun ls st h => match st with
  | .int i :: .ref q :: st => q = p ∧ vp_in i n ∧ K ls (.int (h.1 p i.toNatClampNeg) :: st) h
  | _ => False
def zi_aldL (p n : Nat) (K : zq_P) : zq_P := fun ls st h => match st with
  | .int i :: .ref q :: st => q = p ∧ vp_in i n ∧ K ls (.long (h.2 p i.toNatClampNeg) :: st) h
  | _ => False
def zi_astI (p n : Nat) (K : zq_P) : zq_P := fun ls st h => match st with
  | .int x :: .int i :: .ref q :: st => q = p ∧ vp_in i n ∧ K ls st (zq_setI h p i.toNatClampNeg x)
  | _ => False
def zi_astZ (p n : Nat) (K : zq_P) : zq_P := fun ls st h => match st with
  | .int x :: .int i :: .ref q :: st => q = p ∧ vp_in i n ∧ (x = 0 ∨ x = 1) ∧ K ls st (zq_setI h p i.toNatClampNeg x)
  | _ => False
def zi_astL (p n : Nat) (K : zq_P) : zq_P := fun ls st h => match st with
  | .long x :: .int i :: .ref q :: st => q = p ∧ vp_in i n ∧ K ls st (zq_setL h p i.toNatClampNeg x)
  | _ => False
def zi_alen (p n : Nat) (K : zq_P) : zq_P := fun ls st h => match st with
  | .ref q :: st => q = p ∧ K ls (.int (Int32.ofNat n) :: st) h
  | _ => False
def zi_iret (Q : zq_Q) : zq_P := fun _ st h => match st with
  | [.int x] => Q (some (.int x)) h
  | _ => False
def zi_zret (Q : zq_Q) : zq_P := fun _ st h => match st with
  | [.int x] => (x = 0 ∨ x = 1) ∧ Q (some (.int x)) h
  | _ => False
def zi_lret (Q : zq_Q) : zq_P := fun _ st h => match st with
  | [.long x] => Q (some (.long x)) h
  | _ => False
def zi_vret (Q : zq_Q) : zq_P := fun _ st h => match st with
  | [] => Q none h
  | _ => False
/-! their proofs -/
section ZS
variable {X : zq_X} {cc : ByteArray} {nL d pc : Nat} {own : String} {K J : zq_P}
theorem zs_iconst (C : zq_C X cc nL own d) {n : Int} {v : Int32} (hd : decode cc pc = .ok (.iconst n, 1)) (hv : Int32.ofInt n = v) (k : zq_ok X nL (pc + 1) K) : zq_ok X nL pc (zi_push (.int v) K) := by
  obtain ⟨p, l, e, R, s, m, args, below, meth, c, D, Y, ad, A, kc, kn, Z⟩ := X
  obtain ⟨hx, hb, hml, hown, hts, hK, hR⟩ := C
  intro ls st h H locs a hP hl hw hD hS
  exact lv_iconst hx hb hd hv (k _ _ _ _ _ _ hP hl hw hD hS)
theorem zs_bipush (C : zq_C X cc nL own d) {n : Int} {v : Int32} (hd : decode cc pc = .ok (.bipush n, 2)) (hv : (Int8.ofInt n).toInt32 = v) (k : zq_ok X nL (pc + 2) K) : zq_ok X nL pc (zi_push (.int v) K) := by
  obtain ⟨p, l, e, R, s, m, args, below, meth, c, D, Y, ad, A, kc, kn, Z⟩ := X
  obtain ⟨hx, hb, hml, hown, hts, hK, hR⟩ := C
  intro ls st h H locs a hP hl hw hD hS
  exact lv_bipush hx hb hd hv (k _ _ _ _ _ _ hP hl hw hD hS)
theorem zs_sipush (C : zq_C X cc nL own d) {n : Int} {v : Int32} (hd : decode cc pc = .ok (.sipush n, 3)) (hv : (Int16.ofInt n).toInt32 = v) (k : zq_ok X nL (pc + 3) K) : zq_ok X nL pc (zi_push (.int v) K) := by
  obtain ⟨p, l, e, R, s, m, args, below, meth, c, D, Y, ad, A, kc, kn, Z⟩ := X
  obtain ⟨hx, hb, hml, hown, hts, hK, hR⟩ := C
  intro ls st h H locs a hP hl hw hD hS
  exact lv_sipush hx hb hd hv (k _ _ _ _ _ _ hP hl hw hD hS)
theorem zs_lconst (C : zq_C X cc nL own d) {n : Fin 2} {v : Int64} (hd : decode cc pc = .ok (.lconst n, 1)) (hv : Int64.ofNat (n : Nat) = v) (k : zq_ok X nL (pc + 1) K) : zq_ok X nL pc (zi_push (.long v) K) := by
  obtain ⟨p, l, e, R, s, m, args, below, meth, c, D, Y, ad, A, kc, kn, Z⟩ := X
  obtain ⟨hx, hb, hml, hown, hts, hK, hR⟩ := C
  intro ls st h H locs a hP hl hw hD hS
  exact lv_lconst hx hb hd hv (k _ _ _ _ _ _ hP hl hw hD hS)
theorem zs_ldc (C : zq_C X cc nL own d) {ix : Nat} {v : Int32} (hd : decode cc pc = .ok (.ldc ix, 2)) (hw0 : Cond.constant own ix v ∈ zq_tb) (k : zq_ok X nL (pc + 2) K) : zq_ok X nL pc (zi_push (.int v) K) := by
  obtain ⟨p, l, e, R, s, m, args, below, meth, c, D, Y, ad, A, kc, kn, Z⟩ := X
  obtain ⟨hx, hb, hml, hown, hts, hK, hR⟩ := C
  intro ls st h H locs a hP hl hw hD hS
  exact lv_ldc hx hb hown (hts _ hw0) hd (k _ _ _ _ _ _ hP hl hw hD hS)
theorem zs_ldcw (C : zq_C X cc nL own d) {ix : Nat} {v : Int32} (hd : decode cc pc = .ok (.ldc_w ix, 3)) (hw0 : Cond.constant own ix v ∈ zq_tb) (k : zq_ok X nL (pc + 3) K) : zq_ok X nL pc (zi_push (.int v) K) := by
  obtain ⟨p, l, e, R, s, m, args, below, meth, c, D, Y, ad, A, kc, kn, Z⟩ := X
  obtain ⟨hx, hb, hml, hown, hts, hK, hR⟩ := C
  intro ls st h H locs a hP hl hw hD hS
  exact lv_ldcw hx hb hown (hts _ hw0) hd (k _ _ _ _ _ _ hP hl hw hD hS)
theorem zs_ldc2 (C : zq_C X cc nL own d) {ix : Nat} {v : Int64} (hd : decode cc pc = .ok (.ldc2_w ix, 3)) (hw0 : Cond.constantLong own ix v ∈ zq_tb) (k : zq_ok X nL (pc + 3) K) : zq_ok X nL pc (zi_push (.long v) K) := by
  obtain ⟨p, l, e, R, s, m, args, below, meth, c, D, Y, ad, A, kc, kn, Z⟩ := X
  obtain ⟨hx, hb, hml, hown, hts, hK, hR⟩ := C
  intro ls st h H locs a hP hl hw hD hS
  exact lv_ldc2 hx hb hown (hts _ hw0) hd (k _ _ _ _ _ _ hP hl hw hD hS)
theorem zs_iload_n (C : zq_C X cc nL own d) {i : Nat} {f : Fin 4} (hd : decode cc pc = .ok (.iload_n f, 1)) (hi : (f : Nat) = i) (k : zq_ok X nL (pc + 1) K) : zq_ok X nL pc (zi_iload i K) := by
  obtain ⟨p, l, e, R, s, m, args, below, meth, c, D, Y, ad, A, kc, kn, Z⟩ := X
  obtain ⟨hx, hb, hml, hown, hts, hK, hR⟩ := C
  intro ls st h H locs a hP hl hw hD hS
  unfold zi_iload at hP
  split at hP
  · next x hn => exact lv_iload_n hx hb hd hi (hl.at hn) (k _ _ _ _ _ _ hP hl hw hD hS)
  · exact hP.elim
theorem zs_iload (C : zq_C X cc nL own d) {i : Nat} (hd : decode cc pc = .ok (.iload i, 2)) (k : zq_ok X nL (pc + 2) K) : zq_ok X nL pc (zi_iload i K) := by
  obtain ⟨p, l, e, R, s, m, args, below, meth, c, D, Y, ad, A, kc, kn, Z⟩ := X
  obtain ⟨hx, hb, hml, hown, hts, hK, hR⟩ := C
  intro ls st h H locs a hP hl hw hD hS
  unfold zi_iload at hP
  split at hP
  · next x hn => exact lv_iload hx hb hd (hl.at hn) (k _ _ _ _ _ _ hP hl hw hD hS)
  · exact hP.elim
theorem zs_lload_n (C : zq_C X cc nL own d) {i : Nat} {f : Fin 4} (hd : decode cc pc = .ok (.lload_n f, 1)) (hi : (f : Nat) = i) (k : zq_ok X nL (pc + 1) K) : zq_ok X nL pc (zi_lload i K) := by
  obtain ⟨p, l, e, R, s, m, args, below, meth, c, D, Y, ad, A, kc, kn, Z⟩ := X
  obtain ⟨hx, hb, hml, hown, hts, hK, hR⟩ := C
  intro ls st h H locs a hP hl hw hD hS
  unfold zi_lload at hP
  split at hP
  · next x hn => exact lv_lload_n hx hb hd hi (hl.at hn) (k _ _ _ _ _ _ hP hl hw hD hS)
  · exact hP.elim
theorem zs_lload (C : zq_C X cc nL own d) {i : Nat} (hd : decode cc pc = .ok (.lload i, 2)) (k : zq_ok X nL (pc + 2) K) : zq_ok X nL pc (zi_lload i K) := by
  obtain ⟨p, l, e, R, s, m, args, below, meth, c, D, Y, ad, A, kc, kn, Z⟩ := X
  obtain ⟨hx, hb, hml, hown, hts, hK, hR⟩ := C
  intro ls st h H locs a hP hl hw hD hS
  unfold zi_lload at hP
  split at hP
  · next x hn => exact lv_lload hx hb hd (hl.at hn) (k _ _ _ _ _ _ hP hl hw hD hS)
  · exact hP.elim
theorem zs_aload_n (C : zq_C X cc nL own d) {i : Nat} {f : Fin 4} (hd : decode cc pc = .ok (.aload_n f, 1)) (hi : (f : Nat) = i) (k : zq_ok X nL (pc + 1) K) : zq_ok X nL pc (zi_aload i K) := by
  obtain ⟨p, l, e, R, s, m, args, below, meth, c, D, Y, ad, A, kc, kn, Z⟩ := X
  obtain ⟨hx, hb, hml, hown, hts, hK, hR⟩ := C
  intro ls st h H locs a hP hl hw hD hS
  unfold zi_aload at hP
  split at hP
  · next x hn => exact lv_aload_n hx hb hd hi (hl.at hn) (k _ _ _ _ _ _ hP hl hw hD hS)
  · exact hP.elim
theorem zs_aload (C : zq_C X cc nL own d) {i : Nat} (hd : decode cc pc = .ok (.aload i, 2)) (k : zq_ok X nL (pc + 2) K) : zq_ok X nL pc (zi_aload i K) := by
  obtain ⟨p, l, e, R, s, m, args, below, meth, c, D, Y, ad, A, kc, kn, Z⟩ := X
  obtain ⟨hx, hb, hml, hown, hts, hK, hR⟩ := C
  intro ls st h H locs a hP hl hw hD hS
  unfold zi_aload at hP
  split at hP
  · next x hn => exact lv_aload hx hb hd (hl.at hn) (k _ _ _ _ _ _ hP hl hw hD hS)
  · exact hP.elim
theorem zs_istore_n (C : zq_C X cc nL own d) {i : Nat} {f : Fin 4} (hd : decode cc pc = .ok (.istore_n f, 1)) (hi : (f : Nat) = i) (hn : i < nL) (k : zq_ok X nL (pc + 1) K) : zq_ok X nL pc (zi_istore i K) := by
  obtain ⟨p, l, e, R, s, m, args, below, meth, c, D, Y, ad, A, kc, kn, Z⟩ := X
  obtain ⟨hx, hb, hml, hown, hts, hK, hR⟩ := C
  intro ls st h H locs a hP hl hw hD hS
  unfold zi_istore at hP
  split at hP
  · exact lv_istore_n hx hb hd hi hl hn rfl (fun a' hl' => k _ _ _ _ _ _ hP (zq_lr.put1 hl') hw hD hS)
  · exact hP.elim
theorem zs_istore (C : zq_C X cc nL own d) {i : Nat} (hd : decode cc pc = .ok (.istore i, 2)) (hn : i < nL) (k : zq_ok X nL (pc + 2) K) : zq_ok X nL pc (zi_istore i K) := by
  obtain ⟨p, l, e, R, s, m, args, below, meth, c, D, Y, ad, A, kc, kn, Z⟩ := X
  obtain ⟨hx, hb, hml, hown, hts, hK, hR⟩ := C
  intro ls st h H locs a hP hl hw hD hS
  unfold zi_istore at hP
  split at hP
  · exact lv_istore hx hb hd hl hn rfl (fun a' hl' => k _ _ _ _ _ _ hP (zq_lr.put1 hl') hw hD hS)
  · exact hP.elim
theorem zs_astore_n (C : zq_C X cc nL own d) {i : Nat} {f : Fin 4} (hd : decode cc pc = .ok (.astore_n f, 1)) (hi : (f : Nat) = i) (hn : i < nL) (k : zq_ok X nL (pc + 1) K) : zq_ok X nL pc (zi_astore i K) := by
  obtain ⟨p, l, e, R, s, m, args, below, meth, c, D, Y, ad, A, kc, kn, Z⟩ := X
  obtain ⟨hx, hb, hml, hown, hts, hK, hR⟩ := C
  intro ls st h H locs a hP hl hw hD hS
  unfold zi_astore at hP
  split at hP
  · exact lv_astore_n hx hb hd hi hl hn rfl (fun a' hl' => k _ _ _ _ _ _ hP (zq_lr.put1 hl') hw hD hS)
  · exact hP.elim
theorem zs_astore (C : zq_C X cc nL own d) {i : Nat} (hd : decode cc pc = .ok (.astore i, 2)) (hn : i < nL) (k : zq_ok X nL (pc + 2) K) : zq_ok X nL pc (zi_astore i K) := by
  obtain ⟨p, l, e, R, s, m, args, below, meth, c, D, Y, ad, A, kc, kn, Z⟩ := X
  obtain ⟨hx, hb, hml, hown, hts, hK, hR⟩ := C
  intro ls st h H locs a hP hl hw hD hS
  unfold zi_astore at hP
  split at hP
  · exact lv_astore hx hb hd hl hn rfl (fun a' hl' => k _ _ _ _ _ _ hP (zq_lr.put1 hl') hw hD hS)
  · exact hP.elim
theorem zs_lstore_n (C : zq_C X cc nL own d) {i : Nat} {f : Fin 4} (hd : decode cc pc = .ok (.lstore_n f, 1)) (hi : (f : Nat) = i) (hn : i + 1 < nL) (k : zq_ok X nL (pc + 1) K) : zq_ok X nL pc (zi_lstore i K) := by
  obtain ⟨p, l, e, R, s, m, args, below, meth, c, D, Y, ad, A, kc, kn, Z⟩ := X
  obtain ⟨hx, hb, hml, hown, hts, hK, hR⟩ := C
  intro ls st h H locs a hP hl hw hD hS
  unfold zi_lstore at hP
  split at hP
  · exact lv_lstore_n hx hb hd hi hl hn rfl (fun a' hl' => k _ _ _ _ _ _ hP (zq_lr.put2 hl') hw hD hS)
  · exact hP.elim
theorem zs_lstore (C : zq_C X cc nL own d) {i : Nat} (hd : decode cc pc = .ok (.lstore i, 2)) (hn : i + 1 < nL) (k : zq_ok X nL (pc + 2) K) : zq_ok X nL pc (zi_lstore i K) := by
  obtain ⟨p, l, e, R, s, m, args, below, meth, c, D, Y, ad, A, kc, kn, Z⟩ := X
  obtain ⟨hx, hb, hml, hown, hts, hK, hR⟩ := C
  intro ls st h H locs a hP hl hw hD hS
  unfold zi_lstore at hP
  split at hP
  · exact lv_lstore hx hb hd hl hn rfl (fun a' hl' => k _ _ _ _ _ _ hP (zq_lr.put2 hl') hw hD hS)
  · exact hP.elim
theorem zq_en_place {ad : Nat → Nat} {l : zq_L} {i : Nat} {v : Value} (h : zq_nth l i = some v) : ∃ k : Nat, (zq_en ad l)[k]? = some (i, zq_cv ad v) := List.getElem?_of_mem (zq_en_mem h)
theorem zs_iinc (C : zq_C X cc nL own d) {i : Nat} {n : Int} {v : Int32} (hd : decode cc pc = .ok (.iinc i n, 3)) (hv : Int32.ofInt n = v) (hn : i < nL) (k : zq_ok X nL (pc + 3) K) : zq_ok X nL pc (zi_iinc i v K) := by
  obtain ⟨p, l, e, R, s, m, args, below, meth, c, D, Y, ad, A, kc, kn, Z⟩ := X
  obtain ⟨hx, hb, hml, hown, hts, hK, hR⟩ := C
  intro ls st h H locs a hP hl hw hD hS
  unfold zi_iinc at hP
  split at hP
  · next x hx9 =>
    obtain ⟨k9, hk9⟩ := zq_en_place (ad := ad) hx9
    exact lv_iinc hx hb hd hl hk9 (by rw [hv]) hn rfl (fun a' hl' => k _ _ _ _ _ _ hP (zq_lr.put1 hl') hw hD hS)
  · exact hP.elim
end ZS
end
section
def zf_rem (x y : Int32) : Int32 := x - x / y * y
def zf_shl (x y : Int32) : Int32 := x <<< (y &&& 31)
def zf_shr (x y : Int32) : Int32 := x >>> (y &&& 31)
def zf_ushr (x y : Int32) : Int32 := (x.toUInt32 >>> (y.toUInt32 &&& Int32.toUInt32 31)).toInt32
def zf_lrem (x y : Int64) : Int64 := x - x / y * y
def zf_lushr (x : Int64) (y : Int32) : Int64 := (x.toUInt64 >>> (y.toInt64.toUInt64 &&& Int64.toUInt64 63)).toInt64
def zf_lshl (x : Int64) (y : Int32) : Int64 := x <<< (y.toInt64 &&& 63)
section ZS
variable {X : zq_X} {cc : ByteArray} {nL d pc : Nat} {own : String} {K J : zq_P}
theorem zs_iadd (C : zq_C X cc nL own d) (hd : decode cc pc = .ok (.iadd, 1)) (k : zq_ok X nL (pc + 1) K) : zq_ok X nL pc (zi_i2 (fun x y => x + y) K) := by
  obtain ⟨p, l, e, R, s, m, args, below, meth, c, D, Y, ad, A, kc, kn, Z⟩ := X
  obtain ⟨hx, hb, hml, hown, hts, hK, hR⟩ := C
  intro ls st h H locs a hP hl hw hD hS
  unfold zi_i2 at hP
  split at hP
  · exact lv_iadd hx hb hd (k _ _ _ _ _ _ hP hl hw hD hS)
  · exact hP.elim
theorem zs_isub (C : zq_C X cc nL own d) (hd : decode cc pc = .ok (.isub, 1)) (k : zq_ok X nL (pc + 1) K) : zq_ok X nL pc (zi_i2 (fun x y => x - y) K) := by
  obtain ⟨p, l, e, R, s, m, args, below, meth, c, D, Y, ad, A, kc, kn, Z⟩ := X
  obtain ⟨hx, hb, hml, hown, hts, hK, hR⟩ := C
  intro ls st h H locs a hP hl hw hD hS
  unfold zi_i2 at hP
  split at hP
  · exact lv_isub hx hb hd (k _ _ _ _ _ _ hP hl hw hD hS)
  · exact hP.elim
theorem zs_imul (C : zq_C X cc nL own d) (hd : decode cc pc = .ok (.imul, 1)) (k : zq_ok X nL (pc + 1) K) : zq_ok X nL pc (zi_i2 (fun x y => x * y) K) := by
  obtain ⟨p, l, e, R, s, m, args, below, meth, c, D, Y, ad, A, kc, kn, Z⟩ := X
  obtain ⟨hx, hb, hml, hown, hts, hK, hR⟩ := C
  intro ls st h H locs a hP hl hw hD hS
  unfold zi_i2 at hP
  split at hP
  · exact lv_imul hx hb hd (k _ _ _ _ _ _ hP hl hw hD hS)
  · exact hP.elim
theorem zs_iand (C : zq_C X cc nL own d) (hd : decode cc pc = .ok (.iand, 1)) (k : zq_ok X nL (pc + 1) K) : zq_ok X nL pc (zi_i2 (fun x y => x &&& y) K) := by
  obtain ⟨p, l, e, R, s, m, args, below, meth, c, D, Y, ad, A, kc, kn, Z⟩ := X
  obtain ⟨hx, hb, hml, hown, hts, hK, hR⟩ := C
  intro ls st h H locs a hP hl hw hD hS
  unfold zi_i2 at hP
  split at hP
  · exact lv_iand hx hb hd (k _ _ _ _ _ _ hP hl hw hD hS)
  · exact hP.elim
theorem zs_ior (C : zq_C X cc nL own d) (hd : decode cc pc = .ok (.ior, 1)) (k : zq_ok X nL (pc + 1) K) : zq_ok X nL pc (zi_i2 (fun x y => x ||| y) K) := by
  obtain ⟨p, l, e, R, s, m, args, below, meth, c, D, Y, ad, A, kc, kn, Z⟩ := X
  obtain ⟨hx, hb, hml, hown, hts, hK, hR⟩ := C
  intro ls st h H locs a hP hl hw hD hS
  unfold zi_i2 at hP
  split at hP
  · exact lv_ior hx hb hd (k _ _ _ _ _ _ hP hl hw hD hS)
  · exact hP.elim
theorem zs_ixor (C : zq_C X cc nL own d) (hd : decode cc pc = .ok (.ixor, 1)) (k : zq_ok X nL (pc + 1) K) : zq_ok X nL pc (zi_i2 (fun x y => x ^^^ y) K) := by
  obtain ⟨p, l, e, R, s, m, args, below, meth, c, D, Y, ad, A, kc, kn, Z⟩ := X
  obtain ⟨hx, hb, hml, hown, hts, hK, hR⟩ := C
  intro ls st h H locs a hP hl hw hD hS
  unfold zi_i2 at hP
  split at hP
  · exact lv_ixor hx hb hd (k _ _ _ _ _ _ hP hl hw hD hS)
  · exact hP.elim
theorem zs_ishl (C : zq_C X cc nL own d) (hd : decode cc pc = .ok (.ishl, 1)) (k : zq_ok X nL (pc + 1) K) : zq_ok X nL pc (zi_i2 zf_shl K) := by
  obtain ⟨p, l, e, R, s, m, args, below, meth, c, D, Y, ad, A, kc, kn, Z⟩ := X
  obtain ⟨hx, hb, hml, hown, hts, hK, hR⟩ := C
  intro ls st h H locs a hP hl hw hD hS
  unfold zi_i2 at hP
  split at hP
  · exact lv_ishl hx hb hd (k _ _ _ _ _ _ hP hl hw hD hS)
  · exact hP.elim
theorem zs_ishr (C : zq_C X cc nL own d) (hd : decode cc pc = .ok (.ishr, 1)) (k : zq_ok X nL (pc + 1) K) : zq_ok X nL pc (zi_i2 zf_shr K) := by
  obtain ⟨p, l, e, R, s, m, args, below, meth, c, D, Y, ad, A, kc, kn, Z⟩ := X
  obtain ⟨hx, hb, hml, hown, hts, hK, hR⟩ := C
  intro ls st h H locs a hP hl hw hD hS
  unfold zi_i2 at hP
  split at hP
  · exact lv_ishr hx hb hd (k _ _ _ _ _ _ hP hl hw hD hS)
  · exact hP.elim
theorem zs_iushr (C : zq_C X cc nL own d) (hd : decode cc pc = .ok (.iushr, 1)) (k : zq_ok X nL (pc + 1) K) : zq_ok X nL pc (zi_i2 zf_ushr K) := by
  obtain ⟨p, l, e, R, s, m, args, below, meth, c, D, Y, ad, A, kc, kn, Z⟩ := X
  obtain ⟨hx, hb, hml, hown, hts, hK, hR⟩ := C
  intro ls st h H locs a hP hl hw hD hS
  unfold zi_i2 at hP
  split at hP
  · exact lv_iushr hx hb hd rfl (k _ _ _ _ _ _ hP hl hw hD hS)
  · exact hP.elim
theorem zs_idiv (C : zq_C X cc nL own d) (hd : decode cc pc = .ok (.idiv, 1)) (k : zq_ok X nL (pc + 1) K) : zq_ok X nL pc (zi_idv (fun x y => x / y) K) := by
  obtain ⟨p, l, e, R, s, m, args, below, meth, c, D, Y, ad, A, kc, kn, Z⟩ := X
  obtain ⟨hx, hb, hml, hown, hts, hK, hR⟩ := C
  intro ls st h H locs a hP hl hw hD hS
  unfold zi_idv at hP
  split at hP
  · exact lv_idiv hx hb hd hP.1 (k _ _ _ _ _ _ hP.2 hl hw hD hS)
  · exact hP.elim
theorem zs_irem (C : zq_C X cc nL own d) (hd : decode cc pc = .ok (.irem, 1)) (k : zq_ok X nL (pc + 1) K) : zq_ok X nL pc (zi_idv zf_rem K) := by
  obtain ⟨p, l, e, R, s, m, args, below, meth, c, D, Y, ad, A, kc, kn, Z⟩ := X
  obtain ⟨hx, hb, hml, hown, hts, hK, hR⟩ := C
  intro ls st h H locs a hP hl hw hD hS
  unfold zi_idv at hP
  split at hP
  · exact lv_irem hx hb hd hP.1 (k _ _ _ _ _ _ hP.2 hl hw hD hS)
  · exact hP.elim
theorem zs_ineg (C : zq_C X cc nL own d) (hd : decode cc pc = .ok (.ineg, 1)) (k : zq_ok X nL (pc + 1) K) : zq_ok X nL pc (zi_i1 (fun x => -x) K) := by
  obtain ⟨p, l, e, R, s, m, args, below, meth, c, D, Y, ad, A, kc, kn, Z⟩ := X
  obtain ⟨hx, hb, hml, hown, hts, hK, hR⟩ := C
  intro ls st h H locs a hP hl hw hD hS
  unfold zi_i1 at hP
  split at hP
  · exact lv_ineg hx hb hd (k _ _ _ _ _ _ hP hl hw hD hS)
  · exact hP.elim
theorem zs_i2b (C : zq_C X cc nL own d) (hd : decode cc pc = .ok (.i2b, 1)) (k : zq_ok X nL (pc + 1) K) : zq_ok X nL pc (zi_i1 (fun x => x.toInt8.toInt32) K) := by
  obtain ⟨p, l, e, R, s, m, args, below, meth, c, D, Y, ad, A, kc, kn, Z⟩ := X
  obtain ⟨hx, hb, hml, hown, hts, hK, hR⟩ := C
  intro ls st h H locs a hP hl hw hD hS
  unfold zi_i1 at hP
  split at hP
  · exact lv_i2b hx hb hd rfl (k _ _ _ _ _ _ hP hl hw hD hS)
  · exact hP.elim
theorem zs_i2s (C : zq_C X cc nL own d) (hd : decode cc pc = .ok (.i2s, 1)) (k : zq_ok X nL (pc + 1) K) : zq_ok X nL pc (zi_i1 (fun x => x.toInt16.toInt32) K) := by
  obtain ⟨p, l, e, R, s, m, args, below, meth, c, D, Y, ad, A, kc, kn, Z⟩ := X
  obtain ⟨hx, hb, hml, hown, hts, hK, hR⟩ := C
  intro ls st h H locs a hP hl hw hD hS
  unfold zi_i1 at hP
  split at hP
  · exact lv_i2s hx hb hd rfl (k _ _ _ _ _ _ hP hl hw hD hS)
  · exact hP.elim
theorem zs_ladd (C : zq_C X cc nL own d) (hd : decode cc pc = .ok (.ladd, 1)) (k : zq_ok X nL (pc + 1) K) : zq_ok X nL pc (zi_l2 (fun x y => x + y) K) := by
  obtain ⟨p, l, e, R, s, m, args, below, meth, c, D, Y, ad, A, kc, kn, Z⟩ := X
  obtain ⟨hx, hb, hml, hown, hts, hK, hR⟩ := C
  intro ls st h H locs a hP hl hw hD hS
  unfold zi_l2 at hP
  split at hP
  · exact lv_ladd hx hb hd (k _ _ _ _ _ _ hP hl hw hD hS)
  · exact hP.elim
theorem zs_lsub (C : zq_C X cc nL own d) (hd : decode cc pc = .ok (.lsub, 1)) (k : zq_ok X nL (pc + 1) K) : zq_ok X nL pc (zi_l2 (fun x y => x - y) K) := by
  obtain ⟨p, l, e, R, s, m, args, below, meth, c, D, Y, ad, A, kc, kn, Z⟩ := X
  obtain ⟨hx, hb, hml, hown, hts, hK, hR⟩ := C
  intro ls st h H locs a hP hl hw hD hS
  unfold zi_l2 at hP
  split at hP
  · exact lv_lsub hx hb hd (k _ _ _ _ _ _ hP hl hw hD hS)
  · exact hP.elim
theorem zs_lmul (C : zq_C X cc nL own d) (hd : decode cc pc = .ok (.lmul, 1)) (k : zq_ok X nL (pc + 1) K) : zq_ok X nL pc (zi_l2 (fun x y => x * y) K) := by
  obtain ⟨p, l, e, R, s, m, args, below, meth, c, D, Y, ad, A, kc, kn, Z⟩ := X
  obtain ⟨hx, hb, hml, hown, hts, hK, hR⟩ := C
  intro ls st h H locs a hP hl hw hD hS
  unfold zi_l2 at hP
  split at hP
  · exact lv_lmul hx hb hd (k _ _ _ _ _ _ hP hl hw hD hS)
  · exact hP.elim
theorem zs_land (C : zq_C X cc nL own d) (hd : decode cc pc = .ok (.land, 1)) (k : zq_ok X nL (pc + 1) K) : zq_ok X nL pc (zi_l2 (fun x y => x &&& y) K) := by
  obtain ⟨p, l, e, R, s, m, args, below, meth, c, D, Y, ad, A, kc, kn, Z⟩ := X
  obtain ⟨hx, hb, hml, hown, hts, hK, hR⟩ := C
  intro ls st h H locs a hP hl hw hD hS
  unfold zi_l2 at hP
  split at hP
  · exact lv_land hx hb hd (k _ _ _ _ _ _ hP hl hw hD hS)
  · exact hP.elim
theorem zs_lor (C : zq_C X cc nL own d) (hd : decode cc pc = .ok (.lor, 1)) (k : zq_ok X nL (pc + 1) K) : zq_ok X nL pc (zi_l2 (fun x y => x ||| y) K) := by
  obtain ⟨p, l, e, R, s, m, args, below, meth, c, D, Y, ad, A, kc, kn, Z⟩ := X
  obtain ⟨hx, hb, hml, hown, hts, hK, hR⟩ := C
  intro ls st h H locs a hP hl hw hD hS
  unfold zi_l2 at hP
  split at hP
  · exact lv_lor hx hb hd (k _ _ _ _ _ _ hP hl hw hD hS)
  · exact hP.elim
theorem zs_lxor (C : zq_C X cc nL own d) (hd : decode cc pc = .ok (.lxor, 1)) (k : zq_ok X nL (pc + 1) K) : zq_ok X nL pc (zi_l2 (fun x y => x ^^^ y) K) := by
  obtain ⟨p, l, e, R, s, m, args, below, meth, c, D, Y, ad, A, kc, kn, Z⟩ := X
  obtain ⟨hx, hb, hml, hown, hts, hK, hR⟩ := C
  intro ls st h H locs a hP hl hw hD hS
  unfold zi_l2 at hP
  split at hP
  · exact lv_lxor hx hb hd (k _ _ _ _ _ _ hP hl hw hD hS)
  · exact hP.elim
theorem zs_ldiv (C : zq_C X cc nL own d) (hd : decode cc pc = .ok (.ldiv, 1)) (k : zq_ok X nL (pc + 1) K) : zq_ok X nL pc (zi_ldv (fun x y => x / y) K) := by
  obtain ⟨p, l, e, R, s, m, args, below, meth, c, D, Y, ad, A, kc, kn, Z⟩ := X
  obtain ⟨hx, hb, hml, hown, hts, hK, hR⟩ := C
  intro ls st h H locs a hP hl hw hD hS
  unfold zi_ldv at hP
  split at hP
  · exact lv_ldiv hx hb hd hP.1 (k _ _ _ _ _ _ hP.2 hl hw hD hS)
  · exact hP.elim
theorem zs_lrem (C : zq_C X cc nL own d) (hd : decode cc pc = .ok (.lrem, 1)) (k : zq_ok X nL (pc + 1) K) : zq_ok X nL pc (zi_ldv zf_lrem K) := by
  obtain ⟨p, l, e, R, s, m, args, below, meth, c, D, Y, ad, A, kc, kn, Z⟩ := X
  obtain ⟨hx, hb, hml, hown, hts, hK, hR⟩ := C
  intro ls st h H locs a hP hl hw hD hS
  unfold zi_ldv at hP
  split at hP
  · exact lv_lrem hx hb hd hP.1 (k _ _ _ _ _ _ hP.2 hl hw hD hS)
  · exact hP.elim
theorem zs_lushr (C : zq_C X cc nL own d) (hd : decode cc pc = .ok (.lushr, 1)) (k : zq_ok X nL (pc + 1) K) : zq_ok X nL pc (zi_lsh zf_lushr K) := by
  obtain ⟨p, l, e, R, s, m, args, below, meth, c, D, Y, ad, A, kc, kn, Z⟩ := X
  obtain ⟨hx, hb, hml, hown, hts, hK, hR⟩ := C
  intro ls st h H locs a hP hl hw hD hS
  unfold zi_lsh at hP
  split at hP
  · exact lv_lushr hx hb hd rfl (k _ _ _ _ _ _ hP hl hw hD hS)
  · exact hP.elim
theorem zs_lshl (C : zq_C X cc nL own d) (hd : decode cc pc = .ok (.lshl, 1)) (k : zq_ok X nL (pc + 1) K) : zq_ok X nL pc (zi_lsh zf_lshl K) := by
  obtain ⟨p, l, e, R, s, m, args, below, meth, c, D, Y, ad, A, kc, kn, Z⟩ := X
  obtain ⟨hx, hb, hml, hown, hts, hK, hR⟩ := C
  intro ls st h H locs a hP hl hw hD hS
  unfold zi_lsh at hP
  split at hP
  · exact lv_lshl hx hb hd rfl (k _ _ _ _ _ _ hP hl hw hD hS)
  · exact hP.elim
theorem zs_i2l (C : zq_C X cc nL own d) (hd : decode cc pc = .ok (.i2l, 1)) (k : zq_ok X nL (pc + 1) K) : zq_ok X nL pc (zi_i2l  K) := by
  obtain ⟨p, l, e, R, s, m, args, below, meth, c, D, Y, ad, A, kc, kn, Z⟩ := X
  obtain ⟨hx, hb, hml, hown, hts, hK, hR⟩ := C
  intro ls st h H locs a hP hl hw hD hS
  unfold zi_i2l at hP
  split at hP
  · exact lv_i2l hx hb hd rfl (k _ _ _ _ _ _ hP hl hw hD hS)
  · exact hP.elim
theorem zs_l2i (C : zq_C X cc nL own d) (hd : decode cc pc = .ok (.l2i, 1)) (k : zq_ok X nL (pc + 1) K) : zq_ok X nL pc (zi_l2i  K) := by
  obtain ⟨p, l, e, R, s, m, args, below, meth, c, D, Y, ad, A, kc, kn, Z⟩ := X
  obtain ⟨hx, hb, hml, hown, hts, hK, hR⟩ := C
  intro ls st h H locs a hP hl hw hD hS
  unfold zi_l2i at hP
  split at hP
  · exact lv_l2i hx hb hd rfl (k _ _ _ _ _ _ hP hl hw hD hS)
  · exact hP.elim
theorem zs_lcmp (C : zq_C X cc nL own d) (hd : decode cc pc = .ok (.lcmp, 1)) (k : zq_ok X nL (pc + 1) K) : zq_ok X nL pc (zi_lcmp K) := by
  obtain ⟨p, l, e, R, s, m, args, below, meth, c, D, Y, ad, A, kc, kn, Z⟩ := X
  obtain ⟨hx, hb, hml, hown, hts, hK, hR⟩ := C
  intro ls st h H locs a hP hl hw hD hS
  unfold zi_lcmp at hP
  split at hP
  · exact W.lcmp hx hb hd (k _ _ _ _ _ _ hP hl hw hD hS)
  · exact hP.elim
theorem zs_dup (C : zq_C X cc nL own d) (hd : decode cc pc = .ok (.dup, 1)) (k : zq_ok X nL (pc + 1) K) : zq_ok X nL pc (zi_dup K) := by
  obtain ⟨p, l, e, R, s, m, args, below, meth, c, D, Y, ad, A, kc, kn, Z⟩ := X
  obtain ⟨hx, hb, hml, hown, hts, hK, hR⟩ := C
  intro ls st h H locs a hP hl hw hD hS
  unfold zi_dup at hP
  split at hP
  · exact lv_dup hx hb hd rfl (k _ _ _ _ _ _ hP hl hw hD hS)
  · exact lv_dup hx hb hd rfl (k _ _ _ _ _ _ hP hl hw hD hS)
  · exact hP.elim
theorem zs_dup2 (C : zq_C X cc nL own d) (hd : decode cc pc = .ok (.dup2, 1)) (k : zq_ok X nL (pc + 1) K) : zq_ok X nL pc (zi_dup2 K) := by
  obtain ⟨p, l, e, R, s, m, args, below, meth, c, D, Y, ad, A, kc, kn, Z⟩ := X
  obtain ⟨hx, hb, hml, hown, hts, hK, hR⟩ := C
  intro ls st h H locs a hP hl hw hD hS
  unfold zi_dup2 at hP
  split at hP
  · exact lv_dup2_11 hx hb hd rfl rfl (k _ _ _ _ _ _ hP hl hw hD hS)
  · exact lv_dup2_11 hx hb hd rfl rfl (k _ _ _ _ _ _ hP hl hw hD hS)
  · exact hP.elim
theorem zs_pop (C : zq_C X cc nL own d) (hd : decode cc pc = .ok (.pop, 1)) (k : zq_ok X nL (pc + 1) K) : zq_ok X nL pc (zi_pop K) := by
  obtain ⟨p, l, e, R, s, m, args, below, meth, c, D, Y, ad, A, kc, kn, Z⟩ := X
  obtain ⟨hx, hb, hml, hown, hts, hK, hR⟩ := C
  intro ls st h H locs a hP hl hw hD hS
  unfold zi_pop at hP
  split at hP
  · exact lv_pop hx hb hd rfl (k _ _ _ _ _ _ hP hl hw hD hS)
  · exact hP.elim
theorem zs_goto (C : zq_C X cc nL own d) {off : Int} {tgt : Nat} (hd : decode cc pc = .ok (.goto off, 3)) (ht : (pc : Int) + off = (tgt : Int)) (k : zq_ok X nL tgt K) : zq_ok X nL pc K := by
  obtain ⟨p, l, e, R, s, m, args, below, meth, c, D, Y, ad, A, kc, kn, Z⟩ := X
  obtain ⟨hx, hb, hml, hown, hts, hK, hR⟩ := C
  intro ls st h H locs a hP hl hw hD hS
  exact lv_goto hx hb hd ht (k _ _ _ _ _ _ hP hl hw hD hS)
theorem zs_if_eq (C : zq_C X cc nL own d) {off : Int} {tgt : Nat} (hd : decode cc pc = .ok (.ifCond .eq off, 3)) (ht : (pc : Int) + off = (tgt : Int)) (j : zq_ok X nL tgt J) (k : zq_ok X nL (pc + 3) K) : zq_ok X nL pc (zi_if1 (fun x => x = 0) J K) := by
  obtain ⟨p, l, e, R, s, m, args, below, meth, c, D, Y, ad, A, kc, kn, Z⟩ := X
  obtain ⟨hx, hb, hml, hown, hts, hK, hR⟩ := C
  intro ls st h H locs a hP hl hw hD hS
  unfold zi_if1 at hP
  split at hP
  · exact lv_if_eq hx hb hd ht (fun q => j _ _ _ _ _ _ (hP.1 q) hl hw hD hS) (fun q => k _ _ _ _ _ _ (hP.2 q) hl hw hD hS)
  · exact hP.elim
theorem zs_icmp_eq (C : zq_C X cc nL own d) {off : Int} {tgt : Nat} (hd : decode cc pc = .ok (.if_icmp .eq off, 3)) (ht : (pc : Int) + off = (tgt : Int)) (j : zq_ok X nL tgt J) (k : zq_ok X nL (pc + 3) K) : zq_ok X nL pc (zi_if2 (fun x y => x = y) J K) := by
  obtain ⟨p, l, e, R, s, m, args, below, meth, c, D, Y, ad, A, kc, kn, Z⟩ := X
  obtain ⟨hx, hb, hml, hown, hts, hK, hR⟩ := C
  intro ls st h H locs a hP hl hw hD hS
  unfold zi_if2 at hP
  split at hP
  · exact lv_icmp_eq hx hb hd ht (fun q => j _ _ _ _ _ _ (hP.1 q) hl hw hD hS) (fun q => k _ _ _ _ _ _ (hP.2 q) hl hw hD hS)
  · exact hP.elim
theorem zs_if_ne (C : zq_C X cc nL own d) {off : Int} {tgt : Nat} (hd : decode cc pc = .ok (.ifCond .ne off, 3)) (ht : (pc : Int) + off = (tgt : Int)) (j : zq_ok X nL tgt J) (k : zq_ok X nL (pc + 3) K) : zq_ok X nL pc (zi_if1 (fun x => x = 0) K J) := by
  obtain ⟨p, l, e, R, s, m, args, below, meth, c, D, Y, ad, A, kc, kn, Z⟩ := X
  obtain ⟨hx, hb, hml, hown, hts, hK, hR⟩ := C
  intro ls st h H locs a hP hl hw hD hS
  unfold zi_if1 at hP
  split at hP
  · exact lv_if_ne hx hb hd ht (fun q => j _ _ _ _ _ _ (hP.2 q) hl hw hD hS) (fun q => k _ _ _ _ _ _ (hP.1 q) hl hw hD hS)
  · exact hP.elim
theorem zs_icmp_ne (C : zq_C X cc nL own d) {off : Int} {tgt : Nat} (hd : decode cc pc = .ok (.if_icmp .ne off, 3)) (ht : (pc : Int) + off = (tgt : Int)) (j : zq_ok X nL tgt J) (k : zq_ok X nL (pc + 3) K) : zq_ok X nL pc (zi_if2 (fun x y => x = y) K J) := by
  obtain ⟨p, l, e, R, s, m, args, below, meth, c, D, Y, ad, A, kc, kn, Z⟩ := X
  obtain ⟨hx, hb, hml, hown, hts, hK, hR⟩ := C
  intro ls st h H locs a hP hl hw hD hS
  unfold zi_if2 at hP
  split at hP
  · exact lv_icmp_ne hx hb hd ht (fun q => j _ _ _ _ _ _ (hP.2 q) hl hw hD hS) (fun q => k _ _ _ _ _ _ (hP.1 q) hl hw hD hS)
  · exact hP.elim
theorem zs_if_lt (C : zq_C X cc nL own d) {off : Int} {tgt : Nat} (hd : decode cc pc = .ok (.ifCond .lt off, 3)) (ht : (pc : Int) + off = (tgt : Int)) (j : zq_ok X nL tgt J) (k : zq_ok X nL (pc + 3) K) : zq_ok X nL pc (zi_if1 (fun x => x < 0) J K) := by
  obtain ⟨p, l, e, R, s, m, args, below, meth, c, D, Y, ad, A, kc, kn, Z⟩ := X
  obtain ⟨hx, hb, hml, hown, hts, hK, hR⟩ := C
  intro ls st h H locs a hP hl hw hD hS
  unfold zi_if1 at hP
  split at hP
  · exact lv_if_lt hx hb hd ht (fun q => j _ _ _ _ _ _ (hP.1 q) hl hw hD hS) (fun q => k _ _ _ _ _ _ (hP.2 q) hl hw hD hS)
  · exact hP.elim
theorem zs_icmp_lt (C : zq_C X cc nL own d) {off : Int} {tgt : Nat} (hd : decode cc pc = .ok (.if_icmp .lt off, 3)) (ht : (pc : Int) + off = (tgt : Int)) (j : zq_ok X nL tgt J) (k : zq_ok X nL (pc + 3) K) : zq_ok X nL pc (zi_if2 (fun x y => x < y) J K) := by
  obtain ⟨p, l, e, R, s, m, args, below, meth, c, D, Y, ad, A, kc, kn, Z⟩ := X
  obtain ⟨hx, hb, hml, hown, hts, hK, hR⟩ := C
  intro ls st h H locs a hP hl hw hD hS
  unfold zi_if2 at hP
  split at hP
  · exact lv_icmp_lt hx hb hd ht (fun q => j _ _ _ _ _ _ (hP.1 q) hl hw hD hS) (fun q => k _ _ _ _ _ _ (hP.2 q) hl hw hD hS)
  · exact hP.elim
theorem zs_if_ge (C : zq_C X cc nL own d) {off : Int} {tgt : Nat} (hd : decode cc pc = .ok (.ifCond .ge off, 3)) (ht : (pc : Int) + off = (tgt : Int)) (j : zq_ok X nL tgt J) (k : zq_ok X nL (pc + 3) K) : zq_ok X nL pc (zi_if1 (fun x => 0 ≤ x) J K) := by
  obtain ⟨p, l, e, R, s, m, args, below, meth, c, D, Y, ad, A, kc, kn, Z⟩ := X
  obtain ⟨hx, hb, hml, hown, hts, hK, hR⟩ := C
  intro ls st h H locs a hP hl hw hD hS
  unfold zi_if1 at hP
  split at hP
  · exact lv_if_ge hx hb hd ht (fun q => j _ _ _ _ _ _ (hP.1 q) hl hw hD hS) (fun q => k _ _ _ _ _ _ (hP.2 q) hl hw hD hS)
  · exact hP.elim
theorem zs_icmp_ge (C : zq_C X cc nL own d) {off : Int} {tgt : Nat} (hd : decode cc pc = .ok (.if_icmp .ge off, 3)) (ht : (pc : Int) + off = (tgt : Int)) (j : zq_ok X nL tgt J) (k : zq_ok X nL (pc + 3) K) : zq_ok X nL pc (zi_if2 (fun x y => y ≤ x) J K) := by
  obtain ⟨p, l, e, R, s, m, args, below, meth, c, D, Y, ad, A, kc, kn, Z⟩ := X
  obtain ⟨hx, hb, hml, hown, hts, hK, hR⟩ := C
  intro ls st h H locs a hP hl hw hD hS
  unfold zi_if2 at hP
  split at hP
  · exact lv_icmp_ge hx hb hd ht (fun q => j _ _ _ _ _ _ (hP.1 q) hl hw hD hS) (fun q => k _ _ _ _ _ _ (hP.2 q) hl hw hD hS)
  · exact hP.elim
theorem zs_if_gt (C : zq_C X cc nL own d) {off : Int} {tgt : Nat} (hd : decode cc pc = .ok (.ifCond .gt off, 3)) (ht : (pc : Int) + off = (tgt : Int)) (j : zq_ok X nL tgt J) (k : zq_ok X nL (pc + 3) K) : zq_ok X nL pc (zi_if1 (fun x => 0 < x) J K) := by
  obtain ⟨p, l, e, R, s, m, args, below, meth, c, D, Y, ad, A, kc, kn, Z⟩ := X
  obtain ⟨hx, hb, hml, hown, hts, hK, hR⟩ := C
  intro ls st h H locs a hP hl hw hD hS
  unfold zi_if1 at hP
  split at hP
  · exact lv_if_gt hx hb hd ht (fun q => j _ _ _ _ _ _ (hP.1 q) hl hw hD hS) (fun q => k _ _ _ _ _ _ (hP.2 q) hl hw hD hS)
  · exact hP.elim
theorem zs_icmp_gt (C : zq_C X cc nL own d) {off : Int} {tgt : Nat} (hd : decode cc pc = .ok (.if_icmp .gt off, 3)) (ht : (pc : Int) + off = (tgt : Int)) (j : zq_ok X nL tgt J) (k : zq_ok X nL (pc + 3) K) : zq_ok X nL pc (zi_if2 (fun x y => y < x) J K) := by
  obtain ⟨p, l, e, R, s, m, args, below, meth, c, D, Y, ad, A, kc, kn, Z⟩ := X
  obtain ⟨hx, hb, hml, hown, hts, hK, hR⟩ := C
  intro ls st h H locs a hP hl hw hD hS
  unfold zi_if2 at hP
  split at hP
  · exact lv_icmp_gt hx hb hd ht (fun q => j _ _ _ _ _ _ (hP.1 q) hl hw hD hS) (fun q => k _ _ _ _ _ _ (hP.2 q) hl hw hD hS)
  · exact hP.elim
theorem zs_if_le (C : zq_C X cc nL own d) {off : Int} {tgt : Nat} (hd : decode cc pc = .ok (.ifCond .le off, 3)) (ht : (pc : Int) + off = (tgt : Int)) (j : zq_ok X nL tgt J) (k : zq_ok X nL (pc + 3) K) : zq_ok X nL pc (zi_if1 (fun x => x ≤ 0) J K) := by
  obtain ⟨p, l, e, R, s, m, args, below, meth, c, D, Y, ad, A, kc, kn, Z⟩ := X
  obtain ⟨hx, hb, hml, hown, hts, hK, hR⟩ := C
  intro ls st h H locs a hP hl hw hD hS
  unfold zi_if1 at hP
  split at hP
  · exact lv_if_le hx hb hd ht (fun q => j _ _ _ _ _ _ (hP.1 q) hl hw hD hS) (fun q => k _ _ _ _ _ _ (hP.2 q) hl hw hD hS)
  · exact hP.elim
theorem zs_icmp_le (C : zq_C X cc nL own d) {off : Int} {tgt : Nat} (hd : decode cc pc = .ok (.if_icmp .le off, 3)) (ht : (pc : Int) + off = (tgt : Int)) (j : zq_ok X nL tgt J) (k : zq_ok X nL (pc + 3) K) : zq_ok X nL pc (zi_if2 (fun x y => x ≤ y) J K) := by
  obtain ⟨p, l, e, R, s, m, args, below, meth, c, D, Y, ad, A, kc, kn, Z⟩ := X
  obtain ⟨hx, hb, hml, hown, hts, hK, hR⟩ := C
  intro ls st h H locs a hP hl hw hD hS
  unfold zi_if2 at hP
  split at hP
  · exact lv_icmp_le hx hb hd ht (fun q => j _ _ _ _ _ _ (hP.1 q) hl hw hD hS) (fun q => k _ _ _ _ _ _ (hP.2 q) hl hw hD hS)
  · exact hP.elim
theorem zs_iaload (C : zq_C X cc nL own d) {p n : Nat} (hp : zq_S[p]? = some (1, n, [])) (hd : decode cc pc = .ok (.iaload, 1)) (k : zq_ok X nL (pc + 1) K) : zq_ok X nL pc (zi_aldI p n K) := by
  obtain ⟨p', l, e, R, s, m, args, below, meth, c, D, Y, ad, A, kc, kn, Z⟩ := X
  obtain ⟨hx, hb, hml, hown, hts, hK, hR⟩ := C
  intro ls st h H locs a hP hl hw hD hS
  unfold zi_aldI at hP
  split at hP
  · obtain ⟨rfl, hin, hP⟩ := hP
    exact va_iald hx hb hK hw _ 0 (zq_ws_at hp) rfl hin hd (k _ _ _ _ _ _ hP hl hw hD hS)
  · exact hP.elim
theorem zs_baload (C : zq_C X cc nL own d) {p n : Nat} (hp : zq_S[p]? = some (3, n, [])) (hd : decode cc pc = .ok (.baload, 1)) (k : zq_ok X nL (pc + 1) K) : zq_ok X nL pc (zi_aldI p n K) := by
  obtain ⟨p', l, e, R, s, m, args, below, meth, c, D, Y, ad, A, kc, kn, Z⟩ := X
  obtain ⟨hx, hb, hml, hown, hts, hK, hR⟩ := C
  intro ls st h H locs a hP hl hw hD hS
  unfold zi_aldI at hP
  split at hP
  · obtain ⟨rfl, hin, hP⟩ := hP
    exact va_zald hx hb hK hw _ 2 (zq_ws_at hp) rfl hin hd (k _ _ _ _ _ _ hP hl hw hD hS)
  · exact hP.elim
theorem zs_laload (C : zq_C X cc nL own d) {p n : Nat} (hp : zq_S[p]? = some (2, n, [])) (hd : decode cc pc = .ok (.laload, 1)) (k : zq_ok X nL (pc + 1) K) : zq_ok X nL pc (zi_aldL p n K) := by
  obtain ⟨p', l, e, R, s, m, args, below, meth, c, D, Y, ad, A, kc, kn, Z⟩ := X
  obtain ⟨hx, hb, hml, hown, hts, hK, hR⟩ := C
  intro ls st h H locs a hP hl hw hD hS
  unfold zi_aldL at hP
  split at hP
  · obtain ⟨rfl, hin, hP⟩ := hP
    exact va_lald hx hb hK hw _ 1 (zq_ws_at hp) rfl hin hd (k _ _ _ _ _ _ hP hl hw hD hS)
  · exact hP.elim
theorem zs_iastore (C : zq_C X cc nL own d) {p n : Nat} (hp : zq_S[p]? = some (1, n, [])) (hd : decode cc pc = .ok (.iastore, 1)) (k : zq_ok X nL (pc + 1) K) : zq_ok X nL pc (zi_astI p n K) := by
  obtain ⟨p', l, e, R, s, m, args, below, meth, c, D, Y, ad, A, kc, kn, Z⟩ := X
  obtain ⟨hx, hb, hml, hown, hts, hK, hR⟩ := C
  intro ls st h H locs a hP hl hw hD hS
  unfold zi_astI at hP
  split at hP
  · obtain ⟨rfl, hin, hP⟩ := hP
    refine va_iast hx hb hK hw hD hS _ 0 (zq_ws_at hp) rfl hin hd (fun H1 locs1 hw1 hD1 hS1 => ?_)
    rw [zq_ws_setI hp] at hw1 hD1
    exact k _ _ _ _ _ _ hP hl hw1 hD1 hS1
  · exact hP.elim
theorem zs_lastore (C : zq_C X cc nL own d) {p n : Nat} (hp : zq_S[p]? = some (2, n, [])) (hd : decode cc pc = .ok (.lastore, 1)) (k : zq_ok X nL (pc + 1) K) : zq_ok X nL pc (zi_astL p n K) := by
  obtain ⟨p', l, e, R, s, m, args, below, meth, c, D, Y, ad, A, kc, kn, Z⟩ := X
  obtain ⟨hx, hb, hml, hown, hts, hK, hR⟩ := C
  intro ls st h H locs a hP hl hw hD hS
  unfold zi_astL at hP
  split at hP
  · obtain ⟨rfl, hin, hP⟩ := hP
    refine va_last hx hb hK hw hD hS _ 1 (zq_ws_at hp) rfl hin hd (fun H1 locs1 hw1 hD1 hS1 => ?_)
    rw [zq_ws_setL hp] at hw1 hD1
    exact k _ _ _ _ _ _ hP hl hw1 hD1 hS1
  · exact hP.elim
theorem zs_bastore (C : zq_C X cc nL own d) {p n : Nat} (hp : zq_S[p]? = some (3, n, [])) (hd : decode cc pc = .ok (.bastore, 1)) (k : zq_ok X nL (pc + 1) K) : zq_ok X nL pc (zi_astZ p n K) := by
  obtain ⟨p', l, e, R, s, m, args, below, meth, c, D, Y, ad, A, kc, kn, Z⟩ := X
  obtain ⟨hx, hb, hml, hown, hts, hK, hR⟩ := C
  intro ls st h H locs a hP hl hw hD hS
  unfold zi_astZ at hP
  split at hP
  · next x i q st =>
    obtain ⟨rfl, hin, h01, hP⟩ := hP
    have hnar : vp_nar .boolean x = x := by rcases h01 with rfl | rfl <;> rfl
    refine va_zast hx hb hK hw hD hS _ 2 (zq_ws_at hp) rfl hin hd (fun H1 locs1 hw1 hD1 hS1 => ?_)
    rw [hnar, zq_ws_setZ hp] at hw1 hD1
    exact k _ _ _ _ _ _ hP hl hw1 hD1 hS1
  · exact hP.elim
theorem zs_alen (C : zq_C X cc nL own d) {p n : Nat} (hp : zq_S[p]? = some (1, n, []) ∨ zq_S[p]? = some (2, n, [])) (hd : decode cc pc = .ok (.arraylength, 1)) (k : zq_ok X nL (pc + 1) K) : zq_ok X nL pc (zi_alen p n K) := by
  obtain ⟨p', l, e, R, s, m, args, below, meth, c, D, Y, ad, A, kc, kn, Z⟩ := X
  obtain ⟨hx, hb, hml, hown, hts, hK, hR⟩ := C
  intro ls st h H locs a hP hl hw hD hS
  unfold zi_alen at hP
  split at hP
  · obtain ⟨rfl, hP⟩ := hP
    rcases hp with hp | hp
    · exact va_alen hx hb hK hw _ 0 (zq_ws_at hp) rfl rfl hd (k _ _ _ _ _ _ hP hl hw hD hS)
    · exact va_alen hx hb hK hw _ 1 (zq_ws_at hp) rfl rfl hd (k _ _ _ _ _ _ hP hl hw hD hS)
  · exact hP.elim
end ZS
end
section
section ZS
variable {X : zq_X} {cc : ByteArray} {nL d pc : Nat} {own : String} {K J : zq_P}
/-- what the tables say of the fields of a thing's kind -/
def zq_F (ci : Nat) (C : String) (T : u_T) (N : Nat) : Prop := vwCl[ci]? = some (C, T, N) ∧ (∀ w ∈ u_ws C T N, w ∈ zq_tb) ∧ (∃ ty : Nat → FieldType, ∀ k, k < N → parseFieldDescriptor (T k).2.2.1 = some (ty k)) ∧ (∀ a, a < N → ∀ b, b < N → a ≠ b → (T a).2.1 ≠ (T b).2.1) ∧ ∀ k, k < N → (T k).1 = C
theorem zs_getI (C0 : zq_C X cc nL own d) {p j ci N ix : Nat} {kd : List Nat} {C : String} {T : u_T} (hp : zq_S[p]? = some (0, ci, kd)) (hF : zq_F ci C T N) (hj : j < N ∧ kd[j]? = some (0)) (hlink : Cond.fieldLink own ix C (T j).2.1 (T j).2.2.1 ∈ zq_tb) (hd : decode cc pc = .ok (.getfield ix, 3)) (k : zq_ok X nL (pc + 3) K) : zq_ok X nL pc (zi_getI p j K) := by
  obtain ⟨p', l, e, R, s, m, args, below, meth, c, D, Y, ad, A, kc, kn, Z⟩ := X
  obtain ⟨hx, hb, hml, hown, hts, hK, hR⟩ := C0
  intro ls st h H locs a hP hl hw hD hS
  obtain ⟨hc, hin, ⟨ty, hty⟩, hnm, ho⟩ := hF
  unfold zi_getI at hP
  split at hP
  · obtain ⟨rfl, hP⟩ := hP
    exact va_get hx hb hts hin hown hK hw _ (zq_ws_at hp) hc j hj.1 (hts _ hlink) (fun x9 h9 => by rw [ho j hj.1] at h9; exact h9) (zq_fs_at hj.2) hd (k _ _ _ _ _ _ hP hl hw hD hS)
  · exact hP.elim
theorem zs_getIN (C0 : zq_C X cc nL own d) {p j ci N ix : Nat} {kd : List Nat} {C host : String} {T : u_T} (hp : zq_S[p]? = some (0, ci, kd)) (hF : zq_F ci C T N) (hj : j < N ∧ kd[j]? = some (0)) (hlink : Cond.fieldLinkNest own ix C (T j).2.1 (T j).2.2.1 host ∈ zq_tb) (hd : decode cc pc = .ok (.getfield ix, 3)) (k : zq_ok X nL (pc + 3) K) : zq_ok X nL pc (zi_getI p j K) := by
  obtain ⟨p', l, e, R, s, m, args, below, meth, c, D, Y, ad, A, kc, kn, Z⟩ := X
  obtain ⟨hx, hb, hml, hown, hts, hK, hR⟩ := C0
  intro ls st h H locs a hP hl hw hD hS
  obtain ⟨hc, hin, ⟨ty, hty⟩, hnm, ho⟩ := hF
  unfold zi_getI at hP
  split at hP
  · obtain ⟨rfl, hP⟩ := hP
    exact va_getN hx hb hts hin hown hK hw _ (zq_ws_at hp) hc j hj.1 (hts _ hlink) (fun x9 h9 => by rw [ho j hj.1] at h9; exact h9) (zq_fs_at hj.2) hd (k _ _ _ _ _ _ hP hl hw hD hS)
  · exact hP.elim
theorem zs_getL (C0 : zq_C X cc nL own d) {p j ci N ix : Nat} {kd : List Nat} {C : String} {T : u_T} (hp : zq_S[p]? = some (0, ci, kd)) (hF : zq_F ci C T N) (hj : j < N ∧ kd[j]? = some (1)) (hlink : Cond.fieldLink own ix C (T j).2.1 (T j).2.2.1 ∈ zq_tb) (hd : decode cc pc = .ok (.getfield ix, 3)) (k : zq_ok X nL (pc + 3) K) : zq_ok X nL pc (zi_getL p j K) := by
  obtain ⟨p', l, e, R, s, m, args, below, meth, c, D, Y, ad, A, kc, kn, Z⟩ := X
  obtain ⟨hx, hb, hml, hown, hts, hK, hR⟩ := C0
  intro ls st h H locs a hP hl hw hD hS
  obtain ⟨hc, hin, ⟨ty, hty⟩, hnm, ho⟩ := hF
  unfold zi_getL at hP
  split at hP
  · obtain ⟨rfl, hP⟩ := hP
    exact va_get hx hb hts hin hown hK hw _ (zq_ws_at hp) hc j hj.1 (hts _ hlink) (fun x9 h9 => by rw [ho j hj.1] at h9; exact h9) (zq_fs_at hj.2) hd (k _ _ _ _ _ _ hP hl hw hD hS)
  · exact hP.elim
theorem zs_getLN (C0 : zq_C X cc nL own d) {p j ci N ix : Nat} {kd : List Nat} {C host : String} {T : u_T} (hp : zq_S[p]? = some (0, ci, kd)) (hF : zq_F ci C T N) (hj : j < N ∧ kd[j]? = some (1)) (hlink : Cond.fieldLinkNest own ix C (T j).2.1 (T j).2.2.1 host ∈ zq_tb) (hd : decode cc pc = .ok (.getfield ix, 3)) (k : zq_ok X nL (pc + 3) K) : zq_ok X nL pc (zi_getL p j K) := by
  obtain ⟨p', l, e, R, s, m, args, below, meth, c, D, Y, ad, A, kc, kn, Z⟩ := X
  obtain ⟨hx, hb, hml, hown, hts, hK, hR⟩ := C0
  intro ls st h H locs a hP hl hw hD hS
  obtain ⟨hc, hin, ⟨ty, hty⟩, hnm, ho⟩ := hF
  unfold zi_getL at hP
  split at hP
  · obtain ⟨rfl, hP⟩ := hP
    exact va_getN hx hb hts hin hown hK hw _ (zq_ws_at hp) hc j hj.1 (hts _ hlink) (fun x9 h9 => by rw [ho j hj.1] at h9; exact h9) (zq_fs_at hj.2) hd (k _ _ _ _ _ _ hP hl hw hD hS)
  · exact hP.elim
theorem zs_getR (C0 : zq_C X cc nL own d) {p j ci N ix r : Nat} {kd : List Nat} {C : String} {T : u_T} (hp : zq_S[p]? = some (0, ci, kd)) (hF : zq_F ci C T N) (hj : j < N ∧ kd[j]? = some (r + 2)) (hlink : Cond.fieldLink own ix C (T j).2.1 (T j).2.2.1 ∈ zq_tb) (hd : decode cc pc = .ok (.getfield ix, 3)) (k : zq_ok X nL (pc + 3) K) : zq_ok X nL pc (zi_getR p r K) := by
  obtain ⟨p', l, e, R, s, m, args, below, meth, c, D, Y, ad, A, kc, kn, Z⟩ := X
  obtain ⟨hx, hb, hml, hown, hts, hK, hR⟩ := C0
  intro ls st h H locs a hP hl hw hD hS
  obtain ⟨hc, hin, ⟨ty, hty⟩, hnm, ho⟩ := hF
  unfold zi_getR at hP
  split at hP
  · obtain ⟨rfl, hP⟩ := hP
    exact va_get hx hb hts hin hown hK hw _ (zq_ws_at hp) hc j hj.1 (hts _ hlink) (fun x9 h9 => by rw [ho j hj.1] at h9; exact h9) (zq_fs_at hj.2) hd (k _ _ _ _ _ _ hP hl hw hD hS)
  · exact hP.elim
theorem zs_getRN (C0 : zq_C X cc nL own d) {p j ci N ix r : Nat} {kd : List Nat} {C host : String} {T : u_T} (hp : zq_S[p]? = some (0, ci, kd)) (hF : zq_F ci C T N) (hj : j < N ∧ kd[j]? = some (r + 2)) (hlink : Cond.fieldLinkNest own ix C (T j).2.1 (T j).2.2.1 host ∈ zq_tb) (hd : decode cc pc = .ok (.getfield ix, 3)) (k : zq_ok X nL (pc + 3) K) : zq_ok X nL pc (zi_getR p r K) := by
  obtain ⟨p', l, e, R, s, m, args, below, meth, c, D, Y, ad, A, kc, kn, Z⟩ := X
  obtain ⟨hx, hb, hml, hown, hts, hK, hR⟩ := C0
  intro ls st h H locs a hP hl hw hD hS
  obtain ⟨hc, hin, ⟨ty, hty⟩, hnm, ho⟩ := hF
  unfold zi_getR at hP
  split at hP
  · obtain ⟨rfl, hP⟩ := hP
    exact va_getN hx hb hts hin hown hK hw _ (zq_ws_at hp) hc j hj.1 (hts _ hlink) (fun x9 h9 => by rw [ho j hj.1] at h9; exact h9) (zq_fs_at hj.2) hd (k _ _ _ _ _ _ hP hl hw hD hS)
  · exact hP.elim
theorem zs_putI (C0 : zq_C X cc nL own d) {p j ci N ix : Nat} {kd : List Nat} {C : String} {T : u_T} (hp : zq_S[p]? = some (0, ci, kd)) (hF : zq_F ci C T N) (hj : j < N ∧ kd[j]? = some 0) (hfin : (T j).2.2.2 = false ∧ parseFieldDescriptor (T j).2.2.1 = some .int) (hlink : Cond.fieldLink own ix C (T j).2.1 (T j).2.2.1 ∈ zq_tb) (hd : decode cc pc = .ok (.putfield ix, 3)) (k : zq_ok X nL (pc + 3) K) : zq_ok X nL pc (zi_putI p j K) := by
  obtain ⟨p', l, e, R, s, m, args, below, meth, c, D, Y, ad, A, kc, kn, Z⟩ := X
  obtain ⟨hx, hb, hml, hown, hts, hK, hR⟩ := C0
  intro ls st h H locs a hP hl hw hD hS
  obtain ⟨hc, hin, ⟨ty, hty⟩, hnm, ho⟩ := hF
  unfold zi_putI at hP
  split at hP
  · next x q st9 =>
    obtain ⟨rfl, hP⟩ := hP
    refine va_put hx hb hts hin ty hty hnm hown hK hw hD hS _ (zq_ws_at hp) hc j hj.1 (hts _ hlink) (fun x9 h9 => by rw [ho j hj.1] at h9; exact h9) hfin.1 hfin.2 rfl rfl (by simpa [zq_fs] using (List.getElem?_eq_some_iff.mp hj.2).1) hd (fun H1 locs1 hw1 hD1 hS1 => ?_)
    have e9 := zq_ws_putI (Y := Y) (ad := ad) (h := h) hp hj.2 x
    exact k _ _ _ _ _ _ hP hl (by rw [← e9]; exact hw1) (by rw [← e9]; exact hD1) hS1
  · exact hP.elim
theorem zs_putIN (C0 : zq_C X cc nL own d) {p j ci N ix : Nat} {kd : List Nat} {C host : String} {T : u_T} (hp : zq_S[p]? = some (0, ci, kd)) (hF : zq_F ci C T N) (hj : j < N ∧ kd[j]? = some 0) (hfin : (T j).2.2.2 = false ∧ parseFieldDescriptor (T j).2.2.1 = some .int) (hlink : Cond.fieldLinkNest own ix C (T j).2.1 (T j).2.2.1 host ∈ zq_tb) (hd : decode cc pc = .ok (.putfield ix, 3)) (k : zq_ok X nL (pc + 3) K) : zq_ok X nL pc (zi_putI p j K) := by
  obtain ⟨p', l, e, R, s, m, args, below, meth, c, D, Y, ad, A, kc, kn, Z⟩ := X
  obtain ⟨hx, hb, hml, hown, hts, hK, hR⟩ := C0
  intro ls st h H locs a hP hl hw hD hS
  obtain ⟨hc, hin, ⟨ty, hty⟩, hnm, ho⟩ := hF
  unfold zi_putI at hP
  split at hP
  · next x q st9 =>
    obtain ⟨rfl, hP⟩ := hP
    refine va_putN hx hb hts hin ty hty hnm hown hK hw hD hS _ (zq_ws_at hp) hc j hj.1 (hts _ hlink) (fun x9 h9 => by rw [ho j hj.1] at h9; exact h9) hfin.1 hfin.2 rfl rfl (by simpa [zq_fs] using (List.getElem?_eq_some_iff.mp hj.2).1) hd (fun H1 locs1 hw1 hD1 hS1 => ?_)
    have e9 := zq_ws_putI (Y := Y) (ad := ad) (h := h) hp hj.2 x
    exact k _ _ _ _ _ _ hP hl (by rw [← e9]; exact hw1) (by rw [← e9]; exact hD1) hS1
  · exact hP.elim
theorem zs_putZ (C0 : zq_C X cc nL own d) {p j ci N ix : Nat} {kd : List Nat} {C : String} {T : u_T} (hp : zq_S[p]? = some (0, ci, kd)) (hF : zq_F ci C T N) (hj : j < N ∧ kd[j]? = some 0) (hfin : (T j).2.2.2 = false ∧ parseFieldDescriptor (T j).2.2.1 = some .boolean) (hlink : Cond.fieldLink own ix C (T j).2.1 (T j).2.2.1 ∈ zq_tb) (hd : decode cc pc = .ok (.putfield ix, 3)) (k : zq_ok X nL (pc + 3) K) : zq_ok X nL pc (zi_putZ p j K) := by
  obtain ⟨p', l, e, R, s, m, args, below, meth, c, D, Y, ad, A, kc, kn, Z⟩ := X
  obtain ⟨hx, hb, hml, hown, hts, hK, hR⟩ := C0
  intro ls st h H locs a hP hl hw hD hS
  obtain ⟨hc, hin, ⟨ty, hty⟩, hnm, ho⟩ := hF
  unfold zi_putZ at hP
  split at hP
  · next x q st9 =>
    obtain ⟨rfl, h01, hP⟩ := hP
    refine va_put hx hb hts hin ty hty hnm hown hK hw hD hS _ (zq_ws_at hp) hc j hj.1 (hts _ hlink) (fun x9 h9 => by rw [ho j hj.1] at h9; exact h9) hfin.1 hfin.2 (by rcases h01 with rfl | rfl <;> rfl) (by rcases h01 with rfl | rfl <;> rfl) (by simpa [zq_fs] using (List.getElem?_eq_some_iff.mp hj.2).1) hd (fun H1 locs1 hw1 hD1 hS1 => ?_)
    have e9 := zq_ws_putI (Y := Y) (ad := ad) (h := h) hp hj.2 x
    exact k _ _ _ _ _ _ hP hl (by rw [← e9]; exact hw1) (by rw [← e9]; exact hD1) hS1
  · exact hP.elim
theorem zs_putZN (C0 : zq_C X cc nL own d) {p j ci N ix : Nat} {kd : List Nat} {C host : String} {T : u_T} (hp : zq_S[p]? = some (0, ci, kd)) (hF : zq_F ci C T N) (hj : j < N ∧ kd[j]? = some 0) (hfin : (T j).2.2.2 = false ∧ parseFieldDescriptor (T j).2.2.1 = some .boolean) (hlink : Cond.fieldLinkNest own ix C (T j).2.1 (T j).2.2.1 host ∈ zq_tb) (hd : decode cc pc = .ok (.putfield ix, 3)) (k : zq_ok X nL (pc + 3) K) : zq_ok X nL pc (zi_putZ p j K) := by
  obtain ⟨p', l, e, R, s, m, args, below, meth, c, D, Y, ad, A, kc, kn, Z⟩ := X
  obtain ⟨hx, hb, hml, hown, hts, hK, hR⟩ := C0
  intro ls st h H locs a hP hl hw hD hS
  obtain ⟨hc, hin, ⟨ty, hty⟩, hnm, ho⟩ := hF
  unfold zi_putZ at hP
  split at hP
  · next x q st9 =>
    obtain ⟨rfl, h01, hP⟩ := hP
    refine va_putN hx hb hts hin ty hty hnm hown hK hw hD hS _ (zq_ws_at hp) hc j hj.1 (hts _ hlink) (fun x9 h9 => by rw [ho j hj.1] at h9; exact h9) hfin.1 hfin.2 (by rcases h01 with rfl | rfl <;> rfl) (by rcases h01 with rfl | rfl <;> rfl) (by simpa [zq_fs] using (List.getElem?_eq_some_iff.mp hj.2).1) hd (fun H1 locs1 hw1 hD1 hS1 => ?_)
    have e9 := zq_ws_putI (Y := Y) (ad := ad) (h := h) hp hj.2 x
    exact k _ _ _ _ _ _ hP hl (by rw [← e9]; exact hw1) (by rw [← e9]; exact hD1) hS1
  · exact hP.elim
theorem zs_putL (C0 : zq_C X cc nL own d) {p j ci N ix : Nat} {kd : List Nat} {C : String} {T : u_T} (hp : zq_S[p]? = some (0, ci, kd)) (hF : zq_F ci C T N) (hj : j < N ∧ kd[j]? = some 1) (hfin : (T j).2.2.2 = false ∧ parseFieldDescriptor (T j).2.2.1 = some .long) (hlink : Cond.fieldLink own ix C (T j).2.1 (T j).2.2.1 ∈ zq_tb) (hd : decode cc pc = .ok (.putfield ix, 3)) (k : zq_ok X nL (pc + 3) K) : zq_ok X nL pc (zi_putL p j K) := by
  obtain ⟨p', l, e, R, s, m, args, below, meth, c, D, Y, ad, A, kc, kn, Z⟩ := X
  obtain ⟨hx, hb, hml, hown, hts, hK, hR⟩ := C0
  intro ls st h H locs a hP hl hw hD hS
  obtain ⟨hc, hin, ⟨ty, hty⟩, hnm, ho⟩ := hF
  unfold zi_putL at hP
  split at hP
  · next x q st9 =>
    obtain ⟨rfl, hP⟩ := hP
    refine va_put hx hb hts hin ty hty hnm hown hK hw hD hS _ (zq_ws_at hp) hc j hj.1 (hts _ hlink) (fun x9 h9 => by rw [ho j hj.1] at h9; exact h9) hfin.1 hfin.2 rfl rfl (by simpa [zq_fs] using (List.getElem?_eq_some_iff.mp hj.2).1) hd (fun H1 locs1 hw1 hD1 hS1 => ?_)
    have e9 := zq_ws_putL (Y := Y) (ad := ad) (h := h) hp hj.2 x
    exact k _ _ _ _ _ _ hP hl (by rw [← e9]; exact hw1) (by rw [← e9]; exact hD1) hS1
  · exact hP.elim
theorem zs_putLN (C0 : zq_C X cc nL own d) {p j ci N ix : Nat} {kd : List Nat} {C host : String} {T : u_T} (hp : zq_S[p]? = some (0, ci, kd)) (hF : zq_F ci C T N) (hj : j < N ∧ kd[j]? = some 1) (hfin : (T j).2.2.2 = false ∧ parseFieldDescriptor (T j).2.2.1 = some .long) (hlink : Cond.fieldLinkNest own ix C (T j).2.1 (T j).2.2.1 host ∈ zq_tb) (hd : decode cc pc = .ok (.putfield ix, 3)) (k : zq_ok X nL (pc + 3) K) : zq_ok X nL pc (zi_putL p j K) := by
  obtain ⟨p', l, e, R, s, m, args, below, meth, c, D, Y, ad, A, kc, kn, Z⟩ := X
  obtain ⟨hx, hb, hml, hown, hts, hK, hR⟩ := C0
  intro ls st h H locs a hP hl hw hD hS
  obtain ⟨hc, hin, ⟨ty, hty⟩, hnm, ho⟩ := hF
  unfold zi_putL at hP
  split at hP
  · next x q st9 =>
    obtain ⟨rfl, hP⟩ := hP
    refine va_putN hx hb hts hin ty hty hnm hown hK hw hD hS _ (zq_ws_at hp) hc j hj.1 (hts _ hlink) (fun x9 h9 => by rw [ho j hj.1] at h9; exact h9) hfin.1 hfin.2 rfl rfl (by simpa [zq_fs] using (List.getElem?_eq_some_iff.mp hj.2).1) hd (fun H1 locs1 hw1 hD1 hS1 => ?_)
    have e9 := zq_ws_putL (Y := Y) (ad := ad) (h := h) hp hj.2 x
    exact k _ _ _ _ _ _ hP hl (by rw [← e9]; exact hw1) (by rw [← e9]; exact hD1) hS1
  · exact hP.elim
theorem zs_iret (C : zq_C X cc nL own d) {Q : zq_Q} (hq : zq_R X (some .int) 1 Q) (hd : decode cc pc = .ok (.ireturn, 1)) : zq_ok X nL pc (zi_iret Q) := by
  obtain ⟨p', l, e, R, s, m, args, below, meth, c, D, Y, ad, A, kc, kn, Z⟩ := X
  obtain ⟨hx, hb, hml, hown, hts, hK, hR⟩ := C
  intro ls st h H locs a hP hl hw hD hS
  obtain ⟨hlk, hrt, free, Qc, hZ, hfr, hqc⟩ := hq
  subst hZ
  unfold zi_iret at hP
  split at hP
  · exact W.iret hx hb hrt (fun t ht hW => hqc _ h t trivial hP (by rw [ht]; exact hw) hD (hS.F ht) hW) (fun q hq => hfr _ (hS.2.2 q hq)) hd hlk
  · exact hP.elim
theorem zs_zret (C : zq_C X cc nL own d) {Q : zq_Q} (hq : zq_R X (some .boolean) 1 Q) (hd : decode cc pc = .ok (.ireturn, 1)) : zq_ok X nL pc (zi_zret Q) := by
  obtain ⟨p', l, e, R, s, m, args, below, meth, c, D, Y, ad, A, kc, kn, Z⟩ := X
  obtain ⟨hx, hb, hml, hown, hts, hK, hR⟩ := C
  intro ls st h H locs a hP hl hw hD hS
  obtain ⟨hlk, hrt, free, Qc, hZ, hfr, hqc⟩ := hq
  subst hZ
  unfold zi_zret at hP
  split at hP
  · exact W.zret hx hb hrt (by rcases hP.1 with rfl | rfl <;> rfl) (fun t ht hW => hqc _ h t trivial hP.2 (by rw [ht]; exact hw) hD (hS.F ht) hW) (fun q hq => hfr _ (hS.2.2 q hq)) hd hlk
  · exact hP.elim
theorem zs_lret (C : zq_C X cc nL own d) {Q : zq_Q} (hq : zq_R X (some .long) 2 Q) (hd : decode cc pc = .ok (.lreturn, 1)) : zq_ok X nL pc (zi_lret Q) := by
  obtain ⟨p', l, e, R, s, m, args, below, meth, c, D, Y, ad, A, kc, kn, Z⟩ := X
  obtain ⟨hx, hb, hml, hown, hts, hK, hR⟩ := C
  intro ls st h H locs a hP hl hw hD hS
  obtain ⟨hlk, hrt, free, Qc, hZ, hfr, hqc⟩ := hq
  subst hZ
  unfold zi_lret at hP
  split at hP
  · exact W.lret hx hb hrt (fun t ht hW => hqc _ h t trivial hP (by rw [ht]; exact hw) hD (hS.F ht) hW) (fun q hq => hfr _ (hS.2.2 q hq)) hd hlk
  · exact hP.elim
theorem zs_vret (C : zq_C X cc nL own d) {Q : zq_Q} (hq : zq_R X (none) 0 Q) (hd : decode cc pc = .ok (.return_, 1)) : zq_ok X nL pc (zi_vret Q) := by
  obtain ⟨p', l, e, R, s, m, args, below, meth, c, D, Y, ad, A, kc, kn, Z⟩ := X
  obtain ⟨hx, hb, hml, hown, hts, hK, hR⟩ := C
  intro ls st h H locs a hP hl hw hD hS
  obtain ⟨hlk, hrt, free, Qc, hZ, hfr, hqc⟩ := hq
  subst hZ
  unfold zi_vret at hP
  split at hP
  · exact W.vret hx hb hrt (fun t ht hW => hqc _ h t trivial hP (by rw [ht]; exact hw) hD (hS.F ht) hW) (fun q hq => hfr _ (hS.2.2 q hq)) hd hlk
  · exact hP.elim
end ZS
end
section
/-! ===== contracts and calls ===== -/
def zq_rm (d : Nat) : Room := { frames := d, cells := 0, slots := 0, locals := 64 * d }
def zq_A (ad : Nat → Nat) : Nat → Prop := fun q => ∃ k, k < zq_S.length ∧ q = ad k
def zq_B (D : va_G) (Y : zq_Y) (ad : Nat → Nat) (A : Nat → Prop) (h : zq_H) (t : State) : Prop := va_P D vwCl (zq_ws Y ad h) t.heap ∧ va_K D vwCl (zq_ty Y) t ∧ va_D A (zq_ws Y ad h)
def zq_Qc (rk : Nat) (D : va_G) (Y : zq_Y) (ad : Nat → Nat) (Q : zq_Q) : Array Value → State → Outcome → State → Prop := match rk with
  | 0 => va_Qv (fun u : zq_H => Q none u) (fun u t => zq_B D Y ad (zq_A ad) u t) (zq_A ad)
  | 1 => va_Qi (fun (r : Int32) (u : zq_H) => Q (some (.int r)) u) (fun u t => zq_B D Y ad (zq_A ad) u t) (zq_A ad)
  | _ => va_Ql (fun (r : Int64) (u : zq_H) => Q (some (.long r)) u) (fun u t => zq_B D Y ad (zq_A ad) u t) (zq_A ad)
def zq_M (y : MethodName) (cc : ByteArray) (maxL : Nat) (ret : Option FieldType) (rk d : Nat) (spec : zq_Sp) : Prop :=
  ∀ (l : Launch) (D : va_G) (Y : zq_Y) (ad : Nat → Nat) (args : List Value) (h : zq_H) (Q : zq_Q), spec args h Q → Met l y (Cond.code y cc maxL ret :: zq_tb) (zq_rm d) (va_Pc (args.map (zq_cv ad)) (fun U => zq_B D Y ad (fun _ => True) h U ∧ zq_E ad (zq_A ad) U U.heap)) (zq_Qc rk D Y ad Q) 0 0 (zq_A ad)
theorem zq_blind {vs : List Value} {D : va_G} {Y : zq_Y} {ad : Nat → Nat} {A : Nat → Prop} {h : zq_H} : FrameBlind (va_Pc vs (fun U => zq_B D Y ad A h U ∧ zq_E ad (zq_A ad) U U.heap)) := by
  intro a U g mk q
  obtain ⟨q1, ⟨q2, q3, q4⟩, q5, q6, q7⟩ := q
  exact ⟨q1, ⟨q2, va_K.moved (u := U) (U := U.calling g mk a) (Vm.Alike.refl U.vm) q3, q4⟩, vk_S.moved (u := U) (U := U.calling g mk a) (Vm.Alike.refl U.vm) q5, fun i q hi => vk_R.same (u := U) (U := U.calling g mk a) rfl (q6 i q hi), va_Z.moved (u := U) (U := U.calling g mk a) (Vm.Alike.refl U.vm) q7⟩
theorem zq_E_call {ad : Nat → Nat} {A : Nat → Prop} {s U : State} {H : Heap} {locs : List Loc} (hE : zq_E ad A s s.heap) (hS : va_S A s.heap H locs) (hA : ∀ q, zq_A ad q → A q) (hU : U.heap = H) (hW : s.WarmedH U.vm) : zq_E ad (zq_A ad) U U.heap := by
  subst hU
  obtain ⟨h1, h2, h3⟩ := hE
  exact ⟨((h1.kept hS.2.1).narrow hA).moved hW.alike, fun i q hi => (h2 i q hi).warm hW, ((h3.kept hS.2.1).narrow hA).moved hW.alike⟩
theorem zq_tb_good : ∀ w ∈ zq_tb, (w.onTables && w.keeps) = true ∨ ∃ ty, w = .arrayClass ty := fun w hw => good_of_word (List.mem_filter.mp hw).2
theorem zq_in {w : Cond} (h : w ∈ lw_tbl) (g : goodWord w = true) : w ∈ zq_tb := List.mem_filter.mpr ⟨h, g⟩
theorem zq_inT {w : Cond} {i : Nat} (h : tables_1[i]? = some w) (g : goodWord w = true) : w ∈ zq_tb := zq_in (List.mem_append_right _ (List.mem_of_getElem? h)) g
theorem zq_inP {w : Cond} {q : MethodName × Nat} {i : Nat} (h : lw_privs[i]? = some q) (e : Cond.selects q.1.cls q.1 q.1 = w) (g : goodWord w = true) : w ∈ zq_tb := by
  subst e
  exact zq_in (List.mem_append_left _ (List.mem_map.mpr ⟨q, List.mem_of_getElem? h, rfl⟩)) g
/-! arguments off the stack -/
def zq_tk : Nat → List Value → List Value → Option (List Value × List Value)
  | 0, acc, st => some (acc, st)
  | _ + 1, _, [] => none
  | n + 1, acc, v :: st => zq_tk n (v :: acc) st
theorem zq_tk_eq : ∀ (n : Nat) (acc st as rest : List Value), zq_tk n acc st = some (as, rest) → ∃ pre : List Value, pre.length = n ∧ st = pre ++ rest ∧ as = pre.reverse ++ acc
  | 0, acc, st, as, rest, h => by
    cases h
    exact ⟨[], rfl, rfl, rfl⟩
  | n + 1, acc, [], as, rest, h => by cases h
  | n + 1, acc, v :: st, as, rest, h => by
    obtain ⟨pre, h1, h2, h3⟩ := zq_tk_eq n (v :: acc) st as rest h
    exact ⟨v :: pre, by simp [h1], by simp [h2], by simp [h3]⟩
def zq_ps (v : Option Value) (rest : List Value) : List Value := match v with
  | some w => w :: rest
  | none => rest
def zi_callV (n p : Nat) (spec : zq_Sp) (K : zq_P) : zq_P := fun ls st h => match zq_tk (n + 1) [] st with
  | some (.ref q :: as, rest) => q = p ∧ rest.length ≤ 4 ∧ spec (.ref q :: as) h (fun r h' => K ls (zq_ps r rest) h')
  | _ => False
def zi_callS (n : Nat) (spec : zq_Sp) (K : zq_P) : zq_P := fun ls st h => match zq_tk n [] st with
  | some (as, rest) => rest.length ≤ 4 ∧ spec as h (fun r h' => K ls (zq_ps r rest) h')
  | _ => False
theorem zq_cats : ∀ (st : List Value), (st.map fun v => v.category).sum ≤ 2 * st.length
  | [] => Nat.le_refl _
  | v :: st => by
    have h1 := zq_cats st
    have h2 := lv_cat v
    simp only [List.map_cons, List.sum_cons, List.length_cons]
    omega
/-- what is fixed of a method that is called -/
def zq_y (y : MethodName) (cc : ByteArray) (maxL : Nat) (ret : Option FieldType) (n : Nat) : Prop := Cond.code y cc maxL ret ∈ zq_tb ∧ Cond.initialized y.cls ∈ zq_tb ∧ (y.cls ≠ "java/lang/invoke/MethodHandle" ∧ y.cls ≠ "java/lang/invoke/VarHandle" ∧ (parseMethodDescriptor y.desc).map (fun d => d.parameters.length) = some n) ∧ maxL ≤ 40
section ZS
variable {X : zq_X} {cc bytes : ByteArray} {nL d pc n ix maxL d1 rk : Nat} {own : String} {K : zq_P} {y : MethodName} {ret : Option FieldType} {spec : zq_Sp}
theorem zq_AA {A : Nat → Prop} {Y : zq_Y} {ad : Nat → Nat} {h : zq_H} (hD : va_D A (zq_ws Y ad h)) : ∀ q, zq_A ad q → A q := by
  intro q hq
  obtain ⟨k, hk, rfl⟩ := hq
  obtain ⟨e, he⟩ : ∃ e, zq_S[k]? = some e := ⟨_, List.getElem?_eq_getElem hk⟩
  exact hD.2 k _ (zq_ws_at he)
theorem zq_DA {A : Nat → Prop} {Y : zq_Y} {ad : Nat → Nat} {h : zq_H} (hD : va_D A (zq_ws Y ad h)) : va_D (zq_A ad) (zq_ws Y ad h) := hD.weaken fun k q hq _ => ⟨k, (zq_ws_of hq).1, (zq_ws_of hq).2⟩
/-- behind a call: the callee's end, as the caller goes on -/
theorem zq_behind {p : Program} {l : Launch} {e : Env} {R : Room} {s : State} {m : MethodId} {args : Array Value} {below : List Frame} {meth : Method} {c : Code} {D : va_G} {Y : zq_Y} {ad : Nat → Nat} {A : Nat → Prop} {kc kn : Nat} {Z : State → Prop}
    {ls : zq_L} {rest : List Value} {h : zq_H} {H : Heap} {locs : List Loc} {a : Array Slot} {st0 : List Value} {av : Array Value}
    (hr : va_Run p l e R s m args below meth c H locs kc kn 0 0 (F0 m pc a st0) (rest.map (zq_cv ad)) (zq_Qc rk D Y ad (fun r h' => K ls (zq_ps r rest) h') av) (zq_A ad))
    (hl : zq_lr ad nL ls a) (hD : va_D A (zq_ws Y ad h)) (hS : va_S A s.heap H locs) (k : zq_ok (p, l, e, R, s, m, args, below, meth, c, D, Y, ad, A, kc, kn, Z) nL (pc + 3) K) : W p l e R s m args below meth c H locs kc kn Z (F0 m pc a st0) := by
  have hAA := zq_AA hD
  have go : ∀ (v : Option Value) (u : zq_H) (t : State) (H1 : Heap) (locs1 : List Loc), t.heap = H1 → K ls (zq_ps v rest) u → zq_B D Y ad (zq_A ad) u t → va_S A s.heap H1 locs1 → W p l e R s m args below meth c H1 locs1 kc kn Z (F0 m (pc + 3) a ((zq_ps v rest).map (zq_cv ad))) := by
    intro v u t H1 locs1 ht hp hB hS1
    obtain ⟨hP, hK, hD1⟩ := hB
    rw [ht] at hP
    exact k _ _ _ _ _ _ hp hl hP (hD1.weaken fun _ q _ hq => hAA _ hq) hS1
  match rk, hr with
  | 0, hr => exact va_callv (a := av) hr hS (fun q _ h => hAA q h) hAA (fun u t H1 locs1 ht _ hp hB _ _ hS1 => go none u t H1 locs1 ht hp hB hS1)
  | 1, hr => exact va_calli (a := av) hr hS (fun q _ h => hAA q h) hAA (fun r u t H1 locs1 ht _ hp hB _ _ hS1 => go (some (.int r)) u t H1 locs1 ht hp hB hS1)
  | _ + 2, hr => exact va_calll (a := av) hr hS (fun q _ h => hAA q h) hAA (fun r u t H1 locs1 ht _ hp hB _ _ hS1 => go (some (.long r)) u t H1 locs1 ht hp hB hS1)
theorem zq_goodV {C : String} (hy : zq_y y bytes maxL ret n) (hl : Cond.methodLink own ix y ∈ zq_tb) (hi : Cond.instanceMethod y ∈ zq_tb) (hs : Cond.selects C y y ∈ zq_tb) (hc : Cond.initialized C ∈ zq_tb) : GoodIn zq_tb (wsV own ix C y (Cond.code y bytes maxL ret :: zq_tb)) := by
  intro w hw
  have hm : w ∈ zq_tb := by
    rcases List.mem_append.mp hw with h | h
    · simp only [List.mem_cons, List.not_mem_nil, or_false] at h
      rcases h with rfl | rfl | rfl | rfl
      · exact hl
      · exact hi
      · exact hs
      · exact hc
    · rcases List.mem_cons.mp h with rfl | h
      · exact hy.1
      · exact h
  exact ⟨hm, zq_tb_good w hm⟩
theorem zq_goodC (hy : zq_y y bytes maxL ret n) : GoodIn zq_tb (Cond.code y bytes maxL ret :: zq_tb) := by
  intro w hw
  have hm : w ∈ zq_tb := by
    rcases List.mem_cons.mp hw with rfl | h
    · exact hy.1
    · exact h
  exact ⟨hm, zq_tb_good w hm⟩
theorem zs_callV (C : zq_C X cc nL own d) {p ci N : Nat} {kd : List Nat} {T : u_T} (hM : zq_M y bytes maxL ret rk d1 spec) (hdd : d1 + 1 ≤ d) (hy : zq_y y bytes maxL ret n) (hp : zq_S[p]? = some (0, ci, kd)) (hc : vwCl[ci]? = some (y.cls, T, N)) (h1 : Cond.methodLink own ix y ∈ zq_tb) (h2 : Cond.instanceMethod y ∈ zq_tb) (h3 : Cond.selects y.cls y y ∈ zq_tb)
    (hd : decode cc pc = .ok (.invokevirtual ix, 3)) (k : zq_ok X nL (pc + 3) K) : zq_ok X nL pc (zi_callV n p spec K) := by
  obtain ⟨p', l, e, R, s, m, args, below, meth, c, D, Y, ad, A, kc, kn, Z⟩ := X
  obtain ⟨hx, hb, hml, hown, hts, hK, hR1, hR2, hR3, hR4, hE⟩ := C
  intro ls st h H locs a hP hl hw hD hS
  unfold zi_callV at hP
  split at hP
  · next q as rest htk =>
    obtain ⟨rfl, hlen, hsp⟩ := hP
    obtain ⟨pre, e1, e2, e3⟩ := zq_tk_eq _ _ _ _ _ htk
    rw [List.append_nil] at e3
    have e4 : pre = as.reverse ++ [.ref q] := by
      have := congrArg List.reverse e3
      simpa using this.symm
    subst e2
    have e5 : as.length = n := by rw [e4] at e1; simpa using e1
    refine zq_behind (rest := rest) (va_runV (As := as.map (zq_cv ad)) (rest := rest.map (zq_cv ad)) ⟨hx, hb, hml, hown, hts⟩ (hM l D Y ad _ h _ hsp) (cwV n hts (zq_goodV hy h1 h2 h3 hy.2.1) rfl rfl rfl ⟨rfl, hy.2.2.1⟩ ⟨?_, ?_⟩) ⟨zq_blind, va_recv hK hw hc (zq_ws_at hp), ?_⟩ rfl (by rw [List.length_map]; exact e5) hl.1 ?_ (lv_room ?_) hd ⟨hR3, hR4⟩) hl hD hS k
    · show d1 + 1 ≤ R.frames
      omega
    · have := hy.2.2.2
      show 8 + (maxL + 11) + 64 * d1 ≤ R.locals
      omega
    · intro U hU hW
      exact ⟨rfl, ⟨by rw [hU]; exact hw, va_K.moved hW.alike hK, hD.weaken (fun _ _ _ _ => trivial)⟩, zq_E_call hE hS (zq_AA hD) hU hW⟩
    · show (pre ++ rest).map (zq_cv ad) = (as.map (zq_cv ad)).reverse ++ zq_cv ad (.ref q) :: rest.map (zq_cv ad)
      rw [e4]
      simp [List.map_reverse]
    · have h5 := zq_cats (rest.map (zq_cv ad))
      rw [List.length_map] at h5
      omega
  · exact hP.elim
theorem zs_callS (C : zq_C X cc nL own d) (hM : zq_M y bytes maxL ret rk d1 spec) (hdd : d1 + 1 ≤ d) (hy : zq_y y bytes maxL ret n) (h1 : Cond.methodLink own ix y ∈ zq_tb) (h2 : Cond.static y ∈ zq_tb)
    (hd : decode cc pc = .ok (.invokestatic ix, 3)) (k : zq_ok X nL (pc + 3) K) : zq_ok X nL pc (zi_callS n spec K) := by
  obtain ⟨p', l, e, R, s, m, args, below, meth, c, D, Y, ad, A, kc, kn, Z⟩ := X
  obtain ⟨hx, hb, hml, hown, hts, hK, hR1, hR2, hR3, hR4, hE⟩ := C
  intro ls st h H locs a hP hl hw hD hS
  unfold zi_callS at hP
  split at hP
  · next as rest htk =>
    obtain ⟨hlen, hsp⟩ := hP
    obtain ⟨pre, e1, e2, e3⟩ := zq_tk_eq _ _ _ _ _ htk
    rw [List.append_nil] at e3
    have e4 : pre = as.reverse := by rw [e3, List.reverse_reverse]
    subst e2
    have e5 : as.length = n := by rw [e3, List.length_reverse]; exact e1
    refine zq_behind (rest := rest) (va_runS (As := as.map (zq_cv ad)) (rest := rest.map (zq_cv ad)) ⟨hx, hb, hml, hown, hts⟩ (hM l D Y ad _ h _ hsp) ⟨callB_of n hts (zq_goodC hy) rfl rfl rfl (hts _ hy.2.1) (hts _ h1) hy.2.2.1 ⟨?_, ?_⟩, hts _ h2⟩ ⟨zq_blind, ?_⟩ rfl (by rw [List.length_map]; exact e5) hl.1 ?_ (lv_room ?_) hd ⟨hR3, hR4⟩) hl hD hS k
    · show d1 + 1 ≤ R.frames
      omega
    · have := hy.2.2.2
      show 8 + (maxL + 11) + 64 * d1 ≤ R.locals
      omega
    · intro U hU hW
      exact ⟨rfl, ⟨by rw [hU]; exact hw, va_K.moved hW.alike hK, hD.weaken (fun _ _ _ _ => trivial)⟩, zq_E_call hE hS (zq_AA hD) hU hW⟩
    · show (pre ++ rest).map (zq_cv ad) = (as.map (zq_cv ad)).reverse ++ rest.map (zq_cv ad)
      rw [e4]
      simp [List.map_reverse]
    · have h5 := zq_cats (rest.map (zq_cv ad))
      rw [List.length_map] at h5
      omega
  · exact hP.elim
end ZS
end
section
/-! ===== a method's contract out of its body ===== -/
def zq_a1 (v : Value) : zq_L := match v with
  | .long x => [some (.long x), none]
  | .double x => [some (.double x), none]
  | w => [some w]
def zq_a : List Value → zq_L
  | [] => []
  | v :: r => zq_a1 v ++ zq_a r
def zq_l0 (n : Nat) (args : List Value) : zq_L := zq_a args ++ List.replicate (n - (zq_a args).length) none
theorem zq_nth_none : ∀ (n i : Nat) (v : Value), zq_nth (List.replicate n none) i = some v → False
  | 0, i, v, h => by cases h
  | n + 1, 0, v, h => by cases h
  | n + 1, i + 1, v, h => zq_nth_none n i v h
theorem zq_a_len (ad : Nat → Nat) : ∀ (args : List Value), (lg_sl (args.map (zq_cv ad))).length = (zq_a args).length
  | [] => rfl
  | v :: r => by
    have h := zq_a_len ad r
    unfold lg_sl at h ⊢
    rw [List.map_cons, List.flatMap_cons, List.length_append, h]
    show _ = (zq_a1 v ++ zq_a r).length
    rw [List.length_append]
    cases v <;> rfl
theorem zq_a_at (ad : Nat → Nat) (n : Nat) : ∀ (args : List Value) (k i : Nat) (v : Value), zq_nth (zq_a args ++ List.replicate n none) i = some v → (k + i, zq_cv ad v) ∈ lv_args k (args.map (zq_cv ad))
  | [], k, i, v, h => (zq_nth_none n i v h).elim
  | w :: r, k, i, v, h => by
    have one : ∀ (u : Value), u.category = 1 → zq_a1 u = [some u] := by
      intro u hu
      cases u <;> first | rfl | (cases hu; done)
    have two : ∀ (u : Value), u.category = 2 → zq_a1 u = [some u, none] := by
      intro u hu
      cases u <;> first | rfl | (cases hu; done)
    show _ ∈ (k, zq_cv ad w) :: lv_args (if (zq_cv ad w).category = 2 then k + 2 else k + 1) (r.map (zq_cv ad))
    rw [zq_cv_cat]
    rcases lv_cat w with hw | hw
    · rw [if_neg (by omega)]
      rw [show zq_a (w :: r) = zq_a1 w ++ zq_a r from rfl, one w hw] at h
      cases i with
      | zero =>
        cases h
        exact List.mem_cons_self
      | succ i =>
        have := zq_a_at ad n r (k + 1) i v h
        rw [show k + (i + 1) = k + 1 + i by omega]
        exact List.mem_cons_of_mem _ this
    · rw [if_pos hw]
      rw [show zq_a (w :: r) = zq_a1 w ++ zq_a r from rfl, two w hw] at h
      cases i with
      | zero =>
        cases h
        exact List.mem_cons_self
      | succ i =>
        cases i with
        | zero => cases h
        | succ i =>
          have := zq_a_at ad n r (k + 2) i v h
          rw [show k + (i + 1 + 1) = k + 2 + i by omega]
          exact List.mem_cons_of_mem _ this
def zq_rk (rk : Nat) (ret : Option FieldType) : Prop := match rk with
  | 0 => ret = none
  | 1 => ret ≠ none
  | _ => ret = some .long
theorem zq_met {y : MethodName} {cc : ByteArray} {maxL : Nat} {ret : Option FieldType} {rk d : Nat} {spec : zq_Sp} (hy : plainName y.cls = true) (hrk : rk ≤ 2)
    (body : ∀ (X : zq_X) (Q : zq_Q) (args : List Value) (h : zq_H), zq_C X cc maxL y.cls d → zq_R X ret rk Q → spec args h Q → (zq_a args).length ≤ maxL ∧ ∃ P, zq_ok X maxL 0 P ∧ P (zq_l0 maxL args) [] h) : zq_M y cc maxL ret rk d spec := by
  intro l D Y ad args h Q hsp
  refine Met.ofW (cc := cc) (maxL := maxL) (ret := ret) hy rfl ?_
  intro p e s m av below meth c s₁ B hml hv
  obtain ⟨rfl, ⟨hP, hK, hD⟩, hE⟩ := hv
  have hts := atoms_spec (ws := Cond.code y cc maxL ret :: zq_tb) B.pre
  have C : zq_C (p, l, e, (headSpec (Cond.code y cc maxL ret :: zq_tb) (zq_rm d)).room, s, m, (args.map (zq_cv ad)).toArray, below, meth, c, D, Y, ad, zq_A ad, 0, 0, MQ below (zq_Qc rk D Y ad Q) (args.map (zq_cv ad)).toArray s 0 0 (zq_A ad)) cc maxL y.cls d :=
    ⟨B.exec, B.bytes, hml, findClass_of_methodNamed B.named, fun w hw => hts w (List.mem_cons_of_mem _ hw), hK, Nat.le_refl _, Nat.le_refl _, Nat.zero_le _, Nat.zero_le _, hE⟩
  have hDA := zq_DA hD
  have Rr : zq_R (p, l, e, (headSpec (Cond.code y cc maxL ret :: zq_tb) (zq_rm d)).room, s, m, (args.map (zq_cv ad)).toArray, below, meth, c, D, Y, ad, zq_A ad, 0, 0, MQ below (zq_Qc rk D Y ad Q) (args.map (zq_cv ad)).toArray s 0 0 (zq_A ad)) ret rk Q := by
    refine ⟨B.notSynchronized, B.returns, zq_A ad, zq_Qc rk D Y ad Q, rfl, fun _ h => h, ?_⟩
    intro v h' t hk hq hP' hD' hF hW
    have hB : zq_B D Y ad (zq_A ad) h' t := ⟨hP', va_K.moved hW.alike hK, hD'⟩
    match rk, v, hk, hrk with
    | 0, none, _, _ => exact ⟨⟨h', rfl, hq, hB⟩, hF⟩
    | 1, some (.int r), _, _ => exact ⟨⟨r, h', rfl, hq, hB⟩, hF⟩
    | 2, some (.long r), _, _ => exact ⟨⟨r, h', rfl, hq, hB⟩, hF⟩
  obtain ⟨hlen, P, hok, hP0⟩ := body _ Q args h C Rr hsp
  have hle : (lg_sl (args.map (zq_cv ad))).length ≤ maxL := by rw [zq_a_len]; exact hlen
  rw [lg_entry_eq]
  refine hok _ [] h s.heap [] _ hP0 (zq_lr.of (lv_entry (args.map (zq_cv ad)) hle) ?_) hP hDA va_S.rf
  intro i v hi
  have := zq_a_at ad _ args 0 i v hi
  rwa [Nat.zero_add] at this
/-! ===== loops: at a point of a method, by a number that falls ===== -/
theorem zq_loop {X : zq_X} {nL pc : Nat} {σ : Type} (μ : σ → Nat) (Inv : σ → zq_P) (body : zq_P → zq_P) (hs : ∀ J : zq_P, zq_ok X nL pc J → zq_ok X nL pc (body J)) (hv : ∀ a ls st h, Inv a ls st h → body (fun ls st h => ∃ b, μ b < μ a ∧ Inv b ls st h) ls st h) : zq_ok X nL pc (fun ls st h => ∃ a, Inv a ls st h) := by
  have key : ∀ n a, μ a < n → zq_ok X nL pc (Inv a) := by
    intro n
    induction n with
    | zero => intro a h; omega
    | succ n ih =>
      intro a ha
      have h1 : zq_ok X nL pc (fun ls st h => ∃ b, μ b < μ a ∧ Inv b ls st h) := by
        obtain ⟨p, l, e, R, s, m, args, below, meth, c, D, Y, ad, A, kc, kn, Z⟩ := X
        intro ls st h H locs a' hP
        obtain ⟨b, hb, hI⟩ := hP
        exact ih b (by omega) ls st h H locs a' hI
      exact (hs _ h1).mono (hv a)
  obtain ⟨p, l, e, R, s, m, args, below, meth, c, D, Y, ad, A, kc, kn, Z⟩ := X
  intro ls st h H locs a' hP
  obtain ⟨a, hI⟩ := hP
  exact key (μ a + 1) a (Nat.lt_succ_self _) ls st h H locs a' hI
end
section
/-! ===== switches; a copy of a row ===== -/
def zq_sw (x : Int32) (ls : zq_L) (st : List Value) (h : zq_H) (D : zq_P) : List (Int32 × zq_P) → Prop
  | [] => D ls st h
  | (v, P) :: r => (x = v → P ls st h) ∧ (¬ x = v → zq_sw x ls st h D r)
def zi_sw (cs : List (Int32 × zq_P)) (D : zq_P) : zq_P := fun ls st h => match st with
  | .int x :: st => zq_sw x ls st h D cs
  | _ => False
theorem zq_sw_cases {x : Int32} {ls : zq_L} {st : List Value} {h : zq_H} {D : zq_P} : ∀ (cs : List (Int32 × zq_P)), zq_sw x ls st h D cs → (∃ (i : Nat) (P : zq_P), cs[i]? = some (x, P) ∧ P ls st h) ∨ ((∀ (i : Nat) (v : Int32) (P : zq_P), cs[i]? = some (v, P) → ¬ x = v) ∧ D ls st h)
  | [], hs => Or.inr ⟨fun i v P hi => (by cases hi), hs⟩
  | (v, P) :: r, hs => by
    by_cases hx : x = v
    · exact Or.inl ⟨0, P, by rw [hx]; rfl, hs.1 hx⟩
    · rcases zq_sw_cases r (hs.2 hx) with ⟨i, P', h1, h2⟩ | ⟨h1, h2⟩
      · exact Or.inl ⟨i + 1, P', h1, h2⟩
      · refine Or.inr ⟨fun i w P' hi => ?_, h2⟩
        cases i with
        | zero => cases hi; exact hx
        | succ i => exact h1 i w P' hi
def zq_tsok (X : zq_X) (nL pc : Nat) (lo : Int) (offs : Array Int) : Nat → List (Int32 × zq_P) → Prop
  | _, [] => True
  | i, (v, P) :: r => (v.toInt = lo + i ∧ ∃ (off : Int) (tgt : Nat), offs[i]? = some off ∧ (pc : Int) + off = (tgt : Int) ∧ zq_ok X nL tgt P) ∧ zq_tsok X nL pc lo offs (i + 1) r
theorem zq_tsok_at {X : zq_X} {nL pc : Nat} {lo : Int} {offs : Array Int} : ∀ (cs : List (Int32 × zq_P)) (k i : Nat) (v : Int32) (P : zq_P), zq_tsok X nL pc lo offs k cs → cs[i]? = some (v, P) → v.toInt = lo + (k + i : Nat) ∧ ∃ (off : Int) (tgt : Nat), offs[k + i]? = some off ∧ (pc : Int) + off = (tgt : Int) ∧ zq_ok X nL tgt P
  | [], k, i, v, P, _, hi => by cases hi
  | (w, P') :: r, k, i, v, P, hs, hi => by
    cases i with
    | zero => cases hi; exact hs.1
    | succ i =>
      have := zq_tsok_at r (k + 1) i v P hs.2 hi
      rw [show k + (i + 1) = k + 1 + i by omega]
      exact this
def zq_lkok (X : zq_X) (nL pc : Nat) : List (Int × Int) → List (Int32 × zq_P) → Prop
  | (a, o) :: ps, (v, P) :: r => (v.toInt = a ∧ ∃ tgt : Nat, (pc : Int) + o = (tgt : Int) ∧ zq_ok X nL tgt P) ∧ zq_lkok X nL pc ps r
  | [], [] => True
  | _, _ => False
section ZS
variable {X : zq_X} {cc : ByteArray} {nL d pc : Nat} {own : String}
theorem zs_tsw (C : zq_C X cc nL own d) {dflt lo hi : Int} {offs : Array Int} {len tgt : Nat} {cs : List (Int32 × zq_P)} {D0 : zq_P} (hd : decode cc pc = .ok (.tableswitch dflt lo hi offs, len)) (hlen : hi = lo + cs.length - 1) (hcs : zq_tsok X nL pc lo offs 0 cs) (ht : (pc : Int) + dflt = (tgt : Int)) (k : zq_ok X nL tgt D0) : zq_ok X nL pc (zi_sw cs D0) := by
  obtain ⟨p, l, e, R, s, m, args, below, meth, c, D, Y, ad, A, kc, kn, Z⟩ := X
  obtain ⟨hx, hb, hml, hown, hts, hK, hR⟩ := C
  intro ls st h H locs a hP hl hw hD hS
  unfold zi_sw at hP
  split at hP
  · next x st =>
    rcases zq_sw_cases cs hP with ⟨i, P, h1, h2⟩ | ⟨h1, h2⟩
    · obtain ⟨e1, off, tg, e2, e3, e4⟩ := zq_tsok_at cs 0 i x P hcs h1
      have hil := (List.getElem?_eq_some_iff.mp h1).1
      rw [Nat.zero_add] at e1 e2
      refine lv_tableIn hx hb hd (by omega) (by omega) (off := off) (tgt := tg) ?_ e3 (e4 _ _ _ _ _ _ h2 hl hw hD hS)
      rw [show (x.toInt - lo).toNat = i by omega]
      exact e2
    · by_cases hr : x.toInt < lo ∨ hi < x.toInt
      · exact lv_tableOut hx hb hd hr ht (k _ _ _ _ _ _ h2 hl hw hD hS)
      · exfalso
        have hil : (x.toInt - lo).toNat < cs.length := by omega
        obtain ⟨⟨v, P⟩, he⟩ : ∃ q, cs[(x.toInt - lo).toNat]? = some q := ⟨_, List.getElem?_eq_getElem hil⟩
        obtain ⟨e1, -⟩ := zq_tsok_at cs 0 _ v P hcs he
        exact h1 _ v P he (Int32.toInt_inj.mp (by omega))
  · exact hP.elim
theorem zs_lsw (C : zq_C X cc nL own d) {dflt : Int} {ps : Array (Int × Int)} {len tgt : Nat} {cs : List (Int32 × zq_P)} {D0 : zq_P} (hd : decode cc pc = .ok (.lookupswitch dflt ps, len)) (hp : (ps.toList.zip (ps.toList.drop 1)).all (fun (a, next) => a.1 < next.1) = true) (hcs : zq_lkok X nL pc ps.toList cs) (ht : (pc : Int) + dflt = (tgt : Int)) (k : zq_ok X nL tgt D0) : zq_ok X nL pc (zi_sw cs D0) := by
  obtain ⟨p, l, e, R, s, m, args, below, meth, c, D, Y, ad, A, kc, kn, Z⟩ := X
  obtain ⟨hx, hb, hml, hown, hts, hK, hR⟩ := C
  intro ls st h H locs a hP hl hw hD hS
  unfold zi_sw at hP
  split at hP
  · next x st =>
    have key : ∀ (pl : List (Int × Int)) (cs : List (Int32 × zq_P)), zq_lkok (p, l, e, R, s, m, args, below, meth, c, D, Y, ad, A, kc, kn, Z) nL pc pl cs → zq_sw x ls st h D0 cs → Op.lookupswitch.offset ps.toList dflt x.toInt = Op.lookupswitch.offset pl dflt x.toInt → W p l e R s m args below meth c H locs kc kn Z (F0 m pc a (.int x :: st.map (zq_cv ad))) := by
      intro pl
      induction pl with
      | nil =>
        intro cs h1 h2 h3
        cases cs with
        | nil => exact lv_lookup hx hb hd hp h3 ht (k _ _ _ _ _ _ h2 hl hw hD hS)
        | cons q r => exact h1.elim
      | cons q r ih =>
        intro cs h1 h2 h3
        obtain ⟨a9, o9⟩ := q
        cases cs with
        | nil => exact h1.elim
        | cons q2 r2 =>
          obtain ⟨v, P⟩ := q2
          obtain ⟨⟨e1, tg, e2, e3⟩, e4⟩ := h1
          by_cases hxv : x = v
          · refine lv_lookup hx hb hd hp (off := o9) ?_ e2 (e3 _ _ _ _ _ _ (h2.1 hxv) hl hw hD hS)
            rw [h3, Op.lookupswitch.offset_cons, if_pos (by rw [hxv, e1])]
          · exact ih r2 e4 (h2.2 hxv) (h3.trans (lv_osw hxv e1))
    exact key _ cs hcs hP rfl
  · exact hP.elim
end ZS
/-- System.arraycopy of ints, of longs -/
def zi_copyI (p0 n0 p1 n1 : Nat) (K : zq_P) : zq_P := fun ls st h => match st with
  | .int n :: .int dp :: .ref q1 :: .int sp :: .ref q0 :: st => q0 = p0 ∧ q1 = p1 ∧ (¬ sp < 0 ∧ ¬ dp < 0 ∧ ¬ n < 0 ∧ sp.toNatClampNeg + n.toNatClampNeg ≤ n0 ∧ dp.toNatClampNeg + n.toNatClampNeg ≤ n1) ∧ st.length ≤ 4 ∧ K ls st (fun q i => if q = p1 then va_cpy (h.1 p0) (h.1 p1) sp.toNatClampNeg dp.toNatClampNeg n.toNatClampNeg i else h.1 q i, h.2)
  | _ => False
def zi_copyL (p0 n0 p1 n1 : Nat) (K : zq_P) : zq_P := fun ls st h => match st with
  | .int n :: .int dp :: .ref q1 :: .int sp :: .ref q0 :: st => q0 = p0 ∧ q1 = p1 ∧ (¬ sp < 0 ∧ ¬ dp < 0 ∧ ¬ n < 0 ∧ sp.toNatClampNeg + n.toNatClampNeg ≤ n0 ∧ dp.toNatClampNeg + n.toNatClampNeg ≤ n1) ∧ st.length ≤ 4 ∧ K ls st (h.1, fun q i => if q = p1 then va_cpy (h.2 p0) (h.2 p1) sp.toNatClampNeg dp.toNatClampNeg n.toNatClampNeg i else h.2 q i)
  | _ => False
section ZS
variable {X : zq_X} {cc : ByteArray} {nL d pc : Nat} {own : String} {K : zq_P}
theorem zs_copyI (C : zq_C X cc nL own d) {p0 n0 p1 n1 ix : Nat} (hp0 : zq_S[p0]? = some (1, n0, [])) (hp1 : zq_S[p1]? = some (1, n1, [])) (h1 : Cond.methodLink own ix arraycopyName ∈ zq_tb) (h2 : Cond.native arraycopyName ∈ zq_tb) (h3 : Cond.static arraycopyName ∈ zq_tb) (h4 : Cond.initialized "java/lang/System" ∈ zq_tb) (hdd : 1 ≤ d) (hd : decode cc pc = .ok (.invokestatic ix, 3)) (k : zq_ok X nL (pc + 3) K) : zq_ok X nL pc (zi_copyI p0 n0 p1 n1 K) := by
  obtain ⟨p, l, e, R, s, m, args, below, meth, c, D, Y, ad, A, kc, kn, Z⟩ := X
  obtain ⟨hx, hb, hml, hown, hts, hK, hR1, hR2, hR3, hR4, hE⟩ := C
  intro ls st h H locs a hP hl hw hD hS
  unfold zi_copyI at hP
  split at hP
  · next n dp q1 sp q0 st =>
    obtain ⟨rfl, rfl, ⟨g1, g2, g3, g4, g5⟩, hlen, hP⟩ := hP
    have h5 := zq_cats (st.map (zq_cv ad))
    rw [List.length_map] at h5
    refine va_copyi hx hb (hml.trans hl.1.symm) hown (hts _ h1) (hts _ h2) (hts _ h3) (hts _ h4) hK hw hD hS q0 q1 0 0 (zq_ws_at hp0) (zq_ws_at hp1) rfl rfl rfl g1 g2 g3 g4 g5 (fun _ _ => rfl) (by omega) ?_ hd (fun H1 locs1 hw1 hD1 hS1 => ?_)
    · rw [show nativeFrameWords "java/lang/System" "arraycopy" 5 = 7 by decide +kernel]
      omega
    · have e9 : (zq_ws Y ad h).set q1 (ad q1, .inl (Y.1, n1, .inl (va_cpy (h.1 q0) (h.1 q1) sp.toNatClampNeg dp.toNatClampNeg n.toNatClampNeg))) = zq_ws Y ad (fun q i => if q = q1 then va_cpy (h.1 q0) (h.1 q1) sp.toNatClampNeg dp.toNatClampNeg n.toNatClampNeg i else h.1 q i, h.2) := by
        refine zq_ws_set hp1 ?_ (fun q hq => ⟨?_, rfl⟩)
        · simp [zq_ent]
        · funext i
          simp [hq]
      exact k _ _ _ _ _ _ hP hl (by rw [← e9]; exact hw1) (by rw [← e9]; exact hD1) hS1
  · exact hP.elim
theorem zs_copyL (C : zq_C X cc nL own d) {p0 n0 p1 n1 ix : Nat} (hp0 : zq_S[p0]? = some (2, n0, [])) (hp1 : zq_S[p1]? = some (2, n1, [])) (h1 : Cond.methodLink own ix arraycopyName ∈ zq_tb) (h2 : Cond.native arraycopyName ∈ zq_tb) (h3 : Cond.static arraycopyName ∈ zq_tb) (h4 : Cond.initialized "java/lang/System" ∈ zq_tb) (hdd : 1 ≤ d) (hd : decode cc pc = .ok (.invokestatic ix, 3)) (k : zq_ok X nL (pc + 3) K) : zq_ok X nL pc (zi_copyL p0 n0 p1 n1 K) := by
  obtain ⟨p, l, e, R, s, m, args, below, meth, c, D, Y, ad, A, kc, kn, Z⟩ := X
  obtain ⟨hx, hb, hml, hown, hts, hK, hR1, hR2, hR3, hR4, hE⟩ := C
  intro ls st h H locs a hP hl hw hD hS
  unfold zi_copyL at hP
  split at hP
  · next n dp q1 sp q0 st =>
    obtain ⟨rfl, rfl, ⟨g1, g2, g3, g4, g5⟩, hlen, hP⟩ := hP
    have h5 := zq_cats (st.map (zq_cv ad))
    rw [List.length_map] at h5
    refine va_copyl hx hb (hml.trans hl.1.symm) hown (hts _ h1) (hts _ h2) (hts _ h3) (hts _ h4) hK hw hD hS q0 q1 1 1 (zq_ws_at hp0) (zq_ws_at hp1) rfl rfl rfl g1 g2 g3 g4 g5 (fun _ _ => rfl) (by omega) ?_ hd (fun H1 locs1 hw1 hD1 hS1 => ?_)
    · rw [show nativeFrameWords "java/lang/System" "arraycopy" 5 = 7 by decide +kernel]
      omega
    · have e9 : (zq_ws Y ad h).set q1 (ad q1, .inl (Y.2.1, n1, .inr (.inl (va_cpy (h.2 q0) (h.2 q1) sp.toNatClampNeg dp.toNatClampNeg n.toNatClampNeg)))) = zq_ws Y ad (h.1, fun q i => if q = q1 then va_cpy (h.2 q0) (h.2 q1) sp.toNatClampNeg dp.toNatClampNeg n.toNatClampNeg i else h.2 q i) := by
        refine zq_ws_set hp1 ?_ (fun q hq => ⟨rfl, ?_⟩)
        · simp [zq_ent]
        · funext i
          simp [hq]
      exact k _ _ _ _ _ _ hP hl (by rw [← e9]; exact hw1) (by rw [← e9]; exact hD1) hS1
  · exact hP.elim
end ZS
end
