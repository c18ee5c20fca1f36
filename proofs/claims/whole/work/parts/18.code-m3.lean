/-! ToOneCrumbModel.sliceOf(III)I -/
theorem dX12_sliceOf_0 : decode cX12_sliceOf 0 = .ok (.iconst 0, 1) := by decide +kernel
theorem dX12_sliceOf_1 : decode cX12_sliceOf 1 = .ok (.istore 4, 2) := by decide +kernel
theorem dX12_sliceOf_3 : decode cX12_sliceOf 3 = .ok (.iload_n 2, 1) := by decide +kernel
theorem dX12_sliceOf_4 : decode cX12_sliceOf 4 = .ok (.istore 5, 2) := by decide +kernel
theorem dX12_sliceOf_6 : decode cX12_sliceOf 6 = .ok (.iload 5, 2) := by decide +kernel
theorem dX12_sliceOf_8 : decode cX12_sliceOf 8 = .ok (.iload_n 3, 1) := by decide +kernel
theorem dX12_sliceOf_9 : decode cX12_sliceOf 9 = .ok (.if_icmp .gt 26, 3) := by decide +kernel
theorem dX12_sliceOf_12 : decode cX12_sliceOf 12 = .ok (.iload 4, 2) := by decide +kernel
theorem dX12_sliceOf_14 : decode cX12_sliceOf 14 = .ok (.aload_n 0, 1) := by decide +kernel
theorem dX12_sliceOf_15 : decode cX12_sliceOf 15 = .ok (.getfield 63, 3) := by decide +kernel
theorem dX12_sliceOf_18 : decode cX12_sliceOf 18 = .ok (.bipush 16, 2) := by decide +kernel
theorem dX12_sliceOf_20 : decode cX12_sliceOf 20 = .ok (.iload_n 1, 1) := by decide +kernel
theorem dX12_sliceOf_21 : decode cX12_sliceOf 21 = .ok (.imul, 1) := by decide +kernel
theorem dX12_sliceOf_22 : decode cX12_sliceOf 22 = .ok (.iload 5, 2) := by decide +kernel
theorem dX12_sliceOf_24 : decode cX12_sliceOf 24 = .ok (.iadd, 1) := by decide +kernel
theorem dX12_sliceOf_25 : decode cX12_sliceOf 25 = .ok (.iaload, 1) := by decide +kernel
theorem dX12_sliceOf_26 : decode cX12_sliceOf 26 = .ok (.iadd, 1) := by decide +kernel
theorem dX12_sliceOf_27 : decode cX12_sliceOf 27 = .ok (.istore 4, 2) := by decide +kernel
theorem dX12_sliceOf_29 : decode cX12_sliceOf 29 = .ok (.iinc 5 1, 3) := by decide +kernel
theorem dX12_sliceOf_32 : decode cX12_sliceOf 32 = .ok (.goto (-26), 3) := by decide +kernel
theorem dX12_sliceOf_35 : decode cX12_sliceOf 35 = .ok (.iload 4, 2) := by decide +kernel
theorem dX12_sliceOf_37 : decode cX12_sliceOf 37 = .ok (.ireturn, 1) := by decide +kernel
def xX12_sliceOf_35 (J6 : zq_P) (Q : zq_Q) (ls : zq_L) (st : List Value) (h : zq_H) : Prop := (zi_iload 4 (zi_iret Q)) ls st h
theorem kX12_sliceOf_35 {X : zq_X} {d : Nat} (C : zq_C X cX12_sliceOf 6 RX12 d) {J6 : zq_P} (j6 : zq_ok X 6 6 J6) {Q : zq_Q} (hq : zq_R X (some .int) 1 Q) : zq_ok X 6 35 (xX12_sliceOf_35 J6 Q) := by
  refine zs_iload C dX12_sliceOf_35 ?_
  exact zs_iret C hq dX12_sliceOf_37
def xX12_sliceOf_12 (J6 : zq_P) (Q : zq_Q) (ls : zq_L) (st : List Value) (h : zq_H) : Prop := (zi_iload 4 (zi_aload 0 (zi_getR 56 74 (zi_push (.int 16) (zi_iload 1 (zi_i2 (fun x y => x * y) (zi_iload 5 (zi_i2 (fun x y => x + y) (zi_aldI 74 96 (zi_i2 (fun x y => x + y) (zi_istore 4 (zi_iinc 5 1 (J6))))))))))))) ls st h
theorem kX12_sliceOf_12 {X : zq_X} {d : Nat} (C : zq_C X cX12_sliceOf 6 RX12 d) {J6 : zq_P} (j6 : zq_ok X 6 6 J6) {Q : zq_Q} (hq : zq_R X (some .int) 1 Q) : zq_ok X 6 12 (xX12_sliceOf_12 J6 Q) := by
  refine zs_iload C dX12_sliceOf_12 ?_
  refine zs_aload_n C dX12_sliceOf_14 rfl ?_
  refine zs_getR C zp_56 zF12 (j := 29) ⟨by decide, rfl⟩ zw_1125 dX12_sliceOf_15 ?_
  refine zs_bipush C dX12_sliceOf_18 (by decide) ?_
  refine zs_iload_n C dX12_sliceOf_20 rfl ?_
  refine zs_imul C dX12_sliceOf_21 ?_
  refine zs_iload C dX12_sliceOf_22 ?_
  refine zs_iadd C dX12_sliceOf_24 ?_
  refine zs_iaload C zp_74 dX12_sliceOf_25 ?_
  refine zs_iadd C dX12_sliceOf_26 ?_
  refine zs_istore C dX12_sliceOf_27 (by decide) ?_
  refine zs_iinc C dX12_sliceOf_29 (by decide) (by decide) ?_
  exact zs_goto C dX12_sliceOf_32 (by decide) (j6)
def xX12_sliceOf_6 (J6 : zq_P) (Q : zq_Q) (ls : zq_L) (st : List Value) (h : zq_H) : Prop := (zi_iload 5 (zi_iload 3 (zi_if2 (fun x y => y < x) (xX12_sliceOf_35 J6 Q) (xX12_sliceOf_12 J6 Q)))) ls st h
theorem kX12_sliceOf_6 {X : zq_X} {d : Nat} (C : zq_C X cX12_sliceOf 6 RX12 d) {J6 : zq_P} (j6 : zq_ok X 6 6 J6) {Q : zq_Q} (hq : zq_R X (some .int) 1 Q) : zq_ok X 6 6 (xX12_sliceOf_6 J6 Q) := by
  refine zs_iload C dX12_sliceOf_6 ?_
  refine zs_iload_n C dX12_sliceOf_8 rfl ?_
  exact zs_icmp_gt C dX12_sliceOf_9 (by decide) (kX12_sliceOf_35 C j6 hq) (kX12_sliceOf_12 C j6 hq)
def xX12_sliceOf_0 (J6 : zq_P) (Q : zq_Q) (ls : zq_L) (st : List Value) (h : zq_H) : Prop := (zi_push (.int 0) (zi_istore 4 (zi_iload 2 (zi_istore 5 (J6))))) ls st h
theorem kX12_sliceOf_0 {X : zq_X} {d : Nat} (C : zq_C X cX12_sliceOf 6 RX12 d) {J6 : zq_P} (j6 : zq_ok X 6 6 J6) {Q : zq_Q} (hq : zq_R X (some .int) 1 Q) : zq_ok X 6 0 (xX12_sliceOf_0 J6 Q) := by
  refine zs_iconst C dX12_sliceOf_0 (by decide) ?_
  refine zs_istore C dX12_sliceOf_1 (by decide) ?_
  refine zs_iload_n C dX12_sliceOf_3 rfl ?_
  refine zs_istore C dX12_sliceOf_4 (by decide) ?_
  exact j6
theorem mX12_sliceOf {d : Nat} {spec : zq_Sp} {σ6 : Type} (μ6 : σ6 → Nat) (I6 : zq_Q → σ6 → zq_P) (v : ∀ args h Q, spec args h Q → (zq_a args).length ≤ 6 ∧ xX12_sliceOf_0 (fun ls st h => ∃ b, I6 Q b ls st h) Q (zq_l0 6 args) [] h) (v6 : ∀ Q a ls st h, I6 Q a ls st h → xX12_sliceOf_6 (fun ls st h => ∃ b, μ6 b < μ6 a ∧ I6 Q b ls st h) Q ls st h) : zq_M yX12_sliceOf cX12_sliceOf 6 (some .int) 1 d spec := by
  refine zq_met (by decide +kernel) (by decide) (fun X Q args h C hq hs => ⟨(v args h Q hs).1, _, ?_, (v args h Q hs).2⟩)
  have hl := zq_loop1 (X := X) (nL := 6) (pc1 := 6) μ6 (I6 Q) (fun J6 => xX12_sliceOf_6 J6 Q) (fun j6 => kX12_sliceOf_6 C j6 hq) (v6 Q)
  exact kX12_sliceOf_0 C hl hq
/-! ToOneCrumbModel.richest(II)I -/
theorem dX12_richest_0 : decode cX12_richest 0 = .ok (.aload_n 0, 1) := by decide +kernel
theorem dX12_richest_1 : decode cX12_richest 1 = .ok (.iconst 0, 1) := by decide +kernel
theorem dX12_richest_2 : decode cX12_richest 2 = .ok (.putfield 147, 3) := by decide +kernel
theorem dX12_richest_5 : decode cX12_richest 5 = .ok (.aload_n 0, 1) := by decide +kernel
theorem dX12_richest_6 : decode cX12_richest 6 = .ok (.iload_n 1, 1) := by decide +kernel
theorem dX12_richest_7 : decode cX12_richest 7 = .ok (.invokevirtual 313, 3) := by decide +kernel
theorem dX12_richest_10 : decode cX12_richest 10 = .ok (.ifCond .eq 17, 3) := by decide +kernel
theorem dX12_richest_13 : decode cX12_richest 13 = .ok (.iload_n 2, 1) := by decide +kernel
theorem dX12_richest_14 : decode cX12_richest 14 = .ok (.i2l, 1) := by decide +kernel
theorem dX12_richest_15 : decode cX12_richest 15 = .ok (.lconst 1, 1) := by decide +kernel
theorem dX12_richest_16 : decode cX12_richest 16 = .ok (.aload_n 0, 1) := by decide +kernel
theorem dX12_richest_17 : decode cX12_richest 17 = .ok (.getfield 158, 3) := by decide +kernel
theorem dX12_richest_20 : decode cX12_richest 20 = .ok (.i2l, 1) := by decide +kernel
theorem dX12_richest_21 : decode cX12_richest 21 = .ok (.invokestatic 161, 3) := by decide +kernel
theorem dX12_richest_24 : decode cX12_richest 24 = .ok (.ifCond .ne 5, 3) := by decide +kernel
theorem dX12_richest_27 : decode cX12_richest 27 = .ok (.iconst (-1), 1) := by decide +kernel
theorem dX12_richest_28 : decode cX12_richest 28 = .ok (.ireturn, 1) := by decide +kernel
theorem dX12_richest_29 : decode cX12_richest 29 = .ok (.aload_n 0, 1) := by decide +kernel
theorem dX12_richest_30 : decode cX12_richest 30 = .ok (.invokevirtual 318, 3) := by decide +kernel
theorem dX12_richest_33 : decode cX12_richest 33 = .ok (.iconst 0, 1) := by decide +kernel
theorem dX12_richest_34 : decode cX12_richest 34 = .ok (.istore_n 3, 1) := by decide +kernel
theorem dX12_richest_35 : decode cX12_richest 35 = .ok (.iconst 1, 1) := by decide +kernel
theorem dX12_richest_36 : decode cX12_richest 36 = .ok (.istore 4, 2) := by decide +kernel
theorem dX12_richest_38 : decode cX12_richest 38 = .ok (.iload 4, 2) := by decide +kernel
theorem dX12_richest_40 : decode cX12_richest 40 = .ok (.iload_n 2, 1) := by decide +kernel
theorem dX12_richest_41 : decode cX12_richest 41 = .ok (.iadd, 1) := by decide +kernel
theorem dX12_richest_42 : decode cX12_richest 42 = .ok (.aload_n 0, 1) := by decide +kernel
theorem dX12_richest_43 : decode cX12_richest 43 = .ok (.getfield 158, 3) := by decide +kernel
theorem dX12_richest_46 : decode cX12_richest 46 = .ok (.if_icmp .gt 43, 3) := by decide +kernel
theorem dX12_richest_49 : decode cX12_richest 49 = .ok (.aload_n 0, 1) := by decide +kernel
theorem dX12_richest_50 : decode cX12_richest 50 = .ok (.iload_n 1, 1) := by decide +kernel
theorem dX12_richest_51 : decode cX12_richest 51 = .ok (.iload 4, 2) := by decide +kernel
theorem dX12_richest_53 : decode cX12_richest 53 = .ok (.iload 4, 2) := by decide +kernel
theorem dX12_richest_55 : decode cX12_richest 55 = .ok (.iload_n 2, 1) := by decide +kernel
theorem dX12_richest_56 : decode cX12_richest 56 = .ok (.iadd, 1) := by decide +kernel
theorem dX12_richest_57 : decode cX12_richest 57 = .ok (.iconst 1, 1) := by decide +kernel
theorem dX12_richest_58 : decode cX12_richest 58 = .ok (.isub, 1) := by decide +kernel
theorem dX12_richest_59 : decode cX12_richest 59 = .ok (.invokevirtual 398, 3) := by decide +kernel
theorem dX12_richest_62 : decode cX12_richest 62 = .ok (.aload_n 0, 1) := by decide +kernel
theorem dX12_richest_63 : decode cX12_richest 63 = .ok (.iload_n 1, 1) := by decide +kernel
theorem dX12_richest_64 : decode cX12_richest 64 = .ok (.iload_n 3, 1) := by decide +kernel
theorem dX12_richest_65 : decode cX12_richest 65 = .ok (.iload_n 3, 1) := by decide +kernel
theorem dX12_richest_66 : decode cX12_richest 66 = .ok (.iload_n 2, 1) := by decide +kernel
theorem dX12_richest_67 : decode cX12_richest 67 = .ok (.iadd, 1) := by decide +kernel
theorem dX12_richest_68 : decode cX12_richest 68 = .ok (.iconst 1, 1) := by decide +kernel
theorem dX12_richest_69 : decode cX12_richest 69 = .ok (.isub, 1) := by decide +kernel
theorem dX12_richest_70 : decode cX12_richest 70 = .ok (.invokevirtual 398, 3) := by decide +kernel
theorem dX12_richest_73 : decode cX12_richest 73 = .ok (.if_icmp .le 8, 3) := by decide +kernel
theorem dX12_richest_76 : decode cX12_richest 76 = .ok (.iload 4, 2) := by decide +kernel
theorem dX12_richest_78 : decode cX12_richest 78 = .ok (.goto 4, 3) := by decide +kernel
theorem dX12_richest_81 : decode cX12_richest 81 = .ok (.iload_n 3, 1) := by decide +kernel
theorem dX12_richest_82 : decode cX12_richest 82 = .ok (.istore_n 3, 1) := by decide +kernel
theorem dX12_richest_83 : decode cX12_richest 83 = .ok (.iinc 4 1, 3) := by decide +kernel
theorem dX12_richest_86 : decode cX12_richest 86 = .ok (.goto (-48), 3) := by decide +kernel
theorem dX12_richest_89 : decode cX12_richest 89 = .ok (.aload_n 0, 1) := by decide +kernel
theorem dX12_richest_90 : decode cX12_richest 90 = .ok (.iconst 0, 1) := by decide +kernel
theorem dX12_richest_91 : decode cX12_richest 91 = .ok (.putfield 155, 3) := by decide +kernel
theorem dX12_richest_94 : decode cX12_richest 94 = .ok (.aload_n 0, 1) := by decide +kernel
theorem dX12_richest_95 : decode cX12_richest 95 = .ok (.aload_n 0, 1) := by decide +kernel
theorem dX12_richest_96 : decode cX12_richest 96 = .ok (.iload_n 1, 1) := by decide +kernel
theorem dX12_richest_97 : decode cX12_richest 97 = .ok (.iload_n 3, 1) := by decide +kernel
theorem dX12_richest_98 : decode cX12_richest 98 = .ok (.iload_n 3, 1) := by decide +kernel
theorem dX12_richest_99 : decode cX12_richest 99 = .ok (.iload_n 2, 1) := by decide +kernel
theorem dX12_richest_100 : decode cX12_richest 100 = .ok (.iadd, 1) := by decide +kernel
theorem dX12_richest_101 : decode cX12_richest 101 = .ok (.iconst 1, 1) := by decide +kernel
theorem dX12_richest_102 : decode cX12_richest 102 = .ok (.isub, 1) := by decide +kernel
theorem dX12_richest_103 : decode cX12_richest 103 = .ok (.invokevirtual 398, 3) := by decide +kernel
theorem dX12_richest_106 : decode cX12_richest 106 = .ok (.i2l, 1) := by decide +kernel
theorem dX12_richest_107 : decode cX12_richest 107 = .ok (.invokevirtual 368, 3) := by decide +kernel
theorem dX12_richest_110 : decode cX12_richest 110 = .ok (.iload_n 3, 1) := by decide +kernel
theorem dX12_richest_111 : decode cX12_richest 111 = .ok (.ireturn, 1) := by decide +kernel
def xX12_richest_89 (s_X12_isGuest : zq_Sp) (s_X12_in : zq_Sp) (s_X12_laysTable : zq_Sp) (s_X12_sliceOf : zq_Sp) (s_X12_enters : zq_Sp) (J38 : zq_P) (Q : zq_Q) (ls : zq_L) (st : List Value) (h : zq_H) : Prop := (zi_aload 0 (zi_push (.int 0) (zi_putI 56 1 (zi_aload 0 (zi_aload 0 (zi_iload 1 (zi_iload 3 (zi_iload 3 (zi_iload 2 (zi_i2 (fun x y => x + y) (zi_push (.int 1) (zi_i2 (fun x y => x - y) (zi_callV 3 56 s_X12_sliceOf (zi_i2l (zi_callV 1 56 s_X12_enters (zi_iload 3 (zi_iret Q))))))))))))))))) ls st h
theorem kX12_richest_89 {X : zq_X} {d : Nat} (C : zq_C X cX12_richest 5 RX12 d) {d_X12_isGuest : Nat} {s_X12_isGuest : zq_Sp} (h_X12_isGuest : zq_M yX12_isGuest cX12_isGuest 2 (some .boolean) 1 d_X12_isGuest s_X12_isGuest) (g_X12_isGuest : d_X12_isGuest + 1 ≤ d) {d_X12_in : Nat} {s_X12_in : zq_Sp} (h_X12_in : zq_M yX12_in cX12_in 6 (some .boolean) 1 d_X12_in s_X12_in) (g_X12_in : d_X12_in + 1 ≤ d) {d_X12_laysTable : Nat} {s_X12_laysTable : zq_Sp} (h_X12_laysTable : zq_M yX12_laysTable cX12_laysTable 3 none 0 d_X12_laysTable s_X12_laysTable) (g_X12_laysTable : d_X12_laysTable + 1 ≤ d) {d_X12_sliceOf : Nat} {s_X12_sliceOf : zq_Sp} (h_X12_sliceOf : zq_M yX12_sliceOf cX12_sliceOf 6 (some .int) 1 d_X12_sliceOf s_X12_sliceOf) (g_X12_sliceOf : d_X12_sliceOf + 1 ≤ d) {d_X12_enters : Nat} {s_X12_enters : zq_Sp} (h_X12_enters : zq_M yX12_enters cX12_enters 3 none 0 d_X12_enters s_X12_enters) (g_X12_enters : d_X12_enters + 1 ≤ d) {J38 : zq_P} (j38 : zq_ok X 5 38 J38) {Q : zq_Q} (hq : zq_R X (some .int) 1 Q) : zq_ok X 5 89 (xX12_richest_89 s_X12_isGuest s_X12_in s_X12_laysTable s_X12_sliceOf s_X12_enters J38 Q) := by
  refine zs_aload_n C dX12_richest_89 rfl ?_
  refine zs_iconst C dX12_richest_90 (by decide) ?_
  refine zs_putI C zp_56 zF12 (j := 1) ⟨by decide, rfl⟩ ⟨rfl, by decide +kernel⟩ zw_1097 dX12_richest_91 ?_
  refine zs_aload_n C dX12_richest_94 rfl ?_
  refine zs_aload_n C dX12_richest_95 rfl ?_
  refine zs_iload_n C dX12_richest_96 rfl ?_
  refine zs_iload_n C dX12_richest_97 rfl ?_
  refine zs_iload_n C dX12_richest_98 rfl ?_
  refine zs_iload_n C dX12_richest_99 rfl ?_
  refine zs_iadd C dX12_richest_100 ?_
  refine zs_iconst C dX12_richest_101 (by decide) ?_
  refine zs_isub C dX12_richest_102 ?_
  refine zs_callV C h_X12_sliceOf g_X12_sliceOf zy_X12_sliceOf zp_56 (show vwCl[12]? = some (RX12, TX12, 67) from rfl) zw_1645 zw_1647 zs9_X12_sliceOf dX12_richest_103 ?_
  refine zs_i2l C dX12_richest_106 ?_
  refine zs_callV C h_X12_enters g_X12_enters zy_X12_enters zp_56 (show vwCl[12]? = some (RX12, TX12, 67) from rfl) zw_1574 zw_1576 zs9_X12_enters dX12_richest_107 ?_
  refine zs_iload_n C dX12_richest_110 rfl ?_
  exact zs_iret C hq dX12_richest_111
def xX12_richest_82 (s_X12_isGuest : zq_Sp) (s_X12_in : zq_Sp) (s_X12_laysTable : zq_Sp) (s_X12_sliceOf : zq_Sp) (s_X12_enters : zq_Sp) (J38 : zq_P) (Q : zq_Q) (ls : zq_L) (st : List Value) (h : zq_H) : Prop := (zi_istore 3 (zi_iinc 4 1 (J38))) ls st h
theorem kX12_richest_82 {X : zq_X} {d : Nat} (C : zq_C X cX12_richest 5 RX12 d) {d_X12_isGuest : Nat} {s_X12_isGuest : zq_Sp} (h_X12_isGuest : zq_M yX12_isGuest cX12_isGuest 2 (some .boolean) 1 d_X12_isGuest s_X12_isGuest) (g_X12_isGuest : d_X12_isGuest + 1 ≤ d) {d_X12_in : Nat} {s_X12_in : zq_Sp} (h_X12_in : zq_M yX12_in cX12_in 6 (some .boolean) 1 d_X12_in s_X12_in) (g_X12_in : d_X12_in + 1 ≤ d) {d_X12_laysTable : Nat} {s_X12_laysTable : zq_Sp} (h_X12_laysTable : zq_M yX12_laysTable cX12_laysTable 3 none 0 d_X12_laysTable s_X12_laysTable) (g_X12_laysTable : d_X12_laysTable + 1 ≤ d) {d_X12_sliceOf : Nat} {s_X12_sliceOf : zq_Sp} (h_X12_sliceOf : zq_M yX12_sliceOf cX12_sliceOf 6 (some .int) 1 d_X12_sliceOf s_X12_sliceOf) (g_X12_sliceOf : d_X12_sliceOf + 1 ≤ d) {d_X12_enters : Nat} {s_X12_enters : zq_Sp} (h_X12_enters : zq_M yX12_enters cX12_enters 3 none 0 d_X12_enters s_X12_enters) (g_X12_enters : d_X12_enters + 1 ≤ d) {J38 : zq_P} (j38 : zq_ok X 5 38 J38) {Q : zq_Q} (hq : zq_R X (some .int) 1 Q) : zq_ok X 5 82 (xX12_richest_82 s_X12_isGuest s_X12_in s_X12_laysTable s_X12_sliceOf s_X12_enters J38 Q) := by
  refine zs_istore_n C dX12_richest_82 rfl (by decide) ?_
  refine zs_iinc C dX12_richest_83 (by decide) (by decide) ?_
  exact zs_goto C dX12_richest_86 (by decide) (j38)
def xX12_richest_81 (s_X12_isGuest : zq_Sp) (s_X12_in : zq_Sp) (s_X12_laysTable : zq_Sp) (s_X12_sliceOf : zq_Sp) (s_X12_enters : zq_Sp) (J38 : zq_P) (Q : zq_Q) (ls : zq_L) (st : List Value) (h : zq_H) : Prop := (zi_iload 3 ((xX12_richest_82 s_X12_isGuest s_X12_in s_X12_laysTable s_X12_sliceOf s_X12_enters J38 Q))) ls st h
theorem kX12_richest_81 {X : zq_X} {d : Nat} (C : zq_C X cX12_richest 5 RX12 d) {d_X12_isGuest : Nat} {s_X12_isGuest : zq_Sp} (h_X12_isGuest : zq_M yX12_isGuest cX12_isGuest 2 (some .boolean) 1 d_X12_isGuest s_X12_isGuest) (g_X12_isGuest : d_X12_isGuest + 1 ≤ d) {d_X12_in : Nat} {s_X12_in : zq_Sp} (h_X12_in : zq_M yX12_in cX12_in 6 (some .boolean) 1 d_X12_in s_X12_in) (g_X12_in : d_X12_in + 1 ≤ d) {d_X12_laysTable : Nat} {s_X12_laysTable : zq_Sp} (h_X12_laysTable : zq_M yX12_laysTable cX12_laysTable 3 none 0 d_X12_laysTable s_X12_laysTable) (g_X12_laysTable : d_X12_laysTable + 1 ≤ d) {d_X12_sliceOf : Nat} {s_X12_sliceOf : zq_Sp} (h_X12_sliceOf : zq_M yX12_sliceOf cX12_sliceOf 6 (some .int) 1 d_X12_sliceOf s_X12_sliceOf) (g_X12_sliceOf : d_X12_sliceOf + 1 ≤ d) {d_X12_enters : Nat} {s_X12_enters : zq_Sp} (h_X12_enters : zq_M yX12_enters cX12_enters 3 none 0 d_X12_enters s_X12_enters) (g_X12_enters : d_X12_enters + 1 ≤ d) {J38 : zq_P} (j38 : zq_ok X 5 38 J38) {Q : zq_Q} (hq : zq_R X (some .int) 1 Q) : zq_ok X 5 81 (xX12_richest_81 s_X12_isGuest s_X12_in s_X12_laysTable s_X12_sliceOf s_X12_enters J38 Q) := by
  refine zs_iload_n C dX12_richest_81 rfl ?_
  exact kX12_richest_82 C h_X12_isGuest g_X12_isGuest h_X12_in g_X12_in h_X12_laysTable g_X12_laysTable h_X12_sliceOf g_X12_sliceOf h_X12_enters g_X12_enters j38 hq
def xX12_richest_76 (s_X12_isGuest : zq_Sp) (s_X12_in : zq_Sp) (s_X12_laysTable : zq_Sp) (s_X12_sliceOf : zq_Sp) (s_X12_enters : zq_Sp) (J38 : zq_P) (Q : zq_Q) (ls : zq_L) (st : List Value) (h : zq_H) : Prop := (zi_iload 4 ((xX12_richest_82 s_X12_isGuest s_X12_in s_X12_laysTable s_X12_sliceOf s_X12_enters J38 Q))) ls st h
theorem kX12_richest_76 {X : zq_X} {d : Nat} (C : zq_C X cX12_richest 5 RX12 d) {d_X12_isGuest : Nat} {s_X12_isGuest : zq_Sp} (h_X12_isGuest : zq_M yX12_isGuest cX12_isGuest 2 (some .boolean) 1 d_X12_isGuest s_X12_isGuest) (g_X12_isGuest : d_X12_isGuest + 1 ≤ d) {d_X12_in : Nat} {s_X12_in : zq_Sp} (h_X12_in : zq_M yX12_in cX12_in 6 (some .boolean) 1 d_X12_in s_X12_in) (g_X12_in : d_X12_in + 1 ≤ d) {d_X12_laysTable : Nat} {s_X12_laysTable : zq_Sp} (h_X12_laysTable : zq_M yX12_laysTable cX12_laysTable 3 none 0 d_X12_laysTable s_X12_laysTable) (g_X12_laysTable : d_X12_laysTable + 1 ≤ d) {d_X12_sliceOf : Nat} {s_X12_sliceOf : zq_Sp} (h_X12_sliceOf : zq_M yX12_sliceOf cX12_sliceOf 6 (some .int) 1 d_X12_sliceOf s_X12_sliceOf) (g_X12_sliceOf : d_X12_sliceOf + 1 ≤ d) {d_X12_enters : Nat} {s_X12_enters : zq_Sp} (h_X12_enters : zq_M yX12_enters cX12_enters 3 none 0 d_X12_enters s_X12_enters) (g_X12_enters : d_X12_enters + 1 ≤ d) {J38 : zq_P} (j38 : zq_ok X 5 38 J38) {Q : zq_Q} (hq : zq_R X (some .int) 1 Q) : zq_ok X 5 76 (xX12_richest_76 s_X12_isGuest s_X12_in s_X12_laysTable s_X12_sliceOf s_X12_enters J38 Q) := by
  refine zs_iload C dX12_richest_76 ?_
  exact zs_goto C dX12_richest_78 (by decide) (kX12_richest_82 C h_X12_isGuest g_X12_isGuest h_X12_in g_X12_in h_X12_laysTable g_X12_laysTable h_X12_sliceOf g_X12_sliceOf h_X12_enters g_X12_enters j38 hq)
def xX12_richest_49 (s_X12_isGuest : zq_Sp) (s_X12_in : zq_Sp) (s_X12_laysTable : zq_Sp) (s_X12_sliceOf : zq_Sp) (s_X12_enters : zq_Sp) (J38 : zq_P) (Q : zq_Q) (ls : zq_L) (st : List Value) (h : zq_H) : Prop := (zi_aload 0 (zi_iload 1 (zi_iload 4 (zi_iload 4 (zi_iload 2 (zi_i2 (fun x y => x + y) (zi_push (.int 1) (zi_i2 (fun x y => x - y) (zi_callV 3 56 s_X12_sliceOf (zi_aload 0 (zi_iload 1 (zi_iload 3 (zi_iload 3 (zi_iload 2 (zi_i2 (fun x y => x + y) (zi_push (.int 1) (zi_i2 (fun x y => x - y) (zi_callV 3 56 s_X12_sliceOf (zi_if2 (fun x y => x ≤ y) (xX12_richest_81 s_X12_isGuest s_X12_in s_X12_laysTable s_X12_sliceOf s_X12_enters J38 Q) (xX12_richest_76 s_X12_isGuest s_X12_in s_X12_laysTable s_X12_sliceOf s_X12_enters J38 Q)))))))))))))))))))) ls st h
theorem kX12_richest_49 {X : zq_X} {d : Nat} (C : zq_C X cX12_richest 5 RX12 d) {d_X12_isGuest : Nat} {s_X12_isGuest : zq_Sp} (h_X12_isGuest : zq_M yX12_isGuest cX12_isGuest 2 (some .boolean) 1 d_X12_isGuest s_X12_isGuest) (g_X12_isGuest : d_X12_isGuest + 1 ≤ d) {d_X12_in : Nat} {s_X12_in : zq_Sp} (h_X12_in : zq_M yX12_in cX12_in 6 (some .boolean) 1 d_X12_in s_X12_in) (g_X12_in : d_X12_in + 1 ≤ d) {d_X12_laysTable : Nat} {s_X12_laysTable : zq_Sp} (h_X12_laysTable : zq_M yX12_laysTable cX12_laysTable 3 none 0 d_X12_laysTable s_X12_laysTable) (g_X12_laysTable : d_X12_laysTable + 1 ≤ d) {d_X12_sliceOf : Nat} {s_X12_sliceOf : zq_Sp} (h_X12_sliceOf : zq_M yX12_sliceOf cX12_sliceOf 6 (some .int) 1 d_X12_sliceOf s_X12_sliceOf) (g_X12_sliceOf : d_X12_sliceOf + 1 ≤ d) {d_X12_enters : Nat} {s_X12_enters : zq_Sp} (h_X12_enters : zq_M yX12_enters cX12_enters 3 none 0 d_X12_enters s_X12_enters) (g_X12_enters : d_X12_enters + 1 ≤ d) {J38 : zq_P} (j38 : zq_ok X 5 38 J38) {Q : zq_Q} (hq : zq_R X (some .int) 1 Q) : zq_ok X 5 49 (xX12_richest_49 s_X12_isGuest s_X12_in s_X12_laysTable s_X12_sliceOf s_X12_enters J38 Q) := by
  refine zs_aload_n C dX12_richest_49 rfl ?_
  refine zs_iload_n C dX12_richest_50 rfl ?_
  refine zs_iload C dX12_richest_51 ?_
  refine zs_iload C dX12_richest_53 ?_
  refine zs_iload_n C dX12_richest_55 rfl ?_
  refine zs_iadd C dX12_richest_56 ?_
  refine zs_iconst C dX12_richest_57 (by decide) ?_
  refine zs_isub C dX12_richest_58 ?_
  refine zs_callV C h_X12_sliceOf g_X12_sliceOf zy_X12_sliceOf zp_56 (show vwCl[12]? = some (RX12, TX12, 67) from rfl) zw_1645 zw_1647 zs9_X12_sliceOf dX12_richest_59 ?_
  refine zs_aload_n C dX12_richest_62 rfl ?_
  refine zs_iload_n C dX12_richest_63 rfl ?_
  refine zs_iload_n C dX12_richest_64 rfl ?_
  refine zs_iload_n C dX12_richest_65 rfl ?_
  refine zs_iload_n C dX12_richest_66 rfl ?_
  refine zs_iadd C dX12_richest_67 ?_
  refine zs_iconst C dX12_richest_68 (by decide) ?_
  refine zs_isub C dX12_richest_69 ?_
  refine zs_callV C h_X12_sliceOf g_X12_sliceOf zy_X12_sliceOf zp_56 (show vwCl[12]? = some (RX12, TX12, 67) from rfl) zw_1645 zw_1647 zs9_X12_sliceOf dX12_richest_70 ?_
  exact zs_icmp_le C dX12_richest_73 (by decide) (kX12_richest_81 C h_X12_isGuest g_X12_isGuest h_X12_in g_X12_in h_X12_laysTable g_X12_laysTable h_X12_sliceOf g_X12_sliceOf h_X12_enters g_X12_enters j38 hq) (kX12_richest_76 C h_X12_isGuest g_X12_isGuest h_X12_in g_X12_in h_X12_laysTable g_X12_laysTable h_X12_sliceOf g_X12_sliceOf h_X12_enters g_X12_enters j38 hq)
def xX12_richest_38 (s_X12_isGuest : zq_Sp) (s_X12_in : zq_Sp) (s_X12_laysTable : zq_Sp) (s_X12_sliceOf : zq_Sp) (s_X12_enters : zq_Sp) (J38 : zq_P) (Q : zq_Q) (ls : zq_L) (st : List Value) (h : zq_H) : Prop := (zi_iload 4 (zi_iload 2 (zi_i2 (fun x y => x + y) (zi_aload 0 (zi_getI 56 3 (zi_if2 (fun x y => y < x) (xX12_richest_89 s_X12_isGuest s_X12_in s_X12_laysTable s_X12_sliceOf s_X12_enters J38 Q) (xX12_richest_49 s_X12_isGuest s_X12_in s_X12_laysTable s_X12_sliceOf s_X12_enters J38 Q))))))) ls st h
theorem kX12_richest_38 {X : zq_X} {d : Nat} (C : zq_C X cX12_richest 5 RX12 d) {d_X12_isGuest : Nat} {s_X12_isGuest : zq_Sp} (h_X12_isGuest : zq_M yX12_isGuest cX12_isGuest 2 (some .boolean) 1 d_X12_isGuest s_X12_isGuest) (g_X12_isGuest : d_X12_isGuest + 1 ≤ d) {d_X12_in : Nat} {s_X12_in : zq_Sp} (h_X12_in : zq_M yX12_in cX12_in 6 (some .boolean) 1 d_X12_in s_X12_in) (g_X12_in : d_X12_in + 1 ≤ d) {d_X12_laysTable : Nat} {s_X12_laysTable : zq_Sp} (h_X12_laysTable : zq_M yX12_laysTable cX12_laysTable 3 none 0 d_X12_laysTable s_X12_laysTable) (g_X12_laysTable : d_X12_laysTable + 1 ≤ d) {d_X12_sliceOf : Nat} {s_X12_sliceOf : zq_Sp} (h_X12_sliceOf : zq_M yX12_sliceOf cX12_sliceOf 6 (some .int) 1 d_X12_sliceOf s_X12_sliceOf) (g_X12_sliceOf : d_X12_sliceOf + 1 ≤ d) {d_X12_enters : Nat} {s_X12_enters : zq_Sp} (h_X12_enters : zq_M yX12_enters cX12_enters 3 none 0 d_X12_enters s_X12_enters) (g_X12_enters : d_X12_enters + 1 ≤ d) {J38 : zq_P} (j38 : zq_ok X 5 38 J38) {Q : zq_Q} (hq : zq_R X (some .int) 1 Q) : zq_ok X 5 38 (xX12_richest_38 s_X12_isGuest s_X12_in s_X12_laysTable s_X12_sliceOf s_X12_enters J38 Q) := by
  refine zs_iload C dX12_richest_38 ?_
  refine zs_iload_n C dX12_richest_40 rfl ?_
  refine zs_iadd C dX12_richest_41 ?_
  refine zs_aload_n C dX12_richest_42 rfl ?_
  refine zs_getI C zp_56 zF12 (j := 3) ⟨by decide, rfl⟩ zw_1099 dX12_richest_43 ?_
  exact zs_icmp_gt C dX12_richest_46 (by decide) (kX12_richest_89 C h_X12_isGuest g_X12_isGuest h_X12_in g_X12_in h_X12_laysTable g_X12_laysTable h_X12_sliceOf g_X12_sliceOf h_X12_enters g_X12_enters j38 hq) (kX12_richest_49 C h_X12_isGuest g_X12_isGuest h_X12_in g_X12_in h_X12_laysTable g_X12_laysTable h_X12_sliceOf g_X12_sliceOf h_X12_enters g_X12_enters j38 hq)
def xX12_richest_29 (s_X12_isGuest : zq_Sp) (s_X12_in : zq_Sp) (s_X12_laysTable : zq_Sp) (s_X12_sliceOf : zq_Sp) (s_X12_enters : zq_Sp) (J38 : zq_P) (Q : zq_Q) (ls : zq_L) (st : List Value) (h : zq_H) : Prop := (zi_aload 0 (zi_callV 0 56 s_X12_laysTable (zi_push (.int 0) (zi_istore 3 (zi_push (.int 1) (zi_istore 4 (J38))))))) ls st h
theorem kX12_richest_29 {X : zq_X} {d : Nat} (C : zq_C X cX12_richest 5 RX12 d) {d_X12_isGuest : Nat} {s_X12_isGuest : zq_Sp} (h_X12_isGuest : zq_M yX12_isGuest cX12_isGuest 2 (some .boolean) 1 d_X12_isGuest s_X12_isGuest) (g_X12_isGuest : d_X12_isGuest + 1 ≤ d) {d_X12_in : Nat} {s_X12_in : zq_Sp} (h_X12_in : zq_M yX12_in cX12_in 6 (some .boolean) 1 d_X12_in s_X12_in) (g_X12_in : d_X12_in + 1 ≤ d) {d_X12_laysTable : Nat} {s_X12_laysTable : zq_Sp} (h_X12_laysTable : zq_M yX12_laysTable cX12_laysTable 3 none 0 d_X12_laysTable s_X12_laysTable) (g_X12_laysTable : d_X12_laysTable + 1 ≤ d) {d_X12_sliceOf : Nat} {s_X12_sliceOf : zq_Sp} (h_X12_sliceOf : zq_M yX12_sliceOf cX12_sliceOf 6 (some .int) 1 d_X12_sliceOf s_X12_sliceOf) (g_X12_sliceOf : d_X12_sliceOf + 1 ≤ d) {d_X12_enters : Nat} {s_X12_enters : zq_Sp} (h_X12_enters : zq_M yX12_enters cX12_enters 3 none 0 d_X12_enters s_X12_enters) (g_X12_enters : d_X12_enters + 1 ≤ d) {J38 : zq_P} (j38 : zq_ok X 5 38 J38) {Q : zq_Q} (hq : zq_R X (some .int) 1 Q) : zq_ok X 5 29 (xX12_richest_29 s_X12_isGuest s_X12_in s_X12_laysTable s_X12_sliceOf s_X12_enters J38 Q) := by
  refine zs_aload_n C dX12_richest_29 rfl ?_
  refine zs_callV C h_X12_laysTable g_X12_laysTable zy_X12_laysTable zp_56 (show vwCl[12]? = some (RX12, TX12, 67) from rfl) zw_1471 zw_1473 zs9_X12_laysTable dX12_richest_30 ?_
  refine zs_iconst C dX12_richest_33 (by decide) ?_
  refine zs_istore_n C dX12_richest_34 rfl (by decide) ?_
  refine zs_iconst C dX12_richest_35 (by decide) ?_
  refine zs_istore C dX12_richest_36 (by decide) ?_
  exact j38
def xX12_richest_27 (s_X12_isGuest : zq_Sp) (s_X12_in : zq_Sp) (s_X12_laysTable : zq_Sp) (s_X12_sliceOf : zq_Sp) (s_X12_enters : zq_Sp) (J38 : zq_P) (Q : zq_Q) (ls : zq_L) (st : List Value) (h : zq_H) : Prop := (zi_push (.int (-1)) (zi_iret Q)) ls st h
theorem kX12_richest_27 {X : zq_X} {d : Nat} (C : zq_C X cX12_richest 5 RX12 d) {d_X12_isGuest : Nat} {s_X12_isGuest : zq_Sp} (h_X12_isGuest : zq_M yX12_isGuest cX12_isGuest 2 (some .boolean) 1 d_X12_isGuest s_X12_isGuest) (g_X12_isGuest : d_X12_isGuest + 1 ≤ d) {d_X12_in : Nat} {s_X12_in : zq_Sp} (h_X12_in : zq_M yX12_in cX12_in 6 (some .boolean) 1 d_X12_in s_X12_in) (g_X12_in : d_X12_in + 1 ≤ d) {d_X12_laysTable : Nat} {s_X12_laysTable : zq_Sp} (h_X12_laysTable : zq_M yX12_laysTable cX12_laysTable 3 none 0 d_X12_laysTable s_X12_laysTable) (g_X12_laysTable : d_X12_laysTable + 1 ≤ d) {d_X12_sliceOf : Nat} {s_X12_sliceOf : zq_Sp} (h_X12_sliceOf : zq_M yX12_sliceOf cX12_sliceOf 6 (some .int) 1 d_X12_sliceOf s_X12_sliceOf) (g_X12_sliceOf : d_X12_sliceOf + 1 ≤ d) {d_X12_enters : Nat} {s_X12_enters : zq_Sp} (h_X12_enters : zq_M yX12_enters cX12_enters 3 none 0 d_X12_enters s_X12_enters) (g_X12_enters : d_X12_enters + 1 ≤ d) {J38 : zq_P} (j38 : zq_ok X 5 38 J38) {Q : zq_Q} (hq : zq_R X (some .int) 1 Q) : zq_ok X 5 27 (xX12_richest_27 s_X12_isGuest s_X12_in s_X12_laysTable s_X12_sliceOf s_X12_enters J38 Q) := by
  refine zs_iconst C dX12_richest_27 (by decide) ?_
  exact zs_iret C hq dX12_richest_28
def xX12_richest_13 (s_X12_isGuest : zq_Sp) (s_X12_in : zq_Sp) (s_X12_laysTable : zq_Sp) (s_X12_sliceOf : zq_Sp) (s_X12_enters : zq_Sp) (J38 : zq_P) (Q : zq_Q) (ls : zq_L) (st : List Value) (h : zq_H) : Prop := (zi_iload 2 (zi_i2l (zi_push (.long 1) (zi_aload 0 (zi_getI 56 3 (zi_i2l (zi_callS 3 s_X12_in (zi_if1 (fun x => x = 0) (xX12_richest_27 s_X12_isGuest s_X12_in s_X12_laysTable s_X12_sliceOf s_X12_enters J38 Q) (xX12_richest_29 s_X12_isGuest s_X12_in s_X12_laysTable s_X12_sliceOf s_X12_enters J38 Q))))))))) ls st h
theorem kX12_richest_13 {X : zq_X} {d : Nat} (C : zq_C X cX12_richest 5 RX12 d) {d_X12_isGuest : Nat} {s_X12_isGuest : zq_Sp} (h_X12_isGuest : zq_M yX12_isGuest cX12_isGuest 2 (some .boolean) 1 d_X12_isGuest s_X12_isGuest) (g_X12_isGuest : d_X12_isGuest + 1 ≤ d) {d_X12_in : Nat} {s_X12_in : zq_Sp} (h_X12_in : zq_M yX12_in cX12_in 6 (some .boolean) 1 d_X12_in s_X12_in) (g_X12_in : d_X12_in + 1 ≤ d) {d_X12_laysTable : Nat} {s_X12_laysTable : zq_Sp} (h_X12_laysTable : zq_M yX12_laysTable cX12_laysTable 3 none 0 d_X12_laysTable s_X12_laysTable) (g_X12_laysTable : d_X12_laysTable + 1 ≤ d) {d_X12_sliceOf : Nat} {s_X12_sliceOf : zq_Sp} (h_X12_sliceOf : zq_M yX12_sliceOf cX12_sliceOf 6 (some .int) 1 d_X12_sliceOf s_X12_sliceOf) (g_X12_sliceOf : d_X12_sliceOf + 1 ≤ d) {d_X12_enters : Nat} {s_X12_enters : zq_Sp} (h_X12_enters : zq_M yX12_enters cX12_enters 3 none 0 d_X12_enters s_X12_enters) (g_X12_enters : d_X12_enters + 1 ≤ d) {J38 : zq_P} (j38 : zq_ok X 5 38 J38) {Q : zq_Q} (hq : zq_R X (some .int) 1 Q) : zq_ok X 5 13 (xX12_richest_13 s_X12_isGuest s_X12_in s_X12_laysTable s_X12_sliceOf s_X12_enters J38 Q) := by
  refine zs_iload_n C dX12_richest_13 rfl ?_
  refine zs_i2l C dX12_richest_14 ?_
  refine zs_lconst C dX12_richest_15 (by decide) ?_
  refine zs_aload_n C dX12_richest_16 rfl ?_
  refine zs_getI C zp_56 zF12 (j := 3) ⟨by decide, rfl⟩ zw_1099 dX12_richest_17 ?_
  refine zs_i2l C dX12_richest_20 ?_
  refine zs_callS C h_X12_in g_X12_in zy_X12_in zw_1311 zw_1312 dX12_richest_21 ?_
  exact zs_if_ne C dX12_richest_24 (by decide) (kX12_richest_29 C h_X12_isGuest g_X12_isGuest h_X12_in g_X12_in h_X12_laysTable g_X12_laysTable h_X12_sliceOf g_X12_sliceOf h_X12_enters g_X12_enters j38 hq) (kX12_richest_27 C h_X12_isGuest g_X12_isGuest h_X12_in g_X12_in h_X12_laysTable g_X12_laysTable h_X12_sliceOf g_X12_sliceOf h_X12_enters g_X12_enters j38 hq)
def xX12_richest_0 (s_X12_isGuest : zq_Sp) (s_X12_in : zq_Sp) (s_X12_laysTable : zq_Sp) (s_X12_sliceOf : zq_Sp) (s_X12_enters : zq_Sp) (J38 : zq_P) (Q : zq_Q) (ls : zq_L) (st : List Value) (h : zq_H) : Prop := (zi_aload 0 (zi_push (.int 0) (zi_putI 56 0 (zi_aload 0 (zi_iload 1 (zi_callV 1 56 s_X12_isGuest (zi_if1 (fun x => x = 0) (xX12_richest_27 s_X12_isGuest s_X12_in s_X12_laysTable s_X12_sliceOf s_X12_enters J38 Q) (xX12_richest_13 s_X12_isGuest s_X12_in s_X12_laysTable s_X12_sliceOf s_X12_enters J38 Q)))))))) ls st h
theorem kX12_richest_0 {X : zq_X} {d : Nat} (C : zq_C X cX12_richest 5 RX12 d) {d_X12_isGuest : Nat} {s_X12_isGuest : zq_Sp} (h_X12_isGuest : zq_M yX12_isGuest cX12_isGuest 2 (some .boolean) 1 d_X12_isGuest s_X12_isGuest) (g_X12_isGuest : d_X12_isGuest + 1 ≤ d) {d_X12_in : Nat} {s_X12_in : zq_Sp} (h_X12_in : zq_M yX12_in cX12_in 6 (some .boolean) 1 d_X12_in s_X12_in) (g_X12_in : d_X12_in + 1 ≤ d) {d_X12_laysTable : Nat} {s_X12_laysTable : zq_Sp} (h_X12_laysTable : zq_M yX12_laysTable cX12_laysTable 3 none 0 d_X12_laysTable s_X12_laysTable) (g_X12_laysTable : d_X12_laysTable + 1 ≤ d) {d_X12_sliceOf : Nat} {s_X12_sliceOf : zq_Sp} (h_X12_sliceOf : zq_M yX12_sliceOf cX12_sliceOf 6 (some .int) 1 d_X12_sliceOf s_X12_sliceOf) (g_X12_sliceOf : d_X12_sliceOf + 1 ≤ d) {d_X12_enters : Nat} {s_X12_enters : zq_Sp} (h_X12_enters : zq_M yX12_enters cX12_enters 3 none 0 d_X12_enters s_X12_enters) (g_X12_enters : d_X12_enters + 1 ≤ d) {J38 : zq_P} (j38 : zq_ok X 5 38 J38) {Q : zq_Q} (hq : zq_R X (some .int) 1 Q) : zq_ok X 5 0 (xX12_richest_0 s_X12_isGuest s_X12_in s_X12_laysTable s_X12_sliceOf s_X12_enters J38 Q) := by
  refine zs_aload_n C dX12_richest_0 rfl ?_
  refine zs_iconst C dX12_richest_1 (by decide) ?_
  refine zs_putI C zp_56 zF12 (j := 0) ⟨by decide, rfl⟩ ⟨rfl, by decide +kernel⟩ zw_1096 dX12_richest_2 ?_
  refine zs_aload_n C dX12_richest_5 rfl ?_
  refine zs_iload_n C dX12_richest_6 rfl ?_
  refine zs_callV C h_X12_isGuest g_X12_isGuest zy_X12_isGuest zp_56 (show vwCl[12]? = some (RX12, TX12, 67) from rfl) zw_1466 zw_1468 zs9_X12_isGuest dX12_richest_7 ?_
  exact zs_if_eq C dX12_richest_10 (by decide) (kX12_richest_27 C h_X12_isGuest g_X12_isGuest h_X12_in g_X12_in h_X12_laysTable g_X12_laysTable h_X12_sliceOf g_X12_sliceOf h_X12_enters g_X12_enters j38 hq) (kX12_richest_13 C h_X12_isGuest g_X12_isGuest h_X12_in g_X12_in h_X12_laysTable g_X12_laysTable h_X12_sliceOf g_X12_sliceOf h_X12_enters g_X12_enters j38 hq)
theorem mX12_richest {d : Nat} {spec : zq_Sp} {σ38 : Type} {d_X12_isGuest : Nat} {s_X12_isGuest : zq_Sp} (h_X12_isGuest : zq_M yX12_isGuest cX12_isGuest 2 (some .boolean) 1 d_X12_isGuest s_X12_isGuest) (g_X12_isGuest : d_X12_isGuest + 1 ≤ d) {d_X12_in : Nat} {s_X12_in : zq_Sp} (h_X12_in : zq_M yX12_in cX12_in 6 (some .boolean) 1 d_X12_in s_X12_in) (g_X12_in : d_X12_in + 1 ≤ d) {d_X12_laysTable : Nat} {s_X12_laysTable : zq_Sp} (h_X12_laysTable : zq_M yX12_laysTable cX12_laysTable 3 none 0 d_X12_laysTable s_X12_laysTable) (g_X12_laysTable : d_X12_laysTable + 1 ≤ d) {d_X12_sliceOf : Nat} {s_X12_sliceOf : zq_Sp} (h_X12_sliceOf : zq_M yX12_sliceOf cX12_sliceOf 6 (some .int) 1 d_X12_sliceOf s_X12_sliceOf) (g_X12_sliceOf : d_X12_sliceOf + 1 ≤ d) {d_X12_enters : Nat} {s_X12_enters : zq_Sp} (h_X12_enters : zq_M yX12_enters cX12_enters 3 none 0 d_X12_enters s_X12_enters) (g_X12_enters : d_X12_enters + 1 ≤ d) (μ38 : σ38 → Nat) (I38 : zq_Q → σ38 → zq_P) (v : ∀ args h Q, spec args h Q → (zq_a args).length ≤ 5 ∧ xX12_richest_0 s_X12_isGuest s_X12_in s_X12_laysTable s_X12_sliceOf s_X12_enters (fun ls st h => ∃ b, I38 Q b ls st h) Q (zq_l0 5 args) [] h) (v38 : ∀ Q a ls st h, I38 Q a ls st h → xX12_richest_38 s_X12_isGuest s_X12_in s_X12_laysTable s_X12_sliceOf s_X12_enters (fun ls st h => ∃ b, μ38 b < μ38 a ∧ I38 Q b ls st h) Q ls st h) : zq_M yX12_richest cX12_richest 5 (some .int) 1 d spec := by
  refine zq_met (by decide +kernel) (by decide) (fun X Q args h C hq hs => ⟨(v args h Q hs).1, _, ?_, (v args h Q hs).2⟩)
  have hl := zq_loop1 (X := X) (nL := 5) (pc1 := 38) μ38 (I38 Q) (fun J38 => xX12_richest_38 s_X12_isGuest s_X12_in s_X12_laysTable s_X12_sliceOf s_X12_enters J38 Q) (fun j38 => kX12_richest_38 C h_X12_isGuest g_X12_isGuest h_X12_in g_X12_in h_X12_laysTable g_X12_laysTable h_X12_sliceOf g_X12_sliceOf h_X12_enters g_X12_enters j38 hq) (v38 Q)
  exact kX12_richest_0 C h_X12_isGuest g_X12_isGuest h_X12_in g_X12_in h_X12_laysTable g_X12_laysTable h_X12_sliceOf g_X12_sliceOf h_X12_enters g_X12_enters hl hq
/-! ToOneCrumbModel.partsOn(IIIII)V -/
theorem dX12_partsOn_0 : decode cX12_partsOn 0 = .ok (.iload_n 3, 1) := by decide +kernel
theorem dX12_partsOn_1 : decode cX12_partsOn 1 = .ok (.iload 4, 2) := by decide +kernel
theorem dX12_partsOn_3 : decode cX12_partsOn 3 = .ok (.iconst 1, 1) := by decide +kernel
theorem dX12_partsOn_4 : decode cX12_partsOn 4 = .ok (.isub, 1) := by decide +kernel
theorem dX12_partsOn_5 : decode cX12_partsOn 5 = .ok (.if_icmp .ne 80, 3) := by decide +kernel
theorem dX12_partsOn_8 : decode cX12_partsOn 8 = .ok (.iload 5, 2) := by decide +kernel
theorem dX12_partsOn_10 : decode cX12_partsOn 10 = .ok (.aload_n 0, 1) := by decide +kernel
theorem dX12_partsOn_11 : decode cX12_partsOn 11 = .ok (.iload_n 1, 1) := by decide +kernel
theorem dX12_partsOn_12 : decode cX12_partsOn 12 = .ok (.iload_n 2, 1) := by decide +kernel
theorem dX12_partsOn_13 : decode cX12_partsOn 13 = .ok (.aload_n 0, 1) := by decide +kernel
theorem dX12_partsOn_14 : decode cX12_partsOn 14 = .ok (.getfield 158, 3) := by decide +kernel
theorem dX12_partsOn_17 : decode cX12_partsOn 17 = .ok (.iconst 1, 1) := by decide +kernel
theorem dX12_partsOn_18 : decode cX12_partsOn 18 = .ok (.isub, 1) := by decide +kernel
theorem dX12_partsOn_19 : decode cX12_partsOn 19 = .ok (.invokevirtual 398, 3) := by decide +kernel
theorem dX12_partsOn_22 : decode cX12_partsOn 22 = .ok (.invokestatic 181, 3) := by decide +kernel
theorem dX12_partsOn_25 : decode cX12_partsOn 25 = .ok (.istore 6, 2) := by decide +kernel
theorem dX12_partsOn_27 : decode cX12_partsOn 27 = .ok (.aload_n 0, 1) := by decide +kernel
theorem dX12_partsOn_28 : decode cX12_partsOn 28 = .ok (.getfield 90, 3) := by decide +kernel
theorem dX12_partsOn_31 : decode cX12_partsOn 31 = .ok (.iload_n 3, 1) := by decide +kernel
theorem dX12_partsOn_32 : decode cX12_partsOn 32 = .ok (.aload_n 0, 1) := by decide +kernel
theorem dX12_partsOn_33 : decode cX12_partsOn 33 = .ok (.getfield 158, 3) := by decide +kernel
theorem dX12_partsOn_36 : decode cX12_partsOn 36 = .ok (.iconst 1, 1) := by decide +kernel
theorem dX12_partsOn_37 : decode cX12_partsOn 37 = .ok (.isub, 1) := by decide +kernel
theorem dX12_partsOn_38 : decode cX12_partsOn 38 = .ok (.iastore, 1) := by decide +kernel
theorem dX12_partsOn_39 : decode cX12_partsOn 39 = .ok (.iload 6, 2) := by decide +kernel
theorem dX12_partsOn_41 : decode cX12_partsOn 41 = .ok (.aload_n 0, 1) := by decide +kernel
theorem dX12_partsOn_42 : decode cX12_partsOn 42 = .ok (.getfield 401, 3) := by decide +kernel
theorem dX12_partsOn_45 : decode cX12_partsOn 45 = .ok (.if_icmp .le 39, 3) := by decide +kernel
theorem dX12_partsOn_48 : decode cX12_partsOn 48 = .ok (.aload_n 0, 1) := by decide +kernel
theorem dX12_partsOn_49 : decode cX12_partsOn 49 = .ok (.iload 6, 2) := by decide +kernel
theorem dX12_partsOn_51 : decode cX12_partsOn 51 = .ok (.putfield 401, 3) := by decide +kernel
theorem dX12_partsOn_54 : decode cX12_partsOn 54 = .ok (.iconst 0, 1) := by decide +kernel
theorem dX12_partsOn_55 : decode cX12_partsOn 55 = .ok (.istore 7, 2) := by decide +kernel
theorem dX12_partsOn_57 : decode cX12_partsOn 57 = .ok (.iload 7, 2) := by decide +kernel
theorem dX12_partsOn_59 : decode cX12_partsOn 59 = .ok (.iload 4, 2) := by decide +kernel
theorem dX12_partsOn_61 : decode cX12_partsOn 61 = .ok (.if_icmp .ge 23, 3) := by decide +kernel
theorem dX12_partsOn_64 : decode cX12_partsOn 64 = .ok (.aload_n 0, 1) := by decide +kernel
theorem dX12_partsOn_65 : decode cX12_partsOn 65 = .ok (.getfield 93, 3) := by decide +kernel
theorem dX12_partsOn_68 : decode cX12_partsOn 68 = .ok (.iload 7, 2) := by decide +kernel
theorem dX12_partsOn_70 : decode cX12_partsOn 70 = .ok (.aload_n 0, 1) := by decide +kernel
theorem dX12_partsOn_71 : decode cX12_partsOn 71 = .ok (.getfield 90, 3) := by decide +kernel
theorem dX12_partsOn_74 : decode cX12_partsOn 74 = .ok (.iload 7, 2) := by decide +kernel
theorem dX12_partsOn_76 : decode cX12_partsOn 76 = .ok (.iaload, 1) := by decide +kernel
theorem dX12_partsOn_77 : decode cX12_partsOn 77 = .ok (.iastore, 1) := by decide +kernel
theorem dX12_partsOn_78 : decode cX12_partsOn 78 = .ok (.iinc 7 1, 3) := by decide +kernel
theorem dX12_partsOn_81 : decode cX12_partsOn 81 = .ok (.goto (-24), 3) := by decide +kernel
theorem dX12_partsOn_84 : decode cX12_partsOn 84 = .ok (.return_, 1) := by decide +kernel
theorem dX12_partsOn_85 : decode cX12_partsOn 85 = .ok (.iload_n 2, 1) := by decide +kernel
theorem dX12_partsOn_86 : decode cX12_partsOn 86 = .ok (.istore 6, 2) := by decide +kernel
theorem dX12_partsOn_88 : decode cX12_partsOn 88 = .ok (.iload 6, 2) := by decide +kernel
theorem dX12_partsOn_90 : decode cX12_partsOn 90 = .ok (.aload_n 0, 1) := by decide +kernel
theorem dX12_partsOn_91 : decode cX12_partsOn 91 = .ok (.getfield 158, 3) := by decide +kernel
theorem dX12_partsOn_94 : decode cX12_partsOn 94 = .ok (.iload 4, 2) := by decide +kernel
theorem dX12_partsOn_96 : decode cX12_partsOn 96 = .ok (.iconst 1, 1) := by decide +kernel
theorem dX12_partsOn_97 : decode cX12_partsOn 97 = .ok (.isub, 1) := by decide +kernel
theorem dX12_partsOn_98 : decode cX12_partsOn 98 = .ok (.iload_n 3, 1) := by decide +kernel
theorem dX12_partsOn_99 : decode cX12_partsOn 99 = .ok (.isub, 1) := by decide +kernel
theorem dX12_partsOn_100 : decode cX12_partsOn 100 = .ok (.isub, 1) := by decide +kernel
theorem dX12_partsOn_101 : decode cX12_partsOn 101 = .ok (.if_icmp .ge 44, 3) := by decide +kernel
theorem dX12_partsOn_104 : decode cX12_partsOn 104 = .ok (.aload_n 0, 1) := by decide +kernel
theorem dX12_partsOn_105 : decode cX12_partsOn 105 = .ok (.getfield 90, 3) := by decide +kernel
theorem dX12_partsOn_108 : decode cX12_partsOn 108 = .ok (.iload_n 3, 1) := by decide +kernel
theorem dX12_partsOn_109 : decode cX12_partsOn 109 = .ok (.iload 6, 2) := by decide +kernel
theorem dX12_partsOn_111 : decode cX12_partsOn 111 = .ok (.iastore, 1) := by decide +kernel
theorem dX12_partsOn_112 : decode cX12_partsOn 112 = .ok (.aload_n 0, 1) := by decide +kernel
theorem dX12_partsOn_113 : decode cX12_partsOn 113 = .ok (.iload_n 1, 1) := by decide +kernel
theorem dX12_partsOn_114 : decode cX12_partsOn 114 = .ok (.iload 6, 2) := by decide +kernel
theorem dX12_partsOn_116 : decode cX12_partsOn 116 = .ok (.iconst 1, 1) := by decide +kernel
theorem dX12_partsOn_117 : decode cX12_partsOn 117 = .ok (.iadd, 1) := by decide +kernel
theorem dX12_partsOn_118 : decode cX12_partsOn 118 = .ok (.iload_n 3, 1) := by decide +kernel
theorem dX12_partsOn_119 : decode cX12_partsOn 119 = .ok (.iconst 1, 1) := by decide +kernel
theorem dX12_partsOn_120 : decode cX12_partsOn 120 = .ok (.iadd, 1) := by decide +kernel
theorem dX12_partsOn_121 : decode cX12_partsOn 121 = .ok (.iload 4, 2) := by decide +kernel
theorem dX12_partsOn_123 : decode cX12_partsOn 123 = .ok (.iload 5, 2) := by decide +kernel
theorem dX12_partsOn_125 : decode cX12_partsOn 125 = .ok (.aload_n 0, 1) := by decide +kernel
theorem dX12_partsOn_126 : decode cX12_partsOn 126 = .ok (.iload_n 1, 1) := by decide +kernel
theorem dX12_partsOn_127 : decode cX12_partsOn 127 = .ok (.iload_n 2, 1) := by decide +kernel
theorem dX12_partsOn_128 : decode cX12_partsOn 128 = .ok (.iload 6, 2) := by decide +kernel
theorem dX12_partsOn_130 : decode cX12_partsOn 130 = .ok (.invokevirtual 398, 3) := by decide +kernel
theorem dX12_partsOn_133 : decode cX12_partsOn 133 = .ok (.invokestatic 181, 3) := by decide +kernel
theorem dX12_partsOn_136 : decode cX12_partsOn 136 = .ok (.invokevirtual 404, 3) := by decide +kernel
theorem dX12_partsOn_139 : decode cX12_partsOn 139 = .ok (.iinc 6 1, 3) := by decide +kernel
theorem dX12_partsOn_142 : decode cX12_partsOn 142 = .ok (.goto (-54), 3) := by decide +kernel
theorem dX12_partsOn_145 : decode cX12_partsOn 145 = .ok (.return_, 1) := by decide +kernel
def xX12_partsOn_145 (s_X12_sliceOf : zq_Sp) (s_X12_partsOn : zq_Sp) (J57 : zq_P) (J88 : zq_P) (Q : zq_Q) (ls : zq_L) (st : List Value) (h : zq_H) : Prop := (zi_vret Q) ls st h
theorem kX12_partsOn_145 {X : zq_X} {d : Nat} (C : zq_C X cX12_partsOn 8 RX12 d) (hd1 : 1 ≤ d) {d_X12_sliceOf : Nat} {s_X12_sliceOf : zq_Sp} (h_X12_sliceOf : zq_M yX12_sliceOf cX12_sliceOf 6 (some .int) 1 d_X12_sliceOf s_X12_sliceOf) (g_X12_sliceOf : d_X12_sliceOf + 1 ≤ d) {d_X12_partsOn : Nat} {s_X12_partsOn : zq_Sp} (h_X12_partsOn : zq_M yX12_partsOn cX12_partsOn 8 none 0 d_X12_partsOn s_X12_partsOn) (g_X12_partsOn : d_X12_partsOn + 1 ≤ d) {J57 : zq_P} (j57 : zq_ok X 8 57 J57) {J88 : zq_P} (j88 : zq_ok X 8 88 J88) {Q : zq_Q} (hq : zq_R X none 0 Q) : zq_ok X 8 145 (xX12_partsOn_145 s_X12_sliceOf s_X12_partsOn J57 J88 Q) := by
  exact zs_vret C hq dX12_partsOn_145
def xX12_partsOn_104 (s_X12_sliceOf : zq_Sp) (s_X12_partsOn : zq_Sp) (J57 : zq_P) (J88 : zq_P) (Q : zq_Q) (ls : zq_L) (st : List Value) (h : zq_H) : Prop := (zi_aload 0 (zi_getR 56 83 (zi_iload 3 (zi_iload 6 (zi_astI 83 6 (zi_aload 0 (zi_iload 1 (zi_iload 6 (zi_push (.int 1) (zi_i2 (fun x y => x + y) (zi_iload 3 (zi_push (.int 1) (zi_i2 (fun x y => x + y) (zi_iload 4 (zi_iload 5 (zi_aload 0 (zi_iload 1 (zi_iload 2 (zi_iload 6 (zi_callV 3 56 s_X12_sliceOf (zi_m2 zf_min (zi_callV 5 56 s_X12_partsOn (zi_iinc 6 1 (J88)))))))))))))))))))))))) ls st h
theorem kX12_partsOn_104 {X : zq_X} {d : Nat} (C : zq_C X cX12_partsOn 8 RX12 d) (hd1 : 1 ≤ d) {d_X12_sliceOf : Nat} {s_X12_sliceOf : zq_Sp} (h_X12_sliceOf : zq_M yX12_sliceOf cX12_sliceOf 6 (some .int) 1 d_X12_sliceOf s_X12_sliceOf) (g_X12_sliceOf : d_X12_sliceOf + 1 ≤ d) {d_X12_partsOn : Nat} {s_X12_partsOn : zq_Sp} (h_X12_partsOn : zq_M yX12_partsOn cX12_partsOn 8 none 0 d_X12_partsOn s_X12_partsOn) (g_X12_partsOn : d_X12_partsOn + 1 ≤ d) {J57 : zq_P} (j57 : zq_ok X 8 57 J57) {J88 : zq_P} (j88 : zq_ok X 8 88 J88) {Q : zq_Q} (hq : zq_R X none 0 Q) : zq_ok X 8 104 (xX12_partsOn_104 s_X12_sliceOf s_X12_partsOn J57 J88 Q) := by
  refine zs_aload_n C dX12_partsOn_104 rfl ?_
  refine zs_getR C zp_56 zF12 (j := 41) ⟨by decide, rfl⟩ zw_1137 dX12_partsOn_105 ?_
  refine zs_iload_n C dX12_partsOn_108 rfl ?_
  refine zs_iload C dX12_partsOn_109 ?_
  refine zs_iastore C zp_83 dX12_partsOn_111 ?_
  refine zs_aload_n C dX12_partsOn_112 rfl ?_
  refine zs_iload_n C dX12_partsOn_113 rfl ?_
  refine zs_iload C dX12_partsOn_114 ?_
  refine zs_iconst C dX12_partsOn_116 (by decide) ?_
  refine zs_iadd C dX12_partsOn_117 ?_
  refine zs_iload_n C dX12_partsOn_118 rfl ?_
  refine zs_iconst C dX12_partsOn_119 (by decide) ?_
  refine zs_iadd C dX12_partsOn_120 ?_
  refine zs_iload C dX12_partsOn_121 ?_
  refine zs_iload C dX12_partsOn_123 ?_
  refine zs_aload_n C dX12_partsOn_125 rfl ?_
  refine zs_iload_n C dX12_partsOn_126 rfl ?_
  refine zs_iload_n C dX12_partsOn_127 rfl ?_
  refine zs_iload C dX12_partsOn_128 ?_
  refine zs_callV C h_X12_sliceOf g_X12_sliceOf zy_X12_sliceOf zp_56 (show vwCl[12]? = some (RX12, TX12, 67) from rfl) zw_1645 zw_1647 zs9_X12_sliceOf dX12_partsOn_130 ?_
  refine zs_mmin C hd1 zw_1322 zw_393 zw_14 zw_394 dX12_partsOn_133 ?_
  refine zs_callV C h_X12_partsOn g_X12_partsOn zy_X12_partsOn zp_56 (show vwCl[12]? = some (RX12, TX12, 67) from rfl) zw_1655 zw_1657 zs9_X12_partsOn dX12_partsOn_136 ?_
  refine zs_iinc C dX12_partsOn_139 (by decide) (by decide) ?_
  exact zs_goto C dX12_partsOn_142 (by decide) (j88)
def xX12_partsOn_88 (s_X12_sliceOf : zq_Sp) (s_X12_partsOn : zq_Sp) (J57 : zq_P) (J88 : zq_P) (Q : zq_Q) (ls : zq_L) (st : List Value) (h : zq_H) : Prop := (zi_iload 6 (zi_aload 0 (zi_getI 56 3 (zi_iload 4 (zi_push (.int 1) (zi_i2 (fun x y => x - y) (zi_iload 3 (zi_i2 (fun x y => x - y) (zi_i2 (fun x y => x - y) (zi_if2 (fun x y => y ≤ x) (xX12_partsOn_145 s_X12_sliceOf s_X12_partsOn J57 J88 Q) (xX12_partsOn_104 s_X12_sliceOf s_X12_partsOn J57 J88 Q))))))))))) ls st h
theorem kX12_partsOn_88 {X : zq_X} {d : Nat} (C : zq_C X cX12_partsOn 8 RX12 d) (hd1 : 1 ≤ d) {d_X12_sliceOf : Nat} {s_X12_sliceOf : zq_Sp} (h_X12_sliceOf : zq_M yX12_sliceOf cX12_sliceOf 6 (some .int) 1 d_X12_sliceOf s_X12_sliceOf) (g_X12_sliceOf : d_X12_sliceOf + 1 ≤ d) {d_X12_partsOn : Nat} {s_X12_partsOn : zq_Sp} (h_X12_partsOn : zq_M yX12_partsOn cX12_partsOn 8 none 0 d_X12_partsOn s_X12_partsOn) (g_X12_partsOn : d_X12_partsOn + 1 ≤ d) {J57 : zq_P} (j57 : zq_ok X 8 57 J57) {J88 : zq_P} (j88 : zq_ok X 8 88 J88) {Q : zq_Q} (hq : zq_R X none 0 Q) : zq_ok X 8 88 (xX12_partsOn_88 s_X12_sliceOf s_X12_partsOn J57 J88 Q) := by
  refine zs_iload C dX12_partsOn_88 ?_
  refine zs_aload_n C dX12_partsOn_90 rfl ?_
  refine zs_getI C zp_56 zF12 (j := 3) ⟨by decide, rfl⟩ zw_1099 dX12_partsOn_91 ?_
  refine zs_iload C dX12_partsOn_94 ?_
  refine zs_iconst C dX12_partsOn_96 (by decide) ?_
  refine zs_isub C dX12_partsOn_97 ?_
  refine zs_iload_n C dX12_partsOn_98 rfl ?_
  refine zs_isub C dX12_partsOn_99 ?_
  refine zs_isub C dX12_partsOn_100 ?_
  exact zs_icmp_ge C dX12_partsOn_101 (by decide) (kX12_partsOn_145 C hd1 h_X12_sliceOf g_X12_sliceOf h_X12_partsOn g_X12_partsOn j57 j88 hq) (kX12_partsOn_104 C hd1 h_X12_sliceOf g_X12_sliceOf h_X12_partsOn g_X12_partsOn j57 j88 hq)
def xX12_partsOn_85 (s_X12_sliceOf : zq_Sp) (s_X12_partsOn : zq_Sp) (J57 : zq_P) (J88 : zq_P) (Q : zq_Q) (ls : zq_L) (st : List Value) (h : zq_H) : Prop := (zi_iload 2 (zi_istore 6 (J88))) ls st h
theorem kX12_partsOn_85 {X : zq_X} {d : Nat} (C : zq_C X cX12_partsOn 8 RX12 d) (hd1 : 1 ≤ d) {d_X12_sliceOf : Nat} {s_X12_sliceOf : zq_Sp} (h_X12_sliceOf : zq_M yX12_sliceOf cX12_sliceOf 6 (some .int) 1 d_X12_sliceOf s_X12_sliceOf) (g_X12_sliceOf : d_X12_sliceOf + 1 ≤ d) {d_X12_partsOn : Nat} {s_X12_partsOn : zq_Sp} (h_X12_partsOn : zq_M yX12_partsOn cX12_partsOn 8 none 0 d_X12_partsOn s_X12_partsOn) (g_X12_partsOn : d_X12_partsOn + 1 ≤ d) {J57 : zq_P} (j57 : zq_ok X 8 57 J57) {J88 : zq_P} (j88 : zq_ok X 8 88 J88) {Q : zq_Q} (hq : zq_R X none 0 Q) : zq_ok X 8 85 (xX12_partsOn_85 s_X12_sliceOf s_X12_partsOn J57 J88 Q) := by
  refine zs_iload_n C dX12_partsOn_85 rfl ?_
  refine zs_istore C dX12_partsOn_86 (by decide) ?_
  exact j88
def xX12_partsOn_84 (s_X12_sliceOf : zq_Sp) (s_X12_partsOn : zq_Sp) (J57 : zq_P) (J88 : zq_P) (Q : zq_Q) (ls : zq_L) (st : List Value) (h : zq_H) : Prop := (zi_vret Q) ls st h
theorem kX12_partsOn_84 {X : zq_X} {d : Nat} (C : zq_C X cX12_partsOn 8 RX12 d) (hd1 : 1 ≤ d) {d_X12_sliceOf : Nat} {s_X12_sliceOf : zq_Sp} (h_X12_sliceOf : zq_M yX12_sliceOf cX12_sliceOf 6 (some .int) 1 d_X12_sliceOf s_X12_sliceOf) (g_X12_sliceOf : d_X12_sliceOf + 1 ≤ d) {d_X12_partsOn : Nat} {s_X12_partsOn : zq_Sp} (h_X12_partsOn : zq_M yX12_partsOn cX12_partsOn 8 none 0 d_X12_partsOn s_X12_partsOn) (g_X12_partsOn : d_X12_partsOn + 1 ≤ d) {J57 : zq_P} (j57 : zq_ok X 8 57 J57) {J88 : zq_P} (j88 : zq_ok X 8 88 J88) {Q : zq_Q} (hq : zq_R X none 0 Q) : zq_ok X 8 84 (xX12_partsOn_84 s_X12_sliceOf s_X12_partsOn J57 J88 Q) := by
  exact zs_vret C hq dX12_partsOn_84
def xX12_partsOn_64 (s_X12_sliceOf : zq_Sp) (s_X12_partsOn : zq_Sp) (J57 : zq_P) (J88 : zq_P) (Q : zq_Q) (ls : zq_L) (st : List Value) (h : zq_H) : Prop := (zi_aload 0 (zi_getR 56 84 (zi_iload 7 (zi_aload 0 (zi_getR 56 83 (zi_iload 7 (zi_aldI 83 6 (zi_astI 84 6 (zi_iinc 7 1 (J57)))))))))) ls st h
theorem kX12_partsOn_64 {X : zq_X} {d : Nat} (C : zq_C X cX12_partsOn 8 RX12 d) (hd1 : 1 ≤ d) {d_X12_sliceOf : Nat} {s_X12_sliceOf : zq_Sp} (h_X12_sliceOf : zq_M yX12_sliceOf cX12_sliceOf 6 (some .int) 1 d_X12_sliceOf s_X12_sliceOf) (g_X12_sliceOf : d_X12_sliceOf + 1 ≤ d) {d_X12_partsOn : Nat} {s_X12_partsOn : zq_Sp} (h_X12_partsOn : zq_M yX12_partsOn cX12_partsOn 8 none 0 d_X12_partsOn s_X12_partsOn) (g_X12_partsOn : d_X12_partsOn + 1 ≤ d) {J57 : zq_P} (j57 : zq_ok X 8 57 J57) {J88 : zq_P} (j88 : zq_ok X 8 88 J88) {Q : zq_Q} (hq : zq_R X none 0 Q) : zq_ok X 8 64 (xX12_partsOn_64 s_X12_sliceOf s_X12_partsOn J57 J88 Q) := by
  refine zs_aload_n C dX12_partsOn_64 rfl ?_
  refine zs_getR C zp_56 zF12 (j := 42) ⟨by decide, rfl⟩ zw_1138 dX12_partsOn_65 ?_
  refine zs_iload C dX12_partsOn_68 ?_
  refine zs_aload_n C dX12_partsOn_70 rfl ?_
  refine zs_getR C zp_56 zF12 (j := 41) ⟨by decide, rfl⟩ zw_1137 dX12_partsOn_71 ?_
  refine zs_iload C dX12_partsOn_74 ?_
  refine zs_iaload C zp_83 dX12_partsOn_76 ?_
  refine zs_iastore C zp_84 dX12_partsOn_77 ?_
  refine zs_iinc C dX12_partsOn_78 (by decide) (by decide) ?_
  exact zs_goto C dX12_partsOn_81 (by decide) (j57)
def xX12_partsOn_57 (s_X12_sliceOf : zq_Sp) (s_X12_partsOn : zq_Sp) (J57 : zq_P) (J88 : zq_P) (Q : zq_Q) (ls : zq_L) (st : List Value) (h : zq_H) : Prop := (zi_iload 7 (zi_iload 4 (zi_if2 (fun x y => y ≤ x) (xX12_partsOn_84 s_X12_sliceOf s_X12_partsOn J57 J88 Q) (xX12_partsOn_64 s_X12_sliceOf s_X12_partsOn J57 J88 Q)))) ls st h
theorem kX12_partsOn_57 {X : zq_X} {d : Nat} (C : zq_C X cX12_partsOn 8 RX12 d) (hd1 : 1 ≤ d) {d_X12_sliceOf : Nat} {s_X12_sliceOf : zq_Sp} (h_X12_sliceOf : zq_M yX12_sliceOf cX12_sliceOf 6 (some .int) 1 d_X12_sliceOf s_X12_sliceOf) (g_X12_sliceOf : d_X12_sliceOf + 1 ≤ d) {d_X12_partsOn : Nat} {s_X12_partsOn : zq_Sp} (h_X12_partsOn : zq_M yX12_partsOn cX12_partsOn 8 none 0 d_X12_partsOn s_X12_partsOn) (g_X12_partsOn : d_X12_partsOn + 1 ≤ d) {J57 : zq_P} (j57 : zq_ok X 8 57 J57) {J88 : zq_P} (j88 : zq_ok X 8 88 J88) {Q : zq_Q} (hq : zq_R X none 0 Q) : zq_ok X 8 57 (xX12_partsOn_57 s_X12_sliceOf s_X12_partsOn J57 J88 Q) := by
  refine zs_iload C dX12_partsOn_57 ?_
  refine zs_iload C dX12_partsOn_59 ?_
  exact zs_icmp_ge C dX12_partsOn_61 (by decide) (kX12_partsOn_84 C hd1 h_X12_sliceOf g_X12_sliceOf h_X12_partsOn g_X12_partsOn j57 j88 hq) (kX12_partsOn_64 C hd1 h_X12_sliceOf g_X12_sliceOf h_X12_partsOn g_X12_partsOn j57 j88 hq)
def xX12_partsOn_48 (s_X12_sliceOf : zq_Sp) (s_X12_partsOn : zq_Sp) (J57 : zq_P) (J88 : zq_P) (Q : zq_Q) (ls : zq_L) (st : List Value) (h : zq_H) : Prop := (zi_aload 0 (zi_iload 6 (zi_putI 56 43 (zi_push (.int 0) (zi_istore 7 (J57)))))) ls st h
theorem kX12_partsOn_48 {X : zq_X} {d : Nat} (C : zq_C X cX12_partsOn 8 RX12 d) (hd1 : 1 ≤ d) {d_X12_sliceOf : Nat} {s_X12_sliceOf : zq_Sp} (h_X12_sliceOf : zq_M yX12_sliceOf cX12_sliceOf 6 (some .int) 1 d_X12_sliceOf s_X12_sliceOf) (g_X12_sliceOf : d_X12_sliceOf + 1 ≤ d) {d_X12_partsOn : Nat} {s_X12_partsOn : zq_Sp} (h_X12_partsOn : zq_M yX12_partsOn cX12_partsOn 8 none 0 d_X12_partsOn s_X12_partsOn) (g_X12_partsOn : d_X12_partsOn + 1 ≤ d) {J57 : zq_P} (j57 : zq_ok X 8 57 J57) {J88 : zq_P} (j88 : zq_ok X 8 88 J88) {Q : zq_Q} (hq : zq_R X none 0 Q) : zq_ok X 8 48 (xX12_partsOn_48 s_X12_sliceOf s_X12_partsOn J57 J88 Q) := by
  refine zs_aload_n C dX12_partsOn_48 rfl ?_
  refine zs_iload C dX12_partsOn_49 ?_
  refine zs_putI C zp_56 zF12 (j := 43) ⟨by decide, rfl⟩ ⟨rfl, by decide +kernel⟩ zw_1139 dX12_partsOn_51 ?_
  refine zs_iconst C dX12_partsOn_54 (by decide) ?_
  refine zs_istore C dX12_partsOn_55 (by decide) ?_
  exact j57
def xX12_partsOn_8 (s_X12_sliceOf : zq_Sp) (s_X12_partsOn : zq_Sp) (J57 : zq_P) (J88 : zq_P) (Q : zq_Q) (ls : zq_L) (st : List Value) (h : zq_H) : Prop := (zi_iload 5 (zi_aload 0 (zi_iload 1 (zi_iload 2 (zi_aload 0 (zi_getI 56 3 (zi_push (.int 1) (zi_i2 (fun x y => x - y) (zi_callV 3 56 s_X12_sliceOf (zi_m2 zf_min (zi_istore 6 (zi_aload 0 (zi_getR 56 83 (zi_iload 3 (zi_aload 0 (zi_getI 56 3 (zi_push (.int 1) (zi_i2 (fun x y => x - y) (zi_astI 83 6 (zi_iload 6 (zi_aload 0 (zi_getI 56 43 (zi_if2 (fun x y => x ≤ y) (xX12_partsOn_84 s_X12_sliceOf s_X12_partsOn J57 J88 Q) (xX12_partsOn_48 s_X12_sliceOf s_X12_partsOn J57 J88 Q)))))))))))))))))))))))) ls st h
theorem kX12_partsOn_8 {X : zq_X} {d : Nat} (C : zq_C X cX12_partsOn 8 RX12 d) (hd1 : 1 ≤ d) {d_X12_sliceOf : Nat} {s_X12_sliceOf : zq_Sp} (h_X12_sliceOf : zq_M yX12_sliceOf cX12_sliceOf 6 (some .int) 1 d_X12_sliceOf s_X12_sliceOf) (g_X12_sliceOf : d_X12_sliceOf + 1 ≤ d) {d_X12_partsOn : Nat} {s_X12_partsOn : zq_Sp} (h_X12_partsOn : zq_M yX12_partsOn cX12_partsOn 8 none 0 d_X12_partsOn s_X12_partsOn) (g_X12_partsOn : d_X12_partsOn + 1 ≤ d) {J57 : zq_P} (j57 : zq_ok X 8 57 J57) {J88 : zq_P} (j88 : zq_ok X 8 88 J88) {Q : zq_Q} (hq : zq_R X none 0 Q) : zq_ok X 8 8 (xX12_partsOn_8 s_X12_sliceOf s_X12_partsOn J57 J88 Q) := by
  refine zs_iload C dX12_partsOn_8 ?_
  refine zs_aload_n C dX12_partsOn_10 rfl ?_
  refine zs_iload_n C dX12_partsOn_11 rfl ?_
  refine zs_iload_n C dX12_partsOn_12 rfl ?_
  refine zs_aload_n C dX12_partsOn_13 rfl ?_
  refine zs_getI C zp_56 zF12 (j := 3) ⟨by decide, rfl⟩ zw_1099 dX12_partsOn_14 ?_
  refine zs_iconst C dX12_partsOn_17 (by decide) ?_
  refine zs_isub C dX12_partsOn_18 ?_
  refine zs_callV C h_X12_sliceOf g_X12_sliceOf zy_X12_sliceOf zp_56 (show vwCl[12]? = some (RX12, TX12, 67) from rfl) zw_1645 zw_1647 zs9_X12_sliceOf dX12_partsOn_19 ?_
  refine zs_mmin C hd1 zw_1322 zw_393 zw_14 zw_394 dX12_partsOn_22 ?_
  refine zs_istore C dX12_partsOn_25 (by decide) ?_
  refine zs_aload_n C dX12_partsOn_27 rfl ?_
  refine zs_getR C zp_56 zF12 (j := 41) ⟨by decide, rfl⟩ zw_1137 dX12_partsOn_28 ?_
  refine zs_iload_n C dX12_partsOn_31 rfl ?_
  refine zs_aload_n C dX12_partsOn_32 rfl ?_
  refine zs_getI C zp_56 zF12 (j := 3) ⟨by decide, rfl⟩ zw_1099 dX12_partsOn_33 ?_
  refine zs_iconst C dX12_partsOn_36 (by decide) ?_
  refine zs_isub C dX12_partsOn_37 ?_
  refine zs_iastore C zp_83 dX12_partsOn_38 ?_
  refine zs_iload C dX12_partsOn_39 ?_
  refine zs_aload_n C dX12_partsOn_41 rfl ?_
  refine zs_getI C zp_56 zF12 (j := 43) ⟨by decide, rfl⟩ zw_1139 dX12_partsOn_42 ?_
  exact zs_icmp_le C dX12_partsOn_45 (by decide) (kX12_partsOn_84 C hd1 h_X12_sliceOf g_X12_sliceOf h_X12_partsOn g_X12_partsOn j57 j88 hq) (kX12_partsOn_48 C hd1 h_X12_sliceOf g_X12_sliceOf h_X12_partsOn g_X12_partsOn j57 j88 hq)
def xX12_partsOn_0 (s_X12_sliceOf : zq_Sp) (s_X12_partsOn : zq_Sp) (J57 : zq_P) (J88 : zq_P) (Q : zq_Q) (ls : zq_L) (st : List Value) (h : zq_H) : Prop := (zi_iload 3 (zi_iload 4 (zi_push (.int 1) (zi_i2 (fun x y => x - y) (zi_if2 (fun x y => x = y) (xX12_partsOn_8 s_X12_sliceOf s_X12_partsOn J57 J88 Q) (xX12_partsOn_85 s_X12_sliceOf s_X12_partsOn J57 J88 Q)))))) ls st h
theorem kX12_partsOn_0 {X : zq_X} {d : Nat} (C : zq_C X cX12_partsOn 8 RX12 d) (hd1 : 1 ≤ d) {d_X12_sliceOf : Nat} {s_X12_sliceOf : zq_Sp} (h_X12_sliceOf : zq_M yX12_sliceOf cX12_sliceOf 6 (some .int) 1 d_X12_sliceOf s_X12_sliceOf) (g_X12_sliceOf : d_X12_sliceOf + 1 ≤ d) {d_X12_partsOn : Nat} {s_X12_partsOn : zq_Sp} (h_X12_partsOn : zq_M yX12_partsOn cX12_partsOn 8 none 0 d_X12_partsOn s_X12_partsOn) (g_X12_partsOn : d_X12_partsOn + 1 ≤ d) {J57 : zq_P} (j57 : zq_ok X 8 57 J57) {J88 : zq_P} (j88 : zq_ok X 8 88 J88) {Q : zq_Q} (hq : zq_R X none 0 Q) : zq_ok X 8 0 (xX12_partsOn_0 s_X12_sliceOf s_X12_partsOn J57 J88 Q) := by
  refine zs_iload_n C dX12_partsOn_0 rfl ?_
  refine zs_iload C dX12_partsOn_1 ?_
  refine zs_iconst C dX12_partsOn_3 (by decide) ?_
  refine zs_isub C dX12_partsOn_4 ?_
  exact zs_icmp_ne C dX12_partsOn_5 (by decide) (kX12_partsOn_85 C hd1 h_X12_sliceOf g_X12_sliceOf h_X12_partsOn g_X12_partsOn j57 j88 hq) (kX12_partsOn_8 C hd1 h_X12_sliceOf g_X12_sliceOf h_X12_partsOn g_X12_partsOn j57 j88 hq)
theorem mX12_partsOn {d : Nat} {spec : zq_Sp} {σ57 : Type} {σ88 : Type} {d_X12_sliceOf : Nat} {s_X12_sliceOf : zq_Sp} (h_X12_sliceOf : zq_M yX12_sliceOf cX12_sliceOf 6 (some .int) 1 d_X12_sliceOf s_X12_sliceOf) (g_X12_sliceOf : d_X12_sliceOf + 1 ≤ d) {d_X12_partsOn : Nat} {s_X12_partsOn : zq_Sp} (h_X12_partsOn : zq_M yX12_partsOn cX12_partsOn 8 none 0 d_X12_partsOn s_X12_partsOn) (g_X12_partsOn : d_X12_partsOn + 1 ≤ d) (hd1 : 1 ≤ d) (μ57 : σ57 → Nat) (I57 : zq_Q → σ57 → zq_P) (μ88 : σ88 → Nat) (I88 : zq_Q → σ88 → zq_P) (v : ∀ args h Q, spec args h Q → (zq_a args).length ≤ 8 ∧ xX12_partsOn_0 s_X12_sliceOf s_X12_partsOn (fun ls st h => ∃ b, I57 Q b ls st h) (fun ls st h => ∃ b, I88 Q b ls st h) Q (zq_l0 8 args) [] h) (v57 : ∀ Q a ls st h, I57 Q a ls st h → xX12_partsOn_57 s_X12_sliceOf s_X12_partsOn (fun ls st h => ∃ b, μ57 b < μ57 a ∧ I57 Q b ls st h) (fun ls st h => ∃ b, μ88 b < μ57 a ∧ I88 Q b ls st h) Q ls st h) (v88 : ∀ Q a ls st h, I88 Q a ls st h → xX12_partsOn_88 s_X12_sliceOf s_X12_partsOn (fun ls st h => ∃ b, μ57 b < μ88 a ∧ I57 Q b ls st h) (fun ls st h => ∃ b, μ88 b < μ88 a ∧ I88 Q b ls st h) Q ls st h) : zq_M yX12_partsOn cX12_partsOn 8 none 0 d spec := by
  refine zq_met (by decide +kernel) (by decide) (fun X Q args h C hq hs => ⟨(v args h Q hs).1, _, ?_, (v args h Q hs).2⟩)
  have hl := zq_loop2 (X := X) (nL := 8) (pc1 := 57) (pc2 := 88) μ57 μ88 (I57 Q) (I88 Q) (fun J57 J88 => xX12_partsOn_57 s_X12_sliceOf s_X12_partsOn J57 J88 Q) (fun J57 J88 => xX12_partsOn_88 s_X12_sliceOf s_X12_partsOn J57 J88 Q) (fun j57 j88 => kX12_partsOn_57 C hd1 h_X12_sliceOf g_X12_sliceOf h_X12_partsOn g_X12_partsOn j57 j88 hq) (fun j57 j88 => kX12_partsOn_88 C hd1 h_X12_sliceOf g_X12_sliceOf h_X12_partsOn g_X12_partsOn j57 j88 hq) (v57 Q) (v88 Q)
  exact kX12_partsOn_0 C hd1 h_X12_sliceOf g_X12_sliceOf h_X12_partsOn g_X12_partsOn hl.1 hl.2 hq
/-! ToOneCrumbModel.parts(II)I -/
theorem dX12_parts_0 : decode cX12_parts 0 = .ok (.aload_n 0, 1) := by decide +kernel
theorem dX12_parts_1 : decode cX12_parts 1 = .ok (.iconst 0, 1) := by decide +kernel
theorem dX12_parts_2 : decode cX12_parts 2 = .ok (.putfield 147, 3) := by decide +kernel
theorem dX12_parts_5 : decode cX12_parts 5 = .ok (.aload_n 0, 1) := by decide +kernel
theorem dX12_parts_6 : decode cX12_parts 6 = .ok (.iload_n 1, 1) := by decide +kernel
theorem dX12_parts_7 : decode cX12_parts 7 = .ok (.invokevirtual 313, 3) := by decide +kernel
theorem dX12_parts_10 : decode cX12_parts 10 = .ok (.ifCond .eq 15, 3) := by decide +kernel
theorem dX12_parts_13 : decode cX12_parts 13 = .ok (.iload_n 2, 1) := by decide +kernel
theorem dX12_parts_14 : decode cX12_parts 14 = .ok (.i2l, 1) := by decide +kernel
theorem dX12_parts_15 : decode cX12_parts 15 = .ok (.lconst 1, 1) := by decide +kernel
theorem dX12_parts_16 : decode cX12_parts 16 = .ok (.ldc2_w 408, 3) := by decide +kernel
theorem dX12_parts_19 : decode cX12_parts 19 = .ok (.invokestatic 161, 3) := by decide +kernel
theorem dX12_parts_22 : decode cX12_parts 22 = .ok (.ifCond .ne 5, 3) := by decide +kernel
theorem dX12_parts_25 : decode cX12_parts 25 = .ok (.iconst (-1), 1) := by decide +kernel
theorem dX12_parts_26 : decode cX12_parts 26 = .ok (.ireturn, 1) := by decide +kernel
theorem dX12_parts_27 : decode cX12_parts 27 = .ok (.aload_n 0, 1) := by decide +kernel
theorem dX12_parts_28 : decode cX12_parts 28 = .ok (.getfield 158, 3) := by decide +kernel
theorem dX12_parts_31 : decode cX12_parts 31 = .ok (.iload_n 2, 1) := by decide +kernel
theorem dX12_parts_32 : decode cX12_parts 32 = .ok (.if_icmp .ge 6, 3) := by decide +kernel
theorem dX12_parts_35 : decode cX12_parts 35 = .ok (.bipush (-2), 2) := by decide +kernel
theorem dX12_parts_37 : decode cX12_parts 37 = .ok (.ireturn, 1) := by decide +kernel
theorem dX12_parts_38 : decode cX12_parts 38 = .ok (.aload_n 0, 1) := by decide +kernel
theorem dX12_parts_39 : decode cX12_parts 39 = .ok (.invokevirtual 318, 3) := by decide +kernel
theorem dX12_parts_42 : decode cX12_parts 42 = .ok (.aload_n 0, 1) := by decide +kernel
theorem dX12_parts_43 : decode cX12_parts 43 = .ok (.iconst (-1), 1) := by decide +kernel
theorem dX12_parts_44 : decode cX12_parts 44 = .ok (.putfield 401, 3) := by decide +kernel
theorem dX12_parts_47 : decode cX12_parts 47 = .ok (.aload_n 0, 1) := by decide +kernel
theorem dX12_parts_48 : decode cX12_parts 48 = .ok (.iload_n 1, 1) := by decide +kernel
theorem dX12_parts_49 : decode cX12_parts 49 = .ok (.iconst 0, 1) := by decide +kernel
theorem dX12_parts_50 : decode cX12_parts 50 = .ok (.iconst 0, 1) := by decide +kernel
theorem dX12_parts_51 : decode cX12_parts 51 = .ok (.iload_n 2, 1) := by decide +kernel
theorem dX12_parts_52 : decode cX12_parts 52 = .ok (.ldc_w 410, 3) := by decide +kernel
theorem dX12_parts_55 : decode cX12_parts 55 = .ok (.invokevirtual 404, 3) := by decide +kernel
theorem dX12_parts_58 : decode cX12_parts 58 = .ok (.aload_n 0, 1) := by decide +kernel
theorem dX12_parts_59 : decode cX12_parts 59 = .ok (.iconst 0, 1) := by decide +kernel
theorem dX12_parts_60 : decode cX12_parts 60 = .ok (.putfield 155, 3) := by decide +kernel
theorem dX12_parts_63 : decode cX12_parts 63 = .ok (.iconst 0, 1) := by decide +kernel
theorem dX12_parts_64 : decode cX12_parts 64 = .ok (.istore_n 3, 1) := by decide +kernel
theorem dX12_parts_65 : decode cX12_parts 65 = .ok (.iload_n 3, 1) := by decide +kernel
theorem dX12_parts_66 : decode cX12_parts 66 = .ok (.iload_n 2, 1) := by decide +kernel
theorem dX12_parts_67 : decode cX12_parts 67 = .ok (.if_icmp .ge 20, 3) := by decide +kernel
theorem dX12_parts_70 : decode cX12_parts 70 = .ok (.aload_n 0, 1) := by decide +kernel
theorem dX12_parts_71 : decode cX12_parts 71 = .ok (.aload_n 0, 1) := by decide +kernel
theorem dX12_parts_72 : decode cX12_parts 72 = .ok (.getfield 93, 3) := by decide +kernel
theorem dX12_parts_75 : decode cX12_parts 75 = .ok (.iload_n 3, 1) := by decide +kernel
theorem dX12_parts_76 : decode cX12_parts 76 = .ok (.iaload, 1) := by decide +kernel
theorem dX12_parts_77 : decode cX12_parts 77 = .ok (.i2l, 1) := by decide +kernel
theorem dX12_parts_78 : decode cX12_parts 78 = .ok (.invokevirtual 368, 3) := by decide +kernel
theorem dX12_parts_81 : decode cX12_parts 81 = .ok (.iinc 3 1, 3) := by decide +kernel
theorem dX12_parts_84 : decode cX12_parts 84 = .ok (.goto (-19), 3) := by decide +kernel
theorem dX12_parts_87 : decode cX12_parts 87 = .ok (.aload_n 0, 1) := by decide +kernel
theorem dX12_parts_88 : decode cX12_parts 88 = .ok (.getfield 401, 3) := by decide +kernel
theorem dX12_parts_91 : decode cX12_parts 91 = .ok (.ireturn, 1) := by decide +kernel
def xX12_parts_87 (s_X12_isGuest : zq_Sp) (s_X12_in : zq_Sp) (s_X12_laysTable : zq_Sp) (s_X12_partsOn : zq_Sp) (s_X12_enters : zq_Sp) (J65 : zq_P) (Q : zq_Q) (ls : zq_L) (st : List Value) (h : zq_H) : Prop := (zi_aload 0 (zi_getI 56 43 (zi_iret Q))) ls st h
theorem kX12_parts_87 {X : zq_X} {d : Nat} (C : zq_C X cX12_parts 4 RX12 d) {d_X12_isGuest : Nat} {s_X12_isGuest : zq_Sp} (h_X12_isGuest : zq_M yX12_isGuest cX12_isGuest 2 (some .boolean) 1 d_X12_isGuest s_X12_isGuest) (g_X12_isGuest : d_X12_isGuest + 1 ≤ d) {d_X12_in : Nat} {s_X12_in : zq_Sp} (h_X12_in : zq_M yX12_in cX12_in 6 (some .boolean) 1 d_X12_in s_X12_in) (g_X12_in : d_X12_in + 1 ≤ d) {d_X12_laysTable : Nat} {s_X12_laysTable : zq_Sp} (h_X12_laysTable : zq_M yX12_laysTable cX12_laysTable 3 none 0 d_X12_laysTable s_X12_laysTable) (g_X12_laysTable : d_X12_laysTable + 1 ≤ d) {d_X12_partsOn : Nat} {s_X12_partsOn : zq_Sp} (h_X12_partsOn : zq_M yX12_partsOn cX12_partsOn 8 none 0 d_X12_partsOn s_X12_partsOn) (g_X12_partsOn : d_X12_partsOn + 1 ≤ d) {d_X12_enters : Nat} {s_X12_enters : zq_Sp} (h_X12_enters : zq_M yX12_enters cX12_enters 3 none 0 d_X12_enters s_X12_enters) (g_X12_enters : d_X12_enters + 1 ≤ d) {J65 : zq_P} (j65 : zq_ok X 4 65 J65) {Q : zq_Q} (hq : zq_R X (some .int) 1 Q) : zq_ok X 4 87 (xX12_parts_87 s_X12_isGuest s_X12_in s_X12_laysTable s_X12_partsOn s_X12_enters J65 Q) := by
  refine zs_aload_n C dX12_parts_87 rfl ?_
  refine zs_getI C zp_56 zF12 (j := 43) ⟨by decide, rfl⟩ zw_1139 dX12_parts_88 ?_
  exact zs_iret C hq dX12_parts_91
def xX12_parts_70 (s_X12_isGuest : zq_Sp) (s_X12_in : zq_Sp) (s_X12_laysTable : zq_Sp) (s_X12_partsOn : zq_Sp) (s_X12_enters : zq_Sp) (J65 : zq_P) (Q : zq_Q) (ls : zq_L) (st : List Value) (h : zq_H) : Prop := (zi_aload 0 (zi_aload 0 (zi_getR 56 84 (zi_iload 3 (zi_aldI 84 6 (zi_i2l (zi_callV 1 56 s_X12_enters (zi_iinc 3 1 (J65))))))))) ls st h
theorem kX12_parts_70 {X : zq_X} {d : Nat} (C : zq_C X cX12_parts 4 RX12 d) {d_X12_isGuest : Nat} {s_X12_isGuest : zq_Sp} (h_X12_isGuest : zq_M yX12_isGuest cX12_isGuest 2 (some .boolean) 1 d_X12_isGuest s_X12_isGuest) (g_X12_isGuest : d_X12_isGuest + 1 ≤ d) {d_X12_in : Nat} {s_X12_in : zq_Sp} (h_X12_in : zq_M yX12_in cX12_in 6 (some .boolean) 1 d_X12_in s_X12_in) (g_X12_in : d_X12_in + 1 ≤ d) {d_X12_laysTable : Nat} {s_X12_laysTable : zq_Sp} (h_X12_laysTable : zq_M yX12_laysTable cX12_laysTable 3 none 0 d_X12_laysTable s_X12_laysTable) (g_X12_laysTable : d_X12_laysTable + 1 ≤ d) {d_X12_partsOn : Nat} {s_X12_partsOn : zq_Sp} (h_X12_partsOn : zq_M yX12_partsOn cX12_partsOn 8 none 0 d_X12_partsOn s_X12_partsOn) (g_X12_partsOn : d_X12_partsOn + 1 ≤ d) {d_X12_enters : Nat} {s_X12_enters : zq_Sp} (h_X12_enters : zq_M yX12_enters cX12_enters 3 none 0 d_X12_enters s_X12_enters) (g_X12_enters : d_X12_enters + 1 ≤ d) {J65 : zq_P} (j65 : zq_ok X 4 65 J65) {Q : zq_Q} (hq : zq_R X (some .int) 1 Q) : zq_ok X 4 70 (xX12_parts_70 s_X12_isGuest s_X12_in s_X12_laysTable s_X12_partsOn s_X12_enters J65 Q) := by
  refine zs_aload_n C dX12_parts_70 rfl ?_
  refine zs_aload_n C dX12_parts_71 rfl ?_
  refine zs_getR C zp_56 zF12 (j := 42) ⟨by decide, rfl⟩ zw_1138 dX12_parts_72 ?_
  refine zs_iload_n C dX12_parts_75 rfl ?_
  refine zs_iaload C zp_84 dX12_parts_76 ?_
  refine zs_i2l C dX12_parts_77 ?_
  refine zs_callV C h_X12_enters g_X12_enters zy_X12_enters zp_56 (show vwCl[12]? = some (RX12, TX12, 67) from rfl) zw_1574 zw_1576 zs9_X12_enters dX12_parts_78 ?_
  refine zs_iinc C dX12_parts_81 (by decide) (by decide) ?_
  exact zs_goto C dX12_parts_84 (by decide) (j65)
def xX12_parts_65 (s_X12_isGuest : zq_Sp) (s_X12_in : zq_Sp) (s_X12_laysTable : zq_Sp) (s_X12_partsOn : zq_Sp) (s_X12_enters : zq_Sp) (J65 : zq_P) (Q : zq_Q) (ls : zq_L) (st : List Value) (h : zq_H) : Prop := (zi_iload 3 (zi_iload 2 (zi_if2 (fun x y => y ≤ x) (xX12_parts_87 s_X12_isGuest s_X12_in s_X12_laysTable s_X12_partsOn s_X12_enters J65 Q) (xX12_parts_70 s_X12_isGuest s_X12_in s_X12_laysTable s_X12_partsOn s_X12_enters J65 Q)))) ls st h
theorem kX12_parts_65 {X : zq_X} {d : Nat} (C : zq_C X cX12_parts 4 RX12 d) {d_X12_isGuest : Nat} {s_X12_isGuest : zq_Sp} (h_X12_isGuest : zq_M yX12_isGuest cX12_isGuest 2 (some .boolean) 1 d_X12_isGuest s_X12_isGuest) (g_X12_isGuest : d_X12_isGuest + 1 ≤ d) {d_X12_in : Nat} {s_X12_in : zq_Sp} (h_X12_in : zq_M yX12_in cX12_in 6 (some .boolean) 1 d_X12_in s_X12_in) (g_X12_in : d_X12_in + 1 ≤ d) {d_X12_laysTable : Nat} {s_X12_laysTable : zq_Sp} (h_X12_laysTable : zq_M yX12_laysTable cX12_laysTable 3 none 0 d_X12_laysTable s_X12_laysTable) (g_X12_laysTable : d_X12_laysTable + 1 ≤ d) {d_X12_partsOn : Nat} {s_X12_partsOn : zq_Sp} (h_X12_partsOn : zq_M yX12_partsOn cX12_partsOn 8 none 0 d_X12_partsOn s_X12_partsOn) (g_X12_partsOn : d_X12_partsOn + 1 ≤ d) {d_X12_enters : Nat} {s_X12_enters : zq_Sp} (h_X12_enters : zq_M yX12_enters cX12_enters 3 none 0 d_X12_enters s_X12_enters) (g_X12_enters : d_X12_enters + 1 ≤ d) {J65 : zq_P} (j65 : zq_ok X 4 65 J65) {Q : zq_Q} (hq : zq_R X (some .int) 1 Q) : zq_ok X 4 65 (xX12_parts_65 s_X12_isGuest s_X12_in s_X12_laysTable s_X12_partsOn s_X12_enters J65 Q) := by
  refine zs_iload_n C dX12_parts_65 rfl ?_
  refine zs_iload_n C dX12_parts_66 rfl ?_
  exact zs_icmp_ge C dX12_parts_67 (by decide) (kX12_parts_87 C h_X12_isGuest g_X12_isGuest h_X12_in g_X12_in h_X12_laysTable g_X12_laysTable h_X12_partsOn g_X12_partsOn h_X12_enters g_X12_enters j65 hq) (kX12_parts_70 C h_X12_isGuest g_X12_isGuest h_X12_in g_X12_in h_X12_laysTable g_X12_laysTable h_X12_partsOn g_X12_partsOn h_X12_enters g_X12_enters j65 hq)
def xX12_parts_38 (s_X12_isGuest : zq_Sp) (s_X12_in : zq_Sp) (s_X12_laysTable : zq_Sp) (s_X12_partsOn : zq_Sp) (s_X12_enters : zq_Sp) (J65 : zq_P) (Q : zq_Q) (ls : zq_L) (st : List Value) (h : zq_H) : Prop := (zi_aload 0 (zi_callV 0 56 s_X12_laysTable (zi_aload 0 (zi_push (.int (-1)) (zi_putI 56 43 (zi_aload 0 (zi_iload 1 (zi_push (.int 0) (zi_push (.int 0) (zi_iload 2 (zi_push (.int 2147483647) (zi_callV 5 56 s_X12_partsOn (zi_aload 0 (zi_push (.int 0) (zi_putI 56 1 (zi_push (.int 0) (zi_istore 3 (J65)))))))))))))))))) ls st h
theorem kX12_parts_38 {X : zq_X} {d : Nat} (C : zq_C X cX12_parts 4 RX12 d) {d_X12_isGuest : Nat} {s_X12_isGuest : zq_Sp} (h_X12_isGuest : zq_M yX12_isGuest cX12_isGuest 2 (some .boolean) 1 d_X12_isGuest s_X12_isGuest) (g_X12_isGuest : d_X12_isGuest + 1 ≤ d) {d_X12_in : Nat} {s_X12_in : zq_Sp} (h_X12_in : zq_M yX12_in cX12_in 6 (some .boolean) 1 d_X12_in s_X12_in) (g_X12_in : d_X12_in + 1 ≤ d) {d_X12_laysTable : Nat} {s_X12_laysTable : zq_Sp} (h_X12_laysTable : zq_M yX12_laysTable cX12_laysTable 3 none 0 d_X12_laysTable s_X12_laysTable) (g_X12_laysTable : d_X12_laysTable + 1 ≤ d) {d_X12_partsOn : Nat} {s_X12_partsOn : zq_Sp} (h_X12_partsOn : zq_M yX12_partsOn cX12_partsOn 8 none 0 d_X12_partsOn s_X12_partsOn) (g_X12_partsOn : d_X12_partsOn + 1 ≤ d) {d_X12_enters : Nat} {s_X12_enters : zq_Sp} (h_X12_enters : zq_M yX12_enters cX12_enters 3 none 0 d_X12_enters s_X12_enters) (g_X12_enters : d_X12_enters + 1 ≤ d) {J65 : zq_P} (j65 : zq_ok X 4 65 J65) {Q : zq_Q} (hq : zq_R X (some .int) 1 Q) : zq_ok X 4 38 (xX12_parts_38 s_X12_isGuest s_X12_in s_X12_laysTable s_X12_partsOn s_X12_enters J65 Q) := by
  refine zs_aload_n C dX12_parts_38 rfl ?_
  refine zs_callV C h_X12_laysTable g_X12_laysTable zy_X12_laysTable zp_56 (show vwCl[12]? = some (RX12, TX12, 67) from rfl) zw_1471 zw_1473 zs9_X12_laysTable dX12_parts_39 ?_
  refine zs_aload_n C dX12_parts_42 rfl ?_
  refine zs_iconst C dX12_parts_43 (by decide) ?_
  refine zs_putI C zp_56 zF12 (j := 43) ⟨by decide, rfl⟩ ⟨rfl, by decide +kernel⟩ zw_1139 dX12_parts_44 ?_
  refine zs_aload_n C dX12_parts_47 rfl ?_
  refine zs_iload_n C dX12_parts_48 rfl ?_
  refine zs_iconst C dX12_parts_49 (by decide) ?_
  refine zs_iconst C dX12_parts_50 (by decide) ?_
  refine zs_iload_n C dX12_parts_51 rfl ?_
  refine zs_ldcw C dX12_parts_52 zw_1654 ?_
  refine zs_callV C h_X12_partsOn g_X12_partsOn zy_X12_partsOn zp_56 (show vwCl[12]? = some (RX12, TX12, 67) from rfl) zw_1655 zw_1657 zs9_X12_partsOn dX12_parts_55 ?_
  refine zs_aload_n C dX12_parts_58 rfl ?_
  refine zs_iconst C dX12_parts_59 (by decide) ?_
  refine zs_putI C zp_56 zF12 (j := 1) ⟨by decide, rfl⟩ ⟨rfl, by decide +kernel⟩ zw_1097 dX12_parts_60 ?_
  refine zs_iconst C dX12_parts_63 (by decide) ?_
  refine zs_istore_n C dX12_parts_64 rfl (by decide) ?_
  exact j65
def xX12_parts_35 (s_X12_isGuest : zq_Sp) (s_X12_in : zq_Sp) (s_X12_laysTable : zq_Sp) (s_X12_partsOn : zq_Sp) (s_X12_enters : zq_Sp) (J65 : zq_P) (Q : zq_Q) (ls : zq_L) (st : List Value) (h : zq_H) : Prop := (zi_push (.int (-2)) (zi_iret Q)) ls st h
theorem kX12_parts_35 {X : zq_X} {d : Nat} (C : zq_C X cX12_parts 4 RX12 d) {d_X12_isGuest : Nat} {s_X12_isGuest : zq_Sp} (h_X12_isGuest : zq_M yX12_isGuest cX12_isGuest 2 (some .boolean) 1 d_X12_isGuest s_X12_isGuest) (g_X12_isGuest : d_X12_isGuest + 1 ≤ d) {d_X12_in : Nat} {s_X12_in : zq_Sp} (h_X12_in : zq_M yX12_in cX12_in 6 (some .boolean) 1 d_X12_in s_X12_in) (g_X12_in : d_X12_in + 1 ≤ d) {d_X12_laysTable : Nat} {s_X12_laysTable : zq_Sp} (h_X12_laysTable : zq_M yX12_laysTable cX12_laysTable 3 none 0 d_X12_laysTable s_X12_laysTable) (g_X12_laysTable : d_X12_laysTable + 1 ≤ d) {d_X12_partsOn : Nat} {s_X12_partsOn : zq_Sp} (h_X12_partsOn : zq_M yX12_partsOn cX12_partsOn 8 none 0 d_X12_partsOn s_X12_partsOn) (g_X12_partsOn : d_X12_partsOn + 1 ≤ d) {d_X12_enters : Nat} {s_X12_enters : zq_Sp} (h_X12_enters : zq_M yX12_enters cX12_enters 3 none 0 d_X12_enters s_X12_enters) (g_X12_enters : d_X12_enters + 1 ≤ d) {J65 : zq_P} (j65 : zq_ok X 4 65 J65) {Q : zq_Q} (hq : zq_R X (some .int) 1 Q) : zq_ok X 4 35 (xX12_parts_35 s_X12_isGuest s_X12_in s_X12_laysTable s_X12_partsOn s_X12_enters J65 Q) := by
  refine zs_bipush C dX12_parts_35 (by decide) ?_
  exact zs_iret C hq dX12_parts_37
def xX12_parts_27 (s_X12_isGuest : zq_Sp) (s_X12_in : zq_Sp) (s_X12_laysTable : zq_Sp) (s_X12_partsOn : zq_Sp) (s_X12_enters : zq_Sp) (J65 : zq_P) (Q : zq_Q) (ls : zq_L) (st : List Value) (h : zq_H) : Prop := (zi_aload 0 (zi_getI 56 3 (zi_iload 2 (zi_if2 (fun x y => y ≤ x) (xX12_parts_38 s_X12_isGuest s_X12_in s_X12_laysTable s_X12_partsOn s_X12_enters J65 Q) (xX12_parts_35 s_X12_isGuest s_X12_in s_X12_laysTable s_X12_partsOn s_X12_enters J65 Q))))) ls st h
theorem kX12_parts_27 {X : zq_X} {d : Nat} (C : zq_C X cX12_parts 4 RX12 d) {d_X12_isGuest : Nat} {s_X12_isGuest : zq_Sp} (h_X12_isGuest : zq_M yX12_isGuest cX12_isGuest 2 (some .boolean) 1 d_X12_isGuest s_X12_isGuest) (g_X12_isGuest : d_X12_isGuest + 1 ≤ d) {d_X12_in : Nat} {s_X12_in : zq_Sp} (h_X12_in : zq_M yX12_in cX12_in 6 (some .boolean) 1 d_X12_in s_X12_in) (g_X12_in : d_X12_in + 1 ≤ d) {d_X12_laysTable : Nat} {s_X12_laysTable : zq_Sp} (h_X12_laysTable : zq_M yX12_laysTable cX12_laysTable 3 none 0 d_X12_laysTable s_X12_laysTable) (g_X12_laysTable : d_X12_laysTable + 1 ≤ d) {d_X12_partsOn : Nat} {s_X12_partsOn : zq_Sp} (h_X12_partsOn : zq_M yX12_partsOn cX12_partsOn 8 none 0 d_X12_partsOn s_X12_partsOn) (g_X12_partsOn : d_X12_partsOn + 1 ≤ d) {d_X12_enters : Nat} {s_X12_enters : zq_Sp} (h_X12_enters : zq_M yX12_enters cX12_enters 3 none 0 d_X12_enters s_X12_enters) (g_X12_enters : d_X12_enters + 1 ≤ d) {J65 : zq_P} (j65 : zq_ok X 4 65 J65) {Q : zq_Q} (hq : zq_R X (some .int) 1 Q) : zq_ok X 4 27 (xX12_parts_27 s_X12_isGuest s_X12_in s_X12_laysTable s_X12_partsOn s_X12_enters J65 Q) := by
  refine zs_aload_n C dX12_parts_27 rfl ?_
  refine zs_getI C zp_56 zF12 (j := 3) ⟨by decide, rfl⟩ zw_1099 dX12_parts_28 ?_
  refine zs_iload_n C dX12_parts_31 rfl ?_
  exact zs_icmp_ge C dX12_parts_32 (by decide) (kX12_parts_38 C h_X12_isGuest g_X12_isGuest h_X12_in g_X12_in h_X12_laysTable g_X12_laysTable h_X12_partsOn g_X12_partsOn h_X12_enters g_X12_enters j65 hq) (kX12_parts_35 C h_X12_isGuest g_X12_isGuest h_X12_in g_X12_in h_X12_laysTable g_X12_laysTable h_X12_partsOn g_X12_partsOn h_X12_enters g_X12_enters j65 hq)
def xX12_parts_25 (s_X12_isGuest : zq_Sp) (s_X12_in : zq_Sp) (s_X12_laysTable : zq_Sp) (s_X12_partsOn : zq_Sp) (s_X12_enters : zq_Sp) (J65 : zq_P) (Q : zq_Q) (ls : zq_L) (st : List Value) (h : zq_H) : Prop := (zi_push (.int (-1)) (zi_iret Q)) ls st h
theorem kX12_parts_25 {X : zq_X} {d : Nat} (C : zq_C X cX12_parts 4 RX12 d) {d_X12_isGuest : Nat} {s_X12_isGuest : zq_Sp} (h_X12_isGuest : zq_M yX12_isGuest cX12_isGuest 2 (some .boolean) 1 d_X12_isGuest s_X12_isGuest) (g_X12_isGuest : d_X12_isGuest + 1 ≤ d) {d_X12_in : Nat} {s_X12_in : zq_Sp} (h_X12_in : zq_M yX12_in cX12_in 6 (some .boolean) 1 d_X12_in s_X12_in) (g_X12_in : d_X12_in + 1 ≤ d) {d_X12_laysTable : Nat} {s_X12_laysTable : zq_Sp} (h_X12_laysTable : zq_M yX12_laysTable cX12_laysTable 3 none 0 d_X12_laysTable s_X12_laysTable) (g_X12_laysTable : d_X12_laysTable + 1 ≤ d) {d_X12_partsOn : Nat} {s_X12_partsOn : zq_Sp} (h_X12_partsOn : zq_M yX12_partsOn cX12_partsOn 8 none 0 d_X12_partsOn s_X12_partsOn) (g_X12_partsOn : d_X12_partsOn + 1 ≤ d) {d_X12_enters : Nat} {s_X12_enters : zq_Sp} (h_X12_enters : zq_M yX12_enters cX12_enters 3 none 0 d_X12_enters s_X12_enters) (g_X12_enters : d_X12_enters + 1 ≤ d) {J65 : zq_P} (j65 : zq_ok X 4 65 J65) {Q : zq_Q} (hq : zq_R X (some .int) 1 Q) : zq_ok X 4 25 (xX12_parts_25 s_X12_isGuest s_X12_in s_X12_laysTable s_X12_partsOn s_X12_enters J65 Q) := by
  refine zs_iconst C dX12_parts_25 (by decide) ?_
  exact zs_iret C hq dX12_parts_26
def xX12_parts_13 (s_X12_isGuest : zq_Sp) (s_X12_in : zq_Sp) (s_X12_laysTable : zq_Sp) (s_X12_partsOn : zq_Sp) (s_X12_enters : zq_Sp) (J65 : zq_P) (Q : zq_Q) (ls : zq_L) (st : List Value) (h : zq_H) : Prop := (zi_iload 2 (zi_i2l (zi_push (.long 1) (zi_push (.long 6) (zi_callS 3 s_X12_in (zi_if1 (fun x => x = 0) (xX12_parts_25 s_X12_isGuest s_X12_in s_X12_laysTable s_X12_partsOn s_X12_enters J65 Q) (xX12_parts_27 s_X12_isGuest s_X12_in s_X12_laysTable s_X12_partsOn s_X12_enters J65 Q))))))) ls st h
theorem kX12_parts_13 {X : zq_X} {d : Nat} (C : zq_C X cX12_parts 4 RX12 d) {d_X12_isGuest : Nat} {s_X12_isGuest : zq_Sp} (h_X12_isGuest : zq_M yX12_isGuest cX12_isGuest 2 (some .boolean) 1 d_X12_isGuest s_X12_isGuest) (g_X12_isGuest : d_X12_isGuest + 1 ≤ d) {d_X12_in : Nat} {s_X12_in : zq_Sp} (h_X12_in : zq_M yX12_in cX12_in 6 (some .boolean) 1 d_X12_in s_X12_in) (g_X12_in : d_X12_in + 1 ≤ d) {d_X12_laysTable : Nat} {s_X12_laysTable : zq_Sp} (h_X12_laysTable : zq_M yX12_laysTable cX12_laysTable 3 none 0 d_X12_laysTable s_X12_laysTable) (g_X12_laysTable : d_X12_laysTable + 1 ≤ d) {d_X12_partsOn : Nat} {s_X12_partsOn : zq_Sp} (h_X12_partsOn : zq_M yX12_partsOn cX12_partsOn 8 none 0 d_X12_partsOn s_X12_partsOn) (g_X12_partsOn : d_X12_partsOn + 1 ≤ d) {d_X12_enters : Nat} {s_X12_enters : zq_Sp} (h_X12_enters : zq_M yX12_enters cX12_enters 3 none 0 d_X12_enters s_X12_enters) (g_X12_enters : d_X12_enters + 1 ≤ d) {J65 : zq_P} (j65 : zq_ok X 4 65 J65) {Q : zq_Q} (hq : zq_R X (some .int) 1 Q) : zq_ok X 4 13 (xX12_parts_13 s_X12_isGuest s_X12_in s_X12_laysTable s_X12_partsOn s_X12_enters J65 Q) := by
  refine zs_iload_n C dX12_parts_13 rfl ?_
  refine zs_i2l C dX12_parts_14 ?_
  refine zs_lconst C dX12_parts_15 (by decide) ?_
  refine zs_ldc2 C dX12_parts_16 zw_1653 ?_
  refine zs_callS C h_X12_in g_X12_in zy_X12_in zw_1311 zw_1312 dX12_parts_19 ?_
  exact zs_if_ne C dX12_parts_22 (by decide) (kX12_parts_27 C h_X12_isGuest g_X12_isGuest h_X12_in g_X12_in h_X12_laysTable g_X12_laysTable h_X12_partsOn g_X12_partsOn h_X12_enters g_X12_enters j65 hq) (kX12_parts_25 C h_X12_isGuest g_X12_isGuest h_X12_in g_X12_in h_X12_laysTable g_X12_laysTable h_X12_partsOn g_X12_partsOn h_X12_enters g_X12_enters j65 hq)
def xX12_parts_0 (s_X12_isGuest : zq_Sp) (s_X12_in : zq_Sp) (s_X12_laysTable : zq_Sp) (s_X12_partsOn : zq_Sp) (s_X12_enters : zq_Sp) (J65 : zq_P) (Q : zq_Q) (ls : zq_L) (st : List Value) (h : zq_H) : Prop := (zi_aload 0 (zi_push (.int 0) (zi_putI 56 0 (zi_aload 0 (zi_iload 1 (zi_callV 1 56 s_X12_isGuest (zi_if1 (fun x => x = 0) (xX12_parts_25 s_X12_isGuest s_X12_in s_X12_laysTable s_X12_partsOn s_X12_enters J65 Q) (xX12_parts_13 s_X12_isGuest s_X12_in s_X12_laysTable s_X12_partsOn s_X12_enters J65 Q)))))))) ls st h
theorem kX12_parts_0 {X : zq_X} {d : Nat} (C : zq_C X cX12_parts 4 RX12 d) {d_X12_isGuest : Nat} {s_X12_isGuest : zq_Sp} (h_X12_isGuest : zq_M yX12_isGuest cX12_isGuest 2 (some .boolean) 1 d_X12_isGuest s_X12_isGuest) (g_X12_isGuest : d_X12_isGuest + 1 ≤ d) {d_X12_in : Nat} {s_X12_in : zq_Sp} (h_X12_in : zq_M yX12_in cX12_in 6 (some .boolean) 1 d_X12_in s_X12_in) (g_X12_in : d_X12_in + 1 ≤ d) {d_X12_laysTable : Nat} {s_X12_laysTable : zq_Sp} (h_X12_laysTable : zq_M yX12_laysTable cX12_laysTable 3 none 0 d_X12_laysTable s_X12_laysTable) (g_X12_laysTable : d_X12_laysTable + 1 ≤ d) {d_X12_partsOn : Nat} {s_X12_partsOn : zq_Sp} (h_X12_partsOn : zq_M yX12_partsOn cX12_partsOn 8 none 0 d_X12_partsOn s_X12_partsOn) (g_X12_partsOn : d_X12_partsOn + 1 ≤ d) {d_X12_enters : Nat} {s_X12_enters : zq_Sp} (h_X12_enters : zq_M yX12_enters cX12_enters 3 none 0 d_X12_enters s_X12_enters) (g_X12_enters : d_X12_enters + 1 ≤ d) {J65 : zq_P} (j65 : zq_ok X 4 65 J65) {Q : zq_Q} (hq : zq_R X (some .int) 1 Q) : zq_ok X 4 0 (xX12_parts_0 s_X12_isGuest s_X12_in s_X12_laysTable s_X12_partsOn s_X12_enters J65 Q) := by
  refine zs_aload_n C dX12_parts_0 rfl ?_
  refine zs_iconst C dX12_parts_1 (by decide) ?_
  refine zs_putI C zp_56 zF12 (j := 0) ⟨by decide, rfl⟩ ⟨rfl, by decide +kernel⟩ zw_1096 dX12_parts_2 ?_
  refine zs_aload_n C dX12_parts_5 rfl ?_
  refine zs_iload_n C dX12_parts_6 rfl ?_
  refine zs_callV C h_X12_isGuest g_X12_isGuest zy_X12_isGuest zp_56 (show vwCl[12]? = some (RX12, TX12, 67) from rfl) zw_1466 zw_1468 zs9_X12_isGuest dX12_parts_7 ?_
  exact zs_if_eq C dX12_parts_10 (by decide) (kX12_parts_25 C h_X12_isGuest g_X12_isGuest h_X12_in g_X12_in h_X12_laysTable g_X12_laysTable h_X12_partsOn g_X12_partsOn h_X12_enters g_X12_enters j65 hq) (kX12_parts_13 C h_X12_isGuest g_X12_isGuest h_X12_in g_X12_in h_X12_laysTable g_X12_laysTable h_X12_partsOn g_X12_partsOn h_X12_enters g_X12_enters j65 hq)
theorem mX12_parts {d : Nat} {spec : zq_Sp} {σ65 : Type} {d_X12_isGuest : Nat} {s_X12_isGuest : zq_Sp} (h_X12_isGuest : zq_M yX12_isGuest cX12_isGuest 2 (some .boolean) 1 d_X12_isGuest s_X12_isGuest) (g_X12_isGuest : d_X12_isGuest + 1 ≤ d) {d_X12_in : Nat} {s_X12_in : zq_Sp} (h_X12_in : zq_M yX12_in cX12_in 6 (some .boolean) 1 d_X12_in s_X12_in) (g_X12_in : d_X12_in + 1 ≤ d) {d_X12_laysTable : Nat} {s_X12_laysTable : zq_Sp} (h_X12_laysTable : zq_M yX12_laysTable cX12_laysTable 3 none 0 d_X12_laysTable s_X12_laysTable) (g_X12_laysTable : d_X12_laysTable + 1 ≤ d) {d_X12_partsOn : Nat} {s_X12_partsOn : zq_Sp} (h_X12_partsOn : zq_M yX12_partsOn cX12_partsOn 8 none 0 d_X12_partsOn s_X12_partsOn) (g_X12_partsOn : d_X12_partsOn + 1 ≤ d) {d_X12_enters : Nat} {s_X12_enters : zq_Sp} (h_X12_enters : zq_M yX12_enters cX12_enters 3 none 0 d_X12_enters s_X12_enters) (g_X12_enters : d_X12_enters + 1 ≤ d) (μ65 : σ65 → Nat) (I65 : zq_Q → σ65 → zq_P) (v : ∀ args h Q, spec args h Q → (zq_a args).length ≤ 4 ∧ xX12_parts_0 s_X12_isGuest s_X12_in s_X12_laysTable s_X12_partsOn s_X12_enters (fun ls st h => ∃ b, I65 Q b ls st h) Q (zq_l0 4 args) [] h) (v65 : ∀ Q a ls st h, I65 Q a ls st h → xX12_parts_65 s_X12_isGuest s_X12_in s_X12_laysTable s_X12_partsOn s_X12_enters (fun ls st h => ∃ b, μ65 b < μ65 a ∧ I65 Q b ls st h) Q ls st h) : zq_M yX12_parts cX12_parts 4 (some .int) 1 d spec := by
  refine zq_met (by decide +kernel) (by decide) (fun X Q args h C hq hs => ⟨(v args h Q hs).1, _, ?_, (v args h Q hs).2⟩)
  have hl := zq_loop1 (X := X) (nL := 4) (pc1 := 65) μ65 (I65 Q) (fun J65 => xX12_parts_65 s_X12_isGuest s_X12_in s_X12_laysTable s_X12_partsOn s_X12_enters J65 Q) (fun j65 => kX12_parts_65 C h_X12_isGuest g_X12_isGuest h_X12_in g_X12_in h_X12_laysTable g_X12_laysTable h_X12_partsOn g_X12_partsOn h_X12_enters g_X12_enters j65 hq) (v65 Q)
  exact kX12_parts_0 C h_X12_isGuest g_X12_isGuest h_X12_in g_X12_in h_X12_laysTable g_X12_laysTable h_X12_partsOn g_X12_partsOn h_X12_enters g_X12_enters hl hq
/-! ToOneCrumbModel.isCalm()Z -/
theorem dX12_isCalm_0 : decode cX12_isCalm 0 = .ok (.iconst 1, 1) := by decide +kernel
theorem dX12_isCalm_1 : decode cX12_isCalm 1 = .ok (.istore_n 1, 1) := by decide +kernel
theorem dX12_isCalm_2 : decode cX12_isCalm 2 = .ok (.iconst 0, 1) := by decide +kernel
theorem dX12_isCalm_3 : decode cX12_isCalm 3 = .ok (.istore_n 2, 1) := by decide +kernel
theorem dX12_isCalm_4 : decode cX12_isCalm 4 = .ok (.iload_n 2, 1) := by decide +kernel
theorem dX12_isCalm_5 : decode cX12_isCalm 5 = .ok (.aload_n 0, 1) := by decide +kernel
theorem dX12_isCalm_6 : decode cX12_isCalm 6 = .ok (.getfield 165, 3) := by decide +kernel
theorem dX12_isCalm_9 : decode cX12_isCalm 9 = .ok (.if_icmp .ge 60, 3) := by decide +kernel
theorem dX12_isCalm_12 : decode cX12_isCalm 12 = .ok (.iconst 0, 1) := by decide +kernel
theorem dX12_isCalm_13 : decode cX12_isCalm 13 = .ok (.istore_n 3, 1) := by decide +kernel
theorem dX12_isCalm_14 : decode cX12_isCalm 14 = .ok (.iload_n 3, 1) := by decide +kernel
theorem dX12_isCalm_15 : decode cX12_isCalm 15 = .ok (.aload_n 0, 1) := by decide +kernel
theorem dX12_isCalm_16 : decode cX12_isCalm 16 = .ok (.getfield 165, 3) := by decide +kernel
theorem dX12_isCalm_19 : decode cX12_isCalm 19 = .ok (.if_icmp .ge 44, 3) := by decide +kernel
theorem dX12_isCalm_22 : decode cX12_isCalm 22 = .ok (.iload_n 1, 1) := by decide +kernel
theorem dX12_isCalm_23 : decode cX12_isCalm 23 = .ok (.ifCond .eq 32, 3) := by decide +kernel
theorem dX12_isCalm_26 : decode cX12_isCalm 26 = .ok (.aload_n 0, 1) := by decide +kernel
theorem dX12_isCalm_27 : decode cX12_isCalm 27 = .ok (.getfield 102, 3) := by decide +kernel
theorem dX12_isCalm_30 : decode cX12_isCalm 30 = .ok (.bipush 6, 2) := by decide +kernel
theorem dX12_isCalm_32 : decode cX12_isCalm 32 = .ok (.iload_n 2, 1) := by decide +kernel
theorem dX12_isCalm_33 : decode cX12_isCalm 33 = .ok (.imul, 1) := by decide +kernel
theorem dX12_isCalm_34 : decode cX12_isCalm 34 = .ok (.iload_n 3, 1) := by decide +kernel
theorem dX12_isCalm_35 : decode cX12_isCalm 35 = .ok (.iadd, 1) := by decide +kernel
theorem dX12_isCalm_36 : decode cX12_isCalm 36 = .ok (.iaload, 1) := by decide +kernel
theorem dX12_isCalm_37 : decode cX12_isCalm 37 = .ok (.aload_n 0, 1) := by decide +kernel
theorem dX12_isCalm_38 : decode cX12_isCalm 38 = .ok (.getfield 102, 3) := by decide +kernel
theorem dX12_isCalm_41 : decode cX12_isCalm 41 = .ok (.bipush 6, 2) := by decide +kernel
theorem dX12_isCalm_43 : decode cX12_isCalm 43 = .ok (.iload_n 2, 1) := by decide +kernel
theorem dX12_isCalm_44 : decode cX12_isCalm 44 = .ok (.imul, 1) := by decide +kernel
theorem dX12_isCalm_45 : decode cX12_isCalm 45 = .ok (.iload_n 2, 1) := by decide +kernel
theorem dX12_isCalm_46 : decode cX12_isCalm 46 = .ok (.iadd, 1) := by decide +kernel
theorem dX12_isCalm_47 : decode cX12_isCalm 47 = .ok (.iaload, 1) := by decide +kernel
theorem dX12_isCalm_48 : decode cX12_isCalm 48 = .ok (.if_icmp .gt 7, 3) := by decide +kernel
theorem dX12_isCalm_51 : decode cX12_isCalm 51 = .ok (.iconst 1, 1) := by decide +kernel
theorem dX12_isCalm_52 : decode cX12_isCalm 52 = .ok (.goto 4, 3) := by decide +kernel
theorem dX12_isCalm_55 : decode cX12_isCalm 55 = .ok (.iconst 0, 1) := by decide +kernel
theorem dX12_isCalm_56 : decode cX12_isCalm 56 = .ok (.istore_n 1, 1) := by decide +kernel
theorem dX12_isCalm_57 : decode cX12_isCalm 57 = .ok (.iinc 3 1, 3) := by decide +kernel
theorem dX12_isCalm_60 : decode cX12_isCalm 60 = .ok (.goto (-46), 3) := by decide +kernel
theorem dX12_isCalm_63 : decode cX12_isCalm 63 = .ok (.iinc 2 1, 3) := by decide +kernel
theorem dX12_isCalm_66 : decode cX12_isCalm 66 = .ok (.goto (-62), 3) := by decide +kernel
theorem dX12_isCalm_69 : decode cX12_isCalm 69 = .ok (.iload_n 1, 1) := by decide +kernel
theorem dX12_isCalm_70 : decode cX12_isCalm 70 = .ok (.ireturn, 1) := by decide +kernel
def xX12_isCalm_69 (J4 : zq_P) (J14 : zq_P) (Q : zq_Q) (ls : zq_L) (st : List Value) (h : zq_H) : Prop := (zi_iload 1 (zi_zret Q)) ls st h
theorem kX12_isCalm_69 {X : zq_X} {d : Nat} (C : zq_C X cX12_isCalm 4 RX12 d) {J4 : zq_P} (j4 : zq_ok X 4 4 J4) {J14 : zq_P} (j14 : zq_ok X 4 14 J14) {Q : zq_Q} (hq : zq_R X (some .boolean) 1 Q) : zq_ok X 4 69 (xX12_isCalm_69 J4 J14 Q) := by
  refine zs_iload_n C dX12_isCalm_69 rfl ?_
  exact zs_zret C hq dX12_isCalm_70
def xX12_isCalm_63 (J4 : zq_P) (J14 : zq_P) (Q : zq_Q) (ls : zq_L) (st : List Value) (h : zq_H) : Prop := (zi_iinc 2 1 (J4)) ls st h
theorem kX12_isCalm_63 {X : zq_X} {d : Nat} (C : zq_C X cX12_isCalm 4 RX12 d) {J4 : zq_P} (j4 : zq_ok X 4 4 J4) {J14 : zq_P} (j14 : zq_ok X 4 14 J14) {Q : zq_Q} (hq : zq_R X (some .boolean) 1 Q) : zq_ok X 4 63 (xX12_isCalm_63 J4 J14 Q) := by
  refine zs_iinc C dX12_isCalm_63 (by decide) (by decide) ?_
  exact zs_goto C dX12_isCalm_66 (by decide) (j4)
def xX12_isCalm_56 (J4 : zq_P) (J14 : zq_P) (Q : zq_Q) (ls : zq_L) (st : List Value) (h : zq_H) : Prop := (zi_istore 1 (zi_iinc 3 1 (J14))) ls st h
theorem kX12_isCalm_56 {X : zq_X} {d : Nat} (C : zq_C X cX12_isCalm 4 RX12 d) {J4 : zq_P} (j4 : zq_ok X 4 4 J4) {J14 : zq_P} (j14 : zq_ok X 4 14 J14) {Q : zq_Q} (hq : zq_R X (some .boolean) 1 Q) : zq_ok X 4 56 (xX12_isCalm_56 J4 J14 Q) := by
  refine zs_istore_n C dX12_isCalm_56 rfl (by decide) ?_
  refine zs_iinc C dX12_isCalm_57 (by decide) (by decide) ?_
  exact zs_goto C dX12_isCalm_60 (by decide) (j14)
def xX12_isCalm_55 (J4 : zq_P) (J14 : zq_P) (Q : zq_Q) (ls : zq_L) (st : List Value) (h : zq_H) : Prop := (zi_push (.int 0) ((xX12_isCalm_56 J4 J14 Q))) ls st h
theorem kX12_isCalm_55 {X : zq_X} {d : Nat} (C : zq_C X cX12_isCalm 4 RX12 d) {J4 : zq_P} (j4 : zq_ok X 4 4 J4) {J14 : zq_P} (j14 : zq_ok X 4 14 J14) {Q : zq_Q} (hq : zq_R X (some .boolean) 1 Q) : zq_ok X 4 55 (xX12_isCalm_55 J4 J14 Q) := by
  refine zs_iconst C dX12_isCalm_55 (by decide) ?_
  exact kX12_isCalm_56 C j4 j14 hq
def xX12_isCalm_51 (J4 : zq_P) (J14 : zq_P) (Q : zq_Q) (ls : zq_L) (st : List Value) (h : zq_H) : Prop := (zi_push (.int 1) ((xX12_isCalm_56 J4 J14 Q))) ls st h
theorem kX12_isCalm_51 {X : zq_X} {d : Nat} (C : zq_C X cX12_isCalm 4 RX12 d) {J4 : zq_P} (j4 : zq_ok X 4 4 J4) {J14 : zq_P} (j14 : zq_ok X 4 14 J14) {Q : zq_Q} (hq : zq_R X (some .boolean) 1 Q) : zq_ok X 4 51 (xX12_isCalm_51 J4 J14 Q) := by
  refine zs_iconst C dX12_isCalm_51 (by decide) ?_
  exact zs_goto C dX12_isCalm_52 (by decide) (kX12_isCalm_56 C j4 j14 hq)
def xX12_isCalm_26 (J4 : zq_P) (J14 : zq_P) (Q : zq_Q) (ls : zq_L) (st : List Value) (h : zq_H) : Prop := (zi_aload 0 (zi_getR 56 87 (zi_push (.int 6) (zi_iload 2 (zi_i2 (fun x y => x * y) (zi_iload 3 (zi_i2 (fun x y => x + y) (zi_aldI 87 36 (zi_aload 0 (zi_getR 56 87 (zi_push (.int 6) (zi_iload 2 (zi_i2 (fun x y => x * y) (zi_iload 2 (zi_i2 (fun x y => x + y) (zi_aldI 87 36 (zi_if2 (fun x y => y < x) (xX12_isCalm_55 J4 J14 Q) (xX12_isCalm_51 J4 J14 Q)))))))))))))))))) ls st h
theorem kX12_isCalm_26 {X : zq_X} {d : Nat} (C : zq_C X cX12_isCalm 4 RX12 d) {J4 : zq_P} (j4 : zq_ok X 4 4 J4) {J14 : zq_P} (j14 : zq_ok X 4 14 J14) {Q : zq_Q} (hq : zq_R X (some .boolean) 1 Q) : zq_ok X 4 26 (xX12_isCalm_26 J4 J14 Q) := by
  refine zs_aload_n C dX12_isCalm_26 rfl ?_
  refine zs_getR C zp_56 zF12 (j := 46) ⟨by decide, rfl⟩ zw_1142 dX12_isCalm_27 ?_
  refine zs_bipush C dX12_isCalm_30 (by decide) ?_
  refine zs_iload_n C dX12_isCalm_32 rfl ?_
  refine zs_imul C dX12_isCalm_33 ?_
  refine zs_iload_n C dX12_isCalm_34 rfl ?_
  refine zs_iadd C dX12_isCalm_35 ?_
  refine zs_iaload C zp_87 dX12_isCalm_36 ?_
  refine zs_aload_n C dX12_isCalm_37 rfl ?_
  refine zs_getR C zp_56 zF12 (j := 46) ⟨by decide, rfl⟩ zw_1142 dX12_isCalm_38 ?_
  refine zs_bipush C dX12_isCalm_41 (by decide) ?_
  refine zs_iload_n C dX12_isCalm_43 rfl ?_
  refine zs_imul C dX12_isCalm_44 ?_
  refine zs_iload_n C dX12_isCalm_45 rfl ?_
  refine zs_iadd C dX12_isCalm_46 ?_
  refine zs_iaload C zp_87 dX12_isCalm_47 ?_
  exact zs_icmp_gt C dX12_isCalm_48 (by decide) (kX12_isCalm_55 C j4 j14 hq) (kX12_isCalm_51 C j4 j14 hq)
def xX12_isCalm_22 (J4 : zq_P) (J14 : zq_P) (Q : zq_Q) (ls : zq_L) (st : List Value) (h : zq_H) : Prop := (zi_iload 1 (zi_if1 (fun x => x = 0) (xX12_isCalm_55 J4 J14 Q) (xX12_isCalm_26 J4 J14 Q))) ls st h
theorem kX12_isCalm_22 {X : zq_X} {d : Nat} (C : zq_C X cX12_isCalm 4 RX12 d) {J4 : zq_P} (j4 : zq_ok X 4 4 J4) {J14 : zq_P} (j14 : zq_ok X 4 14 J14) {Q : zq_Q} (hq : zq_R X (some .boolean) 1 Q) : zq_ok X 4 22 (xX12_isCalm_22 J4 J14 Q) := by
  refine zs_iload_n C dX12_isCalm_22 rfl ?_
  exact zs_if_eq C dX12_isCalm_23 (by decide) (kX12_isCalm_55 C j4 j14 hq) (kX12_isCalm_26 C j4 j14 hq)
def xX12_isCalm_14 (J4 : zq_P) (J14 : zq_P) (Q : zq_Q) (ls : zq_L) (st : List Value) (h : zq_H) : Prop := (zi_iload 3 (zi_aload 0 (zi_getI 56 4 (zi_if2 (fun x y => y ≤ x) (xX12_isCalm_63 J4 J14 Q) (xX12_isCalm_22 J4 J14 Q))))) ls st h
theorem kX12_isCalm_14 {X : zq_X} {d : Nat} (C : zq_C X cX12_isCalm 4 RX12 d) {J4 : zq_P} (j4 : zq_ok X 4 4 J4) {J14 : zq_P} (j14 : zq_ok X 4 14 J14) {Q : zq_Q} (hq : zq_R X (some .boolean) 1 Q) : zq_ok X 4 14 (xX12_isCalm_14 J4 J14 Q) := by
  refine zs_iload_n C dX12_isCalm_14 rfl ?_
  refine zs_aload_n C dX12_isCalm_15 rfl ?_
  refine zs_getI C zp_56 zF12 (j := 4) ⟨by decide, rfl⟩ zw_1100 dX12_isCalm_16 ?_
  exact zs_icmp_ge C dX12_isCalm_19 (by decide) (kX12_isCalm_63 C j4 j14 hq) (kX12_isCalm_22 C j4 j14 hq)
def xX12_isCalm_12 (J4 : zq_P) (J14 : zq_P) (Q : zq_Q) (ls : zq_L) (st : List Value) (h : zq_H) : Prop := (zi_push (.int 0) (zi_istore 3 (J14))) ls st h
theorem kX12_isCalm_12 {X : zq_X} {d : Nat} (C : zq_C X cX12_isCalm 4 RX12 d) {J4 : zq_P} (j4 : zq_ok X 4 4 J4) {J14 : zq_P} (j14 : zq_ok X 4 14 J14) {Q : zq_Q} (hq : zq_R X (some .boolean) 1 Q) : zq_ok X 4 12 (xX12_isCalm_12 J4 J14 Q) := by
  refine zs_iconst C dX12_isCalm_12 (by decide) ?_
  refine zs_istore_n C dX12_isCalm_13 rfl (by decide) ?_
  exact j14
def xX12_isCalm_4 (J4 : zq_P) (J14 : zq_P) (Q : zq_Q) (ls : zq_L) (st : List Value) (h : zq_H) : Prop := (zi_iload 2 (zi_aload 0 (zi_getI 56 4 (zi_if2 (fun x y => y ≤ x) (xX12_isCalm_69 J4 J14 Q) (xX12_isCalm_12 J4 J14 Q))))) ls st h
theorem kX12_isCalm_4 {X : zq_X} {d : Nat} (C : zq_C X cX12_isCalm 4 RX12 d) {J4 : zq_P} (j4 : zq_ok X 4 4 J4) {J14 : zq_P} (j14 : zq_ok X 4 14 J14) {Q : zq_Q} (hq : zq_R X (some .boolean) 1 Q) : zq_ok X 4 4 (xX12_isCalm_4 J4 J14 Q) := by
  refine zs_iload_n C dX12_isCalm_4 rfl ?_
  refine zs_aload_n C dX12_isCalm_5 rfl ?_
  refine zs_getI C zp_56 zF12 (j := 4) ⟨by decide, rfl⟩ zw_1100 dX12_isCalm_6 ?_
  exact zs_icmp_ge C dX12_isCalm_9 (by decide) (kX12_isCalm_69 C j4 j14 hq) (kX12_isCalm_12 C j4 j14 hq)
def xX12_isCalm_0 (J4 : zq_P) (J14 : zq_P) (Q : zq_Q) (ls : zq_L) (st : List Value) (h : zq_H) : Prop := (zi_push (.int 1) (zi_istore 1 (zi_push (.int 0) (zi_istore 2 (J4))))) ls st h
theorem kX12_isCalm_0 {X : zq_X} {d : Nat} (C : zq_C X cX12_isCalm 4 RX12 d) {J4 : zq_P} (j4 : zq_ok X 4 4 J4) {J14 : zq_P} (j14 : zq_ok X 4 14 J14) {Q : zq_Q} (hq : zq_R X (some .boolean) 1 Q) : zq_ok X 4 0 (xX12_isCalm_0 J4 J14 Q) := by
  refine zs_iconst C dX12_isCalm_0 (by decide) ?_
  refine zs_istore_n C dX12_isCalm_1 rfl (by decide) ?_
  refine zs_iconst C dX12_isCalm_2 (by decide) ?_
  refine zs_istore_n C dX12_isCalm_3 rfl (by decide) ?_
  exact j4
theorem mX12_isCalm {d : Nat} {spec : zq_Sp} {σ4 : Type} {σ14 : Type} (μ4 : σ4 → Nat) (I4 : zq_Q → σ4 → zq_P) (μ14 : σ14 → Nat) (I14 : zq_Q → σ14 → zq_P) (v : ∀ args h Q, spec args h Q → (zq_a args).length ≤ 4 ∧ xX12_isCalm_0 (fun ls st h => ∃ b, I4 Q b ls st h) (fun ls st h => ∃ b, I14 Q b ls st h) Q (zq_l0 4 args) [] h) (v4 : ∀ Q a ls st h, I4 Q a ls st h → xX12_isCalm_4 (fun ls st h => ∃ b, μ4 b < μ4 a ∧ I4 Q b ls st h) (fun ls st h => ∃ b, μ14 b < μ4 a ∧ I14 Q b ls st h) Q ls st h) (v14 : ∀ Q a ls st h, I14 Q a ls st h → xX12_isCalm_14 (fun ls st h => ∃ b, μ4 b < μ14 a ∧ I4 Q b ls st h) (fun ls st h => ∃ b, μ14 b < μ14 a ∧ I14 Q b ls st h) Q ls st h) : zq_M yX12_isCalm cX12_isCalm 4 (some .boolean) 1 d spec := by
  refine zq_met (by decide +kernel) (by decide) (fun X Q args h C hq hs => ⟨(v args h Q hs).1, _, ?_, (v args h Q hs).2⟩)
  have hl := zq_loop2 (X := X) (nL := 4) (pc1 := 4) (pc2 := 14) μ4 μ14 (I4 Q) (I14 Q) (fun J4 J14 => xX12_isCalm_4 J4 J14 Q) (fun J4 J14 => xX12_isCalm_14 J4 J14 Q) (fun j4 j14 => kX12_isCalm_4 C j4 j14 hq) (fun j4 j14 => kX12_isCalm_14 C j4 j14 hq) (v4 Q) (v14 Q)
  exact kX12_isCalm_0 C hl.1 hl.2 hq
/-! ToOneCrumbModel.goesTo(III)V -/
theorem dX12_goesTo_0 : decode cX12_goesTo 0 = .ok (.iconst 0, 1) := by decide +kernel
theorem dX12_goesTo_1 : decode cX12_goesTo 1 = .ok (.istore 4, 2) := by decide +kernel
theorem dX12_goesTo_3 : decode cX12_goesTo 3 = .ok (.iload 4, 2) := by decide +kernel
theorem dX12_goesTo_5 : decode cX12_goesTo 5 = .ok (.aload_n 0, 1) := by decide +kernel
theorem dX12_goesTo_6 : decode cX12_goesTo 6 = .ok (.getfield 165, 3) := by decide +kernel
theorem dX12_goesTo_9 : decode cX12_goesTo 9 = .ok (.if_icmp .ge 38, 3) := by decide +kernel
theorem dX12_goesTo_12 : decode cX12_goesTo 12 = .ok (.aload_n 0, 1) := by decide +kernel
theorem dX12_goesTo_13 : decode cX12_goesTo 13 = .ok (.getfield 102, 3) := by decide +kernel
theorem dX12_goesTo_16 : decode cX12_goesTo 16 = .ok (.bipush 6, 2) := by decide +kernel
theorem dX12_goesTo_18 : decode cX12_goesTo 18 = .ok (.iload 4, 2) := by decide +kernel
theorem dX12_goesTo_20 : decode cX12_goesTo 20 = .ok (.imul, 1) := by decide +kernel
theorem dX12_goesTo_21 : decode cX12_goesTo 21 = .ok (.iload_n 1, 1) := by decide +kernel
theorem dX12_goesTo_22 : decode cX12_goesTo 22 = .ok (.iadd, 1) := by decide +kernel
theorem dX12_goesTo_23 : decode cX12_goesTo 23 = .ok (.dup2, 1) := by decide +kernel
theorem dX12_goesTo_24 : decode cX12_goesTo 24 = .ok (.iaload, 1) := by decide +kernel
theorem dX12_goesTo_25 : decode cX12_goesTo 25 = .ok (.iload_n 3, 1) := by decide +kernel
theorem dX12_goesTo_26 : decode cX12_goesTo 26 = .ok (.aload_n 0, 1) := by decide +kernel
theorem dX12_goesTo_27 : decode cX12_goesTo 27 = .ok (.getfield 63, 3) := by decide +kernel
theorem dX12_goesTo_30 : decode cX12_goesTo 30 = .ok (.bipush 16, 2) := by decide +kernel
theorem dX12_goesTo_32 : decode cX12_goesTo 32 = .ok (.iload 4, 2) := by decide +kernel
theorem dX12_goesTo_34 : decode cX12_goesTo 34 = .ok (.imul, 1) := by decide +kernel
theorem dX12_goesTo_35 : decode cX12_goesTo 35 = .ok (.iload_n 2, 1) := by decide +kernel
theorem dX12_goesTo_36 : decode cX12_goesTo 36 = .ok (.iadd, 1) := by decide +kernel
theorem dX12_goesTo_37 : decode cX12_goesTo 37 = .ok (.iaload, 1) := by decide +kernel
theorem dX12_goesTo_38 : decode cX12_goesTo 38 = .ok (.imul, 1) := by decide +kernel
theorem dX12_goesTo_39 : decode cX12_goesTo 39 = .ok (.iadd, 1) := by decide +kernel
theorem dX12_goesTo_40 : decode cX12_goesTo 40 = .ok (.iastore, 1) := by decide +kernel
theorem dX12_goesTo_41 : decode cX12_goesTo 41 = .ok (.iinc 4 1, 3) := by decide +kernel
theorem dX12_goesTo_44 : decode cX12_goesTo 44 = .ok (.goto (-41), 3) := by decide +kernel
theorem dX12_goesTo_47 : decode cX12_goesTo 47 = .ok (.return_, 1) := by decide +kernel
def xX12_goesTo_47 (J3 : zq_P) (Q : zq_Q) (ls : zq_L) (st : List Value) (h : zq_H) : Prop := (zi_vret Q) ls st h
theorem kX12_goesTo_47 {X : zq_X} {d : Nat} (C : zq_C X cX12_goesTo 5 RX12 d) {J3 : zq_P} (j3 : zq_ok X 5 3 J3) {Q : zq_Q} (hq : zq_R X none 0 Q) : zq_ok X 5 47 (xX12_goesTo_47 J3 Q) := by
  exact zs_vret C hq dX12_goesTo_47
def xX12_goesTo_12 (J3 : zq_P) (Q : zq_Q) (ls : zq_L) (st : List Value) (h : zq_H) : Prop := (zi_aload 0 (zi_getR 56 87 (zi_push (.int 6) (zi_iload 4 (zi_i2 (fun x y => x * y) (zi_iload 1 (zi_i2 (fun x y => x + y) (zi_dup2 (zi_aldI 87 36 (zi_iload 3 (zi_aload 0 (zi_getR 56 74 (zi_push (.int 16) (zi_iload 4 (zi_i2 (fun x y => x * y) (zi_iload 2 (zi_i2 (fun x y => x + y) (zi_aldI 74 96 (zi_i2 (fun x y => x * y) (zi_i2 (fun x y => x + y) (zi_astI 87 36 (zi_iinc 4 1 (J3))))))))))))))))))))))) ls st h
theorem kX12_goesTo_12 {X : zq_X} {d : Nat} (C : zq_C X cX12_goesTo 5 RX12 d) {J3 : zq_P} (j3 : zq_ok X 5 3 J3) {Q : zq_Q} (hq : zq_R X none 0 Q) : zq_ok X 5 12 (xX12_goesTo_12 J3 Q) := by
  refine zs_aload_n C dX12_goesTo_12 rfl ?_
  refine zs_getR C zp_56 zF12 (j := 46) ⟨by decide, rfl⟩ zw_1142 dX12_goesTo_13 ?_
  refine zs_bipush C dX12_goesTo_16 (by decide) ?_
  refine zs_iload C dX12_goesTo_18 ?_
  refine zs_imul C dX12_goesTo_20 ?_
  refine zs_iload_n C dX12_goesTo_21 rfl ?_
  refine zs_iadd C dX12_goesTo_22 ?_
  refine zs_dup2 C dX12_goesTo_23 ?_
  refine zs_iaload C zp_87 dX12_goesTo_24 ?_
  refine zs_iload_n C dX12_goesTo_25 rfl ?_
  refine zs_aload_n C dX12_goesTo_26 rfl ?_
  refine zs_getR C zp_56 zF12 (j := 29) ⟨by decide, rfl⟩ zw_1125 dX12_goesTo_27 ?_
  refine zs_bipush C dX12_goesTo_30 (by decide) ?_
  refine zs_iload C dX12_goesTo_32 ?_
  refine zs_imul C dX12_goesTo_34 ?_
  refine zs_iload_n C dX12_goesTo_35 rfl ?_
  refine zs_iadd C dX12_goesTo_36 ?_
  refine zs_iaload C zp_74 dX12_goesTo_37 ?_
  refine zs_imul C dX12_goesTo_38 ?_
  refine zs_iadd C dX12_goesTo_39 ?_
  refine zs_iastore C zp_87 dX12_goesTo_40 ?_
  refine zs_iinc C dX12_goesTo_41 (by decide) (by decide) ?_
  exact zs_goto C dX12_goesTo_44 (by decide) (j3)
def xX12_goesTo_3 (J3 : zq_P) (Q : zq_Q) (ls : zq_L) (st : List Value) (h : zq_H) : Prop := (zi_iload 4 (zi_aload 0 (zi_getI 56 4 (zi_if2 (fun x y => y ≤ x) (xX12_goesTo_47 J3 Q) (xX12_goesTo_12 J3 Q))))) ls st h
theorem kX12_goesTo_3 {X : zq_X} {d : Nat} (C : zq_C X cX12_goesTo 5 RX12 d) {J3 : zq_P} (j3 : zq_ok X 5 3 J3) {Q : zq_Q} (hq : zq_R X none 0 Q) : zq_ok X 5 3 (xX12_goesTo_3 J3 Q) := by
  refine zs_iload C dX12_goesTo_3 ?_
  refine zs_aload_n C dX12_goesTo_5 rfl ?_
  refine zs_getI C zp_56 zF12 (j := 4) ⟨by decide, rfl⟩ zw_1100 dX12_goesTo_6 ?_
  exact zs_icmp_ge C dX12_goesTo_9 (by decide) (kX12_goesTo_47 C j3 hq) (kX12_goesTo_12 C j3 hq)
def xX12_goesTo_0 (J3 : zq_P) (Q : zq_Q) (ls : zq_L) (st : List Value) (h : zq_H) : Prop := (zi_push (.int 0) (zi_istore 4 (J3))) ls st h
theorem kX12_goesTo_0 {X : zq_X} {d : Nat} (C : zq_C X cX12_goesTo 5 RX12 d) {J3 : zq_P} (j3 : zq_ok X 5 3 J3) {Q : zq_Q} (hq : zq_R X none 0 Q) : zq_ok X 5 0 (xX12_goesTo_0 J3 Q) := by
  refine zs_iconst C dX12_goesTo_0 (by decide) ?_
  refine zs_istore C dX12_goesTo_1 (by decide) ?_
  exact j3
theorem mX12_goesTo {d : Nat} {spec : zq_Sp} {σ3 : Type} (μ3 : σ3 → Nat) (I3 : zq_Q → σ3 → zq_P) (v : ∀ args h Q, spec args h Q → (zq_a args).length ≤ 5 ∧ xX12_goesTo_0 (fun ls st h => ∃ b, I3 Q b ls st h) Q (zq_l0 5 args) [] h) (v3 : ∀ Q a ls st h, I3 Q a ls st h → xX12_goesTo_3 (fun ls st h => ∃ b, μ3 b < μ3 a ∧ I3 Q b ls st h) Q ls st h) : zq_M yX12_goesTo cX12_goesTo 5 none 0 d spec := by
  refine zq_met (by decide +kernel) (by decide) (fun X Q args h C hq hs => ⟨(v args h Q hs).1, _, ?_, (v args h Q hs).2⟩)
  have hl := zq_loop1 (X := X) (nL := 5) (pc1 := 3) μ3 (I3 Q) (fun J3 => xX12_goesTo_3 J3 Q) (fun j3 => kX12_goesTo_3 C j3 hq) (v3 Q)
  exact kX12_goesTo_0 C hl hq
/-! ToOneCrumbModel.calmsFrom(II)V -/
theorem dX12_calmsFrom_0 : decode cX12_calmsFrom 0 = .ok (.iload_n 1, 1) := by decide +kernel
theorem dX12_calmsFrom_1 : decode cX12_calmsFrom 1 = .ok (.aload_n 0, 1) := by decide +kernel
theorem dX12_calmsFrom_2 : decode cX12_calmsFrom 2 = .ok (.getfield 158, 3) := by decide +kernel
theorem dX12_calmsFrom_5 : decode cX12_calmsFrom 5 = .ok (.if_icmp .ne 56, 3) := by decide +kernel
theorem dX12_calmsFrom_8 : decode cX12_calmsFrom 8 = .ok (.aload_n 0, 1) := by decide +kernel
theorem dX12_calmsFrom_9 : decode cX12_calmsFrom 9 = .ok (.invokevirtual 411, 3) := by decide +kernel
theorem dX12_calmsFrom_12 : decode cX12_calmsFrom 12 = .ok (.ifCond .eq 48, 3) := by decide +kernel
theorem dX12_calmsFrom_15 : decode cX12_calmsFrom 15 = .ok (.iconst 0, 1) := by decide +kernel
theorem dX12_calmsFrom_16 : decode cX12_calmsFrom 16 = .ok (.istore_n 3, 1) := by decide +kernel
theorem dX12_calmsFrom_17 : decode cX12_calmsFrom 17 = .ok (.iload_n 3, 1) := by decide +kernel
theorem dX12_calmsFrom_18 : decode cX12_calmsFrom 18 = .ok (.aload_n 0, 1) := by decide +kernel
theorem dX12_calmsFrom_19 : decode cX12_calmsFrom 19 = .ok (.getfield 158, 3) := by decide +kernel
theorem dX12_calmsFrom_22 : decode cX12_calmsFrom 22 = .ok (.if_icmp .ge 28, 3) := by decide +kernel
theorem dX12_calmsFrom_25 : decode cX12_calmsFrom 25 = .ok (.aload_n 0, 1) := by decide +kernel
theorem dX12_calmsFrom_26 : decode cX12_calmsFrom 26 = .ok (.getfield 414, 3) := by decide +kernel
theorem dX12_calmsFrom_29 : decode cX12_calmsFrom 29 = .ok (.ifCond .ne 21, 3) := by decide +kernel
theorem dX12_calmsFrom_32 : decode cX12_calmsFrom 32 = .ok (.aload_n 0, 1) := by decide +kernel
theorem dX12_calmsFrom_33 : decode cX12_calmsFrom 33 = .ok (.getfield 99, 3) := by decide +kernel
theorem dX12_calmsFrom_36 : decode cX12_calmsFrom 36 = .ok (.iload_n 3, 1) := by decide +kernel
theorem dX12_calmsFrom_37 : decode cX12_calmsFrom 37 = .ok (.aload_n 0, 1) := by decide +kernel
theorem dX12_calmsFrom_38 : decode cX12_calmsFrom 38 = .ok (.getfield 96, 3) := by decide +kernel
theorem dX12_calmsFrom_41 : decode cX12_calmsFrom 41 = .ok (.iload_n 3, 1) := by decide +kernel
theorem dX12_calmsFrom_42 : decode cX12_calmsFrom 42 = .ok (.iaload, 1) := by decide +kernel
theorem dX12_calmsFrom_43 : decode cX12_calmsFrom 43 = .ok (.iastore, 1) := by decide +kernel
theorem dX12_calmsFrom_44 : decode cX12_calmsFrom 44 = .ok (.iinc 3 1, 3) := by decide +kernel
theorem dX12_calmsFrom_47 : decode cX12_calmsFrom 47 = .ok (.goto (-30), 3) := by decide +kernel
theorem dX12_calmsFrom_50 : decode cX12_calmsFrom 50 = .ok (.aload_n 0, 1) := by decide +kernel
theorem dX12_calmsFrom_51 : decode cX12_calmsFrom 51 = .ok (.dup, 1) := by decide +kernel
theorem dX12_calmsFrom_52 : decode cX12_calmsFrom 52 = .ok (.getfield 414, 3) := by decide +kernel
theorem dX12_calmsFrom_55 : decode cX12_calmsFrom 55 = .ok (.iconst 1, 1) := by decide +kernel
theorem dX12_calmsFrom_56 : decode cX12_calmsFrom 56 = .ok (.iadd, 1) := by decide +kernel
theorem dX12_calmsFrom_57 : decode cX12_calmsFrom 57 = .ok (.putfield 414, 3) := by decide +kernel
theorem dX12_calmsFrom_60 : decode cX12_calmsFrom 60 = .ok (.return_, 1) := by decide +kernel
theorem dX12_calmsFrom_61 : decode cX12_calmsFrom 61 = .ok (.iconst 0, 1) := by decide +kernel
theorem dX12_calmsFrom_62 : decode cX12_calmsFrom 62 = .ok (.istore_n 3, 1) := by decide +kernel
theorem dX12_calmsFrom_63 : decode cX12_calmsFrom 63 = .ok (.iload_n 3, 1) := by decide +kernel
theorem dX12_calmsFrom_64 : decode cX12_calmsFrom 64 = .ok (.aload_n 0, 1) := by decide +kernel
theorem dX12_calmsFrom_65 : decode cX12_calmsFrom 65 = .ok (.getfield 165, 3) := by decide +kernel
theorem dX12_calmsFrom_68 : decode cX12_calmsFrom 68 = .ok (.if_icmp .ge 66, 3) := by decide +kernel
theorem dX12_calmsFrom_71 : decode cX12_calmsFrom 71 = .ok (.iload_n 2, 1) := by decide +kernel
theorem dX12_calmsFrom_72 : decode cX12_calmsFrom 72 = .ok (.iload_n 3, 1) := by decide +kernel
theorem dX12_calmsFrom_73 : decode cX12_calmsFrom 73 = .ok (.invokestatic 383, 3) := by decide +kernel
theorem dX12_calmsFrom_76 : decode cX12_calmsFrom 76 = .ok (.ifCond .eq 19, 3) := by decide +kernel
theorem dX12_calmsFrom_79 : decode cX12_calmsFrom 79 = .ok (.iload_n 1, 1) := by decide +kernel
theorem dX12_calmsFrom_80 : decode cX12_calmsFrom 80 = .ok (.ifCond .le 48, 3) := by decide +kernel
theorem dX12_calmsFrom_83 : decode cX12_calmsFrom 83 = .ok (.aload_n 0, 1) := by decide +kernel
theorem dX12_calmsFrom_84 : decode cX12_calmsFrom 84 = .ok (.getfield 96, 3) := by decide +kernel
theorem dX12_calmsFrom_87 : decode cX12_calmsFrom 87 = .ok (.iload_n 1, 1) := by decide +kernel
theorem dX12_calmsFrom_88 : decode cX12_calmsFrom 88 = .ok (.iconst 1, 1) := by decide +kernel
theorem dX12_calmsFrom_89 : decode cX12_calmsFrom 89 = .ok (.isub, 1) := by decide +kernel
theorem dX12_calmsFrom_90 : decode cX12_calmsFrom 90 = .ok (.iaload, 1) := by decide +kernel
theorem dX12_calmsFrom_91 : decode cX12_calmsFrom 91 = .ok (.iload_n 3, 1) := by decide +kernel
theorem dX12_calmsFrom_92 : decode cX12_calmsFrom 92 = .ok (.if_icmp .ne 36, 3) := by decide +kernel
theorem dX12_calmsFrom_95 : decode cX12_calmsFrom 95 = .ok (.aload_n 0, 1) := by decide +kernel
theorem dX12_calmsFrom_96 : decode cX12_calmsFrom 96 = .ok (.getfield 96, 3) := by decide +kernel
theorem dX12_calmsFrom_99 : decode cX12_calmsFrom 99 = .ok (.iload_n 1, 1) := by decide +kernel
theorem dX12_calmsFrom_100 : decode cX12_calmsFrom 100 = .ok (.iload_n 3, 1) := by decide +kernel
theorem dX12_calmsFrom_101 : decode cX12_calmsFrom 101 = .ok (.iastore, 1) := by decide +kernel
theorem dX12_calmsFrom_102 : decode cX12_calmsFrom 102 = .ok (.aload_n 0, 1) := by decide +kernel
theorem dX12_calmsFrom_103 : decode cX12_calmsFrom 103 = .ok (.iload_n 3, 1) := by decide +kernel
theorem dX12_calmsFrom_104 : decode cX12_calmsFrom 104 = .ok (.iload_n 1, 1) := by decide +kernel
theorem dX12_calmsFrom_105 : decode cX12_calmsFrom 105 = .ok (.iconst 1, 1) := by decide +kernel
theorem dX12_calmsFrom_106 : decode cX12_calmsFrom 106 = .ok (.invokevirtual 417, 3) := by decide +kernel
theorem dX12_calmsFrom_109 : decode cX12_calmsFrom 109 = .ok (.aload_n 0, 1) := by decide +kernel
theorem dX12_calmsFrom_110 : decode cX12_calmsFrom 110 = .ok (.iload_n 1, 1) := by decide +kernel
theorem dX12_calmsFrom_111 : decode cX12_calmsFrom 111 = .ok (.iconst 1, 1) := by decide +kernel
theorem dX12_calmsFrom_112 : decode cX12_calmsFrom 112 = .ok (.iadd, 1) := by decide +kernel
theorem dX12_calmsFrom_113 : decode cX12_calmsFrom 113 = .ok (.iload_n 2, 1) := by decide +kernel
theorem dX12_calmsFrom_114 : decode cX12_calmsFrom 114 = .ok (.iconst 1, 1) := by decide +kernel
theorem dX12_calmsFrom_115 : decode cX12_calmsFrom 115 = .ok (.iload_n 3, 1) := by decide +kernel
theorem dX12_calmsFrom_116 : decode cX12_calmsFrom 116 = .ok (.ishl, 1) := by decide +kernel
theorem dX12_calmsFrom_117 : decode cX12_calmsFrom 117 = .ok (.ior, 1) := by decide +kernel
theorem dX12_calmsFrom_118 : decode cX12_calmsFrom 118 = .ok (.invokevirtual 421, 3) := by decide +kernel
theorem dX12_calmsFrom_121 : decode cX12_calmsFrom 121 = .ok (.aload_n 0, 1) := by decide +kernel
theorem dX12_calmsFrom_122 : decode cX12_calmsFrom 122 = .ok (.iload_n 3, 1) := by decide +kernel
theorem dX12_calmsFrom_123 : decode cX12_calmsFrom 123 = .ok (.iload_n 1, 1) := by decide +kernel
theorem dX12_calmsFrom_124 : decode cX12_calmsFrom 124 = .ok (.iconst (-1), 1) := by decide +kernel
theorem dX12_calmsFrom_125 : decode cX12_calmsFrom 125 = .ok (.invokevirtual 417, 3) := by decide +kernel
theorem dX12_calmsFrom_128 : decode cX12_calmsFrom 128 = .ok (.iinc 3 1, 3) := by decide +kernel
theorem dX12_calmsFrom_131 : decode cX12_calmsFrom 131 = .ok (.goto (-68), 3) := by decide +kernel
theorem dX12_calmsFrom_134 : decode cX12_calmsFrom 134 = .ok (.return_, 1) := by decide +kernel
def xX12_calmsFrom_134 (s_X12_isCalm : zq_Sp) (s_X12_has : zq_Sp) (s_X12_goesTo : zq_Sp) (s_X12_calmsFrom : zq_Sp) (J17 : zq_P) (J63 : zq_P) (Q : zq_Q) (ls : zq_L) (st : List Value) (h : zq_H) : Prop := (zi_vret Q) ls st h
theorem kX12_calmsFrom_134 {X : zq_X} {d : Nat} (C : zq_C X cX12_calmsFrom 4 RX12 d) {d_X12_isCalm : Nat} {s_X12_isCalm : zq_Sp} (h_X12_isCalm : zq_M yX12_isCalm cX12_isCalm 4 (some .boolean) 1 d_X12_isCalm s_X12_isCalm) (g_X12_isCalm : d_X12_isCalm + 1 ≤ d) {d_X12_has : Nat} {s_X12_has : zq_Sp} (h_X12_has : zq_M yX12_has cX12_has 2 (some .boolean) 1 d_X12_has s_X12_has) (g_X12_has : d_X12_has + 1 ≤ d) {d_X12_goesTo : Nat} {s_X12_goesTo : zq_Sp} (h_X12_goesTo : zq_M yX12_goesTo cX12_goesTo 5 none 0 d_X12_goesTo s_X12_goesTo) (g_X12_goesTo : d_X12_goesTo + 1 ≤ d) {d_X12_calmsFrom : Nat} {s_X12_calmsFrom : zq_Sp} (h_X12_calmsFrom : zq_M yX12_calmsFrom cX12_calmsFrom 4 none 0 d_X12_calmsFrom s_X12_calmsFrom) (g_X12_calmsFrom : d_X12_calmsFrom + 1 ≤ d) {J17 : zq_P} (j17 : zq_ok X 4 17 J17) {J63 : zq_P} (j63 : zq_ok X 4 63 J63) {Q : zq_Q} (hq : zq_R X none 0 Q) : zq_ok X 4 134 (xX12_calmsFrom_134 s_X12_isCalm s_X12_has s_X12_goesTo s_X12_calmsFrom J17 J63 Q) := by
  exact zs_vret C hq dX12_calmsFrom_134
def xX12_calmsFrom_128 (s_X12_isCalm : zq_Sp) (s_X12_has : zq_Sp) (s_X12_goesTo : zq_Sp) (s_X12_calmsFrom : zq_Sp) (J17 : zq_P) (J63 : zq_P) (Q : zq_Q) (ls : zq_L) (st : List Value) (h : zq_H) : Prop := (zi_iinc 3 1 (J63)) ls st h
theorem kX12_calmsFrom_128 {X : zq_X} {d : Nat} (C : zq_C X cX12_calmsFrom 4 RX12 d) {d_X12_isCalm : Nat} {s_X12_isCalm : zq_Sp} (h_X12_isCalm : zq_M yX12_isCalm cX12_isCalm 4 (some .boolean) 1 d_X12_isCalm s_X12_isCalm) (g_X12_isCalm : d_X12_isCalm + 1 ≤ d) {d_X12_has : Nat} {s_X12_has : zq_Sp} (h_X12_has : zq_M yX12_has cX12_has 2 (some .boolean) 1 d_X12_has s_X12_has) (g_X12_has : d_X12_has + 1 ≤ d) {d_X12_goesTo : Nat} {s_X12_goesTo : zq_Sp} (h_X12_goesTo : zq_M yX12_goesTo cX12_goesTo 5 none 0 d_X12_goesTo s_X12_goesTo) (g_X12_goesTo : d_X12_goesTo + 1 ≤ d) {d_X12_calmsFrom : Nat} {s_X12_calmsFrom : zq_Sp} (h_X12_calmsFrom : zq_M yX12_calmsFrom cX12_calmsFrom 4 none 0 d_X12_calmsFrom s_X12_calmsFrom) (g_X12_calmsFrom : d_X12_calmsFrom + 1 ≤ d) {J17 : zq_P} (j17 : zq_ok X 4 17 J17) {J63 : zq_P} (j63 : zq_ok X 4 63 J63) {Q : zq_Q} (hq : zq_R X none 0 Q) : zq_ok X 4 128 (xX12_calmsFrom_128 s_X12_isCalm s_X12_has s_X12_goesTo s_X12_calmsFrom J17 J63 Q) := by
  refine zs_iinc C dX12_calmsFrom_128 (by decide) (by decide) ?_
  exact zs_goto C dX12_calmsFrom_131 (by decide) (j63)
def xX12_calmsFrom_95 (s_X12_isCalm : zq_Sp) (s_X12_has : zq_Sp) (s_X12_goesTo : zq_Sp) (s_X12_calmsFrom : zq_Sp) (J17 : zq_P) (J63 : zq_P) (Q : zq_Q) (ls : zq_L) (st : List Value) (h : zq_H) : Prop := (zi_aload 0 (zi_getR 56 85 (zi_iload 1 (zi_iload 3 (zi_astI 85 16 (zi_aload 0 (zi_iload 3 (zi_iload 1 (zi_push (.int 1) (zi_callV 3 56 s_X12_goesTo (zi_aload 0 (zi_iload 1 (zi_push (.int 1) (zi_i2 (fun x y => x + y) (zi_iload 2 (zi_push (.int 1) (zi_iload 3 (zi_i2 zf_shl (zi_i2 (fun x y => x ||| y) (zi_callV 2 56 s_X12_calmsFrom (zi_aload 0 (zi_iload 3 (zi_iload 1 (zi_push (.int (-1)) (zi_callV 3 56 s_X12_goesTo ((xX12_calmsFrom_128 s_X12_isCalm s_X12_has s_X12_goesTo s_X12_calmsFrom J17 J63 Q))))))))))))))))))))))))))) ls st h
theorem kX12_calmsFrom_95 {X : zq_X} {d : Nat} (C : zq_C X cX12_calmsFrom 4 RX12 d) {d_X12_isCalm : Nat} {s_X12_isCalm : zq_Sp} (h_X12_isCalm : zq_M yX12_isCalm cX12_isCalm 4 (some .boolean) 1 d_X12_isCalm s_X12_isCalm) (g_X12_isCalm : d_X12_isCalm + 1 ≤ d) {d_X12_has : Nat} {s_X12_has : zq_Sp} (h_X12_has : zq_M yX12_has cX12_has 2 (some .boolean) 1 d_X12_has s_X12_has) (g_X12_has : d_X12_has + 1 ≤ d) {d_X12_goesTo : Nat} {s_X12_goesTo : zq_Sp} (h_X12_goesTo : zq_M yX12_goesTo cX12_goesTo 5 none 0 d_X12_goesTo s_X12_goesTo) (g_X12_goesTo : d_X12_goesTo + 1 ≤ d) {d_X12_calmsFrom : Nat} {s_X12_calmsFrom : zq_Sp} (h_X12_calmsFrom : zq_M yX12_calmsFrom cX12_calmsFrom 4 none 0 d_X12_calmsFrom s_X12_calmsFrom) (g_X12_calmsFrom : d_X12_calmsFrom + 1 ≤ d) {J17 : zq_P} (j17 : zq_ok X 4 17 J17) {J63 : zq_P} (j63 : zq_ok X 4 63 J63) {Q : zq_Q} (hq : zq_R X none 0 Q) : zq_ok X 4 95 (xX12_calmsFrom_95 s_X12_isCalm s_X12_has s_X12_goesTo s_X12_calmsFrom J17 J63 Q) := by
  refine zs_aload_n C dX12_calmsFrom_95 rfl ?_
  refine zs_getR C zp_56 zF12 (j := 44) ⟨by decide, rfl⟩ zw_1140 dX12_calmsFrom_96 ?_
  refine zs_iload_n C dX12_calmsFrom_99 rfl ?_
  refine zs_iload_n C dX12_calmsFrom_100 rfl ?_
  refine zs_iastore C zp_85 dX12_calmsFrom_101 ?_
  refine zs_aload_n C dX12_calmsFrom_102 rfl ?_
  refine zs_iload_n C dX12_calmsFrom_103 rfl ?_
  refine zs_iload_n C dX12_calmsFrom_104 rfl ?_
  refine zs_iconst C dX12_calmsFrom_105 (by decide) ?_
  refine zs_callV C h_X12_goesTo g_X12_goesTo zy_X12_goesTo zp_56 (show vwCl[12]? = some (RX12, TX12, 67) from rfl) zw_1671 zw_1673 zs9_X12_goesTo dX12_calmsFrom_106 ?_
  refine zs_aload_n C dX12_calmsFrom_109 rfl ?_
  refine zs_iload_n C dX12_calmsFrom_110 rfl ?_
  refine zs_iconst C dX12_calmsFrom_111 (by decide) ?_
  refine zs_iadd C dX12_calmsFrom_112 ?_
  refine zs_iload_n C dX12_calmsFrom_113 rfl ?_
  refine zs_iconst C dX12_calmsFrom_114 (by decide) ?_
  refine zs_iload_n C dX12_calmsFrom_115 rfl ?_
  refine zs_ishl C dX12_calmsFrom_116 ?_
  refine zs_ior C dX12_calmsFrom_117 ?_
  refine zs_callV C h_X12_calmsFrom g_X12_calmsFrom zy_X12_calmsFrom zp_56 (show vwCl[12]? = some (RX12, TX12, 67) from rfl) zw_1663 zw_1665 zs9_X12_calmsFrom dX12_calmsFrom_118 ?_
  refine zs_aload_n C dX12_calmsFrom_121 rfl ?_
  refine zs_iload_n C dX12_calmsFrom_122 rfl ?_
  refine zs_iload_n C dX12_calmsFrom_123 rfl ?_
  refine zs_iconst C dX12_calmsFrom_124 (by decide) ?_
  refine zs_callV C h_X12_goesTo g_X12_goesTo zy_X12_goesTo zp_56 (show vwCl[12]? = some (RX12, TX12, 67) from rfl) zw_1671 zw_1673 zs9_X12_goesTo dX12_calmsFrom_125 ?_
  exact kX12_calmsFrom_128 C h_X12_isCalm g_X12_isCalm h_X12_has g_X12_has h_X12_goesTo g_X12_goesTo h_X12_calmsFrom g_X12_calmsFrom j17 j63 hq
def xX12_calmsFrom_83 (s_X12_isCalm : zq_Sp) (s_X12_has : zq_Sp) (s_X12_goesTo : zq_Sp) (s_X12_calmsFrom : zq_Sp) (J17 : zq_P) (J63 : zq_P) (Q : zq_Q) (ls : zq_L) (st : List Value) (h : zq_H) : Prop := (zi_aload 0 (zi_getR 56 85 (zi_iload 1 (zi_push (.int 1) (zi_i2 (fun x y => x - y) (zi_aldI 85 16 (zi_iload 3 (zi_if2 (fun x y => x = y) (xX12_calmsFrom_95 s_X12_isCalm s_X12_has s_X12_goesTo s_X12_calmsFrom J17 J63 Q) (xX12_calmsFrom_128 s_X12_isCalm s_X12_has s_X12_goesTo s_X12_calmsFrom J17 J63 Q))))))))) ls st h
theorem kX12_calmsFrom_83 {X : zq_X} {d : Nat} (C : zq_C X cX12_calmsFrom 4 RX12 d) {d_X12_isCalm : Nat} {s_X12_isCalm : zq_Sp} (h_X12_isCalm : zq_M yX12_isCalm cX12_isCalm 4 (some .boolean) 1 d_X12_isCalm s_X12_isCalm) (g_X12_isCalm : d_X12_isCalm + 1 ≤ d) {d_X12_has : Nat} {s_X12_has : zq_Sp} (h_X12_has : zq_M yX12_has cX12_has 2 (some .boolean) 1 d_X12_has s_X12_has) (g_X12_has : d_X12_has + 1 ≤ d) {d_X12_goesTo : Nat} {s_X12_goesTo : zq_Sp} (h_X12_goesTo : zq_M yX12_goesTo cX12_goesTo 5 none 0 d_X12_goesTo s_X12_goesTo) (g_X12_goesTo : d_X12_goesTo + 1 ≤ d) {d_X12_calmsFrom : Nat} {s_X12_calmsFrom : zq_Sp} (h_X12_calmsFrom : zq_M yX12_calmsFrom cX12_calmsFrom 4 none 0 d_X12_calmsFrom s_X12_calmsFrom) (g_X12_calmsFrom : d_X12_calmsFrom + 1 ≤ d) {J17 : zq_P} (j17 : zq_ok X 4 17 J17) {J63 : zq_P} (j63 : zq_ok X 4 63 J63) {Q : zq_Q} (hq : zq_R X none 0 Q) : zq_ok X 4 83 (xX12_calmsFrom_83 s_X12_isCalm s_X12_has s_X12_goesTo s_X12_calmsFrom J17 J63 Q) := by
  refine zs_aload_n C dX12_calmsFrom_83 rfl ?_
  refine zs_getR C zp_56 zF12 (j := 44) ⟨by decide, rfl⟩ zw_1140 dX12_calmsFrom_84 ?_
  refine zs_iload_n C dX12_calmsFrom_87 rfl ?_
  refine zs_iconst C dX12_calmsFrom_88 (by decide) ?_
  refine zs_isub C dX12_calmsFrom_89 ?_
  refine zs_iaload C zp_85 dX12_calmsFrom_90 ?_
  refine zs_iload_n C dX12_calmsFrom_91 rfl ?_
  exact zs_icmp_ne C dX12_calmsFrom_92 (by decide) (kX12_calmsFrom_128 C h_X12_isCalm g_X12_isCalm h_X12_has g_X12_has h_X12_goesTo g_X12_goesTo h_X12_calmsFrom g_X12_calmsFrom j17 j63 hq) (kX12_calmsFrom_95 C h_X12_isCalm g_X12_isCalm h_X12_has g_X12_has h_X12_goesTo g_X12_goesTo h_X12_calmsFrom g_X12_calmsFrom j17 j63 hq)
def xX12_calmsFrom_79 (s_X12_isCalm : zq_Sp) (s_X12_has : zq_Sp) (s_X12_goesTo : zq_Sp) (s_X12_calmsFrom : zq_Sp) (J17 : zq_P) (J63 : zq_P) (Q : zq_Q) (ls : zq_L) (st : List Value) (h : zq_H) : Prop := (zi_iload 1 (zi_if1 (fun x => x ≤ 0) (xX12_calmsFrom_128 s_X12_isCalm s_X12_has s_X12_goesTo s_X12_calmsFrom J17 J63 Q) (xX12_calmsFrom_83 s_X12_isCalm s_X12_has s_X12_goesTo s_X12_calmsFrom J17 J63 Q))) ls st h
theorem kX12_calmsFrom_79 {X : zq_X} {d : Nat} (C : zq_C X cX12_calmsFrom 4 RX12 d) {d_X12_isCalm : Nat} {s_X12_isCalm : zq_Sp} (h_X12_isCalm : zq_M yX12_isCalm cX12_isCalm 4 (some .boolean) 1 d_X12_isCalm s_X12_isCalm) (g_X12_isCalm : d_X12_isCalm + 1 ≤ d) {d_X12_has : Nat} {s_X12_has : zq_Sp} (h_X12_has : zq_M yX12_has cX12_has 2 (some .boolean) 1 d_X12_has s_X12_has) (g_X12_has : d_X12_has + 1 ≤ d) {d_X12_goesTo : Nat} {s_X12_goesTo : zq_Sp} (h_X12_goesTo : zq_M yX12_goesTo cX12_goesTo 5 none 0 d_X12_goesTo s_X12_goesTo) (g_X12_goesTo : d_X12_goesTo + 1 ≤ d) {d_X12_calmsFrom : Nat} {s_X12_calmsFrom : zq_Sp} (h_X12_calmsFrom : zq_M yX12_calmsFrom cX12_calmsFrom 4 none 0 d_X12_calmsFrom s_X12_calmsFrom) (g_X12_calmsFrom : d_X12_calmsFrom + 1 ≤ d) {J17 : zq_P} (j17 : zq_ok X 4 17 J17) {J63 : zq_P} (j63 : zq_ok X 4 63 J63) {Q : zq_Q} (hq : zq_R X none 0 Q) : zq_ok X 4 79 (xX12_calmsFrom_79 s_X12_isCalm s_X12_has s_X12_goesTo s_X12_calmsFrom J17 J63 Q) := by
  refine zs_iload_n C dX12_calmsFrom_79 rfl ?_
  exact zs_if_le C dX12_calmsFrom_80 (by decide) (kX12_calmsFrom_128 C h_X12_isCalm g_X12_isCalm h_X12_has g_X12_has h_X12_goesTo g_X12_goesTo h_X12_calmsFrom g_X12_calmsFrom j17 j63 hq) (kX12_calmsFrom_83 C h_X12_isCalm g_X12_isCalm h_X12_has g_X12_has h_X12_goesTo g_X12_goesTo h_X12_calmsFrom g_X12_calmsFrom j17 j63 hq)
def xX12_calmsFrom_71 (s_X12_isCalm : zq_Sp) (s_X12_has : zq_Sp) (s_X12_goesTo : zq_Sp) (s_X12_calmsFrom : zq_Sp) (J17 : zq_P) (J63 : zq_P) (Q : zq_Q) (ls : zq_L) (st : List Value) (h : zq_H) : Prop := (zi_iload 2 (zi_iload 3 (zi_callS 2 s_X12_has (zi_if1 (fun x => x = 0) (xX12_calmsFrom_95 s_X12_isCalm s_X12_has s_X12_goesTo s_X12_calmsFrom J17 J63 Q) (xX12_calmsFrom_79 s_X12_isCalm s_X12_has s_X12_goesTo s_X12_calmsFrom J17 J63 Q))))) ls st h
theorem kX12_calmsFrom_71 {X : zq_X} {d : Nat} (C : zq_C X cX12_calmsFrom 4 RX12 d) {d_X12_isCalm : Nat} {s_X12_isCalm : zq_Sp} (h_X12_isCalm : zq_M yX12_isCalm cX12_isCalm 4 (some .boolean) 1 d_X12_isCalm s_X12_isCalm) (g_X12_isCalm : d_X12_isCalm + 1 ≤ d) {d_X12_has : Nat} {s_X12_has : zq_Sp} (h_X12_has : zq_M yX12_has cX12_has 2 (some .boolean) 1 d_X12_has s_X12_has) (g_X12_has : d_X12_has + 1 ≤ d) {d_X12_goesTo : Nat} {s_X12_goesTo : zq_Sp} (h_X12_goesTo : zq_M yX12_goesTo cX12_goesTo 5 none 0 d_X12_goesTo s_X12_goesTo) (g_X12_goesTo : d_X12_goesTo + 1 ≤ d) {d_X12_calmsFrom : Nat} {s_X12_calmsFrom : zq_Sp} (h_X12_calmsFrom : zq_M yX12_calmsFrom cX12_calmsFrom 4 none 0 d_X12_calmsFrom s_X12_calmsFrom) (g_X12_calmsFrom : d_X12_calmsFrom + 1 ≤ d) {J17 : zq_P} (j17 : zq_ok X 4 17 J17) {J63 : zq_P} (j63 : zq_ok X 4 63 J63) {Q : zq_Q} (hq : zq_R X none 0 Q) : zq_ok X 4 71 (xX12_calmsFrom_71 s_X12_isCalm s_X12_has s_X12_goesTo s_X12_calmsFrom J17 J63 Q) := by
  refine zs_iload_n C dX12_calmsFrom_71 rfl ?_
  refine zs_iload_n C dX12_calmsFrom_72 rfl ?_
  refine zs_callS C h_X12_has g_X12_has zy_X12_has zw_1626 zw_1627 dX12_calmsFrom_73 ?_
  exact zs_if_eq C dX12_calmsFrom_76 (by decide) (kX12_calmsFrom_95 C h_X12_isCalm g_X12_isCalm h_X12_has g_X12_has h_X12_goesTo g_X12_goesTo h_X12_calmsFrom g_X12_calmsFrom j17 j63 hq) (kX12_calmsFrom_79 C h_X12_isCalm g_X12_isCalm h_X12_has g_X12_has h_X12_goesTo g_X12_goesTo h_X12_calmsFrom g_X12_calmsFrom j17 j63 hq)
def xX12_calmsFrom_63 (s_X12_isCalm : zq_Sp) (s_X12_has : zq_Sp) (s_X12_goesTo : zq_Sp) (s_X12_calmsFrom : zq_Sp) (J17 : zq_P) (J63 : zq_P) (Q : zq_Q) (ls : zq_L) (st : List Value) (h : zq_H) : Prop := (zi_iload 3 (zi_aload 0 (zi_getI 56 4 (zi_if2 (fun x y => y ≤ x) (xX12_calmsFrom_134 s_X12_isCalm s_X12_has s_X12_goesTo s_X12_calmsFrom J17 J63 Q) (xX12_calmsFrom_71 s_X12_isCalm s_X12_has s_X12_goesTo s_X12_calmsFrom J17 J63 Q))))) ls st h
theorem kX12_calmsFrom_63 {X : zq_X} {d : Nat} (C : zq_C X cX12_calmsFrom 4 RX12 d) {d_X12_isCalm : Nat} {s_X12_isCalm : zq_Sp} (h_X12_isCalm : zq_M yX12_isCalm cX12_isCalm 4 (some .boolean) 1 d_X12_isCalm s_X12_isCalm) (g_X12_isCalm : d_X12_isCalm + 1 ≤ d) {d_X12_has : Nat} {s_X12_has : zq_Sp} (h_X12_has : zq_M yX12_has cX12_has 2 (some .boolean) 1 d_X12_has s_X12_has) (g_X12_has : d_X12_has + 1 ≤ d) {d_X12_goesTo : Nat} {s_X12_goesTo : zq_Sp} (h_X12_goesTo : zq_M yX12_goesTo cX12_goesTo 5 none 0 d_X12_goesTo s_X12_goesTo) (g_X12_goesTo : d_X12_goesTo + 1 ≤ d) {d_X12_calmsFrom : Nat} {s_X12_calmsFrom : zq_Sp} (h_X12_calmsFrom : zq_M yX12_calmsFrom cX12_calmsFrom 4 none 0 d_X12_calmsFrom s_X12_calmsFrom) (g_X12_calmsFrom : d_X12_calmsFrom + 1 ≤ d) {J17 : zq_P} (j17 : zq_ok X 4 17 J17) {J63 : zq_P} (j63 : zq_ok X 4 63 J63) {Q : zq_Q} (hq : zq_R X none 0 Q) : zq_ok X 4 63 (xX12_calmsFrom_63 s_X12_isCalm s_X12_has s_X12_goesTo s_X12_calmsFrom J17 J63 Q) := by
  refine zs_iload_n C dX12_calmsFrom_63 rfl ?_
  refine zs_aload_n C dX12_calmsFrom_64 rfl ?_
  refine zs_getI C zp_56 zF12 (j := 4) ⟨by decide, rfl⟩ zw_1100 dX12_calmsFrom_65 ?_
  exact zs_icmp_ge C dX12_calmsFrom_68 (by decide) (kX12_calmsFrom_134 C h_X12_isCalm g_X12_isCalm h_X12_has g_X12_has h_X12_goesTo g_X12_goesTo h_X12_calmsFrom g_X12_calmsFrom j17 j63 hq) (kX12_calmsFrom_71 C h_X12_isCalm g_X12_isCalm h_X12_has g_X12_has h_X12_goesTo g_X12_goesTo h_X12_calmsFrom g_X12_calmsFrom j17 j63 hq)
def xX12_calmsFrom_61 (s_X12_isCalm : zq_Sp) (s_X12_has : zq_Sp) (s_X12_goesTo : zq_Sp) (s_X12_calmsFrom : zq_Sp) (J17 : zq_P) (J63 : zq_P) (Q : zq_Q) (ls : zq_L) (st : List Value) (h : zq_H) : Prop := (zi_push (.int 0) (zi_istore 3 (J63))) ls st h
theorem kX12_calmsFrom_61 {X : zq_X} {d : Nat} (C : zq_C X cX12_calmsFrom 4 RX12 d) {d_X12_isCalm : Nat} {s_X12_isCalm : zq_Sp} (h_X12_isCalm : zq_M yX12_isCalm cX12_isCalm 4 (some .boolean) 1 d_X12_isCalm s_X12_isCalm) (g_X12_isCalm : d_X12_isCalm + 1 ≤ d) {d_X12_has : Nat} {s_X12_has : zq_Sp} (h_X12_has : zq_M yX12_has cX12_has 2 (some .boolean) 1 d_X12_has s_X12_has) (g_X12_has : d_X12_has + 1 ≤ d) {d_X12_goesTo : Nat} {s_X12_goesTo : zq_Sp} (h_X12_goesTo : zq_M yX12_goesTo cX12_goesTo 5 none 0 d_X12_goesTo s_X12_goesTo) (g_X12_goesTo : d_X12_goesTo + 1 ≤ d) {d_X12_calmsFrom : Nat} {s_X12_calmsFrom : zq_Sp} (h_X12_calmsFrom : zq_M yX12_calmsFrom cX12_calmsFrom 4 none 0 d_X12_calmsFrom s_X12_calmsFrom) (g_X12_calmsFrom : d_X12_calmsFrom + 1 ≤ d) {J17 : zq_P} (j17 : zq_ok X 4 17 J17) {J63 : zq_P} (j63 : zq_ok X 4 63 J63) {Q : zq_Q} (hq : zq_R X none 0 Q) : zq_ok X 4 61 (xX12_calmsFrom_61 s_X12_isCalm s_X12_has s_X12_goesTo s_X12_calmsFrom J17 J63 Q) := by
  refine zs_iconst C dX12_calmsFrom_61 (by decide) ?_
  refine zs_istore_n C dX12_calmsFrom_62 rfl (by decide) ?_
  exact j63
def xX12_calmsFrom_60 (s_X12_isCalm : zq_Sp) (s_X12_has : zq_Sp) (s_X12_goesTo : zq_Sp) (s_X12_calmsFrom : zq_Sp) (J17 : zq_P) (J63 : zq_P) (Q : zq_Q) (ls : zq_L) (st : List Value) (h : zq_H) : Prop := (zi_vret Q) ls st h
theorem kX12_calmsFrom_60 {X : zq_X} {d : Nat} (C : zq_C X cX12_calmsFrom 4 RX12 d) {d_X12_isCalm : Nat} {s_X12_isCalm : zq_Sp} (h_X12_isCalm : zq_M yX12_isCalm cX12_isCalm 4 (some .boolean) 1 d_X12_isCalm s_X12_isCalm) (g_X12_isCalm : d_X12_isCalm + 1 ≤ d) {d_X12_has : Nat} {s_X12_has : zq_Sp} (h_X12_has : zq_M yX12_has cX12_has 2 (some .boolean) 1 d_X12_has s_X12_has) (g_X12_has : d_X12_has + 1 ≤ d) {d_X12_goesTo : Nat} {s_X12_goesTo : zq_Sp} (h_X12_goesTo : zq_M yX12_goesTo cX12_goesTo 5 none 0 d_X12_goesTo s_X12_goesTo) (g_X12_goesTo : d_X12_goesTo + 1 ≤ d) {d_X12_calmsFrom : Nat} {s_X12_calmsFrom : zq_Sp} (h_X12_calmsFrom : zq_M yX12_calmsFrom cX12_calmsFrom 4 none 0 d_X12_calmsFrom s_X12_calmsFrom) (g_X12_calmsFrom : d_X12_calmsFrom + 1 ≤ d) {J17 : zq_P} (j17 : zq_ok X 4 17 J17) {J63 : zq_P} (j63 : zq_ok X 4 63 J63) {Q : zq_Q} (hq : zq_R X none 0 Q) : zq_ok X 4 60 (xX12_calmsFrom_60 s_X12_isCalm s_X12_has s_X12_goesTo s_X12_calmsFrom J17 J63 Q) := by
  exact zs_vret C hq dX12_calmsFrom_60
def xX12_calmsFrom_50 (s_X12_isCalm : zq_Sp) (s_X12_has : zq_Sp) (s_X12_goesTo : zq_Sp) (s_X12_calmsFrom : zq_Sp) (J17 : zq_P) (J63 : zq_P) (Q : zq_Q) (ls : zq_L) (st : List Value) (h : zq_H) : Prop := (zi_aload 0 (zi_dup (zi_getI 56 47 (zi_push (.int 1) (zi_i2 (fun x y => x + y) (zi_putI 56 47 ((xX12_calmsFrom_60 s_X12_isCalm s_X12_has s_X12_goesTo s_X12_calmsFrom J17 J63 Q)))))))) ls st h
theorem kX12_calmsFrom_50 {X : zq_X} {d : Nat} (C : zq_C X cX12_calmsFrom 4 RX12 d) {d_X12_isCalm : Nat} {s_X12_isCalm : zq_Sp} (h_X12_isCalm : zq_M yX12_isCalm cX12_isCalm 4 (some .boolean) 1 d_X12_isCalm s_X12_isCalm) (g_X12_isCalm : d_X12_isCalm + 1 ≤ d) {d_X12_has : Nat} {s_X12_has : zq_Sp} (h_X12_has : zq_M yX12_has cX12_has 2 (some .boolean) 1 d_X12_has s_X12_has) (g_X12_has : d_X12_has + 1 ≤ d) {d_X12_goesTo : Nat} {s_X12_goesTo : zq_Sp} (h_X12_goesTo : zq_M yX12_goesTo cX12_goesTo 5 none 0 d_X12_goesTo s_X12_goesTo) (g_X12_goesTo : d_X12_goesTo + 1 ≤ d) {d_X12_calmsFrom : Nat} {s_X12_calmsFrom : zq_Sp} (h_X12_calmsFrom : zq_M yX12_calmsFrom cX12_calmsFrom 4 none 0 d_X12_calmsFrom s_X12_calmsFrom) (g_X12_calmsFrom : d_X12_calmsFrom + 1 ≤ d) {J17 : zq_P} (j17 : zq_ok X 4 17 J17) {J63 : zq_P} (j63 : zq_ok X 4 63 J63) {Q : zq_Q} (hq : zq_R X none 0 Q) : zq_ok X 4 50 (xX12_calmsFrom_50 s_X12_isCalm s_X12_has s_X12_goesTo s_X12_calmsFrom J17 J63 Q) := by
  refine zs_aload_n C dX12_calmsFrom_50 rfl ?_
  refine zs_dup C dX12_calmsFrom_51 ?_
  refine zs_getI C zp_56 zF12 (j := 47) ⟨by decide, rfl⟩ zw_1143 dX12_calmsFrom_52 ?_
  refine zs_iconst C dX12_calmsFrom_55 (by decide) ?_
  refine zs_iadd C dX12_calmsFrom_56 ?_
  refine zs_putI C zp_56 zF12 (j := 47) ⟨by decide, rfl⟩ ⟨rfl, by decide +kernel⟩ zw_1143 dX12_calmsFrom_57 ?_
  exact kX12_calmsFrom_60 C h_X12_isCalm g_X12_isCalm h_X12_has g_X12_has h_X12_goesTo g_X12_goesTo h_X12_calmsFrom g_X12_calmsFrom j17 j63 hq
def xX12_calmsFrom_32 (s_X12_isCalm : zq_Sp) (s_X12_has : zq_Sp) (s_X12_goesTo : zq_Sp) (s_X12_calmsFrom : zq_Sp) (J17 : zq_P) (J63 : zq_P) (Q : zq_Q) (ls : zq_L) (st : List Value) (h : zq_H) : Prop := (zi_aload 0 (zi_getR 56 86 (zi_iload 3 (zi_aload 0 (zi_getR 56 85 (zi_iload 3 (zi_aldI 85 16 (zi_astI 86 16 (zi_iinc 3 1 (J17)))))))))) ls st h
theorem kX12_calmsFrom_32 {X : zq_X} {d : Nat} (C : zq_C X cX12_calmsFrom 4 RX12 d) {d_X12_isCalm : Nat} {s_X12_isCalm : zq_Sp} (h_X12_isCalm : zq_M yX12_isCalm cX12_isCalm 4 (some .boolean) 1 d_X12_isCalm s_X12_isCalm) (g_X12_isCalm : d_X12_isCalm + 1 ≤ d) {d_X12_has : Nat} {s_X12_has : zq_Sp} (h_X12_has : zq_M yX12_has cX12_has 2 (some .boolean) 1 d_X12_has s_X12_has) (g_X12_has : d_X12_has + 1 ≤ d) {d_X12_goesTo : Nat} {s_X12_goesTo : zq_Sp} (h_X12_goesTo : zq_M yX12_goesTo cX12_goesTo 5 none 0 d_X12_goesTo s_X12_goesTo) (g_X12_goesTo : d_X12_goesTo + 1 ≤ d) {d_X12_calmsFrom : Nat} {s_X12_calmsFrom : zq_Sp} (h_X12_calmsFrom : zq_M yX12_calmsFrom cX12_calmsFrom 4 none 0 d_X12_calmsFrom s_X12_calmsFrom) (g_X12_calmsFrom : d_X12_calmsFrom + 1 ≤ d) {J17 : zq_P} (j17 : zq_ok X 4 17 J17) {J63 : zq_P} (j63 : zq_ok X 4 63 J63) {Q : zq_Q} (hq : zq_R X none 0 Q) : zq_ok X 4 32 (xX12_calmsFrom_32 s_X12_isCalm s_X12_has s_X12_goesTo s_X12_calmsFrom J17 J63 Q) := by
  refine zs_aload_n C dX12_calmsFrom_32 rfl ?_
  refine zs_getR C zp_56 zF12 (j := 45) ⟨by decide, rfl⟩ zw_1141 dX12_calmsFrom_33 ?_
  refine zs_iload_n C dX12_calmsFrom_36 rfl ?_
  refine zs_aload_n C dX12_calmsFrom_37 rfl ?_
  refine zs_getR C zp_56 zF12 (j := 44) ⟨by decide, rfl⟩ zw_1140 dX12_calmsFrom_38 ?_
  refine zs_iload_n C dX12_calmsFrom_41 rfl ?_
  refine zs_iaload C zp_85 dX12_calmsFrom_42 ?_
  refine zs_iastore C zp_86 dX12_calmsFrom_43 ?_
  refine zs_iinc C dX12_calmsFrom_44 (by decide) (by decide) ?_
  exact zs_goto C dX12_calmsFrom_47 (by decide) (j17)
def xX12_calmsFrom_25 (s_X12_isCalm : zq_Sp) (s_X12_has : zq_Sp) (s_X12_goesTo : zq_Sp) (s_X12_calmsFrom : zq_Sp) (J17 : zq_P) (J63 : zq_P) (Q : zq_Q) (ls : zq_L) (st : List Value) (h : zq_H) : Prop := (zi_aload 0 (zi_getI 56 47 (zi_if1 (fun x => x = 0) (xX12_calmsFrom_32 s_X12_isCalm s_X12_has s_X12_goesTo s_X12_calmsFrom J17 J63 Q) (xX12_calmsFrom_50 s_X12_isCalm s_X12_has s_X12_goesTo s_X12_calmsFrom J17 J63 Q)))) ls st h
theorem kX12_calmsFrom_25 {X : zq_X} {d : Nat} (C : zq_C X cX12_calmsFrom 4 RX12 d) {d_X12_isCalm : Nat} {s_X12_isCalm : zq_Sp} (h_X12_isCalm : zq_M yX12_isCalm cX12_isCalm 4 (some .boolean) 1 d_X12_isCalm s_X12_isCalm) (g_X12_isCalm : d_X12_isCalm + 1 ≤ d) {d_X12_has : Nat} {s_X12_has : zq_Sp} (h_X12_has : zq_M yX12_has cX12_has 2 (some .boolean) 1 d_X12_has s_X12_has) (g_X12_has : d_X12_has + 1 ≤ d) {d_X12_goesTo : Nat} {s_X12_goesTo : zq_Sp} (h_X12_goesTo : zq_M yX12_goesTo cX12_goesTo 5 none 0 d_X12_goesTo s_X12_goesTo) (g_X12_goesTo : d_X12_goesTo + 1 ≤ d) {d_X12_calmsFrom : Nat} {s_X12_calmsFrom : zq_Sp} (h_X12_calmsFrom : zq_M yX12_calmsFrom cX12_calmsFrom 4 none 0 d_X12_calmsFrom s_X12_calmsFrom) (g_X12_calmsFrom : d_X12_calmsFrom + 1 ≤ d) {J17 : zq_P} (j17 : zq_ok X 4 17 J17) {J63 : zq_P} (j63 : zq_ok X 4 63 J63) {Q : zq_Q} (hq : zq_R X none 0 Q) : zq_ok X 4 25 (xX12_calmsFrom_25 s_X12_isCalm s_X12_has s_X12_goesTo s_X12_calmsFrom J17 J63 Q) := by
  refine zs_aload_n C dX12_calmsFrom_25 rfl ?_
  refine zs_getI C zp_56 zF12 (j := 47) ⟨by decide, rfl⟩ zw_1143 dX12_calmsFrom_26 ?_
  exact zs_if_ne C dX12_calmsFrom_29 (by decide) (kX12_calmsFrom_50 C h_X12_isCalm g_X12_isCalm h_X12_has g_X12_has h_X12_goesTo g_X12_goesTo h_X12_calmsFrom g_X12_calmsFrom j17 j63 hq) (kX12_calmsFrom_32 C h_X12_isCalm g_X12_isCalm h_X12_has g_X12_has h_X12_goesTo g_X12_goesTo h_X12_calmsFrom g_X12_calmsFrom j17 j63 hq)
def xX12_calmsFrom_17 (s_X12_isCalm : zq_Sp) (s_X12_has : zq_Sp) (s_X12_goesTo : zq_Sp) (s_X12_calmsFrom : zq_Sp) (J17 : zq_P) (J63 : zq_P) (Q : zq_Q) (ls : zq_L) (st : List Value) (h : zq_H) : Prop := (zi_iload 3 (zi_aload 0 (zi_getI 56 3 (zi_if2 (fun x y => y ≤ x) (xX12_calmsFrom_50 s_X12_isCalm s_X12_has s_X12_goesTo s_X12_calmsFrom J17 J63 Q) (xX12_calmsFrom_25 s_X12_isCalm s_X12_has s_X12_goesTo s_X12_calmsFrom J17 J63 Q))))) ls st h
theorem kX12_calmsFrom_17 {X : zq_X} {d : Nat} (C : zq_C X cX12_calmsFrom 4 RX12 d) {d_X12_isCalm : Nat} {s_X12_isCalm : zq_Sp} (h_X12_isCalm : zq_M yX12_isCalm cX12_isCalm 4 (some .boolean) 1 d_X12_isCalm s_X12_isCalm) (g_X12_isCalm : d_X12_isCalm + 1 ≤ d) {d_X12_has : Nat} {s_X12_has : zq_Sp} (h_X12_has : zq_M yX12_has cX12_has 2 (some .boolean) 1 d_X12_has s_X12_has) (g_X12_has : d_X12_has + 1 ≤ d) {d_X12_goesTo : Nat} {s_X12_goesTo : zq_Sp} (h_X12_goesTo : zq_M yX12_goesTo cX12_goesTo 5 none 0 d_X12_goesTo s_X12_goesTo) (g_X12_goesTo : d_X12_goesTo + 1 ≤ d) {d_X12_calmsFrom : Nat} {s_X12_calmsFrom : zq_Sp} (h_X12_calmsFrom : zq_M yX12_calmsFrom cX12_calmsFrom 4 none 0 d_X12_calmsFrom s_X12_calmsFrom) (g_X12_calmsFrom : d_X12_calmsFrom + 1 ≤ d) {J17 : zq_P} (j17 : zq_ok X 4 17 J17) {J63 : zq_P} (j63 : zq_ok X 4 63 J63) {Q : zq_Q} (hq : zq_R X none 0 Q) : zq_ok X 4 17 (xX12_calmsFrom_17 s_X12_isCalm s_X12_has s_X12_goesTo s_X12_calmsFrom J17 J63 Q) := by
  refine zs_iload_n C dX12_calmsFrom_17 rfl ?_
  refine zs_aload_n C dX12_calmsFrom_18 rfl ?_
  refine zs_getI C zp_56 zF12 (j := 3) ⟨by decide, rfl⟩ zw_1099 dX12_calmsFrom_19 ?_
  exact zs_icmp_ge C dX12_calmsFrom_22 (by decide) (kX12_calmsFrom_50 C h_X12_isCalm g_X12_isCalm h_X12_has g_X12_has h_X12_goesTo g_X12_goesTo h_X12_calmsFrom g_X12_calmsFrom j17 j63 hq) (kX12_calmsFrom_25 C h_X12_isCalm g_X12_isCalm h_X12_has g_X12_has h_X12_goesTo g_X12_goesTo h_X12_calmsFrom g_X12_calmsFrom j17 j63 hq)
def xX12_calmsFrom_15 (s_X12_isCalm : zq_Sp) (s_X12_has : zq_Sp) (s_X12_goesTo : zq_Sp) (s_X12_calmsFrom : zq_Sp) (J17 : zq_P) (J63 : zq_P) (Q : zq_Q) (ls : zq_L) (st : List Value) (h : zq_H) : Prop := (zi_push (.int 0) (zi_istore 3 (J17))) ls st h
theorem kX12_calmsFrom_15 {X : zq_X} {d : Nat} (C : zq_C X cX12_calmsFrom 4 RX12 d) {d_X12_isCalm : Nat} {s_X12_isCalm : zq_Sp} (h_X12_isCalm : zq_M yX12_isCalm cX12_isCalm 4 (some .boolean) 1 d_X12_isCalm s_X12_isCalm) (g_X12_isCalm : d_X12_isCalm + 1 ≤ d) {d_X12_has : Nat} {s_X12_has : zq_Sp} (h_X12_has : zq_M yX12_has cX12_has 2 (some .boolean) 1 d_X12_has s_X12_has) (g_X12_has : d_X12_has + 1 ≤ d) {d_X12_goesTo : Nat} {s_X12_goesTo : zq_Sp} (h_X12_goesTo : zq_M yX12_goesTo cX12_goesTo 5 none 0 d_X12_goesTo s_X12_goesTo) (g_X12_goesTo : d_X12_goesTo + 1 ≤ d) {d_X12_calmsFrom : Nat} {s_X12_calmsFrom : zq_Sp} (h_X12_calmsFrom : zq_M yX12_calmsFrom cX12_calmsFrom 4 none 0 d_X12_calmsFrom s_X12_calmsFrom) (g_X12_calmsFrom : d_X12_calmsFrom + 1 ≤ d) {J17 : zq_P} (j17 : zq_ok X 4 17 J17) {J63 : zq_P} (j63 : zq_ok X 4 63 J63) {Q : zq_Q} (hq : zq_R X none 0 Q) : zq_ok X 4 15 (xX12_calmsFrom_15 s_X12_isCalm s_X12_has s_X12_goesTo s_X12_calmsFrom J17 J63 Q) := by
  refine zs_iconst C dX12_calmsFrom_15 (by decide) ?_
  refine zs_istore_n C dX12_calmsFrom_16 rfl (by decide) ?_
  exact j17
def xX12_calmsFrom_8 (s_X12_isCalm : zq_Sp) (s_X12_has : zq_Sp) (s_X12_goesTo : zq_Sp) (s_X12_calmsFrom : zq_Sp) (J17 : zq_P) (J63 : zq_P) (Q : zq_Q) (ls : zq_L) (st : List Value) (h : zq_H) : Prop := (zi_aload 0 (zi_callV 0 56 s_X12_isCalm (zi_if1 (fun x => x = 0) (xX12_calmsFrom_60 s_X12_isCalm s_X12_has s_X12_goesTo s_X12_calmsFrom J17 J63 Q) (xX12_calmsFrom_15 s_X12_isCalm s_X12_has s_X12_goesTo s_X12_calmsFrom J17 J63 Q)))) ls st h
theorem kX12_calmsFrom_8 {X : zq_X} {d : Nat} (C : zq_C X cX12_calmsFrom 4 RX12 d) {d_X12_isCalm : Nat} {s_X12_isCalm : zq_Sp} (h_X12_isCalm : zq_M yX12_isCalm cX12_isCalm 4 (some .boolean) 1 d_X12_isCalm s_X12_isCalm) (g_X12_isCalm : d_X12_isCalm + 1 ≤ d) {d_X12_has : Nat} {s_X12_has : zq_Sp} (h_X12_has : zq_M yX12_has cX12_has 2 (some .boolean) 1 d_X12_has s_X12_has) (g_X12_has : d_X12_has + 1 ≤ d) {d_X12_goesTo : Nat} {s_X12_goesTo : zq_Sp} (h_X12_goesTo : zq_M yX12_goesTo cX12_goesTo 5 none 0 d_X12_goesTo s_X12_goesTo) (g_X12_goesTo : d_X12_goesTo + 1 ≤ d) {d_X12_calmsFrom : Nat} {s_X12_calmsFrom : zq_Sp} (h_X12_calmsFrom : zq_M yX12_calmsFrom cX12_calmsFrom 4 none 0 d_X12_calmsFrom s_X12_calmsFrom) (g_X12_calmsFrom : d_X12_calmsFrom + 1 ≤ d) {J17 : zq_P} (j17 : zq_ok X 4 17 J17) {J63 : zq_P} (j63 : zq_ok X 4 63 J63) {Q : zq_Q} (hq : zq_R X none 0 Q) : zq_ok X 4 8 (xX12_calmsFrom_8 s_X12_isCalm s_X12_has s_X12_goesTo s_X12_calmsFrom J17 J63 Q) := by
  refine zs_aload_n C dX12_calmsFrom_8 rfl ?_
  refine zs_callV C h_X12_isCalm g_X12_isCalm zy_X12_isCalm zp_56 (show vwCl[12]? = some (RX12, TX12, 67) from rfl) zw_1667 zw_1669 zs9_X12_isCalm dX12_calmsFrom_9 ?_
  exact zs_if_eq C dX12_calmsFrom_12 (by decide) (kX12_calmsFrom_60 C h_X12_isCalm g_X12_isCalm h_X12_has g_X12_has h_X12_goesTo g_X12_goesTo h_X12_calmsFrom g_X12_calmsFrom j17 j63 hq) (kX12_calmsFrom_15 C h_X12_isCalm g_X12_isCalm h_X12_has g_X12_has h_X12_goesTo g_X12_goesTo h_X12_calmsFrom g_X12_calmsFrom j17 j63 hq)
def xX12_calmsFrom_0 (s_X12_isCalm : zq_Sp) (s_X12_has : zq_Sp) (s_X12_goesTo : zq_Sp) (s_X12_calmsFrom : zq_Sp) (J17 : zq_P) (J63 : zq_P) (Q : zq_Q) (ls : zq_L) (st : List Value) (h : zq_H) : Prop := (zi_iload 1 (zi_aload 0 (zi_getI 56 3 (zi_if2 (fun x y => x = y) (xX12_calmsFrom_8 s_X12_isCalm s_X12_has s_X12_goesTo s_X12_calmsFrom J17 J63 Q) (xX12_calmsFrom_61 s_X12_isCalm s_X12_has s_X12_goesTo s_X12_calmsFrom J17 J63 Q))))) ls st h
theorem kX12_calmsFrom_0 {X : zq_X} {d : Nat} (C : zq_C X cX12_calmsFrom 4 RX12 d) {d_X12_isCalm : Nat} {s_X12_isCalm : zq_Sp} (h_X12_isCalm : zq_M yX12_isCalm cX12_isCalm 4 (some .boolean) 1 d_X12_isCalm s_X12_isCalm) (g_X12_isCalm : d_X12_isCalm + 1 ≤ d) {d_X12_has : Nat} {s_X12_has : zq_Sp} (h_X12_has : zq_M yX12_has cX12_has 2 (some .boolean) 1 d_X12_has s_X12_has) (g_X12_has : d_X12_has + 1 ≤ d) {d_X12_goesTo : Nat} {s_X12_goesTo : zq_Sp} (h_X12_goesTo : zq_M yX12_goesTo cX12_goesTo 5 none 0 d_X12_goesTo s_X12_goesTo) (g_X12_goesTo : d_X12_goesTo + 1 ≤ d) {d_X12_calmsFrom : Nat} {s_X12_calmsFrom : zq_Sp} (h_X12_calmsFrom : zq_M yX12_calmsFrom cX12_calmsFrom 4 none 0 d_X12_calmsFrom s_X12_calmsFrom) (g_X12_calmsFrom : d_X12_calmsFrom + 1 ≤ d) {J17 : zq_P} (j17 : zq_ok X 4 17 J17) {J63 : zq_P} (j63 : zq_ok X 4 63 J63) {Q : zq_Q} (hq : zq_R X none 0 Q) : zq_ok X 4 0 (xX12_calmsFrom_0 s_X12_isCalm s_X12_has s_X12_goesTo s_X12_calmsFrom J17 J63 Q) := by
  refine zs_iload_n C dX12_calmsFrom_0 rfl ?_
  refine zs_aload_n C dX12_calmsFrom_1 rfl ?_
  refine zs_getI C zp_56 zF12 (j := 3) ⟨by decide, rfl⟩ zw_1099 dX12_calmsFrom_2 ?_
  exact zs_icmp_ne C dX12_calmsFrom_5 (by decide) (kX12_calmsFrom_61 C h_X12_isCalm g_X12_isCalm h_X12_has g_X12_has h_X12_goesTo g_X12_goesTo h_X12_calmsFrom g_X12_calmsFrom j17 j63 hq) (kX12_calmsFrom_8 C h_X12_isCalm g_X12_isCalm h_X12_has g_X12_has h_X12_goesTo g_X12_goesTo h_X12_calmsFrom g_X12_calmsFrom j17 j63 hq)
theorem mX12_calmsFrom {d : Nat} {spec : zq_Sp} {σ17 : Type} {σ63 : Type} {d_X12_isCalm : Nat} {s_X12_isCalm : zq_Sp} (h_X12_isCalm : zq_M yX12_isCalm cX12_isCalm 4 (some .boolean) 1 d_X12_isCalm s_X12_isCalm) (g_X12_isCalm : d_X12_isCalm + 1 ≤ d) {d_X12_has : Nat} {s_X12_has : zq_Sp} (h_X12_has : zq_M yX12_has cX12_has 2 (some .boolean) 1 d_X12_has s_X12_has) (g_X12_has : d_X12_has + 1 ≤ d) {d_X12_goesTo : Nat} {s_X12_goesTo : zq_Sp} (h_X12_goesTo : zq_M yX12_goesTo cX12_goesTo 5 none 0 d_X12_goesTo s_X12_goesTo) (g_X12_goesTo : d_X12_goesTo + 1 ≤ d) {d_X12_calmsFrom : Nat} {s_X12_calmsFrom : zq_Sp} (h_X12_calmsFrom : zq_M yX12_calmsFrom cX12_calmsFrom 4 none 0 d_X12_calmsFrom s_X12_calmsFrom) (g_X12_calmsFrom : d_X12_calmsFrom + 1 ≤ d) (μ17 : σ17 → Nat) (I17 : zq_Q → σ17 → zq_P) (μ63 : σ63 → Nat) (I63 : zq_Q → σ63 → zq_P) (v : ∀ args h Q, spec args h Q → (zq_a args).length ≤ 4 ∧ xX12_calmsFrom_0 s_X12_isCalm s_X12_has s_X12_goesTo s_X12_calmsFrom (fun ls st h => ∃ b, I17 Q b ls st h) (fun ls st h => ∃ b, I63 Q b ls st h) Q (zq_l0 4 args) [] h) (v17 : ∀ Q a ls st h, I17 Q a ls st h → xX12_calmsFrom_17 s_X12_isCalm s_X12_has s_X12_goesTo s_X12_calmsFrom (fun ls st h => ∃ b, μ17 b < μ17 a ∧ I17 Q b ls st h) (fun ls st h => ∃ b, μ63 b < μ17 a ∧ I63 Q b ls st h) Q ls st h) (v63 : ∀ Q a ls st h, I63 Q a ls st h → xX12_calmsFrom_63 s_X12_isCalm s_X12_has s_X12_goesTo s_X12_calmsFrom (fun ls st h => ∃ b, μ17 b < μ63 a ∧ I17 Q b ls st h) (fun ls st h => ∃ b, μ63 b < μ63 a ∧ I63 Q b ls st h) Q ls st h) : zq_M yX12_calmsFrom cX12_calmsFrom 4 none 0 d spec := by
  refine zq_met (by decide +kernel) (by decide) (fun X Q args h C hq hs => ⟨(v args h Q hs).1, _, ?_, (v args h Q hs).2⟩)
  have hl := zq_loop2 (X := X) (nL := 4) (pc1 := 17) (pc2 := 63) μ17 μ63 (I17 Q) (I63 Q) (fun J17 J63 => xX12_calmsFrom_17 s_X12_isCalm s_X12_has s_X12_goesTo s_X12_calmsFrom J17 J63 Q) (fun J17 J63 => xX12_calmsFrom_63 s_X12_isCalm s_X12_has s_X12_goesTo s_X12_calmsFrom J17 J63 Q) (fun j17 j63 => kX12_calmsFrom_17 C h_X12_isCalm g_X12_isCalm h_X12_has g_X12_has h_X12_goesTo g_X12_goesTo h_X12_calmsFrom g_X12_calmsFrom j17 j63 hq) (fun j17 j63 => kX12_calmsFrom_63 C h_X12_isCalm g_X12_isCalm h_X12_has g_X12_has h_X12_goesTo g_X12_goesTo h_X12_calmsFrom g_X12_calmsFrom j17 j63 hq) (v17 Q) (v63 Q)
  exact kX12_calmsFrom_0 C h_X12_isCalm g_X12_isCalm h_X12_has g_X12_has h_X12_goesTo g_X12_goesTo h_X12_calmsFrom g_X12_calmsFrom hl.1 hl.2 hq
/-! ToOneCrumbModel.calm()I -/
theorem dX12_calm_0 : decode cX12_calm 0 = .ok (.aload_n 0, 1) := by decide +kernel
theorem dX12_calm_1 : decode cX12_calm 1 = .ok (.iconst 0, 1) := by decide +kernel
theorem dX12_calm_2 : decode cX12_calm 2 = .ok (.putfield 147, 3) := by decide +kernel
theorem dX12_calm_5 : decode cX12_calm 5 = .ok (.aload_n 0, 1) := by decide +kernel
theorem dX12_calm_6 : decode cX12_calm 6 = .ok (.getfield 165, 3) := by decide +kernel
theorem dX12_calm_9 : decode cX12_calm 9 = .ok (.iconst 4, 1) := by decide +kernel
theorem dX12_calm_10 : decode cX12_calm 10 = .ok (.if_icmp .le 6, 3) := by decide +kernel
theorem dX12_calm_13 : decode cX12_calm 13 = .ok (.bipush (-3), 2) := by decide +kernel
theorem dX12_calm_15 : decode cX12_calm 15 = .ok (.ireturn, 1) := by decide +kernel
theorem dX12_calm_16 : decode cX12_calm 16 = .ok (.aload_n 0, 1) := by decide +kernel
theorem dX12_calm_17 : decode cX12_calm 17 = .ok (.getfield 165, 3) := by decide +kernel
theorem dX12_calm_20 : decode cX12_calm 20 = .ok (.ifCond .ne 6, 3) := by decide +kernel
theorem dX12_calm_23 : decode cX12_calm 23 = .ok (.bipush (-2), 2) := by decide +kernel
theorem dX12_calm_25 : decode cX12_calm 25 = .ok (.ireturn, 1) := by decide +kernel
theorem dX12_calm_26 : decode cX12_calm 26 = .ok (.aload_n 0, 1) := by decide +kernel
theorem dX12_calm_27 : decode cX12_calm 27 = .ok (.invokevirtual 318, 3) := by decide +kernel
theorem dX12_calm_30 : decode cX12_calm 30 = .ok (.iconst 0, 1) := by decide +kernel
theorem dX12_calm_31 : decode cX12_calm 31 = .ok (.istore_n 1, 1) := by decide +kernel
theorem dX12_calm_32 : decode cX12_calm 32 = .ok (.iload_n 1, 1) := by decide +kernel
theorem dX12_calm_33 : decode cX12_calm 33 = .ok (.bipush 36, 2) := by decide +kernel
theorem dX12_calm_35 : decode cX12_calm 35 = .ok (.if_icmp .ge 16, 3) := by decide +kernel
theorem dX12_calm_38 : decode cX12_calm 38 = .ok (.aload_n 0, 1) := by decide +kernel
theorem dX12_calm_39 : decode cX12_calm 39 = .ok (.getfield 102, 3) := by decide +kernel
theorem dX12_calm_42 : decode cX12_calm 42 = .ok (.iload_n 1, 1) := by decide +kernel
theorem dX12_calm_43 : decode cX12_calm 43 = .ok (.iconst 0, 1) := by decide +kernel
theorem dX12_calm_44 : decode cX12_calm 44 = .ok (.iastore, 1) := by decide +kernel
theorem dX12_calm_45 : decode cX12_calm 45 = .ok (.iinc 1 1, 3) := by decide +kernel
theorem dX12_calm_48 : decode cX12_calm 48 = .ok (.goto (-16), 3) := by decide +kernel
theorem dX12_calm_51 : decode cX12_calm 51 = .ok (.aload_n 0, 1) := by decide +kernel
theorem dX12_calm_52 : decode cX12_calm 52 = .ok (.iconst 0, 1) := by decide +kernel
theorem dX12_calm_53 : decode cX12_calm 53 = .ok (.putfield 414, 3) := by decide +kernel
theorem dX12_calm_56 : decode cX12_calm 56 = .ok (.aload_n 0, 1) := by decide +kernel
theorem dX12_calm_57 : decode cX12_calm 57 = .ok (.iconst 0, 1) := by decide +kernel
theorem dX12_calm_58 : decode cX12_calm 58 = .ok (.iconst 0, 1) := by decide +kernel
theorem dX12_calm_59 : decode cX12_calm 59 = .ok (.invokevirtual 421, 3) := by decide +kernel
theorem dX12_calm_62 : decode cX12_calm 62 = .ok (.aload_n 0, 1) := by decide +kernel
theorem dX12_calm_63 : decode cX12_calm 63 = .ok (.iconst 0, 1) := by decide +kernel
theorem dX12_calm_64 : decode cX12_calm 64 = .ok (.putfield 155, 3) := by decide +kernel
theorem dX12_calm_67 : decode cX12_calm 67 = .ok (.iconst 0, 1) := by decide +kernel
theorem dX12_calm_68 : decode cX12_calm 68 = .ok (.istore_n 1, 1) := by decide +kernel
theorem dX12_calm_69 : decode cX12_calm 69 = .ok (.iload_n 1, 1) := by decide +kernel
theorem dX12_calm_70 : decode cX12_calm 70 = .ok (.aload_n 0, 1) := by decide +kernel
theorem dX12_calm_71 : decode cX12_calm 71 = .ok (.getfield 158, 3) := by decide +kernel
theorem dX12_calm_74 : decode cX12_calm 74 = .ok (.if_icmp .ge 27, 3) := by decide +kernel
theorem dX12_calm_77 : decode cX12_calm 77 = .ok (.aload_n 0, 1) := by decide +kernel
theorem dX12_calm_78 : decode cX12_calm 78 = .ok (.getfield 414, 3) := by decide +kernel
theorem dX12_calm_81 : decode cX12_calm 81 = .ok (.ifCond .le 20, 3) := by decide +kernel
theorem dX12_calm_84 : decode cX12_calm 84 = .ok (.aload_n 0, 1) := by decide +kernel
theorem dX12_calm_85 : decode cX12_calm 85 = .ok (.aload_n 0, 1) := by decide +kernel
theorem dX12_calm_86 : decode cX12_calm 86 = .ok (.getfield 99, 3) := by decide +kernel
theorem dX12_calm_89 : decode cX12_calm 89 = .ok (.iload_n 1, 1) := by decide +kernel
theorem dX12_calm_90 : decode cX12_calm 90 = .ok (.iaload, 1) := by decide +kernel
theorem dX12_calm_91 : decode cX12_calm 91 = .ok (.i2l, 1) := by decide +kernel
theorem dX12_calm_92 : decode cX12_calm 92 = .ok (.invokevirtual 368, 3) := by decide +kernel
theorem dX12_calm_95 : decode cX12_calm 95 = .ok (.iinc 1 1, 3) := by decide +kernel
theorem dX12_calm_98 : decode cX12_calm 98 = .ok (.goto (-29), 3) := by decide +kernel
theorem dX12_calm_101 : decode cX12_calm 101 = .ok (.aload_n 0, 1) := by decide +kernel
theorem dX12_calm_102 : decode cX12_calm 102 = .ok (.getfield 414, 3) := by decide +kernel
theorem dX12_calm_105 : decode cX12_calm 105 = .ok (.ireturn, 1) := by decide +kernel
def xX12_calm_101 (s_X12_laysTable : zq_Sp) (s_X12_calmsFrom : zq_Sp) (s_X12_enters : zq_Sp) (J32 : zq_P) (J69 : zq_P) (Q : zq_Q) (ls : zq_L) (st : List Value) (h : zq_H) : Prop := (zi_aload 0 (zi_getI 56 47 (zi_iret Q))) ls st h
theorem kX12_calm_101 {X : zq_X} {d : Nat} (C : zq_C X cX12_calm 2 RX12 d) {d_X12_laysTable : Nat} {s_X12_laysTable : zq_Sp} (h_X12_laysTable : zq_M yX12_laysTable cX12_laysTable 3 none 0 d_X12_laysTable s_X12_laysTable) (g_X12_laysTable : d_X12_laysTable + 1 ≤ d) {d_X12_calmsFrom : Nat} {s_X12_calmsFrom : zq_Sp} (h_X12_calmsFrom : zq_M yX12_calmsFrom cX12_calmsFrom 4 none 0 d_X12_calmsFrom s_X12_calmsFrom) (g_X12_calmsFrom : d_X12_calmsFrom + 1 ≤ d) {d_X12_enters : Nat} {s_X12_enters : zq_Sp} (h_X12_enters : zq_M yX12_enters cX12_enters 3 none 0 d_X12_enters s_X12_enters) (g_X12_enters : d_X12_enters + 1 ≤ d) {J32 : zq_P} (j32 : zq_ok X 2 32 J32) {J69 : zq_P} (j69 : zq_ok X 2 69 J69) {Q : zq_Q} (hq : zq_R X (some .int) 1 Q) : zq_ok X 2 101 (xX12_calm_101 s_X12_laysTable s_X12_calmsFrom s_X12_enters J32 J69 Q) := by
  refine zs_aload_n C dX12_calm_101 rfl ?_
  refine zs_getI C zp_56 zF12 (j := 47) ⟨by decide, rfl⟩ zw_1143 dX12_calm_102 ?_
  exact zs_iret C hq dX12_calm_105
def xX12_calm_84 (s_X12_laysTable : zq_Sp) (s_X12_calmsFrom : zq_Sp) (s_X12_enters : zq_Sp) (J32 : zq_P) (J69 : zq_P) (Q : zq_Q) (ls : zq_L) (st : List Value) (h : zq_H) : Prop := (zi_aload 0 (zi_aload 0 (zi_getR 56 86 (zi_iload 1 (zi_aldI 86 16 (zi_i2l (zi_callV 1 56 s_X12_enters (zi_iinc 1 1 (J69))))))))) ls st h
theorem kX12_calm_84 {X : zq_X} {d : Nat} (C : zq_C X cX12_calm 2 RX12 d) {d_X12_laysTable : Nat} {s_X12_laysTable : zq_Sp} (h_X12_laysTable : zq_M yX12_laysTable cX12_laysTable 3 none 0 d_X12_laysTable s_X12_laysTable) (g_X12_laysTable : d_X12_laysTable + 1 ≤ d) {d_X12_calmsFrom : Nat} {s_X12_calmsFrom : zq_Sp} (h_X12_calmsFrom : zq_M yX12_calmsFrom cX12_calmsFrom 4 none 0 d_X12_calmsFrom s_X12_calmsFrom) (g_X12_calmsFrom : d_X12_calmsFrom + 1 ≤ d) {d_X12_enters : Nat} {s_X12_enters : zq_Sp} (h_X12_enters : zq_M yX12_enters cX12_enters 3 none 0 d_X12_enters s_X12_enters) (g_X12_enters : d_X12_enters + 1 ≤ d) {J32 : zq_P} (j32 : zq_ok X 2 32 J32) {J69 : zq_P} (j69 : zq_ok X 2 69 J69) {Q : zq_Q} (hq : zq_R X (some .int) 1 Q) : zq_ok X 2 84 (xX12_calm_84 s_X12_laysTable s_X12_calmsFrom s_X12_enters J32 J69 Q) := by
  refine zs_aload_n C dX12_calm_84 rfl ?_
  refine zs_aload_n C dX12_calm_85 rfl ?_
  refine zs_getR C zp_56 zF12 (j := 45) ⟨by decide, rfl⟩ zw_1141 dX12_calm_86 ?_
  refine zs_iload_n C dX12_calm_89 rfl ?_
  refine zs_iaload C zp_86 dX12_calm_90 ?_
  refine zs_i2l C dX12_calm_91 ?_
  refine zs_callV C h_X12_enters g_X12_enters zy_X12_enters zp_56 (show vwCl[12]? = some (RX12, TX12, 67) from rfl) zw_1574 zw_1576 zs9_X12_enters dX12_calm_92 ?_
  refine zs_iinc C dX12_calm_95 (by decide) (by decide) ?_
  exact zs_goto C dX12_calm_98 (by decide) (j69)
def xX12_calm_77 (s_X12_laysTable : zq_Sp) (s_X12_calmsFrom : zq_Sp) (s_X12_enters : zq_Sp) (J32 : zq_P) (J69 : zq_P) (Q : zq_Q) (ls : zq_L) (st : List Value) (h : zq_H) : Prop := (zi_aload 0 (zi_getI 56 47 (zi_if1 (fun x => x ≤ 0) (xX12_calm_101 s_X12_laysTable s_X12_calmsFrom s_X12_enters J32 J69 Q) (xX12_calm_84 s_X12_laysTable s_X12_calmsFrom s_X12_enters J32 J69 Q)))) ls st h
theorem kX12_calm_77 {X : zq_X} {d : Nat} (C : zq_C X cX12_calm 2 RX12 d) {d_X12_laysTable : Nat} {s_X12_laysTable : zq_Sp} (h_X12_laysTable : zq_M yX12_laysTable cX12_laysTable 3 none 0 d_X12_laysTable s_X12_laysTable) (g_X12_laysTable : d_X12_laysTable + 1 ≤ d) {d_X12_calmsFrom : Nat} {s_X12_calmsFrom : zq_Sp} (h_X12_calmsFrom : zq_M yX12_calmsFrom cX12_calmsFrom 4 none 0 d_X12_calmsFrom s_X12_calmsFrom) (g_X12_calmsFrom : d_X12_calmsFrom + 1 ≤ d) {d_X12_enters : Nat} {s_X12_enters : zq_Sp} (h_X12_enters : zq_M yX12_enters cX12_enters 3 none 0 d_X12_enters s_X12_enters) (g_X12_enters : d_X12_enters + 1 ≤ d) {J32 : zq_P} (j32 : zq_ok X 2 32 J32) {J69 : zq_P} (j69 : zq_ok X 2 69 J69) {Q : zq_Q} (hq : zq_R X (some .int) 1 Q) : zq_ok X 2 77 (xX12_calm_77 s_X12_laysTable s_X12_calmsFrom s_X12_enters J32 J69 Q) := by
  refine zs_aload_n C dX12_calm_77 rfl ?_
  refine zs_getI C zp_56 zF12 (j := 47) ⟨by decide, rfl⟩ zw_1143 dX12_calm_78 ?_
  exact zs_if_le C dX12_calm_81 (by decide) (kX12_calm_101 C h_X12_laysTable g_X12_laysTable h_X12_calmsFrom g_X12_calmsFrom h_X12_enters g_X12_enters j32 j69 hq) (kX12_calm_84 C h_X12_laysTable g_X12_laysTable h_X12_calmsFrom g_X12_calmsFrom h_X12_enters g_X12_enters j32 j69 hq)
def xX12_calm_69 (s_X12_laysTable : zq_Sp) (s_X12_calmsFrom : zq_Sp) (s_X12_enters : zq_Sp) (J32 : zq_P) (J69 : zq_P) (Q : zq_Q) (ls : zq_L) (st : List Value) (h : zq_H) : Prop := (zi_iload 1 (zi_aload 0 (zi_getI 56 3 (zi_if2 (fun x y => y ≤ x) (xX12_calm_101 s_X12_laysTable s_X12_calmsFrom s_X12_enters J32 J69 Q) (xX12_calm_77 s_X12_laysTable s_X12_calmsFrom s_X12_enters J32 J69 Q))))) ls st h
theorem kX12_calm_69 {X : zq_X} {d : Nat} (C : zq_C X cX12_calm 2 RX12 d) {d_X12_laysTable : Nat} {s_X12_laysTable : zq_Sp} (h_X12_laysTable : zq_M yX12_laysTable cX12_laysTable 3 none 0 d_X12_laysTable s_X12_laysTable) (g_X12_laysTable : d_X12_laysTable + 1 ≤ d) {d_X12_calmsFrom : Nat} {s_X12_calmsFrom : zq_Sp} (h_X12_calmsFrom : zq_M yX12_calmsFrom cX12_calmsFrom 4 none 0 d_X12_calmsFrom s_X12_calmsFrom) (g_X12_calmsFrom : d_X12_calmsFrom + 1 ≤ d) {d_X12_enters : Nat} {s_X12_enters : zq_Sp} (h_X12_enters : zq_M yX12_enters cX12_enters 3 none 0 d_X12_enters s_X12_enters) (g_X12_enters : d_X12_enters + 1 ≤ d) {J32 : zq_P} (j32 : zq_ok X 2 32 J32) {J69 : zq_P} (j69 : zq_ok X 2 69 J69) {Q : zq_Q} (hq : zq_R X (some .int) 1 Q) : zq_ok X 2 69 (xX12_calm_69 s_X12_laysTable s_X12_calmsFrom s_X12_enters J32 J69 Q) := by
  refine zs_iload_n C dX12_calm_69 rfl ?_
  refine zs_aload_n C dX12_calm_70 rfl ?_
  refine zs_getI C zp_56 zF12 (j := 3) ⟨by decide, rfl⟩ zw_1099 dX12_calm_71 ?_
  exact zs_icmp_ge C dX12_calm_74 (by decide) (kX12_calm_101 C h_X12_laysTable g_X12_laysTable h_X12_calmsFrom g_X12_calmsFrom h_X12_enters g_X12_enters j32 j69 hq) (kX12_calm_77 C h_X12_laysTable g_X12_laysTable h_X12_calmsFrom g_X12_calmsFrom h_X12_enters g_X12_enters j32 j69 hq)
def xX12_calm_51 (s_X12_laysTable : zq_Sp) (s_X12_calmsFrom : zq_Sp) (s_X12_enters : zq_Sp) (J32 : zq_P) (J69 : zq_P) (Q : zq_Q) (ls : zq_L) (st : List Value) (h : zq_H) : Prop := (zi_aload 0 (zi_push (.int 0) (zi_putI 56 47 (zi_aload 0 (zi_push (.int 0) (zi_push (.int 0) (zi_callV 2 56 s_X12_calmsFrom (zi_aload 0 (zi_push (.int 0) (zi_putI 56 1 (zi_push (.int 0) (zi_istore 1 (J69))))))))))))) ls st h
theorem kX12_calm_51 {X : zq_X} {d : Nat} (C : zq_C X cX12_calm 2 RX12 d) {d_X12_laysTable : Nat} {s_X12_laysTable : zq_Sp} (h_X12_laysTable : zq_M yX12_laysTable cX12_laysTable 3 none 0 d_X12_laysTable s_X12_laysTable) (g_X12_laysTable : d_X12_laysTable + 1 ≤ d) {d_X12_calmsFrom : Nat} {s_X12_calmsFrom : zq_Sp} (h_X12_calmsFrom : zq_M yX12_calmsFrom cX12_calmsFrom 4 none 0 d_X12_calmsFrom s_X12_calmsFrom) (g_X12_calmsFrom : d_X12_calmsFrom + 1 ≤ d) {d_X12_enters : Nat} {s_X12_enters : zq_Sp} (h_X12_enters : zq_M yX12_enters cX12_enters 3 none 0 d_X12_enters s_X12_enters) (g_X12_enters : d_X12_enters + 1 ≤ d) {J32 : zq_P} (j32 : zq_ok X 2 32 J32) {J69 : zq_P} (j69 : zq_ok X 2 69 J69) {Q : zq_Q} (hq : zq_R X (some .int) 1 Q) : zq_ok X 2 51 (xX12_calm_51 s_X12_laysTable s_X12_calmsFrom s_X12_enters J32 J69 Q) := by
  refine zs_aload_n C dX12_calm_51 rfl ?_
  refine zs_iconst C dX12_calm_52 (by decide) ?_
  refine zs_putI C zp_56 zF12 (j := 47) ⟨by decide, rfl⟩ ⟨rfl, by decide +kernel⟩ zw_1143 dX12_calm_53 ?_
  refine zs_aload_n C dX12_calm_56 rfl ?_
  refine zs_iconst C dX12_calm_57 (by decide) ?_
  refine zs_iconst C dX12_calm_58 (by decide) ?_
  refine zs_callV C h_X12_calmsFrom g_X12_calmsFrom zy_X12_calmsFrom zp_56 (show vwCl[12]? = some (RX12, TX12, 67) from rfl) zw_1663 zw_1665 zs9_X12_calmsFrom dX12_calm_59 ?_
  refine zs_aload_n C dX12_calm_62 rfl ?_
  refine zs_iconst C dX12_calm_63 (by decide) ?_
  refine zs_putI C zp_56 zF12 (j := 1) ⟨by decide, rfl⟩ ⟨rfl, by decide +kernel⟩ zw_1097 dX12_calm_64 ?_
  refine zs_iconst C dX12_calm_67 (by decide) ?_
  refine zs_istore_n C dX12_calm_68 rfl (by decide) ?_
  exact j69
def xX12_calm_38 (s_X12_laysTable : zq_Sp) (s_X12_calmsFrom : zq_Sp) (s_X12_enters : zq_Sp) (J32 : zq_P) (J69 : zq_P) (Q : zq_Q) (ls : zq_L) (st : List Value) (h : zq_H) : Prop := (zi_aload 0 (zi_getR 56 87 (zi_iload 1 (zi_push (.int 0) (zi_astI 87 36 (zi_iinc 1 1 (J32))))))) ls st h
theorem kX12_calm_38 {X : zq_X} {d : Nat} (C : zq_C X cX12_calm 2 RX12 d) {d_X12_laysTable : Nat} {s_X12_laysTable : zq_Sp} (h_X12_laysTable : zq_M yX12_laysTable cX12_laysTable 3 none 0 d_X12_laysTable s_X12_laysTable) (g_X12_laysTable : d_X12_laysTable + 1 ≤ d) {d_X12_calmsFrom : Nat} {s_X12_calmsFrom : zq_Sp} (h_X12_calmsFrom : zq_M yX12_calmsFrom cX12_calmsFrom 4 none 0 d_X12_calmsFrom s_X12_calmsFrom) (g_X12_calmsFrom : d_X12_calmsFrom + 1 ≤ d) {d_X12_enters : Nat} {s_X12_enters : zq_Sp} (h_X12_enters : zq_M yX12_enters cX12_enters 3 none 0 d_X12_enters s_X12_enters) (g_X12_enters : d_X12_enters + 1 ≤ d) {J32 : zq_P} (j32 : zq_ok X 2 32 J32) {J69 : zq_P} (j69 : zq_ok X 2 69 J69) {Q : zq_Q} (hq : zq_R X (some .int) 1 Q) : zq_ok X 2 38 (xX12_calm_38 s_X12_laysTable s_X12_calmsFrom s_X12_enters J32 J69 Q) := by
  refine zs_aload_n C dX12_calm_38 rfl ?_
  refine zs_getR C zp_56 zF12 (j := 46) ⟨by decide, rfl⟩ zw_1142 dX12_calm_39 ?_
  refine zs_iload_n C dX12_calm_42 rfl ?_
  refine zs_iconst C dX12_calm_43 (by decide) ?_
  refine zs_iastore C zp_87 dX12_calm_44 ?_
  refine zs_iinc C dX12_calm_45 (by decide) (by decide) ?_
  exact zs_goto C dX12_calm_48 (by decide) (j32)
def xX12_calm_32 (s_X12_laysTable : zq_Sp) (s_X12_calmsFrom : zq_Sp) (s_X12_enters : zq_Sp) (J32 : zq_P) (J69 : zq_P) (Q : zq_Q) (ls : zq_L) (st : List Value) (h : zq_H) : Prop := (zi_iload 1 (zi_push (.int 36) (zi_if2 (fun x y => y ≤ x) (xX12_calm_51 s_X12_laysTable s_X12_calmsFrom s_X12_enters J32 J69 Q) (xX12_calm_38 s_X12_laysTable s_X12_calmsFrom s_X12_enters J32 J69 Q)))) ls st h
theorem kX12_calm_32 {X : zq_X} {d : Nat} (C : zq_C X cX12_calm 2 RX12 d) {d_X12_laysTable : Nat} {s_X12_laysTable : zq_Sp} (h_X12_laysTable : zq_M yX12_laysTable cX12_laysTable 3 none 0 d_X12_laysTable s_X12_laysTable) (g_X12_laysTable : d_X12_laysTable + 1 ≤ d) {d_X12_calmsFrom : Nat} {s_X12_calmsFrom : zq_Sp} (h_X12_calmsFrom : zq_M yX12_calmsFrom cX12_calmsFrom 4 none 0 d_X12_calmsFrom s_X12_calmsFrom) (g_X12_calmsFrom : d_X12_calmsFrom + 1 ≤ d) {d_X12_enters : Nat} {s_X12_enters : zq_Sp} (h_X12_enters : zq_M yX12_enters cX12_enters 3 none 0 d_X12_enters s_X12_enters) (g_X12_enters : d_X12_enters + 1 ≤ d) {J32 : zq_P} (j32 : zq_ok X 2 32 J32) {J69 : zq_P} (j69 : zq_ok X 2 69 J69) {Q : zq_Q} (hq : zq_R X (some .int) 1 Q) : zq_ok X 2 32 (xX12_calm_32 s_X12_laysTable s_X12_calmsFrom s_X12_enters J32 J69 Q) := by
  refine zs_iload_n C dX12_calm_32 rfl ?_
  refine zs_bipush C dX12_calm_33 (by decide) ?_
  exact zs_icmp_ge C dX12_calm_35 (by decide) (kX12_calm_51 C h_X12_laysTable g_X12_laysTable h_X12_calmsFrom g_X12_calmsFrom h_X12_enters g_X12_enters j32 j69 hq) (kX12_calm_38 C h_X12_laysTable g_X12_laysTable h_X12_calmsFrom g_X12_calmsFrom h_X12_enters g_X12_enters j32 j69 hq)
def xX12_calm_26 (s_X12_laysTable : zq_Sp) (s_X12_calmsFrom : zq_Sp) (s_X12_enters : zq_Sp) (J32 : zq_P) (J69 : zq_P) (Q : zq_Q) (ls : zq_L) (st : List Value) (h : zq_H) : Prop := (zi_aload 0 (zi_callV 0 56 s_X12_laysTable (zi_push (.int 0) (zi_istore 1 (J32))))) ls st h
theorem kX12_calm_26 {X : zq_X} {d : Nat} (C : zq_C X cX12_calm 2 RX12 d) {d_X12_laysTable : Nat} {s_X12_laysTable : zq_Sp} (h_X12_laysTable : zq_M yX12_laysTable cX12_laysTable 3 none 0 d_X12_laysTable s_X12_laysTable) (g_X12_laysTable : d_X12_laysTable + 1 ≤ d) {d_X12_calmsFrom : Nat} {s_X12_calmsFrom : zq_Sp} (h_X12_calmsFrom : zq_M yX12_calmsFrom cX12_calmsFrom 4 none 0 d_X12_calmsFrom s_X12_calmsFrom) (g_X12_calmsFrom : d_X12_calmsFrom + 1 ≤ d) {d_X12_enters : Nat} {s_X12_enters : zq_Sp} (h_X12_enters : zq_M yX12_enters cX12_enters 3 none 0 d_X12_enters s_X12_enters) (g_X12_enters : d_X12_enters + 1 ≤ d) {J32 : zq_P} (j32 : zq_ok X 2 32 J32) {J69 : zq_P} (j69 : zq_ok X 2 69 J69) {Q : zq_Q} (hq : zq_R X (some .int) 1 Q) : zq_ok X 2 26 (xX12_calm_26 s_X12_laysTable s_X12_calmsFrom s_X12_enters J32 J69 Q) := by
  refine zs_aload_n C dX12_calm_26 rfl ?_
  refine zs_callV C h_X12_laysTable g_X12_laysTable zy_X12_laysTable zp_56 (show vwCl[12]? = some (RX12, TX12, 67) from rfl) zw_1471 zw_1473 zs9_X12_laysTable dX12_calm_27 ?_
  refine zs_iconst C dX12_calm_30 (by decide) ?_
  refine zs_istore_n C dX12_calm_31 rfl (by decide) ?_
  exact j32
def xX12_calm_23 (s_X12_laysTable : zq_Sp) (s_X12_calmsFrom : zq_Sp) (s_X12_enters : zq_Sp) (J32 : zq_P) (J69 : zq_P) (Q : zq_Q) (ls : zq_L) (st : List Value) (h : zq_H) : Prop := (zi_push (.int (-2)) (zi_iret Q)) ls st h
theorem kX12_calm_23 {X : zq_X} {d : Nat} (C : zq_C X cX12_calm 2 RX12 d) {d_X12_laysTable : Nat} {s_X12_laysTable : zq_Sp} (h_X12_laysTable : zq_M yX12_laysTable cX12_laysTable 3 none 0 d_X12_laysTable s_X12_laysTable) (g_X12_laysTable : d_X12_laysTable + 1 ≤ d) {d_X12_calmsFrom : Nat} {s_X12_calmsFrom : zq_Sp} (h_X12_calmsFrom : zq_M yX12_calmsFrom cX12_calmsFrom 4 none 0 d_X12_calmsFrom s_X12_calmsFrom) (g_X12_calmsFrom : d_X12_calmsFrom + 1 ≤ d) {d_X12_enters : Nat} {s_X12_enters : zq_Sp} (h_X12_enters : zq_M yX12_enters cX12_enters 3 none 0 d_X12_enters s_X12_enters) (g_X12_enters : d_X12_enters + 1 ≤ d) {J32 : zq_P} (j32 : zq_ok X 2 32 J32) {J69 : zq_P} (j69 : zq_ok X 2 69 J69) {Q : zq_Q} (hq : zq_R X (some .int) 1 Q) : zq_ok X 2 23 (xX12_calm_23 s_X12_laysTable s_X12_calmsFrom s_X12_enters J32 J69 Q) := by
  refine zs_bipush C dX12_calm_23 (by decide) ?_
  exact zs_iret C hq dX12_calm_25
def xX12_calm_16 (s_X12_laysTable : zq_Sp) (s_X12_calmsFrom : zq_Sp) (s_X12_enters : zq_Sp) (J32 : zq_P) (J69 : zq_P) (Q : zq_Q) (ls : zq_L) (st : List Value) (h : zq_H) : Prop := (zi_aload 0 (zi_getI 56 4 (zi_if1 (fun x => x = 0) (xX12_calm_23 s_X12_laysTable s_X12_calmsFrom s_X12_enters J32 J69 Q) (xX12_calm_26 s_X12_laysTable s_X12_calmsFrom s_X12_enters J32 J69 Q)))) ls st h
theorem kX12_calm_16 {X : zq_X} {d : Nat} (C : zq_C X cX12_calm 2 RX12 d) {d_X12_laysTable : Nat} {s_X12_laysTable : zq_Sp} (h_X12_laysTable : zq_M yX12_laysTable cX12_laysTable 3 none 0 d_X12_laysTable s_X12_laysTable) (g_X12_laysTable : d_X12_laysTable + 1 ≤ d) {d_X12_calmsFrom : Nat} {s_X12_calmsFrom : zq_Sp} (h_X12_calmsFrom : zq_M yX12_calmsFrom cX12_calmsFrom 4 none 0 d_X12_calmsFrom s_X12_calmsFrom) (g_X12_calmsFrom : d_X12_calmsFrom + 1 ≤ d) {d_X12_enters : Nat} {s_X12_enters : zq_Sp} (h_X12_enters : zq_M yX12_enters cX12_enters 3 none 0 d_X12_enters s_X12_enters) (g_X12_enters : d_X12_enters + 1 ≤ d) {J32 : zq_P} (j32 : zq_ok X 2 32 J32) {J69 : zq_P} (j69 : zq_ok X 2 69 J69) {Q : zq_Q} (hq : zq_R X (some .int) 1 Q) : zq_ok X 2 16 (xX12_calm_16 s_X12_laysTable s_X12_calmsFrom s_X12_enters J32 J69 Q) := by
  refine zs_aload_n C dX12_calm_16 rfl ?_
  refine zs_getI C zp_56 zF12 (j := 4) ⟨by decide, rfl⟩ zw_1100 dX12_calm_17 ?_
  exact zs_if_ne C dX12_calm_20 (by decide) (kX12_calm_26 C h_X12_laysTable g_X12_laysTable h_X12_calmsFrom g_X12_calmsFrom h_X12_enters g_X12_enters j32 j69 hq) (kX12_calm_23 C h_X12_laysTable g_X12_laysTable h_X12_calmsFrom g_X12_calmsFrom h_X12_enters g_X12_enters j32 j69 hq)
def xX12_calm_13 (s_X12_laysTable : zq_Sp) (s_X12_calmsFrom : zq_Sp) (s_X12_enters : zq_Sp) (J32 : zq_P) (J69 : zq_P) (Q : zq_Q) (ls : zq_L) (st : List Value) (h : zq_H) : Prop := (zi_push (.int (-3)) (zi_iret Q)) ls st h
theorem kX12_calm_13 {X : zq_X} {d : Nat} (C : zq_C X cX12_calm 2 RX12 d) {d_X12_laysTable : Nat} {s_X12_laysTable : zq_Sp} (h_X12_laysTable : zq_M yX12_laysTable cX12_laysTable 3 none 0 d_X12_laysTable s_X12_laysTable) (g_X12_laysTable : d_X12_laysTable + 1 ≤ d) {d_X12_calmsFrom : Nat} {s_X12_calmsFrom : zq_Sp} (h_X12_calmsFrom : zq_M yX12_calmsFrom cX12_calmsFrom 4 none 0 d_X12_calmsFrom s_X12_calmsFrom) (g_X12_calmsFrom : d_X12_calmsFrom + 1 ≤ d) {d_X12_enters : Nat} {s_X12_enters : zq_Sp} (h_X12_enters : zq_M yX12_enters cX12_enters 3 none 0 d_X12_enters s_X12_enters) (g_X12_enters : d_X12_enters + 1 ≤ d) {J32 : zq_P} (j32 : zq_ok X 2 32 J32) {J69 : zq_P} (j69 : zq_ok X 2 69 J69) {Q : zq_Q} (hq : zq_R X (some .int) 1 Q) : zq_ok X 2 13 (xX12_calm_13 s_X12_laysTable s_X12_calmsFrom s_X12_enters J32 J69 Q) := by
  refine zs_bipush C dX12_calm_13 (by decide) ?_
  exact zs_iret C hq dX12_calm_15
def xX12_calm_0 (s_X12_laysTable : zq_Sp) (s_X12_calmsFrom : zq_Sp) (s_X12_enters : zq_Sp) (J32 : zq_P) (J69 : zq_P) (Q : zq_Q) (ls : zq_L) (st : List Value) (h : zq_H) : Prop := (zi_aload 0 (zi_push (.int 0) (zi_putI 56 0 (zi_aload 0 (zi_getI 56 4 (zi_push (.int 4) (zi_if2 (fun x y => x ≤ y) (xX12_calm_16 s_X12_laysTable s_X12_calmsFrom s_X12_enters J32 J69 Q) (xX12_calm_13 s_X12_laysTable s_X12_calmsFrom s_X12_enters J32 J69 Q)))))))) ls st h
theorem kX12_calm_0 {X : zq_X} {d : Nat} (C : zq_C X cX12_calm 2 RX12 d) {d_X12_laysTable : Nat} {s_X12_laysTable : zq_Sp} (h_X12_laysTable : zq_M yX12_laysTable cX12_laysTable 3 none 0 d_X12_laysTable s_X12_laysTable) (g_X12_laysTable : d_X12_laysTable + 1 ≤ d) {d_X12_calmsFrom : Nat} {s_X12_calmsFrom : zq_Sp} (h_X12_calmsFrom : zq_M yX12_calmsFrom cX12_calmsFrom 4 none 0 d_X12_calmsFrom s_X12_calmsFrom) (g_X12_calmsFrom : d_X12_calmsFrom + 1 ≤ d) {d_X12_enters : Nat} {s_X12_enters : zq_Sp} (h_X12_enters : zq_M yX12_enters cX12_enters 3 none 0 d_X12_enters s_X12_enters) (g_X12_enters : d_X12_enters + 1 ≤ d) {J32 : zq_P} (j32 : zq_ok X 2 32 J32) {J69 : zq_P} (j69 : zq_ok X 2 69 J69) {Q : zq_Q} (hq : zq_R X (some .int) 1 Q) : zq_ok X 2 0 (xX12_calm_0 s_X12_laysTable s_X12_calmsFrom s_X12_enters J32 J69 Q) := by
  refine zs_aload_n C dX12_calm_0 rfl ?_
  refine zs_iconst C dX12_calm_1 (by decide) ?_
  refine zs_putI C zp_56 zF12 (j := 0) ⟨by decide, rfl⟩ ⟨rfl, by decide +kernel⟩ zw_1096 dX12_calm_2 ?_
  refine zs_aload_n C dX12_calm_5 rfl ?_
  refine zs_getI C zp_56 zF12 (j := 4) ⟨by decide, rfl⟩ zw_1100 dX12_calm_6 ?_
  refine zs_iconst C dX12_calm_9 (by decide) ?_
  exact zs_icmp_le C dX12_calm_10 (by decide) (kX12_calm_16 C h_X12_laysTable g_X12_laysTable h_X12_calmsFrom g_X12_calmsFrom h_X12_enters g_X12_enters j32 j69 hq) (kX12_calm_13 C h_X12_laysTable g_X12_laysTable h_X12_calmsFrom g_X12_calmsFrom h_X12_enters g_X12_enters j32 j69 hq)
theorem mX12_calm {d : Nat} {spec : zq_Sp} {σ32 : Type} {σ69 : Type} {d_X12_laysTable : Nat} {s_X12_laysTable : zq_Sp} (h_X12_laysTable : zq_M yX12_laysTable cX12_laysTable 3 none 0 d_X12_laysTable s_X12_laysTable) (g_X12_laysTable : d_X12_laysTable + 1 ≤ d) {d_X12_calmsFrom : Nat} {s_X12_calmsFrom : zq_Sp} (h_X12_calmsFrom : zq_M yX12_calmsFrom cX12_calmsFrom 4 none 0 d_X12_calmsFrom s_X12_calmsFrom) (g_X12_calmsFrom : d_X12_calmsFrom + 1 ≤ d) {d_X12_enters : Nat} {s_X12_enters : zq_Sp} (h_X12_enters : zq_M yX12_enters cX12_enters 3 none 0 d_X12_enters s_X12_enters) (g_X12_enters : d_X12_enters + 1 ≤ d) (μ32 : σ32 → Nat) (I32 : zq_Q → σ32 → zq_P) (μ69 : σ69 → Nat) (I69 : zq_Q → σ69 → zq_P) (v : ∀ args h Q, spec args h Q → (zq_a args).length ≤ 2 ∧ xX12_calm_0 s_X12_laysTable s_X12_calmsFrom s_X12_enters (fun ls st h => ∃ b, I32 Q b ls st h) (fun ls st h => ∃ b, I69 Q b ls st h) Q (zq_l0 2 args) [] h) (v32 : ∀ Q a ls st h, I32 Q a ls st h → xX12_calm_32 s_X12_laysTable s_X12_calmsFrom s_X12_enters (fun ls st h => ∃ b, μ32 b < μ32 a ∧ I32 Q b ls st h) (fun ls st h => ∃ b, μ69 b < μ32 a ∧ I69 Q b ls st h) Q ls st h) (v69 : ∀ Q a ls st h, I69 Q a ls st h → xX12_calm_69 s_X12_laysTable s_X12_calmsFrom s_X12_enters (fun ls st h => ∃ b, μ32 b < μ69 a ∧ I32 Q b ls st h) (fun ls st h => ∃ b, μ69 b < μ69 a ∧ I69 Q b ls st h) Q ls st h) : zq_M yX12_calm cX12_calm 2 (some .int) 1 d spec := by
  refine zq_met (by decide +kernel) (by decide) (fun X Q args h C hq hs => ⟨(v args h Q hs).1, _, ?_, (v args h Q hs).2⟩)
  have hl := zq_loop2 (X := X) (nL := 2) (pc1 := 32) (pc2 := 69) μ32 μ69 (I32 Q) (I69 Q) (fun J32 J69 => xX12_calm_32 s_X12_laysTable s_X12_calmsFrom s_X12_enters J32 J69 Q) (fun J32 J69 => xX12_calm_69 s_X12_laysTable s_X12_calmsFrom s_X12_enters J32 J69 Q) (fun j32 j69 => kX12_calm_32 C h_X12_laysTable g_X12_laysTable h_X12_calmsFrom g_X12_calmsFrom h_X12_enters g_X12_enters j32 j69 hq) (fun j32 j69 => kX12_calm_69 C h_X12_laysTable g_X12_laysTable h_X12_calmsFrom g_X12_calmsFrom h_X12_enters g_X12_enters j32 j69 hq) (v32 Q) (v69 Q)
  exact kX12_calm_0 C h_X12_laysTable g_X12_laysTable h_X12_calmsFrom g_X12_calmsFrom h_X12_enters g_X12_enters hl.1 hl.2 hq
/-! ToOneCrumbModel.cuts(II)I -/
theorem dX12_cuts_0 : decode cX12_cuts 0 = .ok (.aload_n 0, 1) := by decide +kernel
theorem dX12_cuts_1 : decode cX12_cuts 1 = .ok (.iconst 0, 1) := by decide +kernel
theorem dX12_cuts_2 : decode cX12_cuts 2 = .ok (.putfield 147, 3) := by decide +kernel
theorem dX12_cuts_5 : decode cX12_cuts 5 = .ok (.aload_n 0, 1) := by decide +kernel
theorem dX12_cuts_6 : decode cX12_cuts 6 = .ok (.iload_n 1, 1) := by decide +kernel
theorem dX12_cuts_7 : decode cX12_cuts 7 = .ok (.invokevirtual 313, 3) := by decide +kernel
theorem dX12_cuts_10 : decode cX12_cuts 10 = .ok (.ifCond .eq 23, 3) := by decide +kernel
theorem dX12_cuts_13 : decode cX12_cuts 13 = .ok (.aload_n 0, 1) := by decide +kernel
theorem dX12_cuts_14 : decode cX12_cuts 14 = .ok (.iload_n 2, 1) := by decide +kernel
theorem dX12_cuts_15 : decode cX12_cuts 15 = .ok (.invokevirtual 313, 3) := by decide +kernel
theorem dX12_cuts_18 : decode cX12_cuts 18 = .ok (.ifCond .eq 15, 3) := by decide +kernel
theorem dX12_cuts_21 : decode cX12_cuts 21 = .ok (.iload_n 1, 1) := by decide +kernel
theorem dX12_cuts_22 : decode cX12_cuts 22 = .ok (.iload_n 2, 1) := by decide +kernel
theorem dX12_cuts_23 : decode cX12_cuts 23 = .ok (.if_icmp .eq 10, 3) := by decide +kernel
theorem dX12_cuts_26 : decode cX12_cuts 26 = .ok (.aload_n 0, 1) := by decide +kernel
theorem dX12_cuts_27 : decode cX12_cuts 27 = .ok (.getfield 158, 3) := by decide +kernel
theorem dX12_cuts_30 : decode cX12_cuts 30 = .ok (.ifCond .ne 5, 3) := by decide +kernel
theorem dX12_cuts_33 : decode cX12_cuts 33 = .ok (.iconst (-1), 1) := by decide +kernel
theorem dX12_cuts_34 : decode cX12_cuts 34 = .ok (.ireturn, 1) := by decide +kernel
theorem dX12_cuts_35 : decode cX12_cuts 35 = .ok (.aload_n 0, 1) := by decide +kernel
theorem dX12_cuts_36 : decode cX12_cuts 36 = .ok (.invokevirtual 318, 3) := by decide +kernel
theorem dX12_cuts_39 : decode cX12_cuts 39 = .ok (.iconst 0, 1) := by decide +kernel
theorem dX12_cuts_40 : decode cX12_cuts 40 = .ok (.istore_n 3, 1) := by decide +kernel
theorem dX12_cuts_41 : decode cX12_cuts 41 = .ok (.ldc_w 410, 3) := by decide +kernel
theorem dX12_cuts_44 : decode cX12_cuts 44 = .ok (.istore 4, 2) := by decide +kernel
theorem dX12_cuts_46 : decode cX12_cuts 46 = .ok (.iconst 0, 1) := by decide +kernel
theorem dX12_cuts_47 : decode cX12_cuts 47 = .ok (.istore 5, 2) := by decide +kernel
theorem dX12_cuts_49 : decode cX12_cuts 49 = .ok (.iload 5, 2) := by decide +kernel
theorem dX12_cuts_51 : decode cX12_cuts 51 = .ok (.aload_n 0, 1) := by decide +kernel
theorem dX12_cuts_52 : decode cX12_cuts 52 = .ok (.getfield 158, 3) := by decide +kernel
theorem dX12_cuts_55 : decode cX12_cuts 55 = .ok (.if_icmp .gt 56, 3) := by decide +kernel
theorem dX12_cuts_58 : decode cX12_cuts 58 = .ok (.aload_n 0, 1) := by decide +kernel
theorem dX12_cuts_59 : decode cX12_cuts 59 = .ok (.getfield 66, 3) := by decide +kernel
theorem dX12_cuts_62 : decode cX12_cuts 62 = .ok (.iload_n 1, 1) := by decide +kernel
theorem dX12_cuts_63 : decode cX12_cuts 63 = .ok (.iaload, 1) := by decide +kernel
theorem dX12_cuts_64 : decode cX12_cuts 64 = .ok (.iconst 2, 1) := by decide +kernel
theorem dX12_cuts_65 : decode cX12_cuts 65 = .ok (.aload_n 0, 1) := by decide +kernel
theorem dX12_cuts_66 : decode cX12_cuts 66 = .ok (.iload_n 1, 1) := by decide +kernel
theorem dX12_cuts_67 : decode cX12_cuts 67 = .ok (.iconst 0, 1) := by decide +kernel
theorem dX12_cuts_68 : decode cX12_cuts 68 = .ok (.iload 5, 2) := by decide +kernel
theorem dX12_cuts_70 : decode cX12_cuts 70 = .ok (.iconst 1, 1) := by decide +kernel
theorem dX12_cuts_71 : decode cX12_cuts 71 = .ok (.isub, 1) := by decide +kernel
theorem dX12_cuts_72 : decode cX12_cuts 72 = .ok (.invokevirtual 398, 3) := by decide +kernel
theorem dX12_cuts_75 : decode cX12_cuts 75 = .ok (.imul, 1) := by decide +kernel
theorem dX12_cuts_76 : decode cX12_cuts 76 = .ok (.isub, 1) := by decide +kernel
theorem dX12_cuts_77 : decode cX12_cuts 77 = .ok (.invokestatic 425, 3) := by decide +kernel
theorem dX12_cuts_80 : decode cX12_cuts 80 = .ok (.istore 6, 2) := by decide +kernel
theorem dX12_cuts_82 : decode cX12_cuts 82 = .ok (.iload 6, 2) := by decide +kernel
theorem dX12_cuts_84 : decode cX12_cuts 84 = .ok (.iload 4, 2) := by decide +kernel
theorem dX12_cuts_86 : decode cX12_cuts 86 = .ok (.if_icmp .ge 8, 3) := by decide +kernel
theorem dX12_cuts_89 : decode cX12_cuts 89 = .ok (.iload 5, 2) := by decide +kernel
theorem dX12_cuts_91 : decode cX12_cuts 91 = .ok (.goto 4, 3) := by decide +kernel
theorem dX12_cuts_94 : decode cX12_cuts 94 = .ok (.iload_n 3, 1) := by decide +kernel
theorem dX12_cuts_95 : decode cX12_cuts 95 = .ok (.istore_n 3, 1) := by decide +kernel
theorem dX12_cuts_96 : decode cX12_cuts 96 = .ok (.iload 4, 2) := by decide +kernel
theorem dX12_cuts_98 : decode cX12_cuts 98 = .ok (.iload 6, 2) := by decide +kernel
theorem dX12_cuts_100 : decode cX12_cuts 100 = .ok (.invokestatic 181, 3) := by decide +kernel
theorem dX12_cuts_103 : decode cX12_cuts 103 = .ok (.istore 4, 2) := by decide +kernel
theorem dX12_cuts_105 : decode cX12_cuts 105 = .ok (.iinc 5 1, 3) := by decide +kernel
theorem dX12_cuts_108 : decode cX12_cuts 108 = .ok (.goto (-59), 3) := by decide +kernel
theorem dX12_cuts_111 : decode cX12_cuts 111 = .ok (.aload_n 0, 1) := by decide +kernel
theorem dX12_cuts_112 : decode cX12_cuts 112 = .ok (.iload_n 2, 1) := by decide +kernel
theorem dX12_cuts_113 : decode cX12_cuts 113 = .ok (.iconst 0, 1) := by decide +kernel
theorem dX12_cuts_114 : decode cX12_cuts 114 = .ok (.iload_n 3, 1) := by decide +kernel
theorem dX12_cuts_115 : decode cX12_cuts 115 = .ok (.iconst 1, 1) := by decide +kernel
theorem dX12_cuts_116 : decode cX12_cuts 116 = .ok (.isub, 1) := by decide +kernel
theorem dX12_cuts_117 : decode cX12_cuts 117 = .ok (.invokevirtual 398, 3) := by decide +kernel
theorem dX12_cuts_120 : decode cX12_cuts 120 = .ok (.istore 5, 2) := by decide +kernel
theorem dX12_cuts_122 : decode cX12_cuts 122 = .ok (.aload_n 0, 1) := by decide +kernel
theorem dX12_cuts_123 : decode cX12_cuts 123 = .ok (.getfield 66, 3) := by decide +kernel
theorem dX12_cuts_126 : decode cX12_cuts 126 = .ok (.iload_n 2, 1) := by decide +kernel
theorem dX12_cuts_127 : decode cX12_cuts 127 = .ok (.iaload, 1) := by decide +kernel
theorem dX12_cuts_128 : decode cX12_cuts 128 = .ok (.iload 5, 2) := by decide +kernel
theorem dX12_cuts_130 : decode cX12_cuts 130 = .ok (.isub, 1) := by decide +kernel
theorem dX12_cuts_131 : decode cX12_cuts 131 = .ok (.istore 6, 2) := by decide +kernel
theorem dX12_cuts_133 : decode cX12_cuts 133 = .ok (.iload 6, 2) := by decide +kernel
theorem dX12_cuts_135 : decode cX12_cuts 135 = .ok (.iload 5, 2) := by decide +kernel
theorem dX12_cuts_137 : decode cX12_cuts 137 = .ok (.if_icmp .le 7, 3) := by decide +kernel
theorem dX12_cuts_140 : decode cX12_cuts 140 = .ok (.iconst 1, 1) := by decide +kernel
theorem dX12_cuts_141 : decode cX12_cuts 141 = .ok (.goto 4, 3) := by decide +kernel
theorem dX12_cuts_144 : decode cX12_cuts 144 = .ok (.iconst 0, 1) := by decide +kernel
theorem dX12_cuts_145 : decode cX12_cuts 145 = .ok (.istore 7, 2) := by decide +kernel
theorem dX12_cuts_147 : decode cX12_cuts 147 = .ok (.aload_n 0, 1) := by decide +kernel
theorem dX12_cuts_148 : decode cX12_cuts 148 = .ok (.iload_n 1, 1) := by decide +kernel
theorem dX12_cuts_149 : decode cX12_cuts 149 = .ok (.iconst 0, 1) := by decide +kernel
theorem dX12_cuts_150 : decode cX12_cuts 150 = .ok (.iload_n 3, 1) := by decide +kernel
theorem dX12_cuts_151 : decode cX12_cuts 151 = .ok (.iconst 1, 1) := by decide +kernel
theorem dX12_cuts_152 : decode cX12_cuts 152 = .ok (.isub, 1) := by decide +kernel
theorem dX12_cuts_153 : decode cX12_cuts 153 = .ok (.invokevirtual 398, 3) := by decide +kernel
theorem dX12_cuts_156 : decode cX12_cuts 156 = .ok (.istore 8, 2) := by decide +kernel
theorem dX12_cuts_158 : decode cX12_cuts 158 = .ok (.aload_n 0, 1) := by decide +kernel
theorem dX12_cuts_159 : decode cX12_cuts 159 = .ok (.iconst 0, 1) := by decide +kernel
theorem dX12_cuts_160 : decode cX12_cuts 160 = .ok (.putfield 155, 3) := by decide +kernel
theorem dX12_cuts_163 : decode cX12_cuts 163 = .ok (.aload_n 0, 1) := by decide +kernel
theorem dX12_cuts_164 : decode cX12_cuts 164 = .ok (.iload 7, 2) := by decide +kernel
theorem dX12_cuts_166 : decode cX12_cuts 166 = .ok (.ifCond .eq 9, 3) := by decide +kernel
theorem dX12_cuts_169 : decode cX12_cuts 169 = .ok (.iload 8, 2) := by decide +kernel
theorem dX12_cuts_171 : decode cX12_cuts 171 = .ok (.i2l, 1) := by decide +kernel
theorem dX12_cuts_172 : decode cX12_cuts 172 = .ok (.goto 13, 3) := by decide +kernel
theorem dX12_cuts_175 : decode cX12_cuts 175 = .ok (.aload_n 0, 1) := by decide +kernel
theorem dX12_cuts_176 : decode cX12_cuts 176 = .ok (.getfield 66, 3) := by decide +kernel
theorem dX12_cuts_179 : decode cX12_cuts 179 = .ok (.iload_n 1, 1) := by decide +kernel
theorem dX12_cuts_180 : decode cX12_cuts 180 = .ok (.iaload, 1) := by decide +kernel
theorem dX12_cuts_181 : decode cX12_cuts 181 = .ok (.iload 8, 2) := by decide +kernel
theorem dX12_cuts_183 : decode cX12_cuts 183 = .ok (.isub, 1) := by decide +kernel
theorem dX12_cuts_184 : decode cX12_cuts 184 = .ok (.i2l, 1) := by decide +kernel
theorem dX12_cuts_185 : decode cX12_cuts 185 = .ok (.invokevirtual 368, 3) := by decide +kernel
theorem dX12_cuts_188 : decode cX12_cuts 188 = .ok (.aload_n 0, 1) := by decide +kernel
theorem dX12_cuts_189 : decode cX12_cuts 189 = .ok (.iload 5, 2) := by decide +kernel
theorem dX12_cuts_191 : decode cX12_cuts 191 = .ok (.iload 6, 2) := by decide +kernel
theorem dX12_cuts_193 : decode cX12_cuts 193 = .ok (.invokestatic 262, 3) := by decide +kernel
theorem dX12_cuts_196 : decode cX12_cuts 196 = .ok (.i2l, 1) := by decide +kernel
theorem dX12_cuts_197 : decode cX12_cuts 197 = .ok (.invokevirtual 368, 3) := by decide +kernel
theorem dX12_cuts_200 : decode cX12_cuts 200 = .ok (.aload_n 0, 1) := by decide +kernel
theorem dX12_cuts_201 : decode cX12_cuts 201 = .ok (.iload 7, 2) := by decide +kernel
theorem dX12_cuts_203 : decode cX12_cuts 203 = .ok (.invokestatic 190, 3) := by decide +kernel
theorem dX12_cuts_206 : decode cX12_cuts 206 = .ok (.i2l, 1) := by decide +kernel
theorem dX12_cuts_207 : decode cX12_cuts 207 = .ok (.invokevirtual 368, 3) := by decide +kernel
theorem dX12_cuts_210 : decode cX12_cuts 210 = .ok (.iload_n 3, 1) := by decide +kernel
theorem dX12_cuts_211 : decode cX12_cuts 211 = .ok (.ireturn, 1) := by decide +kernel
def xX12_cuts_185 (s_X12_isGuest : zq_Sp) (s_X12_laysTable : zq_Sp) (s_X12_sliceOf : zq_Sp) (s_X12_enters : zq_Sp) (s_X12_flag : zq_Sp) (J49 : zq_P) (Q : zq_Q) (ls : zq_L) (st : List Value) (h : zq_H) : Prop := (zi_callV 1 56 s_X12_enters (zi_aload 0 (zi_iload 5 (zi_iload 6 (zi_m2 zf_max (zi_i2l (zi_callV 1 56 s_X12_enters (zi_aload 0 (zi_iload 7 (zi_callS 1 s_X12_flag (zi_i2l (zi_callV 1 56 s_X12_enters (zi_iload 3 (zi_iret Q)))))))))))))) ls st h
theorem kX12_cuts_185 {X : zq_X} {d : Nat} (C : zq_C X cX12_cuts 9 RX12 d) (hd1 : 1 ≤ d) {d_X12_isGuest : Nat} {s_X12_isGuest : zq_Sp} (h_X12_isGuest : zq_M yX12_isGuest cX12_isGuest 2 (some .boolean) 1 d_X12_isGuest s_X12_isGuest) (g_X12_isGuest : d_X12_isGuest + 1 ≤ d) {d_X12_laysTable : Nat} {s_X12_laysTable : zq_Sp} (h_X12_laysTable : zq_M yX12_laysTable cX12_laysTable 3 none 0 d_X12_laysTable s_X12_laysTable) (g_X12_laysTable : d_X12_laysTable + 1 ≤ d) {d_X12_sliceOf : Nat} {s_X12_sliceOf : zq_Sp} (h_X12_sliceOf : zq_M yX12_sliceOf cX12_sliceOf 6 (some .int) 1 d_X12_sliceOf s_X12_sliceOf) (g_X12_sliceOf : d_X12_sliceOf + 1 ≤ d) {d_X12_enters : Nat} {s_X12_enters : zq_Sp} (h_X12_enters : zq_M yX12_enters cX12_enters 3 none 0 d_X12_enters s_X12_enters) (g_X12_enters : d_X12_enters + 1 ≤ d) {d_X12_flag : Nat} {s_X12_flag : zq_Sp} (h_X12_flag : zq_M yX12_flag cX12_flag 1 (some .int) 1 d_X12_flag s_X12_flag) (g_X12_flag : d_X12_flag + 1 ≤ d) {J49 : zq_P} (j49 : zq_ok X 9 49 J49) {Q : zq_Q} (hq : zq_R X (some .int) 1 Q) : zq_ok X 9 185 (xX12_cuts_185 s_X12_isGuest s_X12_laysTable s_X12_sliceOf s_X12_enters s_X12_flag J49 Q) := by
  refine zs_callV C h_X12_enters g_X12_enters zy_X12_enters zp_56 (show vwCl[12]? = some (RX12, TX12, 67) from rfl) zw_1574 zw_1576 zs9_X12_enters dX12_cuts_185 ?_
  refine zs_aload_n C dX12_cuts_188 rfl ?_
  refine zs_iload C dX12_cuts_189 ?_
  refine zs_iload C dX12_cuts_191 ?_
  refine zs_mmax C hd1 zw_1424 zw_454 zw_14 zw_455 dX12_cuts_193 ?_
  refine zs_i2l C dX12_cuts_196 ?_
  refine zs_callV C h_X12_enters g_X12_enters zy_X12_enters zp_56 (show vwCl[12]? = some (RX12, TX12, 67) from rfl) zw_1574 zw_1576 zs9_X12_enters dX12_cuts_197 ?_
  refine zs_aload_n C dX12_cuts_200 rfl ?_
  refine zs_iload C dX12_cuts_201 ?_
  refine zs_callS C h_X12_flag g_X12_flag zy_X12_flag zw_1380 zw_1381 dX12_cuts_203 ?_
  refine zs_i2l C dX12_cuts_206 ?_
  refine zs_callV C h_X12_enters g_X12_enters zy_X12_enters zp_56 (show vwCl[12]? = some (RX12, TX12, 67) from rfl) zw_1574 zw_1576 zs9_X12_enters dX12_cuts_207 ?_
  refine zs_iload_n C dX12_cuts_210 rfl ?_
  exact zs_iret C hq dX12_cuts_211
def xX12_cuts_175 (s_X12_isGuest : zq_Sp) (s_X12_laysTable : zq_Sp) (s_X12_sliceOf : zq_Sp) (s_X12_enters : zq_Sp) (s_X12_flag : zq_Sp) (J49 : zq_P) (Q : zq_Q) (ls : zq_L) (st : List Value) (h : zq_H) : Prop := (zi_aload 0 (zi_getR 56 75 (zi_iload 1 (zi_aldI 75 6 (zi_iload 8 (zi_i2 (fun x y => x - y) (zi_i2l ((xX12_cuts_185 s_X12_isGuest s_X12_laysTable s_X12_sliceOf s_X12_enters s_X12_flag J49 Q))))))))) ls st h
theorem kX12_cuts_175 {X : zq_X} {d : Nat} (C : zq_C X cX12_cuts 9 RX12 d) (hd1 : 1 ≤ d) {d_X12_isGuest : Nat} {s_X12_isGuest : zq_Sp} (h_X12_isGuest : zq_M yX12_isGuest cX12_isGuest 2 (some .boolean) 1 d_X12_isGuest s_X12_isGuest) (g_X12_isGuest : d_X12_isGuest + 1 ≤ d) {d_X12_laysTable : Nat} {s_X12_laysTable : zq_Sp} (h_X12_laysTable : zq_M yX12_laysTable cX12_laysTable 3 none 0 d_X12_laysTable s_X12_laysTable) (g_X12_laysTable : d_X12_laysTable + 1 ≤ d) {d_X12_sliceOf : Nat} {s_X12_sliceOf : zq_Sp} (h_X12_sliceOf : zq_M yX12_sliceOf cX12_sliceOf 6 (some .int) 1 d_X12_sliceOf s_X12_sliceOf) (g_X12_sliceOf : d_X12_sliceOf + 1 ≤ d) {d_X12_enters : Nat} {s_X12_enters : zq_Sp} (h_X12_enters : zq_M yX12_enters cX12_enters 3 none 0 d_X12_enters s_X12_enters) (g_X12_enters : d_X12_enters + 1 ≤ d) {d_X12_flag : Nat} {s_X12_flag : zq_Sp} (h_X12_flag : zq_M yX12_flag cX12_flag 1 (some .int) 1 d_X12_flag s_X12_flag) (g_X12_flag : d_X12_flag + 1 ≤ d) {J49 : zq_P} (j49 : zq_ok X 9 49 J49) {Q : zq_Q} (hq : zq_R X (some .int) 1 Q) : zq_ok X 9 175 (xX12_cuts_175 s_X12_isGuest s_X12_laysTable s_X12_sliceOf s_X12_enters s_X12_flag J49 Q) := by
  refine zs_aload_n C dX12_cuts_175 rfl ?_
  refine zs_getR C zp_56 zF12 (j := 30) ⟨by decide, rfl⟩ zw_1126 dX12_cuts_176 ?_
  refine zs_iload_n C dX12_cuts_179 rfl ?_
  refine zs_iaload C zp_75 dX12_cuts_180 ?_
  refine zs_iload C dX12_cuts_181 ?_
  refine zs_isub C dX12_cuts_183 ?_
  refine zs_i2l C dX12_cuts_184 ?_
  exact kX12_cuts_185 C hd1 h_X12_isGuest g_X12_isGuest h_X12_laysTable g_X12_laysTable h_X12_sliceOf g_X12_sliceOf h_X12_enters g_X12_enters h_X12_flag g_X12_flag j49 hq
def xX12_cuts_169 (s_X12_isGuest : zq_Sp) (s_X12_laysTable : zq_Sp) (s_X12_sliceOf : zq_Sp) (s_X12_enters : zq_Sp) (s_X12_flag : zq_Sp) (J49 : zq_P) (Q : zq_Q) (ls : zq_L) (st : List Value) (h : zq_H) : Prop := (zi_iload 8 (zi_i2l ((xX12_cuts_185 s_X12_isGuest s_X12_laysTable s_X12_sliceOf s_X12_enters s_X12_flag J49 Q)))) ls st h
theorem kX12_cuts_169 {X : zq_X} {d : Nat} (C : zq_C X cX12_cuts 9 RX12 d) (hd1 : 1 ≤ d) {d_X12_isGuest : Nat} {s_X12_isGuest : zq_Sp} (h_X12_isGuest : zq_M yX12_isGuest cX12_isGuest 2 (some .boolean) 1 d_X12_isGuest s_X12_isGuest) (g_X12_isGuest : d_X12_isGuest + 1 ≤ d) {d_X12_laysTable : Nat} {s_X12_laysTable : zq_Sp} (h_X12_laysTable : zq_M yX12_laysTable cX12_laysTable 3 none 0 d_X12_laysTable s_X12_laysTable) (g_X12_laysTable : d_X12_laysTable + 1 ≤ d) {d_X12_sliceOf : Nat} {s_X12_sliceOf : zq_Sp} (h_X12_sliceOf : zq_M yX12_sliceOf cX12_sliceOf 6 (some .int) 1 d_X12_sliceOf s_X12_sliceOf) (g_X12_sliceOf : d_X12_sliceOf + 1 ≤ d) {d_X12_enters : Nat} {s_X12_enters : zq_Sp} (h_X12_enters : zq_M yX12_enters cX12_enters 3 none 0 d_X12_enters s_X12_enters) (g_X12_enters : d_X12_enters + 1 ≤ d) {d_X12_flag : Nat} {s_X12_flag : zq_Sp} (h_X12_flag : zq_M yX12_flag cX12_flag 1 (some .int) 1 d_X12_flag s_X12_flag) (g_X12_flag : d_X12_flag + 1 ≤ d) {J49 : zq_P} (j49 : zq_ok X 9 49 J49) {Q : zq_Q} (hq : zq_R X (some .int) 1 Q) : zq_ok X 9 169 (xX12_cuts_169 s_X12_isGuest s_X12_laysTable s_X12_sliceOf s_X12_enters s_X12_flag J49 Q) := by
  refine zs_iload C dX12_cuts_169 ?_
  refine zs_i2l C dX12_cuts_171 ?_
  exact zs_goto C dX12_cuts_172 (by decide) (kX12_cuts_185 C hd1 h_X12_isGuest g_X12_isGuest h_X12_laysTable g_X12_laysTable h_X12_sliceOf g_X12_sliceOf h_X12_enters g_X12_enters h_X12_flag g_X12_flag j49 hq)
def xX12_cuts_145 (s_X12_isGuest : zq_Sp) (s_X12_laysTable : zq_Sp) (s_X12_sliceOf : zq_Sp) (s_X12_enters : zq_Sp) (s_X12_flag : zq_Sp) (J49 : zq_P) (Q : zq_Q) (ls : zq_L) (st : List Value) (h : zq_H) : Prop := (zi_istore 7 (zi_aload 0 (zi_iload 1 (zi_push (.int 0) (zi_iload 3 (zi_push (.int 1) (zi_i2 (fun x y => x - y) (zi_callV 3 56 s_X12_sliceOf (zi_istore 8 (zi_aload 0 (zi_push (.int 0) (zi_putI 56 1 (zi_aload 0 (zi_iload 7 (zi_if1 (fun x => x = 0) (xX12_cuts_175 s_X12_isGuest s_X12_laysTable s_X12_sliceOf s_X12_enters s_X12_flag J49 Q) (xX12_cuts_169 s_X12_isGuest s_X12_laysTable s_X12_sliceOf s_X12_enters s_X12_flag J49 Q)))))))))))))))) ls st h
theorem kX12_cuts_145 {X : zq_X} {d : Nat} (C : zq_C X cX12_cuts 9 RX12 d) (hd1 : 1 ≤ d) {d_X12_isGuest : Nat} {s_X12_isGuest : zq_Sp} (h_X12_isGuest : zq_M yX12_isGuest cX12_isGuest 2 (some .boolean) 1 d_X12_isGuest s_X12_isGuest) (g_X12_isGuest : d_X12_isGuest + 1 ≤ d) {d_X12_laysTable : Nat} {s_X12_laysTable : zq_Sp} (h_X12_laysTable : zq_M yX12_laysTable cX12_laysTable 3 none 0 d_X12_laysTable s_X12_laysTable) (g_X12_laysTable : d_X12_laysTable + 1 ≤ d) {d_X12_sliceOf : Nat} {s_X12_sliceOf : zq_Sp} (h_X12_sliceOf : zq_M yX12_sliceOf cX12_sliceOf 6 (some .int) 1 d_X12_sliceOf s_X12_sliceOf) (g_X12_sliceOf : d_X12_sliceOf + 1 ≤ d) {d_X12_enters : Nat} {s_X12_enters : zq_Sp} (h_X12_enters : zq_M yX12_enters cX12_enters 3 none 0 d_X12_enters s_X12_enters) (g_X12_enters : d_X12_enters + 1 ≤ d) {d_X12_flag : Nat} {s_X12_flag : zq_Sp} (h_X12_flag : zq_M yX12_flag cX12_flag 1 (some .int) 1 d_X12_flag s_X12_flag) (g_X12_flag : d_X12_flag + 1 ≤ d) {J49 : zq_P} (j49 : zq_ok X 9 49 J49) {Q : zq_Q} (hq : zq_R X (some .int) 1 Q) : zq_ok X 9 145 (xX12_cuts_145 s_X12_isGuest s_X12_laysTable s_X12_sliceOf s_X12_enters s_X12_flag J49 Q) := by
  refine zs_istore C dX12_cuts_145 (by decide) ?_
  refine zs_aload_n C dX12_cuts_147 rfl ?_
  refine zs_iload_n C dX12_cuts_148 rfl ?_
  refine zs_iconst C dX12_cuts_149 (by decide) ?_
  refine zs_iload_n C dX12_cuts_150 rfl ?_
  refine zs_iconst C dX12_cuts_151 (by decide) ?_
  refine zs_isub C dX12_cuts_152 ?_
  refine zs_callV C h_X12_sliceOf g_X12_sliceOf zy_X12_sliceOf zp_56 (show vwCl[12]? = some (RX12, TX12, 67) from rfl) zw_1645 zw_1647 zs9_X12_sliceOf dX12_cuts_153 ?_
  refine zs_istore C dX12_cuts_156 (by decide) ?_
  refine zs_aload_n C dX12_cuts_158 rfl ?_
  refine zs_iconst C dX12_cuts_159 (by decide) ?_
  refine zs_putI C zp_56 zF12 (j := 1) ⟨by decide, rfl⟩ ⟨rfl, by decide +kernel⟩ zw_1097 dX12_cuts_160 ?_
  refine zs_aload_n C dX12_cuts_163 rfl ?_
  refine zs_iload C dX12_cuts_164 ?_
  exact zs_if_eq C dX12_cuts_166 (by decide) (kX12_cuts_175 C hd1 h_X12_isGuest g_X12_isGuest h_X12_laysTable g_X12_laysTable h_X12_sliceOf g_X12_sliceOf h_X12_enters g_X12_enters h_X12_flag g_X12_flag j49 hq) (kX12_cuts_169 C hd1 h_X12_isGuest g_X12_isGuest h_X12_laysTable g_X12_laysTable h_X12_sliceOf g_X12_sliceOf h_X12_enters g_X12_enters h_X12_flag g_X12_flag j49 hq)
def xX12_cuts_144 (s_X12_isGuest : zq_Sp) (s_X12_laysTable : zq_Sp) (s_X12_sliceOf : zq_Sp) (s_X12_enters : zq_Sp) (s_X12_flag : zq_Sp) (J49 : zq_P) (Q : zq_Q) (ls : zq_L) (st : List Value) (h : zq_H) : Prop := (zi_push (.int 0) ((xX12_cuts_145 s_X12_isGuest s_X12_laysTable s_X12_sliceOf s_X12_enters s_X12_flag J49 Q))) ls st h
theorem kX12_cuts_144 {X : zq_X} {d : Nat} (C : zq_C X cX12_cuts 9 RX12 d) (hd1 : 1 ≤ d) {d_X12_isGuest : Nat} {s_X12_isGuest : zq_Sp} (h_X12_isGuest : zq_M yX12_isGuest cX12_isGuest 2 (some .boolean) 1 d_X12_isGuest s_X12_isGuest) (g_X12_isGuest : d_X12_isGuest + 1 ≤ d) {d_X12_laysTable : Nat} {s_X12_laysTable : zq_Sp} (h_X12_laysTable : zq_M yX12_laysTable cX12_laysTable 3 none 0 d_X12_laysTable s_X12_laysTable) (g_X12_laysTable : d_X12_laysTable + 1 ≤ d) {d_X12_sliceOf : Nat} {s_X12_sliceOf : zq_Sp} (h_X12_sliceOf : zq_M yX12_sliceOf cX12_sliceOf 6 (some .int) 1 d_X12_sliceOf s_X12_sliceOf) (g_X12_sliceOf : d_X12_sliceOf + 1 ≤ d) {d_X12_enters : Nat} {s_X12_enters : zq_Sp} (h_X12_enters : zq_M yX12_enters cX12_enters 3 none 0 d_X12_enters s_X12_enters) (g_X12_enters : d_X12_enters + 1 ≤ d) {d_X12_flag : Nat} {s_X12_flag : zq_Sp} (h_X12_flag : zq_M yX12_flag cX12_flag 1 (some .int) 1 d_X12_flag s_X12_flag) (g_X12_flag : d_X12_flag + 1 ≤ d) {J49 : zq_P} (j49 : zq_ok X 9 49 J49) {Q : zq_Q} (hq : zq_R X (some .int) 1 Q) : zq_ok X 9 144 (xX12_cuts_144 s_X12_isGuest s_X12_laysTable s_X12_sliceOf s_X12_enters s_X12_flag J49 Q) := by
  refine zs_iconst C dX12_cuts_144 (by decide) ?_
  exact kX12_cuts_145 C hd1 h_X12_isGuest g_X12_isGuest h_X12_laysTable g_X12_laysTable h_X12_sliceOf g_X12_sliceOf h_X12_enters g_X12_enters h_X12_flag g_X12_flag j49 hq
def xX12_cuts_140 (s_X12_isGuest : zq_Sp) (s_X12_laysTable : zq_Sp) (s_X12_sliceOf : zq_Sp) (s_X12_enters : zq_Sp) (s_X12_flag : zq_Sp) (J49 : zq_P) (Q : zq_Q) (ls : zq_L) (st : List Value) (h : zq_H) : Prop := (zi_push (.int 1) ((xX12_cuts_145 s_X12_isGuest s_X12_laysTable s_X12_sliceOf s_X12_enters s_X12_flag J49 Q))) ls st h
theorem kX12_cuts_140 {X : zq_X} {d : Nat} (C : zq_C X cX12_cuts 9 RX12 d) (hd1 : 1 ≤ d) {d_X12_isGuest : Nat} {s_X12_isGuest : zq_Sp} (h_X12_isGuest : zq_M yX12_isGuest cX12_isGuest 2 (some .boolean) 1 d_X12_isGuest s_X12_isGuest) (g_X12_isGuest : d_X12_isGuest + 1 ≤ d) {d_X12_laysTable : Nat} {s_X12_laysTable : zq_Sp} (h_X12_laysTable : zq_M yX12_laysTable cX12_laysTable 3 none 0 d_X12_laysTable s_X12_laysTable) (g_X12_laysTable : d_X12_laysTable + 1 ≤ d) {d_X12_sliceOf : Nat} {s_X12_sliceOf : zq_Sp} (h_X12_sliceOf : zq_M yX12_sliceOf cX12_sliceOf 6 (some .int) 1 d_X12_sliceOf s_X12_sliceOf) (g_X12_sliceOf : d_X12_sliceOf + 1 ≤ d) {d_X12_enters : Nat} {s_X12_enters : zq_Sp} (h_X12_enters : zq_M yX12_enters cX12_enters 3 none 0 d_X12_enters s_X12_enters) (g_X12_enters : d_X12_enters + 1 ≤ d) {d_X12_flag : Nat} {s_X12_flag : zq_Sp} (h_X12_flag : zq_M yX12_flag cX12_flag 1 (some .int) 1 d_X12_flag s_X12_flag) (g_X12_flag : d_X12_flag + 1 ≤ d) {J49 : zq_P} (j49 : zq_ok X 9 49 J49) {Q : zq_Q} (hq : zq_R X (some .int) 1 Q) : zq_ok X 9 140 (xX12_cuts_140 s_X12_isGuest s_X12_laysTable s_X12_sliceOf s_X12_enters s_X12_flag J49 Q) := by
  refine zs_iconst C dX12_cuts_140 (by decide) ?_
  exact zs_goto C dX12_cuts_141 (by decide) (kX12_cuts_145 C hd1 h_X12_isGuest g_X12_isGuest h_X12_laysTable g_X12_laysTable h_X12_sliceOf g_X12_sliceOf h_X12_enters g_X12_enters h_X12_flag g_X12_flag j49 hq)
def xX12_cuts_111 (s_X12_isGuest : zq_Sp) (s_X12_laysTable : zq_Sp) (s_X12_sliceOf : zq_Sp) (s_X12_enters : zq_Sp) (s_X12_flag : zq_Sp) (J49 : zq_P) (Q : zq_Q) (ls : zq_L) (st : List Value) (h : zq_H) : Prop := (zi_aload 0 (zi_iload 2 (zi_push (.int 0) (zi_iload 3 (zi_push (.int 1) (zi_i2 (fun x y => x - y) (zi_callV 3 56 s_X12_sliceOf (zi_istore 5 (zi_aload 0 (zi_getR 56 75 (zi_iload 2 (zi_aldI 75 6 (zi_iload 5 (zi_i2 (fun x y => x - y) (zi_istore 6 (zi_iload 6 (zi_iload 5 (zi_if2 (fun x y => x ≤ y) (xX12_cuts_144 s_X12_isGuest s_X12_laysTable s_X12_sliceOf s_X12_enters s_X12_flag J49 Q) (xX12_cuts_140 s_X12_isGuest s_X12_laysTable s_X12_sliceOf s_X12_enters s_X12_flag J49 Q))))))))))))))))))) ls st h
theorem kX12_cuts_111 {X : zq_X} {d : Nat} (C : zq_C X cX12_cuts 9 RX12 d) (hd1 : 1 ≤ d) {d_X12_isGuest : Nat} {s_X12_isGuest : zq_Sp} (h_X12_isGuest : zq_M yX12_isGuest cX12_isGuest 2 (some .boolean) 1 d_X12_isGuest s_X12_isGuest) (g_X12_isGuest : d_X12_isGuest + 1 ≤ d) {d_X12_laysTable : Nat} {s_X12_laysTable : zq_Sp} (h_X12_laysTable : zq_M yX12_laysTable cX12_laysTable 3 none 0 d_X12_laysTable s_X12_laysTable) (g_X12_laysTable : d_X12_laysTable + 1 ≤ d) {d_X12_sliceOf : Nat} {s_X12_sliceOf : zq_Sp} (h_X12_sliceOf : zq_M yX12_sliceOf cX12_sliceOf 6 (some .int) 1 d_X12_sliceOf s_X12_sliceOf) (g_X12_sliceOf : d_X12_sliceOf + 1 ≤ d) {d_X12_enters : Nat} {s_X12_enters : zq_Sp} (h_X12_enters : zq_M yX12_enters cX12_enters 3 none 0 d_X12_enters s_X12_enters) (g_X12_enters : d_X12_enters + 1 ≤ d) {d_X12_flag : Nat} {s_X12_flag : zq_Sp} (h_X12_flag : zq_M yX12_flag cX12_flag 1 (some .int) 1 d_X12_flag s_X12_flag) (g_X12_flag : d_X12_flag + 1 ≤ d) {J49 : zq_P} (j49 : zq_ok X 9 49 J49) {Q : zq_Q} (hq : zq_R X (some .int) 1 Q) : zq_ok X 9 111 (xX12_cuts_111 s_X12_isGuest s_X12_laysTable s_X12_sliceOf s_X12_enters s_X12_flag J49 Q) := by
  refine zs_aload_n C dX12_cuts_111 rfl ?_
  refine zs_iload_n C dX12_cuts_112 rfl ?_
  refine zs_iconst C dX12_cuts_113 (by decide) ?_
  refine zs_iload_n C dX12_cuts_114 rfl ?_
  refine zs_iconst C dX12_cuts_115 (by decide) ?_
  refine zs_isub C dX12_cuts_116 ?_
  refine zs_callV C h_X12_sliceOf g_X12_sliceOf zy_X12_sliceOf zp_56 (show vwCl[12]? = some (RX12, TX12, 67) from rfl) zw_1645 zw_1647 zs9_X12_sliceOf dX12_cuts_117 ?_
  refine zs_istore C dX12_cuts_120 (by decide) ?_
  refine zs_aload_n C dX12_cuts_122 rfl ?_
  refine zs_getR C zp_56 zF12 (j := 30) ⟨by decide, rfl⟩ zw_1126 dX12_cuts_123 ?_
  refine zs_iload_n C dX12_cuts_126 rfl ?_
  refine zs_iaload C zp_75 dX12_cuts_127 ?_
  refine zs_iload C dX12_cuts_128 ?_
  refine zs_isub C dX12_cuts_130 ?_
  refine zs_istore C dX12_cuts_131 (by decide) ?_
  refine zs_iload C dX12_cuts_133 ?_
  refine zs_iload C dX12_cuts_135 ?_
  exact zs_icmp_le C dX12_cuts_137 (by decide) (kX12_cuts_144 C hd1 h_X12_isGuest g_X12_isGuest h_X12_laysTable g_X12_laysTable h_X12_sliceOf g_X12_sliceOf h_X12_enters g_X12_enters h_X12_flag g_X12_flag j49 hq) (kX12_cuts_140 C hd1 h_X12_isGuest g_X12_isGuest h_X12_laysTable g_X12_laysTable h_X12_sliceOf g_X12_sliceOf h_X12_enters g_X12_enters h_X12_flag g_X12_flag j49 hq)
def xX12_cuts_95 (s_X12_isGuest : zq_Sp) (s_X12_laysTable : zq_Sp) (s_X12_sliceOf : zq_Sp) (s_X12_enters : zq_Sp) (s_X12_flag : zq_Sp) (J49 : zq_P) (Q : zq_Q) (ls : zq_L) (st : List Value) (h : zq_H) : Prop := (zi_istore 3 (zi_iload 4 (zi_iload 6 (zi_m2 zf_min (zi_istore 4 (zi_iinc 5 1 (J49))))))) ls st h
theorem kX12_cuts_95 {X : zq_X} {d : Nat} (C : zq_C X cX12_cuts 9 RX12 d) (hd1 : 1 ≤ d) {d_X12_isGuest : Nat} {s_X12_isGuest : zq_Sp} (h_X12_isGuest : zq_M yX12_isGuest cX12_isGuest 2 (some .boolean) 1 d_X12_isGuest s_X12_isGuest) (g_X12_isGuest : d_X12_isGuest + 1 ≤ d) {d_X12_laysTable : Nat} {s_X12_laysTable : zq_Sp} (h_X12_laysTable : zq_M yX12_laysTable cX12_laysTable 3 none 0 d_X12_laysTable s_X12_laysTable) (g_X12_laysTable : d_X12_laysTable + 1 ≤ d) {d_X12_sliceOf : Nat} {s_X12_sliceOf : zq_Sp} (h_X12_sliceOf : zq_M yX12_sliceOf cX12_sliceOf 6 (some .int) 1 d_X12_sliceOf s_X12_sliceOf) (g_X12_sliceOf : d_X12_sliceOf + 1 ≤ d) {d_X12_enters : Nat} {s_X12_enters : zq_Sp} (h_X12_enters : zq_M yX12_enters cX12_enters 3 none 0 d_X12_enters s_X12_enters) (g_X12_enters : d_X12_enters + 1 ≤ d) {d_X12_flag : Nat} {s_X12_flag : zq_Sp} (h_X12_flag : zq_M yX12_flag cX12_flag 1 (some .int) 1 d_X12_flag s_X12_flag) (g_X12_flag : d_X12_flag + 1 ≤ d) {J49 : zq_P} (j49 : zq_ok X 9 49 J49) {Q : zq_Q} (hq : zq_R X (some .int) 1 Q) : zq_ok X 9 95 (xX12_cuts_95 s_X12_isGuest s_X12_laysTable s_X12_sliceOf s_X12_enters s_X12_flag J49 Q) := by
  refine zs_istore_n C dX12_cuts_95 rfl (by decide) ?_
  refine zs_iload C dX12_cuts_96 ?_
  refine zs_iload C dX12_cuts_98 ?_
  refine zs_mmin C hd1 zw_1322 zw_393 zw_14 zw_394 dX12_cuts_100 ?_
  refine zs_istore C dX12_cuts_103 (by decide) ?_
  refine zs_iinc C dX12_cuts_105 (by decide) (by decide) ?_
  exact zs_goto C dX12_cuts_108 (by decide) (j49)
def xX12_cuts_94 (s_X12_isGuest : zq_Sp) (s_X12_laysTable : zq_Sp) (s_X12_sliceOf : zq_Sp) (s_X12_enters : zq_Sp) (s_X12_flag : zq_Sp) (J49 : zq_P) (Q : zq_Q) (ls : zq_L) (st : List Value) (h : zq_H) : Prop := (zi_iload 3 ((xX12_cuts_95 s_X12_isGuest s_X12_laysTable s_X12_sliceOf s_X12_enters s_X12_flag J49 Q))) ls st h
theorem kX12_cuts_94 {X : zq_X} {d : Nat} (C : zq_C X cX12_cuts 9 RX12 d) (hd1 : 1 ≤ d) {d_X12_isGuest : Nat} {s_X12_isGuest : zq_Sp} (h_X12_isGuest : zq_M yX12_isGuest cX12_isGuest 2 (some .boolean) 1 d_X12_isGuest s_X12_isGuest) (g_X12_isGuest : d_X12_isGuest + 1 ≤ d) {d_X12_laysTable : Nat} {s_X12_laysTable : zq_Sp} (h_X12_laysTable : zq_M yX12_laysTable cX12_laysTable 3 none 0 d_X12_laysTable s_X12_laysTable) (g_X12_laysTable : d_X12_laysTable + 1 ≤ d) {d_X12_sliceOf : Nat} {s_X12_sliceOf : zq_Sp} (h_X12_sliceOf : zq_M yX12_sliceOf cX12_sliceOf 6 (some .int) 1 d_X12_sliceOf s_X12_sliceOf) (g_X12_sliceOf : d_X12_sliceOf + 1 ≤ d) {d_X12_enters : Nat} {s_X12_enters : zq_Sp} (h_X12_enters : zq_M yX12_enters cX12_enters 3 none 0 d_X12_enters s_X12_enters) (g_X12_enters : d_X12_enters + 1 ≤ d) {d_X12_flag : Nat} {s_X12_flag : zq_Sp} (h_X12_flag : zq_M yX12_flag cX12_flag 1 (some .int) 1 d_X12_flag s_X12_flag) (g_X12_flag : d_X12_flag + 1 ≤ d) {J49 : zq_P} (j49 : zq_ok X 9 49 J49) {Q : zq_Q} (hq : zq_R X (some .int) 1 Q) : zq_ok X 9 94 (xX12_cuts_94 s_X12_isGuest s_X12_laysTable s_X12_sliceOf s_X12_enters s_X12_flag J49 Q) := by
  refine zs_iload_n C dX12_cuts_94 rfl ?_
  exact kX12_cuts_95 C hd1 h_X12_isGuest g_X12_isGuest h_X12_laysTable g_X12_laysTable h_X12_sliceOf g_X12_sliceOf h_X12_enters g_X12_enters h_X12_flag g_X12_flag j49 hq
def xX12_cuts_89 (s_X12_isGuest : zq_Sp) (s_X12_laysTable : zq_Sp) (s_X12_sliceOf : zq_Sp) (s_X12_enters : zq_Sp) (s_X12_flag : zq_Sp) (J49 : zq_P) (Q : zq_Q) (ls : zq_L) (st : List Value) (h : zq_H) : Prop := (zi_iload 5 ((xX12_cuts_95 s_X12_isGuest s_X12_laysTable s_X12_sliceOf s_X12_enters s_X12_flag J49 Q))) ls st h
theorem kX12_cuts_89 {X : zq_X} {d : Nat} (C : zq_C X cX12_cuts 9 RX12 d) (hd1 : 1 ≤ d) {d_X12_isGuest : Nat} {s_X12_isGuest : zq_Sp} (h_X12_isGuest : zq_M yX12_isGuest cX12_isGuest 2 (some .boolean) 1 d_X12_isGuest s_X12_isGuest) (g_X12_isGuest : d_X12_isGuest + 1 ≤ d) {d_X12_laysTable : Nat} {s_X12_laysTable : zq_Sp} (h_X12_laysTable : zq_M yX12_laysTable cX12_laysTable 3 none 0 d_X12_laysTable s_X12_laysTable) (g_X12_laysTable : d_X12_laysTable + 1 ≤ d) {d_X12_sliceOf : Nat} {s_X12_sliceOf : zq_Sp} (h_X12_sliceOf : zq_M yX12_sliceOf cX12_sliceOf 6 (some .int) 1 d_X12_sliceOf s_X12_sliceOf) (g_X12_sliceOf : d_X12_sliceOf + 1 ≤ d) {d_X12_enters : Nat} {s_X12_enters : zq_Sp} (h_X12_enters : zq_M yX12_enters cX12_enters 3 none 0 d_X12_enters s_X12_enters) (g_X12_enters : d_X12_enters + 1 ≤ d) {d_X12_flag : Nat} {s_X12_flag : zq_Sp} (h_X12_flag : zq_M yX12_flag cX12_flag 1 (some .int) 1 d_X12_flag s_X12_flag) (g_X12_flag : d_X12_flag + 1 ≤ d) {J49 : zq_P} (j49 : zq_ok X 9 49 J49) {Q : zq_Q} (hq : zq_R X (some .int) 1 Q) : zq_ok X 9 89 (xX12_cuts_89 s_X12_isGuest s_X12_laysTable s_X12_sliceOf s_X12_enters s_X12_flag J49 Q) := by
  refine zs_iload C dX12_cuts_89 ?_
  exact zs_goto C dX12_cuts_91 (by decide) (kX12_cuts_95 C hd1 h_X12_isGuest g_X12_isGuest h_X12_laysTable g_X12_laysTable h_X12_sliceOf g_X12_sliceOf h_X12_enters g_X12_enters h_X12_flag g_X12_flag j49 hq)
def xX12_cuts_58 (s_X12_isGuest : zq_Sp) (s_X12_laysTable : zq_Sp) (s_X12_sliceOf : zq_Sp) (s_X12_enters : zq_Sp) (s_X12_flag : zq_Sp) (J49 : zq_P) (Q : zq_Q) (ls : zq_L) (st : List Value) (h : zq_H) : Prop := (zi_aload 0 (zi_getR 56 75 (zi_iload 1 (zi_aldI 75 6 (zi_push (.int 2) (zi_aload 0 (zi_iload 1 (zi_push (.int 0) (zi_iload 5 (zi_push (.int 1) (zi_i2 (fun x y => x - y) (zi_callV 3 56 s_X12_sliceOf (zi_i2 (fun x y => x * y) (zi_i2 (fun x y => x - y) (zi_m1 zf_abs (zi_istore 6 (zi_iload 6 (zi_iload 4 (zi_if2 (fun x y => y ≤ x) (xX12_cuts_94 s_X12_isGuest s_X12_laysTable s_X12_sliceOf s_X12_enters s_X12_flag J49 Q) (xX12_cuts_89 s_X12_isGuest s_X12_laysTable s_X12_sliceOf s_X12_enters s_X12_flag J49 Q)))))))))))))))))))) ls st h
theorem kX12_cuts_58 {X : zq_X} {d : Nat} (C : zq_C X cX12_cuts 9 RX12 d) (hd1 : 1 ≤ d) {d_X12_isGuest : Nat} {s_X12_isGuest : zq_Sp} (h_X12_isGuest : zq_M yX12_isGuest cX12_isGuest 2 (some .boolean) 1 d_X12_isGuest s_X12_isGuest) (g_X12_isGuest : d_X12_isGuest + 1 ≤ d) {d_X12_laysTable : Nat} {s_X12_laysTable : zq_Sp} (h_X12_laysTable : zq_M yX12_laysTable cX12_laysTable 3 none 0 d_X12_laysTable s_X12_laysTable) (g_X12_laysTable : d_X12_laysTable + 1 ≤ d) {d_X12_sliceOf : Nat} {s_X12_sliceOf : zq_Sp} (h_X12_sliceOf : zq_M yX12_sliceOf cX12_sliceOf 6 (some .int) 1 d_X12_sliceOf s_X12_sliceOf) (g_X12_sliceOf : d_X12_sliceOf + 1 ≤ d) {d_X12_enters : Nat} {s_X12_enters : zq_Sp} (h_X12_enters : zq_M yX12_enters cX12_enters 3 none 0 d_X12_enters s_X12_enters) (g_X12_enters : d_X12_enters + 1 ≤ d) {d_X12_flag : Nat} {s_X12_flag : zq_Sp} (h_X12_flag : zq_M yX12_flag cX12_flag 1 (some .int) 1 d_X12_flag s_X12_flag) (g_X12_flag : d_X12_flag + 1 ≤ d) {J49 : zq_P} (j49 : zq_ok X 9 49 J49) {Q : zq_Q} (hq : zq_R X (some .int) 1 Q) : zq_ok X 9 58 (xX12_cuts_58 s_X12_isGuest s_X12_laysTable s_X12_sliceOf s_X12_enters s_X12_flag J49 Q) := by
  refine zs_aload_n C dX12_cuts_58 rfl ?_
  refine zs_getR C zp_56 zF12 (j := 30) ⟨by decide, rfl⟩ zw_1126 dX12_cuts_59 ?_
  refine zs_iload_n C dX12_cuts_62 rfl ?_
  refine zs_iaload C zp_75 dX12_cuts_63 ?_
  refine zs_iconst C dX12_cuts_64 (by decide) ?_
  refine zs_aload_n C dX12_cuts_65 rfl ?_
  refine zs_iload_n C dX12_cuts_66 rfl ?_
  refine zs_iconst C dX12_cuts_67 (by decide) ?_
  refine zs_iload C dX12_cuts_68 ?_
  refine zs_iconst C dX12_cuts_70 (by decide) ?_
  refine zs_isub C dX12_cuts_71 ?_
  refine zs_callV C h_X12_sliceOf g_X12_sliceOf zy_X12_sliceOf zp_56 (show vwCl[12]? = some (RX12, TX12, 67) from rfl) zw_1645 zw_1647 zs9_X12_sliceOf dX12_cuts_72 ?_
  refine zs_imul C dX12_cuts_75 ?_
  refine zs_isub C dX12_cuts_76 ?_
  refine zs_mabs C hd1 zw_1679 zw_838 zw_14 zw_839 dX12_cuts_77 ?_
  refine zs_istore C dX12_cuts_80 (by decide) ?_
  refine zs_iload C dX12_cuts_82 ?_
  refine zs_iload C dX12_cuts_84 ?_
  exact zs_icmp_ge C dX12_cuts_86 (by decide) (kX12_cuts_94 C hd1 h_X12_isGuest g_X12_isGuest h_X12_laysTable g_X12_laysTable h_X12_sliceOf g_X12_sliceOf h_X12_enters g_X12_enters h_X12_flag g_X12_flag j49 hq) (kX12_cuts_89 C hd1 h_X12_isGuest g_X12_isGuest h_X12_laysTable g_X12_laysTable h_X12_sliceOf g_X12_sliceOf h_X12_enters g_X12_enters h_X12_flag g_X12_flag j49 hq)
def xX12_cuts_49 (s_X12_isGuest : zq_Sp) (s_X12_laysTable : zq_Sp) (s_X12_sliceOf : zq_Sp) (s_X12_enters : zq_Sp) (s_X12_flag : zq_Sp) (J49 : zq_P) (Q : zq_Q) (ls : zq_L) (st : List Value) (h : zq_H) : Prop := (zi_iload 5 (zi_aload 0 (zi_getI 56 3 (zi_if2 (fun x y => y < x) (xX12_cuts_111 s_X12_isGuest s_X12_laysTable s_X12_sliceOf s_X12_enters s_X12_flag J49 Q) (xX12_cuts_58 s_X12_isGuest s_X12_laysTable s_X12_sliceOf s_X12_enters s_X12_flag J49 Q))))) ls st h
theorem kX12_cuts_49 {X : zq_X} {d : Nat} (C : zq_C X cX12_cuts 9 RX12 d) (hd1 : 1 ≤ d) {d_X12_isGuest : Nat} {s_X12_isGuest : zq_Sp} (h_X12_isGuest : zq_M yX12_isGuest cX12_isGuest 2 (some .boolean) 1 d_X12_isGuest s_X12_isGuest) (g_X12_isGuest : d_X12_isGuest + 1 ≤ d) {d_X12_laysTable : Nat} {s_X12_laysTable : zq_Sp} (h_X12_laysTable : zq_M yX12_laysTable cX12_laysTable 3 none 0 d_X12_laysTable s_X12_laysTable) (g_X12_laysTable : d_X12_laysTable + 1 ≤ d) {d_X12_sliceOf : Nat} {s_X12_sliceOf : zq_Sp} (h_X12_sliceOf : zq_M yX12_sliceOf cX12_sliceOf 6 (some .int) 1 d_X12_sliceOf s_X12_sliceOf) (g_X12_sliceOf : d_X12_sliceOf + 1 ≤ d) {d_X12_enters : Nat} {s_X12_enters : zq_Sp} (h_X12_enters : zq_M yX12_enters cX12_enters 3 none 0 d_X12_enters s_X12_enters) (g_X12_enters : d_X12_enters + 1 ≤ d) {d_X12_flag : Nat} {s_X12_flag : zq_Sp} (h_X12_flag : zq_M yX12_flag cX12_flag 1 (some .int) 1 d_X12_flag s_X12_flag) (g_X12_flag : d_X12_flag + 1 ≤ d) {J49 : zq_P} (j49 : zq_ok X 9 49 J49) {Q : zq_Q} (hq : zq_R X (some .int) 1 Q) : zq_ok X 9 49 (xX12_cuts_49 s_X12_isGuest s_X12_laysTable s_X12_sliceOf s_X12_enters s_X12_flag J49 Q) := by
  refine zs_iload C dX12_cuts_49 ?_
  refine zs_aload_n C dX12_cuts_51 rfl ?_
  refine zs_getI C zp_56 zF12 (j := 3) ⟨by decide, rfl⟩ zw_1099 dX12_cuts_52 ?_
  exact zs_icmp_gt C dX12_cuts_55 (by decide) (kX12_cuts_111 C hd1 h_X12_isGuest g_X12_isGuest h_X12_laysTable g_X12_laysTable h_X12_sliceOf g_X12_sliceOf h_X12_enters g_X12_enters h_X12_flag g_X12_flag j49 hq) (kX12_cuts_58 C hd1 h_X12_isGuest g_X12_isGuest h_X12_laysTable g_X12_laysTable h_X12_sliceOf g_X12_sliceOf h_X12_enters g_X12_enters h_X12_flag g_X12_flag j49 hq)
def xX12_cuts_35 (s_X12_isGuest : zq_Sp) (s_X12_laysTable : zq_Sp) (s_X12_sliceOf : zq_Sp) (s_X12_enters : zq_Sp) (s_X12_flag : zq_Sp) (J49 : zq_P) (Q : zq_Q) (ls : zq_L) (st : List Value) (h : zq_H) : Prop := (zi_aload 0 (zi_callV 0 56 s_X12_laysTable (zi_push (.int 0) (zi_istore 3 (zi_push (.int 2147483647) (zi_istore 4 (zi_push (.int 0) (zi_istore 5 (J49))))))))) ls st h
theorem kX12_cuts_35 {X : zq_X} {d : Nat} (C : zq_C X cX12_cuts 9 RX12 d) (hd1 : 1 ≤ d) {d_X12_isGuest : Nat} {s_X12_isGuest : zq_Sp} (h_X12_isGuest : zq_M yX12_isGuest cX12_isGuest 2 (some .boolean) 1 d_X12_isGuest s_X12_isGuest) (g_X12_isGuest : d_X12_isGuest + 1 ≤ d) {d_X12_laysTable : Nat} {s_X12_laysTable : zq_Sp} (h_X12_laysTable : zq_M yX12_laysTable cX12_laysTable 3 none 0 d_X12_laysTable s_X12_laysTable) (g_X12_laysTable : d_X12_laysTable + 1 ≤ d) {d_X12_sliceOf : Nat} {s_X12_sliceOf : zq_Sp} (h_X12_sliceOf : zq_M yX12_sliceOf cX12_sliceOf 6 (some .int) 1 d_X12_sliceOf s_X12_sliceOf) (g_X12_sliceOf : d_X12_sliceOf + 1 ≤ d) {d_X12_enters : Nat} {s_X12_enters : zq_Sp} (h_X12_enters : zq_M yX12_enters cX12_enters 3 none 0 d_X12_enters s_X12_enters) (g_X12_enters : d_X12_enters + 1 ≤ d) {d_X12_flag : Nat} {s_X12_flag : zq_Sp} (h_X12_flag : zq_M yX12_flag cX12_flag 1 (some .int) 1 d_X12_flag s_X12_flag) (g_X12_flag : d_X12_flag + 1 ≤ d) {J49 : zq_P} (j49 : zq_ok X 9 49 J49) {Q : zq_Q} (hq : zq_R X (some .int) 1 Q) : zq_ok X 9 35 (xX12_cuts_35 s_X12_isGuest s_X12_laysTable s_X12_sliceOf s_X12_enters s_X12_flag J49 Q) := by
  refine zs_aload_n C dX12_cuts_35 rfl ?_
  refine zs_callV C h_X12_laysTable g_X12_laysTable zy_X12_laysTable zp_56 (show vwCl[12]? = some (RX12, TX12, 67) from rfl) zw_1471 zw_1473 zs9_X12_laysTable dX12_cuts_36 ?_
  refine zs_iconst C dX12_cuts_39 (by decide) ?_
  refine zs_istore_n C dX12_cuts_40 rfl (by decide) ?_
  refine zs_ldcw C dX12_cuts_41 zw_1654 ?_
  refine zs_istore C dX12_cuts_44 (by decide) ?_
  refine zs_iconst C dX12_cuts_46 (by decide) ?_
  refine zs_istore C dX12_cuts_47 (by decide) ?_
  exact j49
def xX12_cuts_33 (s_X12_isGuest : zq_Sp) (s_X12_laysTable : zq_Sp) (s_X12_sliceOf : zq_Sp) (s_X12_enters : zq_Sp) (s_X12_flag : zq_Sp) (J49 : zq_P) (Q : zq_Q) (ls : zq_L) (st : List Value) (h : zq_H) : Prop := (zi_push (.int (-1)) (zi_iret Q)) ls st h
theorem kX12_cuts_33 {X : zq_X} {d : Nat} (C : zq_C X cX12_cuts 9 RX12 d) (hd1 : 1 ≤ d) {d_X12_isGuest : Nat} {s_X12_isGuest : zq_Sp} (h_X12_isGuest : zq_M yX12_isGuest cX12_isGuest 2 (some .boolean) 1 d_X12_isGuest s_X12_isGuest) (g_X12_isGuest : d_X12_isGuest + 1 ≤ d) {d_X12_laysTable : Nat} {s_X12_laysTable : zq_Sp} (h_X12_laysTable : zq_M yX12_laysTable cX12_laysTable 3 none 0 d_X12_laysTable s_X12_laysTable) (g_X12_laysTable : d_X12_laysTable + 1 ≤ d) {d_X12_sliceOf : Nat} {s_X12_sliceOf : zq_Sp} (h_X12_sliceOf : zq_M yX12_sliceOf cX12_sliceOf 6 (some .int) 1 d_X12_sliceOf s_X12_sliceOf) (g_X12_sliceOf : d_X12_sliceOf + 1 ≤ d) {d_X12_enters : Nat} {s_X12_enters : zq_Sp} (h_X12_enters : zq_M yX12_enters cX12_enters 3 none 0 d_X12_enters s_X12_enters) (g_X12_enters : d_X12_enters + 1 ≤ d) {d_X12_flag : Nat} {s_X12_flag : zq_Sp} (h_X12_flag : zq_M yX12_flag cX12_flag 1 (some .int) 1 d_X12_flag s_X12_flag) (g_X12_flag : d_X12_flag + 1 ≤ d) {J49 : zq_P} (j49 : zq_ok X 9 49 J49) {Q : zq_Q} (hq : zq_R X (some .int) 1 Q) : zq_ok X 9 33 (xX12_cuts_33 s_X12_isGuest s_X12_laysTable s_X12_sliceOf s_X12_enters s_X12_flag J49 Q) := by
  refine zs_iconst C dX12_cuts_33 (by decide) ?_
  exact zs_iret C hq dX12_cuts_34
def xX12_cuts_26 (s_X12_isGuest : zq_Sp) (s_X12_laysTable : zq_Sp) (s_X12_sliceOf : zq_Sp) (s_X12_enters : zq_Sp) (s_X12_flag : zq_Sp) (J49 : zq_P) (Q : zq_Q) (ls : zq_L) (st : List Value) (h : zq_H) : Prop := (zi_aload 0 (zi_getI 56 3 (zi_if1 (fun x => x = 0) (xX12_cuts_33 s_X12_isGuest s_X12_laysTable s_X12_sliceOf s_X12_enters s_X12_flag J49 Q) (xX12_cuts_35 s_X12_isGuest s_X12_laysTable s_X12_sliceOf s_X12_enters s_X12_flag J49 Q)))) ls st h
theorem kX12_cuts_26 {X : zq_X} {d : Nat} (C : zq_C X cX12_cuts 9 RX12 d) (hd1 : 1 ≤ d) {d_X12_isGuest : Nat} {s_X12_isGuest : zq_Sp} (h_X12_isGuest : zq_M yX12_isGuest cX12_isGuest 2 (some .boolean) 1 d_X12_isGuest s_X12_isGuest) (g_X12_isGuest : d_X12_isGuest + 1 ≤ d) {d_X12_laysTable : Nat} {s_X12_laysTable : zq_Sp} (h_X12_laysTable : zq_M yX12_laysTable cX12_laysTable 3 none 0 d_X12_laysTable s_X12_laysTable) (g_X12_laysTable : d_X12_laysTable + 1 ≤ d) {d_X12_sliceOf : Nat} {s_X12_sliceOf : zq_Sp} (h_X12_sliceOf : zq_M yX12_sliceOf cX12_sliceOf 6 (some .int) 1 d_X12_sliceOf s_X12_sliceOf) (g_X12_sliceOf : d_X12_sliceOf + 1 ≤ d) {d_X12_enters : Nat} {s_X12_enters : zq_Sp} (h_X12_enters : zq_M yX12_enters cX12_enters 3 none 0 d_X12_enters s_X12_enters) (g_X12_enters : d_X12_enters + 1 ≤ d) {d_X12_flag : Nat} {s_X12_flag : zq_Sp} (h_X12_flag : zq_M yX12_flag cX12_flag 1 (some .int) 1 d_X12_flag s_X12_flag) (g_X12_flag : d_X12_flag + 1 ≤ d) {J49 : zq_P} (j49 : zq_ok X 9 49 J49) {Q : zq_Q} (hq : zq_R X (some .int) 1 Q) : zq_ok X 9 26 (xX12_cuts_26 s_X12_isGuest s_X12_laysTable s_X12_sliceOf s_X12_enters s_X12_flag J49 Q) := by
  refine zs_aload_n C dX12_cuts_26 rfl ?_
  refine zs_getI C zp_56 zF12 (j := 3) ⟨by decide, rfl⟩ zw_1099 dX12_cuts_27 ?_
  exact zs_if_ne C dX12_cuts_30 (by decide) (kX12_cuts_35 C hd1 h_X12_isGuest g_X12_isGuest h_X12_laysTable g_X12_laysTable h_X12_sliceOf g_X12_sliceOf h_X12_enters g_X12_enters h_X12_flag g_X12_flag j49 hq) (kX12_cuts_33 C hd1 h_X12_isGuest g_X12_isGuest h_X12_laysTable g_X12_laysTable h_X12_sliceOf g_X12_sliceOf h_X12_enters g_X12_enters h_X12_flag g_X12_flag j49 hq)
def xX12_cuts_21 (s_X12_isGuest : zq_Sp) (s_X12_laysTable : zq_Sp) (s_X12_sliceOf : zq_Sp) (s_X12_enters : zq_Sp) (s_X12_flag : zq_Sp) (J49 : zq_P) (Q : zq_Q) (ls : zq_L) (st : List Value) (h : zq_H) : Prop := (zi_iload 1 (zi_iload 2 (zi_if2 (fun x y => x = y) (xX12_cuts_33 s_X12_isGuest s_X12_laysTable s_X12_sliceOf s_X12_enters s_X12_flag J49 Q) (xX12_cuts_26 s_X12_isGuest s_X12_laysTable s_X12_sliceOf s_X12_enters s_X12_flag J49 Q)))) ls st h
theorem kX12_cuts_21 {X : zq_X} {d : Nat} (C : zq_C X cX12_cuts 9 RX12 d) (hd1 : 1 ≤ d) {d_X12_isGuest : Nat} {s_X12_isGuest : zq_Sp} (h_X12_isGuest : zq_M yX12_isGuest cX12_isGuest 2 (some .boolean) 1 d_X12_isGuest s_X12_isGuest) (g_X12_isGuest : d_X12_isGuest + 1 ≤ d) {d_X12_laysTable : Nat} {s_X12_laysTable : zq_Sp} (h_X12_laysTable : zq_M yX12_laysTable cX12_laysTable 3 none 0 d_X12_laysTable s_X12_laysTable) (g_X12_laysTable : d_X12_laysTable + 1 ≤ d) {d_X12_sliceOf : Nat} {s_X12_sliceOf : zq_Sp} (h_X12_sliceOf : zq_M yX12_sliceOf cX12_sliceOf 6 (some .int) 1 d_X12_sliceOf s_X12_sliceOf) (g_X12_sliceOf : d_X12_sliceOf + 1 ≤ d) {d_X12_enters : Nat} {s_X12_enters : zq_Sp} (h_X12_enters : zq_M yX12_enters cX12_enters 3 none 0 d_X12_enters s_X12_enters) (g_X12_enters : d_X12_enters + 1 ≤ d) {d_X12_flag : Nat} {s_X12_flag : zq_Sp} (h_X12_flag : zq_M yX12_flag cX12_flag 1 (some .int) 1 d_X12_flag s_X12_flag) (g_X12_flag : d_X12_flag + 1 ≤ d) {J49 : zq_P} (j49 : zq_ok X 9 49 J49) {Q : zq_Q} (hq : zq_R X (some .int) 1 Q) : zq_ok X 9 21 (xX12_cuts_21 s_X12_isGuest s_X12_laysTable s_X12_sliceOf s_X12_enters s_X12_flag J49 Q) := by
  refine zs_iload_n C dX12_cuts_21 rfl ?_
  refine zs_iload_n C dX12_cuts_22 rfl ?_
  exact zs_icmp_eq C dX12_cuts_23 (by decide) (kX12_cuts_33 C hd1 h_X12_isGuest g_X12_isGuest h_X12_laysTable g_X12_laysTable h_X12_sliceOf g_X12_sliceOf h_X12_enters g_X12_enters h_X12_flag g_X12_flag j49 hq) (kX12_cuts_26 C hd1 h_X12_isGuest g_X12_isGuest h_X12_laysTable g_X12_laysTable h_X12_sliceOf g_X12_sliceOf h_X12_enters g_X12_enters h_X12_flag g_X12_flag j49 hq)
def xX12_cuts_13 (s_X12_isGuest : zq_Sp) (s_X12_laysTable : zq_Sp) (s_X12_sliceOf : zq_Sp) (s_X12_enters : zq_Sp) (s_X12_flag : zq_Sp) (J49 : zq_P) (Q : zq_Q) (ls : zq_L) (st : List Value) (h : zq_H) : Prop := (zi_aload 0 (zi_iload 2 (zi_callV 1 56 s_X12_isGuest (zi_if1 (fun x => x = 0) (xX12_cuts_33 s_X12_isGuest s_X12_laysTable s_X12_sliceOf s_X12_enters s_X12_flag J49 Q) (xX12_cuts_21 s_X12_isGuest s_X12_laysTable s_X12_sliceOf s_X12_enters s_X12_flag J49 Q))))) ls st h
theorem kX12_cuts_13 {X : zq_X} {d : Nat} (C : zq_C X cX12_cuts 9 RX12 d) (hd1 : 1 ≤ d) {d_X12_isGuest : Nat} {s_X12_isGuest : zq_Sp} (h_X12_isGuest : zq_M yX12_isGuest cX12_isGuest 2 (some .boolean) 1 d_X12_isGuest s_X12_isGuest) (g_X12_isGuest : d_X12_isGuest + 1 ≤ d) {d_X12_laysTable : Nat} {s_X12_laysTable : zq_Sp} (h_X12_laysTable : zq_M yX12_laysTable cX12_laysTable 3 none 0 d_X12_laysTable s_X12_laysTable) (g_X12_laysTable : d_X12_laysTable + 1 ≤ d) {d_X12_sliceOf : Nat} {s_X12_sliceOf : zq_Sp} (h_X12_sliceOf : zq_M yX12_sliceOf cX12_sliceOf 6 (some .int) 1 d_X12_sliceOf s_X12_sliceOf) (g_X12_sliceOf : d_X12_sliceOf + 1 ≤ d) {d_X12_enters : Nat} {s_X12_enters : zq_Sp} (h_X12_enters : zq_M yX12_enters cX12_enters 3 none 0 d_X12_enters s_X12_enters) (g_X12_enters : d_X12_enters + 1 ≤ d) {d_X12_flag : Nat} {s_X12_flag : zq_Sp} (h_X12_flag : zq_M yX12_flag cX12_flag 1 (some .int) 1 d_X12_flag s_X12_flag) (g_X12_flag : d_X12_flag + 1 ≤ d) {J49 : zq_P} (j49 : zq_ok X 9 49 J49) {Q : zq_Q} (hq : zq_R X (some .int) 1 Q) : zq_ok X 9 13 (xX12_cuts_13 s_X12_isGuest s_X12_laysTable s_X12_sliceOf s_X12_enters s_X12_flag J49 Q) := by
  refine zs_aload_n C dX12_cuts_13 rfl ?_
  refine zs_iload_n C dX12_cuts_14 rfl ?_
  refine zs_callV C h_X12_isGuest g_X12_isGuest zy_X12_isGuest zp_56 (show vwCl[12]? = some (RX12, TX12, 67) from rfl) zw_1466 zw_1468 zs9_X12_isGuest dX12_cuts_15 ?_
  exact zs_if_eq C dX12_cuts_18 (by decide) (kX12_cuts_33 C hd1 h_X12_isGuest g_X12_isGuest h_X12_laysTable g_X12_laysTable h_X12_sliceOf g_X12_sliceOf h_X12_enters g_X12_enters h_X12_flag g_X12_flag j49 hq) (kX12_cuts_21 C hd1 h_X12_isGuest g_X12_isGuest h_X12_laysTable g_X12_laysTable h_X12_sliceOf g_X12_sliceOf h_X12_enters g_X12_enters h_X12_flag g_X12_flag j49 hq)
def xX12_cuts_0 (s_X12_isGuest : zq_Sp) (s_X12_laysTable : zq_Sp) (s_X12_sliceOf : zq_Sp) (s_X12_enters : zq_Sp) (s_X12_flag : zq_Sp) (J49 : zq_P) (Q : zq_Q) (ls : zq_L) (st : List Value) (h : zq_H) : Prop := (zi_aload 0 (zi_push (.int 0) (zi_putI 56 0 (zi_aload 0 (zi_iload 1 (zi_callV 1 56 s_X12_isGuest (zi_if1 (fun x => x = 0) (xX12_cuts_33 s_X12_isGuest s_X12_laysTable s_X12_sliceOf s_X12_enters s_X12_flag J49 Q) (xX12_cuts_13 s_X12_isGuest s_X12_laysTable s_X12_sliceOf s_X12_enters s_X12_flag J49 Q)))))))) ls st h
theorem kX12_cuts_0 {X : zq_X} {d : Nat} (C : zq_C X cX12_cuts 9 RX12 d) (hd1 : 1 ≤ d) {d_X12_isGuest : Nat} {s_X12_isGuest : zq_Sp} (h_X12_isGuest : zq_M yX12_isGuest cX12_isGuest 2 (some .boolean) 1 d_X12_isGuest s_X12_isGuest) (g_X12_isGuest : d_X12_isGuest + 1 ≤ d) {d_X12_laysTable : Nat} {s_X12_laysTable : zq_Sp} (h_X12_laysTable : zq_M yX12_laysTable cX12_laysTable 3 none 0 d_X12_laysTable s_X12_laysTable) (g_X12_laysTable : d_X12_laysTable + 1 ≤ d) {d_X12_sliceOf : Nat} {s_X12_sliceOf : zq_Sp} (h_X12_sliceOf : zq_M yX12_sliceOf cX12_sliceOf 6 (some .int) 1 d_X12_sliceOf s_X12_sliceOf) (g_X12_sliceOf : d_X12_sliceOf + 1 ≤ d) {d_X12_enters : Nat} {s_X12_enters : zq_Sp} (h_X12_enters : zq_M yX12_enters cX12_enters 3 none 0 d_X12_enters s_X12_enters) (g_X12_enters : d_X12_enters + 1 ≤ d) {d_X12_flag : Nat} {s_X12_flag : zq_Sp} (h_X12_flag : zq_M yX12_flag cX12_flag 1 (some .int) 1 d_X12_flag s_X12_flag) (g_X12_flag : d_X12_flag + 1 ≤ d) {J49 : zq_P} (j49 : zq_ok X 9 49 J49) {Q : zq_Q} (hq : zq_R X (some .int) 1 Q) : zq_ok X 9 0 (xX12_cuts_0 s_X12_isGuest s_X12_laysTable s_X12_sliceOf s_X12_enters s_X12_flag J49 Q) := by
  refine zs_aload_n C dX12_cuts_0 rfl ?_
  refine zs_iconst C dX12_cuts_1 (by decide) ?_
  refine zs_putI C zp_56 zF12 (j := 0) ⟨by decide, rfl⟩ ⟨rfl, by decide +kernel⟩ zw_1096 dX12_cuts_2 ?_
  refine zs_aload_n C dX12_cuts_5 rfl ?_
  refine zs_iload_n C dX12_cuts_6 rfl ?_
  refine zs_callV C h_X12_isGuest g_X12_isGuest zy_X12_isGuest zp_56 (show vwCl[12]? = some (RX12, TX12, 67) from rfl) zw_1466 zw_1468 zs9_X12_isGuest dX12_cuts_7 ?_
  exact zs_if_eq C dX12_cuts_10 (by decide) (kX12_cuts_33 C hd1 h_X12_isGuest g_X12_isGuest h_X12_laysTable g_X12_laysTable h_X12_sliceOf g_X12_sliceOf h_X12_enters g_X12_enters h_X12_flag g_X12_flag j49 hq) (kX12_cuts_13 C hd1 h_X12_isGuest g_X12_isGuest h_X12_laysTable g_X12_laysTable h_X12_sliceOf g_X12_sliceOf h_X12_enters g_X12_enters h_X12_flag g_X12_flag j49 hq)
theorem mX12_cuts {d : Nat} {spec : zq_Sp} {σ49 : Type} {d_X12_isGuest : Nat} {s_X12_isGuest : zq_Sp} (h_X12_isGuest : zq_M yX12_isGuest cX12_isGuest 2 (some .boolean) 1 d_X12_isGuest s_X12_isGuest) (g_X12_isGuest : d_X12_isGuest + 1 ≤ d) {d_X12_laysTable : Nat} {s_X12_laysTable : zq_Sp} (h_X12_laysTable : zq_M yX12_laysTable cX12_laysTable 3 none 0 d_X12_laysTable s_X12_laysTable) (g_X12_laysTable : d_X12_laysTable + 1 ≤ d) {d_X12_sliceOf : Nat} {s_X12_sliceOf : zq_Sp} (h_X12_sliceOf : zq_M yX12_sliceOf cX12_sliceOf 6 (some .int) 1 d_X12_sliceOf s_X12_sliceOf) (g_X12_sliceOf : d_X12_sliceOf + 1 ≤ d) {d_X12_enters : Nat} {s_X12_enters : zq_Sp} (h_X12_enters : zq_M yX12_enters cX12_enters 3 none 0 d_X12_enters s_X12_enters) (g_X12_enters : d_X12_enters + 1 ≤ d) {d_X12_flag : Nat} {s_X12_flag : zq_Sp} (h_X12_flag : zq_M yX12_flag cX12_flag 1 (some .int) 1 d_X12_flag s_X12_flag) (g_X12_flag : d_X12_flag + 1 ≤ d) (hd1 : 1 ≤ d) (μ49 : σ49 → Nat) (I49 : zq_Q → σ49 → zq_P) (v : ∀ args h Q, spec args h Q → (zq_a args).length ≤ 9 ∧ xX12_cuts_0 s_X12_isGuest s_X12_laysTable s_X12_sliceOf s_X12_enters s_X12_flag (fun ls st h => ∃ b, I49 Q b ls st h) Q (zq_l0 9 args) [] h) (v49 : ∀ Q a ls st h, I49 Q a ls st h → xX12_cuts_49 s_X12_isGuest s_X12_laysTable s_X12_sliceOf s_X12_enters s_X12_flag (fun ls st h => ∃ b, μ49 b < μ49 a ∧ I49 Q b ls st h) Q ls st h) : zq_M yX12_cuts cX12_cuts 9 (some .int) 1 d spec := by
  refine zq_met (by decide +kernel) (by decide) (fun X Q args h C hq hs => ⟨(v args h Q hs).1, _, ?_, (v args h Q hs).2⟩)
  have hl := zq_loop1 (X := X) (nL := 9) (pc1 := 49) μ49 (I49 Q) (fun J49 => xX12_cuts_49 s_X12_isGuest s_X12_laysTable s_X12_sliceOf s_X12_enters s_X12_flag J49 Q) (fun j49 => kX12_cuts_49 C hd1 h_X12_isGuest g_X12_isGuest h_X12_laysTable g_X12_laysTable h_X12_sliceOf g_X12_sliceOf h_X12_enters g_X12_enters h_X12_flag g_X12_flag j49 hq) (v49 Q)
  exact kX12_cuts_0 C hd1 h_X12_isGuest g_X12_isGuest h_X12_laysTable g_X12_laysTable h_X12_sliceOf g_X12_sliceOf h_X12_enters g_X12_enters h_X12_flag g_X12_flag hl hq
/-! ToOneCrumbModel.readsTurns()I -/
theorem dX12_readsTurns_0 : decode cX12_readsTurns 0 = .ok (.aload_n 0, 1) := by decide +kernel
theorem dX12_readsTurns_1 : decode cX12_readsTurns 1 = .ok (.iconst 0, 1) := by decide +kernel
theorem dX12_readsTurns_2 : decode cX12_readsTurns 2 = .ok (.putfield 428, 3) := by decide +kernel
theorem dX12_readsTurns_5 : decode cX12_readsTurns 5 = .ok (.iconst 1, 1) := by decide +kernel
theorem dX12_readsTurns_6 : decode cX12_readsTurns 6 = .ok (.istore_n 1, 1) := by decide +kernel
theorem dX12_readsTurns_7 : decode cX12_readsTurns 7 = .ok (.iload_n 1, 1) := by decide +kernel
theorem dX12_readsTurns_8 : decode cX12_readsTurns 8 = .ok (.ifCond .eq 62, 3) := by decide +kernel
theorem dX12_readsTurns_11 : decode cX12_readsTurns 11 = .ok (.aload_n 0, 1) := by decide +kernel
theorem dX12_readsTurns_12 : decode cX12_readsTurns 12 = .ok (.getfield 428, 3) := by decide +kernel
theorem dX12_readsTurns_15 : decode cX12_readsTurns 15 = .ok (.bipush 16, 2) := by decide +kernel
theorem dX12_readsTurns_17 : decode cX12_readsTurns 17 = .ok (.if_icmp .ge 14, 3) := by decide +kernel
theorem dX12_readsTurns_20 : decode cX12_readsTurns 20 = .ok (.aload_n 0, 1) := by decide +kernel
theorem dX12_readsTurns_21 : decode cX12_readsTurns 21 = .ok (.aload_n 0, 1) := by decide +kernel
theorem dX12_readsTurns_22 : decode cX12_readsTurns 22 = .ok (.getfield 165, 3) := by decide +kernel
theorem dX12_readsTurns_25 : decode cX12_readsTurns 25 = .ok (.invokevirtual 256, 3) := by decide +kernel
theorem dX12_readsTurns_28 : decode cX12_readsTurns 28 = .ok (.goto 4, 3) := by decide +kernel
theorem dX12_readsTurns_31 : decode cX12_readsTurns 31 = .ok (.iconst (-1), 1) := by decide +kernel
theorem dX12_readsTurns_32 : decode cX12_readsTurns 32 = .ok (.istore_n 2, 1) := by decide +kernel
theorem dX12_readsTurns_33 : decode cX12_readsTurns 33 = .ok (.iload_n 2, 1) := by decide +kernel
theorem dX12_readsTurns_34 : decode cX12_readsTurns 34 = .ok (.ifCond .lt 7, 3) := by decide +kernel
theorem dX12_readsTurns_37 : decode cX12_readsTurns 37 = .ok (.iconst 1, 1) := by decide +kernel
theorem dX12_readsTurns_38 : decode cX12_readsTurns 38 = .ok (.goto 4, 3) := by decide +kernel
theorem dX12_readsTurns_41 : decode cX12_readsTurns 41 = .ok (.iconst 0, 1) := by decide +kernel
theorem dX12_readsTurns_42 : decode cX12_readsTurns 42 = .ok (.istore_n 1, 1) := by decide +kernel
theorem dX12_readsTurns_43 : decode cX12_readsTurns 43 = .ok (.iload_n 1, 1) := by decide +kernel
theorem dX12_readsTurns_44 : decode cX12_readsTurns 44 = .ok (.ifCond .eq 23, 3) := by decide +kernel
theorem dX12_readsTurns_47 : decode cX12_readsTurns 47 = .ok (.aload_n 0, 1) := by decide +kernel
theorem dX12_readsTurns_48 : decode cX12_readsTurns 48 = .ok (.getfield 105, 3) := by decide +kernel
theorem dX12_readsTurns_51 : decode cX12_readsTurns 51 = .ok (.aload_n 0, 1) := by decide +kernel
theorem dX12_readsTurns_52 : decode cX12_readsTurns 52 = .ok (.getfield 428, 3) := by decide +kernel
theorem dX12_readsTurns_55 : decode cX12_readsTurns 55 = .ok (.iload_n 2, 1) := by decide +kernel
theorem dX12_readsTurns_56 : decode cX12_readsTurns 56 = .ok (.iastore, 1) := by decide +kernel
theorem dX12_readsTurns_57 : decode cX12_readsTurns 57 = .ok (.aload_n 0, 1) := by decide +kernel
theorem dX12_readsTurns_58 : decode cX12_readsTurns 58 = .ok (.dup, 1) := by decide +kernel
theorem dX12_readsTurns_59 : decode cX12_readsTurns 59 = .ok (.getfield 428, 3) := by decide +kernel
theorem dX12_readsTurns_62 : decode cX12_readsTurns 62 = .ok (.iconst 1, 1) := by decide +kernel
theorem dX12_readsTurns_63 : decode cX12_readsTurns 63 = .ok (.iadd, 1) := by decide +kernel
theorem dX12_readsTurns_64 : decode cX12_readsTurns 64 = .ok (.putfield 428, 3) := by decide +kernel
theorem dX12_readsTurns_67 : decode cX12_readsTurns 67 = .ok (.goto (-60), 3) := by decide +kernel
theorem dX12_readsTurns_70 : decode cX12_readsTurns 70 = .ok (.aload_n 0, 1) := by decide +kernel
theorem dX12_readsTurns_71 : decode cX12_readsTurns 71 = .ok (.getfield 428, 3) := by decide +kernel
theorem dX12_readsTurns_74 : decode cX12_readsTurns 74 = .ok (.ifCond .eq 14, 3) := by decide +kernel
theorem dX12_readsTurns_77 : decode cX12_readsTurns 77 = .ok (.aload_n 0, 1) := by decide +kernel
theorem dX12_readsTurns_78 : decode cX12_readsTurns 78 = .ok (.getfield 175, 3) := by decide +kernel
theorem dX12_readsTurns_81 : decode cX12_readsTurns 81 = .ok (.aload_n 0, 1) := by decide +kernel
theorem dX12_readsTurns_82 : decode cX12_readsTurns 82 = .ok (.getfield 187, 3) := by decide +kernel
theorem dX12_readsTurns_85 : decode cX12_readsTurns 85 = .ok (.if_icmp .ge 12, 3) := by decide +kernel
theorem dX12_readsTurns_88 : decode cX12_readsTurns 88 = .ok (.iconst (-1), 1) := by decide +kernel
theorem dX12_readsTurns_89 : decode cX12_readsTurns 89 = .ok (.aload_n 0, 1) := by decide +kernel
theorem dX12_readsTurns_90 : decode cX12_readsTurns 90 = .ok (.getfield 175, 3) := by decide +kernel
theorem dX12_readsTurns_93 : decode cX12_readsTurns 93 = .ok (.isub, 1) := by decide +kernel
theorem dX12_readsTurns_94 : decode cX12_readsTurns 94 = .ok (.goto 4, 3) := by decide +kernel
theorem dX12_readsTurns_97 : decode cX12_readsTurns 97 = .ok (.iconst 0, 1) := by decide +kernel
theorem dX12_readsTurns_98 : decode cX12_readsTurns 98 = .ok (.ireturn, 1) := by decide +kernel
def xX12_readsTurns_98 (s_X12_letter : zq_Sp) (J7 : zq_P) (Q : zq_Q) (ls : zq_L) (st : List Value) (h : zq_H) : Prop := (zi_iret Q) ls st h
theorem kX12_readsTurns_98 {X : zq_X} {d : Nat} (C : zq_C X cX12_readsTurns 3 RX12 d) {d_X12_letter : Nat} {s_X12_letter : zq_Sp} (h_X12_letter : zq_M yX12_letter cX12_letter 2 (some .int) 1 d_X12_letter s_X12_letter) (g_X12_letter : d_X12_letter + 1 ≤ d) {J7 : zq_P} (j7 : zq_ok X 3 7 J7) {Q : zq_Q} (hq : zq_R X (some .int) 1 Q) : zq_ok X 3 98 (xX12_readsTurns_98 s_X12_letter J7 Q) := by
  exact zs_iret C hq dX12_readsTurns_98
def xX12_readsTurns_97 (s_X12_letter : zq_Sp) (J7 : zq_P) (Q : zq_Q) (ls : zq_L) (st : List Value) (h : zq_H) : Prop := (zi_push (.int 0) ((xX12_readsTurns_98 s_X12_letter J7 Q))) ls st h
theorem kX12_readsTurns_97 {X : zq_X} {d : Nat} (C : zq_C X cX12_readsTurns 3 RX12 d) {d_X12_letter : Nat} {s_X12_letter : zq_Sp} (h_X12_letter : zq_M yX12_letter cX12_letter 2 (some .int) 1 d_X12_letter s_X12_letter) (g_X12_letter : d_X12_letter + 1 ≤ d) {J7 : zq_P} (j7 : zq_ok X 3 7 J7) {Q : zq_Q} (hq : zq_R X (some .int) 1 Q) : zq_ok X 3 97 (xX12_readsTurns_97 s_X12_letter J7 Q) := by
  refine zs_iconst C dX12_readsTurns_97 (by decide) ?_
  exact kX12_readsTurns_98 C h_X12_letter g_X12_letter j7 hq
def xX12_readsTurns_88 (s_X12_letter : zq_Sp) (J7 : zq_P) (Q : zq_Q) (ls : zq_L) (st : List Value) (h : zq_H) : Prop := (zi_push (.int (-1)) (zi_aload 0 (zi_getI 56 14 (zi_i2 (fun x y => x - y) ((xX12_readsTurns_98 s_X12_letter J7 Q)))))) ls st h
theorem kX12_readsTurns_88 {X : zq_X} {d : Nat} (C : zq_C X cX12_readsTurns 3 RX12 d) {d_X12_letter : Nat} {s_X12_letter : zq_Sp} (h_X12_letter : zq_M yX12_letter cX12_letter 2 (some .int) 1 d_X12_letter s_X12_letter) (g_X12_letter : d_X12_letter + 1 ≤ d) {J7 : zq_P} (j7 : zq_ok X 3 7 J7) {Q : zq_Q} (hq : zq_R X (some .int) 1 Q) : zq_ok X 3 88 (xX12_readsTurns_88 s_X12_letter J7 Q) := by
  refine zs_iconst C dX12_readsTurns_88 (by decide) ?_
  refine zs_aload_n C dX12_readsTurns_89 rfl ?_
  refine zs_getI C zp_56 zF12 (j := 14) ⟨by decide, rfl⟩ zw_1110 dX12_readsTurns_90 ?_
  refine zs_isub C dX12_readsTurns_93 ?_
  exact zs_goto C dX12_readsTurns_94 (by decide) (kX12_readsTurns_98 C h_X12_letter g_X12_letter j7 hq)
def xX12_readsTurns_77 (s_X12_letter : zq_Sp) (J7 : zq_P) (Q : zq_Q) (ls : zq_L) (st : List Value) (h : zq_H) : Prop := (zi_aload 0 (zi_getI 56 14 (zi_aload 0 (zi_getI 56 15 (zi_if2 (fun x y => y ≤ x) (xX12_readsTurns_97 s_X12_letter J7 Q) (xX12_readsTurns_88 s_X12_letter J7 Q)))))) ls st h
theorem kX12_readsTurns_77 {X : zq_X} {d : Nat} (C : zq_C X cX12_readsTurns 3 RX12 d) {d_X12_letter : Nat} {s_X12_letter : zq_Sp} (h_X12_letter : zq_M yX12_letter cX12_letter 2 (some .int) 1 d_X12_letter s_X12_letter) (g_X12_letter : d_X12_letter + 1 ≤ d) {J7 : zq_P} (j7 : zq_ok X 3 7 J7) {Q : zq_Q} (hq : zq_R X (some .int) 1 Q) : zq_ok X 3 77 (xX12_readsTurns_77 s_X12_letter J7 Q) := by
  refine zs_aload_n C dX12_readsTurns_77 rfl ?_
  refine zs_getI C zp_56 zF12 (j := 14) ⟨by decide, rfl⟩ zw_1110 dX12_readsTurns_78 ?_
  refine zs_aload_n C dX12_readsTurns_81 rfl ?_
  refine zs_getI C zp_56 zF12 (j := 15) ⟨by decide, rfl⟩ zw_1111 dX12_readsTurns_82 ?_
  exact zs_icmp_ge C dX12_readsTurns_85 (by decide) (kX12_readsTurns_97 C h_X12_letter g_X12_letter j7 hq) (kX12_readsTurns_88 C h_X12_letter g_X12_letter j7 hq)
def xX12_readsTurns_70 (s_X12_letter : zq_Sp) (J7 : zq_P) (Q : zq_Q) (ls : zq_L) (st : List Value) (h : zq_H) : Prop := (zi_aload 0 (zi_getI 56 49 (zi_if1 (fun x => x = 0) (xX12_readsTurns_88 s_X12_letter J7 Q) (xX12_readsTurns_77 s_X12_letter J7 Q)))) ls st h
theorem kX12_readsTurns_70 {X : zq_X} {d : Nat} (C : zq_C X cX12_readsTurns 3 RX12 d) {d_X12_letter : Nat} {s_X12_letter : zq_Sp} (h_X12_letter : zq_M yX12_letter cX12_letter 2 (some .int) 1 d_X12_letter s_X12_letter) (g_X12_letter : d_X12_letter + 1 ≤ d) {J7 : zq_P} (j7 : zq_ok X 3 7 J7) {Q : zq_Q} (hq : zq_R X (some .int) 1 Q) : zq_ok X 3 70 (xX12_readsTurns_70 s_X12_letter J7 Q) := by
  refine zs_aload_n C dX12_readsTurns_70 rfl ?_
  refine zs_getI C zp_56 zF12 (j := 49) ⟨by decide, rfl⟩ zw_1145 dX12_readsTurns_71 ?_
  exact zs_if_eq C dX12_readsTurns_74 (by decide) (kX12_readsTurns_88 C h_X12_letter g_X12_letter j7 hq) (kX12_readsTurns_77 C h_X12_letter g_X12_letter j7 hq)
def xX12_readsTurns_67 (s_X12_letter : zq_Sp) (J7 : zq_P) (Q : zq_Q) (ls : zq_L) (st : List Value) (h : zq_H) : Prop := (J7) ls st h
theorem kX12_readsTurns_67 {X : zq_X} {d : Nat} (C : zq_C X cX12_readsTurns 3 RX12 d) {d_X12_letter : Nat} {s_X12_letter : zq_Sp} (h_X12_letter : zq_M yX12_letter cX12_letter 2 (some .int) 1 d_X12_letter s_X12_letter) (g_X12_letter : d_X12_letter + 1 ≤ d) {J7 : zq_P} (j7 : zq_ok X 3 7 J7) {Q : zq_Q} (hq : zq_R X (some .int) 1 Q) : zq_ok X 3 67 (xX12_readsTurns_67 s_X12_letter J7 Q) := by
  exact zs_goto C dX12_readsTurns_67 (by decide) (j7)
def xX12_readsTurns_47 (s_X12_letter : zq_Sp) (J7 : zq_P) (Q : zq_Q) (ls : zq_L) (st : List Value) (h : zq_H) : Prop := (zi_aload 0 (zi_getR 56 88 (zi_aload 0 (zi_getI 56 49 (zi_iload 2 (zi_astI 88 16 (zi_aload 0 (zi_dup (zi_getI 56 49 (zi_push (.int 1) (zi_i2 (fun x y => x + y) (zi_putI 56 49 ((xX12_readsTurns_67 s_X12_letter J7 Q)))))))))))))) ls st h
theorem kX12_readsTurns_47 {X : zq_X} {d : Nat} (C : zq_C X cX12_readsTurns 3 RX12 d) {d_X12_letter : Nat} {s_X12_letter : zq_Sp} (h_X12_letter : zq_M yX12_letter cX12_letter 2 (some .int) 1 d_X12_letter s_X12_letter) (g_X12_letter : d_X12_letter + 1 ≤ d) {J7 : zq_P} (j7 : zq_ok X 3 7 J7) {Q : zq_Q} (hq : zq_R X (some .int) 1 Q) : zq_ok X 3 47 (xX12_readsTurns_47 s_X12_letter J7 Q) := by
  refine zs_aload_n C dX12_readsTurns_47 rfl ?_
  refine zs_getR C zp_56 zF12 (j := 48) ⟨by decide, rfl⟩ zw_1144 dX12_readsTurns_48 ?_
  refine zs_aload_n C dX12_readsTurns_51 rfl ?_
  refine zs_getI C zp_56 zF12 (j := 49) ⟨by decide, rfl⟩ zw_1145 dX12_readsTurns_52 ?_
  refine zs_iload_n C dX12_readsTurns_55 rfl ?_
  refine zs_iastore C zp_88 dX12_readsTurns_56 ?_
  refine zs_aload_n C dX12_readsTurns_57 rfl ?_
  refine zs_dup C dX12_readsTurns_58 ?_
  refine zs_getI C zp_56 zF12 (j := 49) ⟨by decide, rfl⟩ zw_1145 dX12_readsTurns_59 ?_
  refine zs_iconst C dX12_readsTurns_62 (by decide) ?_
  refine zs_iadd C dX12_readsTurns_63 ?_
  refine zs_putI C zp_56 zF12 (j := 49) ⟨by decide, rfl⟩ ⟨rfl, by decide +kernel⟩ zw_1145 dX12_readsTurns_64 ?_
  exact kX12_readsTurns_67 C h_X12_letter g_X12_letter j7 hq
def xX12_readsTurns_42 (s_X12_letter : zq_Sp) (J7 : zq_P) (Q : zq_Q) (ls : zq_L) (st : List Value) (h : zq_H) : Prop := (zi_istore 1 (zi_iload 1 (zi_if1 (fun x => x = 0) (xX12_readsTurns_67 s_X12_letter J7 Q) (xX12_readsTurns_47 s_X12_letter J7 Q)))) ls st h
theorem kX12_readsTurns_42 {X : zq_X} {d : Nat} (C : zq_C X cX12_readsTurns 3 RX12 d) {d_X12_letter : Nat} {s_X12_letter : zq_Sp} (h_X12_letter : zq_M yX12_letter cX12_letter 2 (some .int) 1 d_X12_letter s_X12_letter) (g_X12_letter : d_X12_letter + 1 ≤ d) {J7 : zq_P} (j7 : zq_ok X 3 7 J7) {Q : zq_Q} (hq : zq_R X (some .int) 1 Q) : zq_ok X 3 42 (xX12_readsTurns_42 s_X12_letter J7 Q) := by
  refine zs_istore_n C dX12_readsTurns_42 rfl (by decide) ?_
  refine zs_iload_n C dX12_readsTurns_43 rfl ?_
  exact zs_if_eq C dX12_readsTurns_44 (by decide) (kX12_readsTurns_67 C h_X12_letter g_X12_letter j7 hq) (kX12_readsTurns_47 C h_X12_letter g_X12_letter j7 hq)
def xX12_readsTurns_41 (s_X12_letter : zq_Sp) (J7 : zq_P) (Q : zq_Q) (ls : zq_L) (st : List Value) (h : zq_H) : Prop := (zi_push (.int 0) ((xX12_readsTurns_42 s_X12_letter J7 Q))) ls st h
theorem kX12_readsTurns_41 {X : zq_X} {d : Nat} (C : zq_C X cX12_readsTurns 3 RX12 d) {d_X12_letter : Nat} {s_X12_letter : zq_Sp} (h_X12_letter : zq_M yX12_letter cX12_letter 2 (some .int) 1 d_X12_letter s_X12_letter) (g_X12_letter : d_X12_letter + 1 ≤ d) {J7 : zq_P} (j7 : zq_ok X 3 7 J7) {Q : zq_Q} (hq : zq_R X (some .int) 1 Q) : zq_ok X 3 41 (xX12_readsTurns_41 s_X12_letter J7 Q) := by
  refine zs_iconst C dX12_readsTurns_41 (by decide) ?_
  exact kX12_readsTurns_42 C h_X12_letter g_X12_letter j7 hq
def xX12_readsTurns_37 (s_X12_letter : zq_Sp) (J7 : zq_P) (Q : zq_Q) (ls : zq_L) (st : List Value) (h : zq_H) : Prop := (zi_push (.int 1) ((xX12_readsTurns_42 s_X12_letter J7 Q))) ls st h
theorem kX12_readsTurns_37 {X : zq_X} {d : Nat} (C : zq_C X cX12_readsTurns 3 RX12 d) {d_X12_letter : Nat} {s_X12_letter : zq_Sp} (h_X12_letter : zq_M yX12_letter cX12_letter 2 (some .int) 1 d_X12_letter s_X12_letter) (g_X12_letter : d_X12_letter + 1 ≤ d) {J7 : zq_P} (j7 : zq_ok X 3 7 J7) {Q : zq_Q} (hq : zq_R X (some .int) 1 Q) : zq_ok X 3 37 (xX12_readsTurns_37 s_X12_letter J7 Q) := by
  refine zs_iconst C dX12_readsTurns_37 (by decide) ?_
  exact zs_goto C dX12_readsTurns_38 (by decide) (kX12_readsTurns_42 C h_X12_letter g_X12_letter j7 hq)
def xX12_readsTurns_32 (s_X12_letter : zq_Sp) (J7 : zq_P) (Q : zq_Q) (ls : zq_L) (st : List Value) (h : zq_H) : Prop := (zi_istore 2 (zi_iload 2 (zi_if1 (fun x => x < 0) (xX12_readsTurns_41 s_X12_letter J7 Q) (xX12_readsTurns_37 s_X12_letter J7 Q)))) ls st h
theorem kX12_readsTurns_32 {X : zq_X} {d : Nat} (C : zq_C X cX12_readsTurns 3 RX12 d) {d_X12_letter : Nat} {s_X12_letter : zq_Sp} (h_X12_letter : zq_M yX12_letter cX12_letter 2 (some .int) 1 d_X12_letter s_X12_letter) (g_X12_letter : d_X12_letter + 1 ≤ d) {J7 : zq_P} (j7 : zq_ok X 3 7 J7) {Q : zq_Q} (hq : zq_R X (some .int) 1 Q) : zq_ok X 3 32 (xX12_readsTurns_32 s_X12_letter J7 Q) := by
  refine zs_istore_n C dX12_readsTurns_32 rfl (by decide) ?_
  refine zs_iload_n C dX12_readsTurns_33 rfl ?_
  exact zs_if_lt C dX12_readsTurns_34 (by decide) (kX12_readsTurns_41 C h_X12_letter g_X12_letter j7 hq) (kX12_readsTurns_37 C h_X12_letter g_X12_letter j7 hq)
def xX12_readsTurns_31 (s_X12_letter : zq_Sp) (J7 : zq_P) (Q : zq_Q) (ls : zq_L) (st : List Value) (h : zq_H) : Prop := (zi_push (.int (-1)) ((xX12_readsTurns_32 s_X12_letter J7 Q))) ls st h
theorem kX12_readsTurns_31 {X : zq_X} {d : Nat} (C : zq_C X cX12_readsTurns 3 RX12 d) {d_X12_letter : Nat} {s_X12_letter : zq_Sp} (h_X12_letter : zq_M yX12_letter cX12_letter 2 (some .int) 1 d_X12_letter s_X12_letter) (g_X12_letter : d_X12_letter + 1 ≤ d) {J7 : zq_P} (j7 : zq_ok X 3 7 J7) {Q : zq_Q} (hq : zq_R X (some .int) 1 Q) : zq_ok X 3 31 (xX12_readsTurns_31 s_X12_letter J7 Q) := by
  refine zs_iconst C dX12_readsTurns_31 (by decide) ?_
  exact kX12_readsTurns_32 C h_X12_letter g_X12_letter j7 hq
def xX12_readsTurns_20 (s_X12_letter : zq_Sp) (J7 : zq_P) (Q : zq_Q) (ls : zq_L) (st : List Value) (h : zq_H) : Prop := (zi_aload 0 (zi_aload 0 (zi_getI 56 4 (zi_callV 1 56 s_X12_letter ((xX12_readsTurns_32 s_X12_letter J7 Q)))))) ls st h
theorem kX12_readsTurns_20 {X : zq_X} {d : Nat} (C : zq_C X cX12_readsTurns 3 RX12 d) {d_X12_letter : Nat} {s_X12_letter : zq_Sp} (h_X12_letter : zq_M yX12_letter cX12_letter 2 (some .int) 1 d_X12_letter s_X12_letter) (g_X12_letter : d_X12_letter + 1 ≤ d) {J7 : zq_P} (j7 : zq_ok X 3 7 J7) {Q : zq_Q} (hq : zq_R X (some .int) 1 Q) : zq_ok X 3 20 (xX12_readsTurns_20 s_X12_letter J7 Q) := by
  refine zs_aload_n C dX12_readsTurns_20 rfl ?_
  refine zs_aload_n C dX12_readsTurns_21 rfl ?_
  refine zs_getI C zp_56 zF12 (j := 4) ⟨by decide, rfl⟩ zw_1100 dX12_readsTurns_22 ?_
  refine zs_callV C h_X12_letter g_X12_letter zy_X12_letter zp_56 (show vwCl[12]? = some (RX12, TX12, 67) from rfl) zw_1419 zw_1421 zs9_X12_letter dX12_readsTurns_25 ?_
  exact zs_goto C dX12_readsTurns_28 (by decide) (kX12_readsTurns_32 C h_X12_letter g_X12_letter j7 hq)
def xX12_readsTurns_11 (s_X12_letter : zq_Sp) (J7 : zq_P) (Q : zq_Q) (ls : zq_L) (st : List Value) (h : zq_H) : Prop := (zi_aload 0 (zi_getI 56 49 (zi_push (.int 16) (zi_if2 (fun x y => y ≤ x) (xX12_readsTurns_31 s_X12_letter J7 Q) (xX12_readsTurns_20 s_X12_letter J7 Q))))) ls st h
theorem kX12_readsTurns_11 {X : zq_X} {d : Nat} (C : zq_C X cX12_readsTurns 3 RX12 d) {d_X12_letter : Nat} {s_X12_letter : zq_Sp} (h_X12_letter : zq_M yX12_letter cX12_letter 2 (some .int) 1 d_X12_letter s_X12_letter) (g_X12_letter : d_X12_letter + 1 ≤ d) {J7 : zq_P} (j7 : zq_ok X 3 7 J7) {Q : zq_Q} (hq : zq_R X (some .int) 1 Q) : zq_ok X 3 11 (xX12_readsTurns_11 s_X12_letter J7 Q) := by
  refine zs_aload_n C dX12_readsTurns_11 rfl ?_
  refine zs_getI C zp_56 zF12 (j := 49) ⟨by decide, rfl⟩ zw_1145 dX12_readsTurns_12 ?_
  refine zs_bipush C dX12_readsTurns_15 (by decide) ?_
  exact zs_icmp_ge C dX12_readsTurns_17 (by decide) (kX12_readsTurns_31 C h_X12_letter g_X12_letter j7 hq) (kX12_readsTurns_20 C h_X12_letter g_X12_letter j7 hq)
def xX12_readsTurns_7 (s_X12_letter : zq_Sp) (J7 : zq_P) (Q : zq_Q) (ls : zq_L) (st : List Value) (h : zq_H) : Prop := (zi_iload 1 (zi_if1 (fun x => x = 0) (xX12_readsTurns_70 s_X12_letter J7 Q) (xX12_readsTurns_11 s_X12_letter J7 Q))) ls st h
theorem kX12_readsTurns_7 {X : zq_X} {d : Nat} (C : zq_C X cX12_readsTurns 3 RX12 d) {d_X12_letter : Nat} {s_X12_letter : zq_Sp} (h_X12_letter : zq_M yX12_letter cX12_letter 2 (some .int) 1 d_X12_letter s_X12_letter) (g_X12_letter : d_X12_letter + 1 ≤ d) {J7 : zq_P} (j7 : zq_ok X 3 7 J7) {Q : zq_Q} (hq : zq_R X (some .int) 1 Q) : zq_ok X 3 7 (xX12_readsTurns_7 s_X12_letter J7 Q) := by
  refine zs_iload_n C dX12_readsTurns_7 rfl ?_
  exact zs_if_eq C dX12_readsTurns_8 (by decide) (kX12_readsTurns_70 C h_X12_letter g_X12_letter j7 hq) (kX12_readsTurns_11 C h_X12_letter g_X12_letter j7 hq)
def xX12_readsTurns_0 (s_X12_letter : zq_Sp) (J7 : zq_P) (Q : zq_Q) (ls : zq_L) (st : List Value) (h : zq_H) : Prop := (zi_aload 0 (zi_push (.int 0) (zi_putI 56 49 (zi_push (.int 1) (zi_istore 1 (J7)))))) ls st h
theorem kX12_readsTurns_0 {X : zq_X} {d : Nat} (C : zq_C X cX12_readsTurns 3 RX12 d) {d_X12_letter : Nat} {s_X12_letter : zq_Sp} (h_X12_letter : zq_M yX12_letter cX12_letter 2 (some .int) 1 d_X12_letter s_X12_letter) (g_X12_letter : d_X12_letter + 1 ≤ d) {J7 : zq_P} (j7 : zq_ok X 3 7 J7) {Q : zq_Q} (hq : zq_R X (some .int) 1 Q) : zq_ok X 3 0 (xX12_readsTurns_0 s_X12_letter J7 Q) := by
  refine zs_aload_n C dX12_readsTurns_0 rfl ?_
  refine zs_iconst C dX12_readsTurns_1 (by decide) ?_
  refine zs_putI C zp_56 zF12 (j := 49) ⟨by decide, rfl⟩ ⟨rfl, by decide +kernel⟩ zw_1145 dX12_readsTurns_2 ?_
  refine zs_iconst C dX12_readsTurns_5 (by decide) ?_
  refine zs_istore_n C dX12_readsTurns_6 rfl (by decide) ?_
  exact j7
theorem mX12_readsTurns {d : Nat} {spec : zq_Sp} {σ7 : Type} {d_X12_letter : Nat} {s_X12_letter : zq_Sp} (h_X12_letter : zq_M yX12_letter cX12_letter 2 (some .int) 1 d_X12_letter s_X12_letter) (g_X12_letter : d_X12_letter + 1 ≤ d) (μ7 : σ7 → Nat) (I7 : zq_Q → σ7 → zq_P) (v : ∀ args h Q, spec args h Q → (zq_a args).length ≤ 3 ∧ xX12_readsTurns_0 s_X12_letter (fun ls st h => ∃ b, I7 Q b ls st h) Q (zq_l0 3 args) [] h) (v7 : ∀ Q a ls st h, I7 Q a ls st h → xX12_readsTurns_7 s_X12_letter (fun ls st h => ∃ b, μ7 b < μ7 a ∧ I7 Q b ls st h) Q ls st h) : zq_M yX12_readsTurns cX12_readsTurns 3 (some .int) 1 d spec := by
  refine zq_met (by decide +kernel) (by decide) (fun X Q args h C hq hs => ⟨(v args h Q hs).1, _, ?_, (v args h Q hs).2⟩)
  have hl := zq_loop1 (X := X) (nL := 3) (pc1 := 7) μ7 (I7 Q) (fun J7 => xX12_readsTurns_7 s_X12_letter J7 Q) (fun j7 => kX12_readsTurns_7 C h_X12_letter g_X12_letter j7 hq) (v7 Q)
  exact kX12_readsTurns_0 C h_X12_letter g_X12_letter hl hq
/-! ToOneCrumbModel.picksAsWorth()V -/
theorem dX12_picksAsWorth_0 : decode cX12_picksAsWorth 0 = .ok (.iconst 0, 1) := by decide +kernel
theorem dX12_picksAsWorth_1 : decode cX12_picksAsWorth 1 = .ok (.istore_n 1, 1) := by decide +kernel
theorem dX12_picksAsWorth_2 : decode cX12_picksAsWorth 2 = .ok (.iload_n 1, 1) := by decide +kernel
theorem dX12_picksAsWorth_3 : decode cX12_picksAsWorth 3 = .ok (.bipush 96, 2) := by decide +kernel
theorem dX12_picksAsWorth_5 : decode cX12_picksAsWorth 5 = .ok (.if_icmp .ge 21, 3) := by decide +kernel
theorem dX12_picksAsWorth_8 : decode cX12_picksAsWorth 8 = .ok (.aload_n 0, 1) := by decide +kernel
theorem dX12_picksAsWorth_9 : decode cX12_picksAsWorth 9 = .ok (.getfield 108, 3) := by decide +kernel
theorem dX12_picksAsWorth_12 : decode cX12_picksAsWorth 12 = .ok (.iload_n 1, 1) := by decide +kernel
theorem dX12_picksAsWorth_13 : decode cX12_picksAsWorth 13 = .ok (.aload_n 0, 1) := by decide +kernel
theorem dX12_picksAsWorth_14 : decode cX12_picksAsWorth 14 = .ok (.getfield 63, 3) := by decide +kernel
theorem dX12_picksAsWorth_17 : decode cX12_picksAsWorth 17 = .ok (.iload_n 1, 1) := by decide +kernel
theorem dX12_picksAsWorth_18 : decode cX12_picksAsWorth 18 = .ok (.iaload, 1) := by decide +kernel
theorem dX12_picksAsWorth_19 : decode cX12_picksAsWorth 19 = .ok (.iastore, 1) := by decide +kernel
theorem dX12_picksAsWorth_20 : decode cX12_picksAsWorth 20 = .ok (.iinc 1 1, 3) := by decide +kernel
theorem dX12_picksAsWorth_23 : decode cX12_picksAsWorth 23 = .ok (.goto (-21), 3) := by decide +kernel
theorem dX12_picksAsWorth_26 : decode cX12_picksAsWorth 26 = .ok (.return_, 1) := by decide +kernel
def xX12_picksAsWorth_26 (J2 : zq_P) (Q : zq_Q) (ls : zq_L) (st : List Value) (h : zq_H) : Prop := (zi_vret Q) ls st h
theorem kX12_picksAsWorth_26 {X : zq_X} {d : Nat} (C : zq_C X cX12_picksAsWorth 2 RX12 d) {J2 : zq_P} (j2 : zq_ok X 2 2 J2) {Q : zq_Q} (hq : zq_R X none 0 Q) : zq_ok X 2 26 (xX12_picksAsWorth_26 J2 Q) := by
  exact zs_vret C hq dX12_picksAsWorth_26
def xX12_picksAsWorth_8 (J2 : zq_P) (Q : zq_Q) (ls : zq_L) (st : List Value) (h : zq_H) : Prop := (zi_aload 0 (zi_getR 56 89 (zi_iload 1 (zi_aload 0 (zi_getR 56 74 (zi_iload 1 (zi_aldI 74 96 (zi_astI 89 96 (zi_iinc 1 1 (J2)))))))))) ls st h
theorem kX12_picksAsWorth_8 {X : zq_X} {d : Nat} (C : zq_C X cX12_picksAsWorth 2 RX12 d) {J2 : zq_P} (j2 : zq_ok X 2 2 J2) {Q : zq_Q} (hq : zq_R X none 0 Q) : zq_ok X 2 8 (xX12_picksAsWorth_8 J2 Q) := by
  refine zs_aload_n C dX12_picksAsWorth_8 rfl ?_
  refine zs_getR C zp_56 zF12 (j := 51) ⟨by decide, rfl⟩ zw_1147 dX12_picksAsWorth_9 ?_
  refine zs_iload_n C dX12_picksAsWorth_12 rfl ?_
  refine zs_aload_n C dX12_picksAsWorth_13 rfl ?_
  refine zs_getR C zp_56 zF12 (j := 29) ⟨by decide, rfl⟩ zw_1125 dX12_picksAsWorth_14 ?_
  refine zs_iload_n C dX12_picksAsWorth_17 rfl ?_
  refine zs_iaload C zp_74 dX12_picksAsWorth_18 ?_
  refine zs_iastore C zp_89 dX12_picksAsWorth_19 ?_
  refine zs_iinc C dX12_picksAsWorth_20 (by decide) (by decide) ?_
  exact zs_goto C dX12_picksAsWorth_23 (by decide) (j2)
def xX12_picksAsWorth_2 (J2 : zq_P) (Q : zq_Q) (ls : zq_L) (st : List Value) (h : zq_H) : Prop := (zi_iload 1 (zi_push (.int 96) (zi_if2 (fun x y => y ≤ x) (xX12_picksAsWorth_26 J2 Q) (xX12_picksAsWorth_8 J2 Q)))) ls st h
theorem kX12_picksAsWorth_2 {X : zq_X} {d : Nat} (C : zq_C X cX12_picksAsWorth 2 RX12 d) {J2 : zq_P} (j2 : zq_ok X 2 2 J2) {Q : zq_Q} (hq : zq_R X none 0 Q) : zq_ok X 2 2 (xX12_picksAsWorth_2 J2 Q) := by
  refine zs_iload_n C dX12_picksAsWorth_2 rfl ?_
  refine zs_bipush C dX12_picksAsWorth_3 (by decide) ?_
  exact zs_icmp_ge C dX12_picksAsWorth_5 (by decide) (kX12_picksAsWorth_26 C j2 hq) (kX12_picksAsWorth_8 C j2 hq)
def xX12_picksAsWorth_0 (J2 : zq_P) (Q : zq_Q) (ls : zq_L) (st : List Value) (h : zq_H) : Prop := (zi_push (.int 0) (zi_istore 1 (J2))) ls st h
theorem kX12_picksAsWorth_0 {X : zq_X} {d : Nat} (C : zq_C X cX12_picksAsWorth 2 RX12 d) {J2 : zq_P} (j2 : zq_ok X 2 2 J2) {Q : zq_Q} (hq : zq_R X none 0 Q) : zq_ok X 2 0 (xX12_picksAsWorth_0 J2 Q) := by
  refine zs_iconst C dX12_picksAsWorth_0 (by decide) ?_
  refine zs_istore_n C dX12_picksAsWorth_1 rfl (by decide) ?_
  exact j2
theorem mX12_picksAsWorth {d : Nat} {spec : zq_Sp} {σ2 : Type} (μ2 : σ2 → Nat) (I2 : zq_Q → σ2 → zq_P) (v : ∀ args h Q, spec args h Q → (zq_a args).length ≤ 2 ∧ xX12_picksAsWorth_0 (fun ls st h => ∃ b, I2 Q b ls st h) Q (zq_l0 2 args) [] h) (v2 : ∀ Q a ls st h, I2 Q a ls st h → xX12_picksAsWorth_2 (fun ls st h => ∃ b, μ2 b < μ2 a ∧ I2 Q b ls st h) Q ls st h) : zq_M yX12_picksAsWorth cX12_picksAsWorth 2 none 0 d spec := by
  refine zq_met (by decide +kernel) (by decide) (fun X Q args h C hq hs => ⟨(v args h Q hs).1, _, ?_, (v args h Q hs).2⟩)
  have hl := zq_loop1 (X := X) (nL := 2) (pc1 := 2) μ2 (I2 Q) (fun J2 => xX12_picksAsWorth_2 J2 Q) (fun j2 => kX12_picksAsWorth_2 C j2 hq) (v2 Q)
  exact kX12_picksAsWorth_0 C hl hq
/-! ToOneCrumbModel.goesByTurns()V -/
theorem dX12_goesByTurns_0 : decode cX12_goesByTurns 0 = .ok (.iconst 0, 1) := by decide +kernel
theorem dX12_goesByTurns_1 : decode cX12_goesByTurns 1 = .ok (.istore_n 1, 1) := by decide +kernel
theorem dX12_goesByTurns_2 : decode cX12_goesByTurns 2 = .ok (.aload_n 0, 1) := by decide +kernel
theorem dX12_goesByTurns_3 : decode cX12_goesByTurns 3 = .ok (.iconst 0, 1) := by decide +kernel
theorem dX12_goesByTurns_4 : decode cX12_goesByTurns 4 = .ok (.putfield 431, 3) := by decide +kernel
theorem dX12_goesByTurns_7 : decode cX12_goesByTurns 7 = .ok (.iconst 0, 1) := by decide +kernel
theorem dX12_goesByTurns_8 : decode cX12_goesByTurns 8 = .ok (.istore_n 2, 1) := by decide +kernel
theorem dX12_goesByTurns_9 : decode cX12_goesByTurns 9 = .ok (.iload_n 2, 1) := by decide +kernel
theorem dX12_goesByTurns_10 : decode cX12_goesByTurns 10 = .ok (.bipush 6, 2) := by decide +kernel
theorem dX12_goesByTurns_12 : decode cX12_goesByTurns 12 = .ok (.if_icmp .ge 16, 3) := by decide +kernel
theorem dX12_goesByTurns_15 : decode cX12_goesByTurns 15 = .ok (.aload_n 0, 1) := by decide +kernel
theorem dX12_goesByTurns_16 : decode cX12_goesByTurns 16 = .ok (.getfield 111, 3) := by decide +kernel
theorem dX12_goesByTurns_19 : decode cX12_goesByTurns 19 = .ok (.iload_n 2, 1) := by decide +kernel
theorem dX12_goesByTurns_20 : decode cX12_goesByTurns 20 = .ok (.iconst 0, 1) := by decide +kernel
theorem dX12_goesByTurns_21 : decode cX12_goesByTurns 21 = .ok (.iastore, 1) := by decide +kernel
theorem dX12_goesByTurns_22 : decode cX12_goesByTurns 22 = .ok (.iinc 2 1, 3) := by decide +kernel
theorem dX12_goesByTurns_25 : decode cX12_goesByTurns 25 = .ok (.goto (-16), 3) := by decide +kernel
theorem dX12_goesByTurns_28 : decode cX12_goesByTurns 28 = .ok (.iconst 0, 1) := by decide +kernel
theorem dX12_goesByTurns_29 : decode cX12_goesByTurns 29 = .ok (.istore_n 2, 1) := by decide +kernel
theorem dX12_goesByTurns_30 : decode cX12_goesByTurns 30 = .ok (.iload_n 2, 1) := by decide +kernel
theorem dX12_goesByTurns_31 : decode cX12_goesByTurns 31 = .ok (.aload_n 0, 1) := by decide +kernel
theorem dX12_goesByTurns_32 : decode cX12_goesByTurns 32 = .ok (.getfield 428, 3) := by decide +kernel
theorem dX12_goesByTurns_35 : decode cX12_goesByTurns 35 = .ok (.if_icmp .ge 136, 3) := by decide +kernel
theorem dX12_goesByTurns_38 : decode cX12_goesByTurns 38 = .ok (.aload_n 0, 1) := by decide +kernel
theorem dX12_goesByTurns_39 : decode cX12_goesByTurns 39 = .ok (.getfield 431, 3) := by decide +kernel
theorem dX12_goesByTurns_42 : decode cX12_goesByTurns 42 = .ok (.aload_n 0, 1) := by decide +kernel
theorem dX12_goesByTurns_43 : decode cX12_goesByTurns 43 = .ok (.getfield 158, 3) := by decide +kernel
theorem dX12_goesByTurns_46 : decode cX12_goesByTurns 46 = .ok (.if_icmp .ge 125, 3) := by decide +kernel
theorem dX12_goesByTurns_49 : decode cX12_goesByTurns 49 = .ok (.aload_n 0, 1) := by decide +kernel
theorem dX12_goesByTurns_50 : decode cX12_goesByTurns 50 = .ok (.getfield 105, 3) := by decide +kernel
theorem dX12_goesByTurns_53 : decode cX12_goesByTurns 53 = .ok (.iload_n 2, 1) := by decide +kernel
theorem dX12_goesByTurns_54 : decode cX12_goesByTurns 54 = .ok (.iaload, 1) := by decide +kernel
theorem dX12_goesByTurns_55 : decode cX12_goesByTurns 55 = .ok (.istore_n 3, 1) := by decide +kernel
theorem dX12_goesByTurns_56 : decode cX12_goesByTurns 56 = .ok (.iconst (-1), 1) := by decide +kernel
theorem dX12_goesByTurns_57 : decode cX12_goesByTurns 57 = .ok (.istore 4, 2) := by decide +kernel
theorem dX12_goesByTurns_59 : decode cX12_goesByTurns 59 = .ok (.iconst 0, 1) := by decide +kernel
theorem dX12_goesByTurns_60 : decode cX12_goesByTurns 60 = .ok (.istore 5, 2) := by decide +kernel
theorem dX12_goesByTurns_62 : decode cX12_goesByTurns 62 = .ok (.iload 5, 2) := by decide +kernel
theorem dX12_goesByTurns_64 : decode cX12_goesByTurns 64 = .ok (.aload_n 0, 1) := by decide +kernel
theorem dX12_goesByTurns_65 : decode cX12_goesByTurns 65 = .ok (.getfield 158, 3) := by decide +kernel
theorem dX12_goesByTurns_68 : decode cX12_goesByTurns 68 = .ok (.if_icmp .ge 59, 3) := by decide +kernel
theorem dX12_goesByTurns_71 : decode cX12_goesByTurns 71 = .ok (.iload_n 1, 1) := by decide +kernel
theorem dX12_goesByTurns_72 : decode cX12_goesByTurns 72 = .ok (.iload 5, 2) := by decide +kernel
theorem dX12_goesByTurns_74 : decode cX12_goesByTurns 74 = .ok (.invokestatic 383, 3) := by decide +kernel
theorem dX12_goesByTurns_77 : decode cX12_goesByTurns 77 = .ok (.ifCond .ne 40, 3) := by decide +kernel
theorem dX12_goesByTurns_80 : decode cX12_goesByTurns 80 = .ok (.iload 4, 2) := by decide +kernel
theorem dX12_goesByTurns_82 : decode cX12_goesByTurns 82 = .ok (.ifCond .lt 30, 3) := by decide +kernel
theorem dX12_goesByTurns_85 : decode cX12_goesByTurns 85 = .ok (.aload_n 0, 1) := by decide +kernel
theorem dX12_goesByTurns_86 : decode cX12_goesByTurns 86 = .ok (.getfield 108, 3) := by decide +kernel
theorem dX12_goesByTurns_89 : decode cX12_goesByTurns 89 = .ok (.bipush 16, 2) := by decide +kernel
theorem dX12_goesByTurns_91 : decode cX12_goesByTurns 91 = .ok (.iload_n 3, 1) := by decide +kernel
theorem dX12_goesByTurns_92 : decode cX12_goesByTurns 92 = .ok (.imul, 1) := by decide +kernel
theorem dX12_goesByTurns_93 : decode cX12_goesByTurns 93 = .ok (.iload 5, 2) := by decide +kernel
theorem dX12_goesByTurns_95 : decode cX12_goesByTurns 95 = .ok (.iadd, 1) := by decide +kernel
theorem dX12_goesByTurns_96 : decode cX12_goesByTurns 96 = .ok (.iaload, 1) := by decide +kernel
theorem dX12_goesByTurns_97 : decode cX12_goesByTurns 97 = .ok (.aload_n 0, 1) := by decide +kernel
theorem dX12_goesByTurns_98 : decode cX12_goesByTurns 98 = .ok (.getfield 108, 3) := by decide +kernel
theorem dX12_goesByTurns_101 : decode cX12_goesByTurns 101 = .ok (.bipush 16, 2) := by decide +kernel
theorem dX12_goesByTurns_103 : decode cX12_goesByTurns 103 = .ok (.iload_n 3, 1) := by decide +kernel
theorem dX12_goesByTurns_104 : decode cX12_goesByTurns 104 = .ok (.imul, 1) := by decide +kernel
theorem dX12_goesByTurns_105 : decode cX12_goesByTurns 105 = .ok (.iload 4, 2) := by decide +kernel
theorem dX12_goesByTurns_107 : decode cX12_goesByTurns 107 = .ok (.iadd, 1) := by decide +kernel
theorem dX12_goesByTurns_108 : decode cX12_goesByTurns 108 = .ok (.iaload, 1) := by decide +kernel
theorem dX12_goesByTurns_109 : decode cX12_goesByTurns 109 = .ok (.if_icmp .le 8, 3) := by decide +kernel
theorem dX12_goesByTurns_112 : decode cX12_goesByTurns 112 = .ok (.iload 5, 2) := by decide +kernel
theorem dX12_goesByTurns_114 : decode cX12_goesByTurns 114 = .ok (.goto 5, 3) := by decide +kernel
theorem dX12_goesByTurns_117 : decode cX12_goesByTurns 117 = .ok (.iload 4, 2) := by decide +kernel
theorem dX12_goesByTurns_119 : decode cX12_goesByTurns 119 = .ok (.istore 4, 2) := by decide +kernel
theorem dX12_goesByTurns_121 : decode cX12_goesByTurns 121 = .ok (.iinc 5 1, 3) := by decide +kernel
theorem dX12_goesByTurns_124 : decode cX12_goesByTurns 124 = .ok (.goto (-62), 3) := by decide +kernel
theorem dX12_goesByTurns_127 : decode cX12_goesByTurns 127 = .ok (.iload_n 1, 1) := by decide +kernel
theorem dX12_goesByTurns_128 : decode cX12_goesByTurns 128 = .ok (.iconst 1, 1) := by decide +kernel
theorem dX12_goesByTurns_129 : decode cX12_goesByTurns 129 = .ok (.iload 4, 2) := by decide +kernel
theorem dX12_goesByTurns_131 : decode cX12_goesByTurns 131 = .ok (.ishl, 1) := by decide +kernel
theorem dX12_goesByTurns_132 : decode cX12_goesByTurns 132 = .ok (.ior, 1) := by decide +kernel
theorem dX12_goesByTurns_133 : decode cX12_goesByTurns 133 = .ok (.istore_n 1, 1) := by decide +kernel
theorem dX12_goesByTurns_134 : decode cX12_goesByTurns 134 = .ok (.aload_n 0, 1) := by decide +kernel
theorem dX12_goesByTurns_135 : decode cX12_goesByTurns 135 = .ok (.getfield 111, 3) := by decide +kernel
theorem dX12_goesByTurns_138 : decode cX12_goesByTurns 138 = .ok (.iload_n 3, 1) := by decide +kernel
theorem dX12_goesByTurns_139 : decode cX12_goesByTurns 139 = .ok (.dup2, 1) := by decide +kernel
theorem dX12_goesByTurns_140 : decode cX12_goesByTurns 140 = .ok (.iaload, 1) := by decide +kernel
theorem dX12_goesByTurns_141 : decode cX12_goesByTurns 141 = .ok (.aload_n 0, 1) := by decide +kernel
theorem dX12_goesByTurns_142 : decode cX12_goesByTurns 142 = .ok (.getfield 63, 3) := by decide +kernel
theorem dX12_goesByTurns_145 : decode cX12_goesByTurns 145 = .ok (.bipush 16, 2) := by decide +kernel
theorem dX12_goesByTurns_147 : decode cX12_goesByTurns 147 = .ok (.iload_n 3, 1) := by decide +kernel
theorem dX12_goesByTurns_148 : decode cX12_goesByTurns 148 = .ok (.imul, 1) := by decide +kernel
theorem dX12_goesByTurns_149 : decode cX12_goesByTurns 149 = .ok (.iload 4, 2) := by decide +kernel
theorem dX12_goesByTurns_151 : decode cX12_goesByTurns 151 = .ok (.iadd, 1) := by decide +kernel
theorem dX12_goesByTurns_152 : decode cX12_goesByTurns 152 = .ok (.iaload, 1) := by decide +kernel
theorem dX12_goesByTurns_153 : decode cX12_goesByTurns 153 = .ok (.iadd, 1) := by decide +kernel
theorem dX12_goesByTurns_154 : decode cX12_goesByTurns 154 = .ok (.iastore, 1) := by decide +kernel
theorem dX12_goesByTurns_155 : decode cX12_goesByTurns 155 = .ok (.aload_n 0, 1) := by decide +kernel
theorem dX12_goesByTurns_156 : decode cX12_goesByTurns 156 = .ok (.dup, 1) := by decide +kernel
theorem dX12_goesByTurns_157 : decode cX12_goesByTurns 157 = .ok (.getfield 431, 3) := by decide +kernel
theorem dX12_goesByTurns_160 : decode cX12_goesByTurns 160 = .ok (.iconst 1, 1) := by decide +kernel
theorem dX12_goesByTurns_161 : decode cX12_goesByTurns 161 = .ok (.iadd, 1) := by decide +kernel
theorem dX12_goesByTurns_162 : decode cX12_goesByTurns 162 = .ok (.putfield 431, 3) := by decide +kernel
theorem dX12_goesByTurns_165 : decode cX12_goesByTurns 165 = .ok (.iinc 2 1, 3) := by decide +kernel
theorem dX12_goesByTurns_168 : decode cX12_goesByTurns 168 = .ok (.goto (-138), 3) := by decide +kernel
theorem dX12_goesByTurns_171 : decode cX12_goesByTurns 171 = .ok (.return_, 1) := by decide +kernel
def xX12_goesByTurns_171 (s_X12_has : zq_Sp) (J9 : zq_P) (J30 : zq_P) (J62 : zq_P) (Q : zq_Q) (ls : zq_L) (st : List Value) (h : zq_H) : Prop := (zi_vret Q) ls st h
theorem kX12_goesByTurns_171 {X : zq_X} {d : Nat} (C : zq_C X cX12_goesByTurns 6 RX12 d) {d_X12_has : Nat} {s_X12_has : zq_Sp} (h_X12_has : zq_M yX12_has cX12_has 2 (some .boolean) 1 d_X12_has s_X12_has) (g_X12_has : d_X12_has + 1 ≤ d) {J9 : zq_P} (j9 : zq_ok X 6 9 J9) {J30 : zq_P} (j30 : zq_ok X 6 30 J30) {J62 : zq_P} (j62 : zq_ok X 6 62 J62) {Q : zq_Q} (hq : zq_R X none 0 Q) : zq_ok X 6 171 (xX12_goesByTurns_171 s_X12_has J9 J30 J62 Q) := by
  exact zs_vret C hq dX12_goesByTurns_171
def xX12_goesByTurns_127 (s_X12_has : zq_Sp) (J9 : zq_P) (J30 : zq_P) (J62 : zq_P) (Q : zq_Q) (ls : zq_L) (st : List Value) (h : zq_H) : Prop := (zi_iload 1 (zi_push (.int 1) (zi_iload 4 (zi_i2 zf_shl (zi_i2 (fun x y => x ||| y) (zi_istore 1 (zi_aload 0 (zi_getR 56 90 (zi_iload 3 (zi_dup2 (zi_aldI 90 6 (zi_aload 0 (zi_getR 56 74 (zi_push (.int 16) (zi_iload 3 (zi_i2 (fun x y => x * y) (zi_iload 4 (zi_i2 (fun x y => x + y) (zi_aldI 74 96 (zi_i2 (fun x y => x + y) (zi_astI 90 6 (zi_aload 0 (zi_dup (zi_getI 56 50 (zi_push (.int 1) (zi_i2 (fun x y => x + y) (zi_putI 56 50 (zi_iinc 2 1 (J30))))))))))))))))))))))))))))) ls st h
theorem kX12_goesByTurns_127 {X : zq_X} {d : Nat} (C : zq_C X cX12_goesByTurns 6 RX12 d) {d_X12_has : Nat} {s_X12_has : zq_Sp} (h_X12_has : zq_M yX12_has cX12_has 2 (some .boolean) 1 d_X12_has s_X12_has) (g_X12_has : d_X12_has + 1 ≤ d) {J9 : zq_P} (j9 : zq_ok X 6 9 J9) {J30 : zq_P} (j30 : zq_ok X 6 30 J30) {J62 : zq_P} (j62 : zq_ok X 6 62 J62) {Q : zq_Q} (hq : zq_R X none 0 Q) : zq_ok X 6 127 (xX12_goesByTurns_127 s_X12_has J9 J30 J62 Q) := by
  refine zs_iload_n C dX12_goesByTurns_127 rfl ?_
  refine zs_iconst C dX12_goesByTurns_128 (by decide) ?_
  refine zs_iload C dX12_goesByTurns_129 ?_
  refine zs_ishl C dX12_goesByTurns_131 ?_
  refine zs_ior C dX12_goesByTurns_132 ?_
  refine zs_istore_n C dX12_goesByTurns_133 rfl (by decide) ?_
  refine zs_aload_n C dX12_goesByTurns_134 rfl ?_
  refine zs_getR C zp_56 zF12 (j := 52) ⟨by decide, rfl⟩ zw_1148 dX12_goesByTurns_135 ?_
  refine zs_iload_n C dX12_goesByTurns_138 rfl ?_
  refine zs_dup2 C dX12_goesByTurns_139 ?_
  refine zs_iaload C zp_90 dX12_goesByTurns_140 ?_
  refine zs_aload_n C dX12_goesByTurns_141 rfl ?_
  refine zs_getR C zp_56 zF12 (j := 29) ⟨by decide, rfl⟩ zw_1125 dX12_goesByTurns_142 ?_
  refine zs_bipush C dX12_goesByTurns_145 (by decide) ?_
  refine zs_iload_n C dX12_goesByTurns_147 rfl ?_
  refine zs_imul C dX12_goesByTurns_148 ?_
  refine zs_iload C dX12_goesByTurns_149 ?_
  refine zs_iadd C dX12_goesByTurns_151 ?_
  refine zs_iaload C zp_74 dX12_goesByTurns_152 ?_
  refine zs_iadd C dX12_goesByTurns_153 ?_
  refine zs_iastore C zp_90 dX12_goesByTurns_154 ?_
  refine zs_aload_n C dX12_goesByTurns_155 rfl ?_
  refine zs_dup C dX12_goesByTurns_156 ?_
  refine zs_getI C zp_56 zF12 (j := 50) ⟨by decide, rfl⟩ zw_1146 dX12_goesByTurns_157 ?_
  refine zs_iconst C dX12_goesByTurns_160 (by decide) ?_
  refine zs_iadd C dX12_goesByTurns_161 ?_
  refine zs_putI C zp_56 zF12 (j := 50) ⟨by decide, rfl⟩ ⟨rfl, by decide +kernel⟩ zw_1146 dX12_goesByTurns_162 ?_
  refine zs_iinc C dX12_goesByTurns_165 (by decide) (by decide) ?_
  exact zs_goto C dX12_goesByTurns_168 (by decide) (j30)
def xX12_goesByTurns_119 (s_X12_has : zq_Sp) (J9 : zq_P) (J30 : zq_P) (J62 : zq_P) (Q : zq_Q) (ls : zq_L) (st : List Value) (h : zq_H) : Prop := (zi_istore 4 (zi_iinc 5 1 (J62))) ls st h
theorem kX12_goesByTurns_119 {X : zq_X} {d : Nat} (C : zq_C X cX12_goesByTurns 6 RX12 d) {d_X12_has : Nat} {s_X12_has : zq_Sp} (h_X12_has : zq_M yX12_has cX12_has 2 (some .boolean) 1 d_X12_has s_X12_has) (g_X12_has : d_X12_has + 1 ≤ d) {J9 : zq_P} (j9 : zq_ok X 6 9 J9) {J30 : zq_P} (j30 : zq_ok X 6 30 J30) {J62 : zq_P} (j62 : zq_ok X 6 62 J62) {Q : zq_Q} (hq : zq_R X none 0 Q) : zq_ok X 6 119 (xX12_goesByTurns_119 s_X12_has J9 J30 J62 Q) := by
  refine zs_istore C dX12_goesByTurns_119 (by decide) ?_
  refine zs_iinc C dX12_goesByTurns_121 (by decide) (by decide) ?_
  exact zs_goto C dX12_goesByTurns_124 (by decide) (j62)
def xX12_goesByTurns_117 (s_X12_has : zq_Sp) (J9 : zq_P) (J30 : zq_P) (J62 : zq_P) (Q : zq_Q) (ls : zq_L) (st : List Value) (h : zq_H) : Prop := (zi_iload 4 ((xX12_goesByTurns_119 s_X12_has J9 J30 J62 Q))) ls st h
theorem kX12_goesByTurns_117 {X : zq_X} {d : Nat} (C : zq_C X cX12_goesByTurns 6 RX12 d) {d_X12_has : Nat} {s_X12_has : zq_Sp} (h_X12_has : zq_M yX12_has cX12_has 2 (some .boolean) 1 d_X12_has s_X12_has) (g_X12_has : d_X12_has + 1 ≤ d) {J9 : zq_P} (j9 : zq_ok X 6 9 J9) {J30 : zq_P} (j30 : zq_ok X 6 30 J30) {J62 : zq_P} (j62 : zq_ok X 6 62 J62) {Q : zq_Q} (hq : zq_R X none 0 Q) : zq_ok X 6 117 (xX12_goesByTurns_117 s_X12_has J9 J30 J62 Q) := by
  refine zs_iload C dX12_goesByTurns_117 ?_
  exact kX12_goesByTurns_119 C h_X12_has g_X12_has j9 j30 j62 hq
def xX12_goesByTurns_112 (s_X12_has : zq_Sp) (J9 : zq_P) (J30 : zq_P) (J62 : zq_P) (Q : zq_Q) (ls : zq_L) (st : List Value) (h : zq_H) : Prop := (zi_iload 5 ((xX12_goesByTurns_119 s_X12_has J9 J30 J62 Q))) ls st h
theorem kX12_goesByTurns_112 {X : zq_X} {d : Nat} (C : zq_C X cX12_goesByTurns 6 RX12 d) {d_X12_has : Nat} {s_X12_has : zq_Sp} (h_X12_has : zq_M yX12_has cX12_has 2 (some .boolean) 1 d_X12_has s_X12_has) (g_X12_has : d_X12_has + 1 ≤ d) {J9 : zq_P} (j9 : zq_ok X 6 9 J9) {J30 : zq_P} (j30 : zq_ok X 6 30 J30) {J62 : zq_P} (j62 : zq_ok X 6 62 J62) {Q : zq_Q} (hq : zq_R X none 0 Q) : zq_ok X 6 112 (xX12_goesByTurns_112 s_X12_has J9 J30 J62 Q) := by
  refine zs_iload C dX12_goesByTurns_112 ?_
  exact zs_goto C dX12_goesByTurns_114 (by decide) (kX12_goesByTurns_119 C h_X12_has g_X12_has j9 j30 j62 hq)
def xX12_goesByTurns_85 (s_X12_has : zq_Sp) (J9 : zq_P) (J30 : zq_P) (J62 : zq_P) (Q : zq_Q) (ls : zq_L) (st : List Value) (h : zq_H) : Prop := (zi_aload 0 (zi_getR 56 89 (zi_push (.int 16) (zi_iload 3 (zi_i2 (fun x y => x * y) (zi_iload 5 (zi_i2 (fun x y => x + y) (zi_aldI 89 96 (zi_aload 0 (zi_getR 56 89 (zi_push (.int 16) (zi_iload 3 (zi_i2 (fun x y => x * y) (zi_iload 4 (zi_i2 (fun x y => x + y) (zi_aldI 89 96 (zi_if2 (fun x y => x ≤ y) (xX12_goesByTurns_117 s_X12_has J9 J30 J62 Q) (xX12_goesByTurns_112 s_X12_has J9 J30 J62 Q)))))))))))))))))) ls st h
theorem kX12_goesByTurns_85 {X : zq_X} {d : Nat} (C : zq_C X cX12_goesByTurns 6 RX12 d) {d_X12_has : Nat} {s_X12_has : zq_Sp} (h_X12_has : zq_M yX12_has cX12_has 2 (some .boolean) 1 d_X12_has s_X12_has) (g_X12_has : d_X12_has + 1 ≤ d) {J9 : zq_P} (j9 : zq_ok X 6 9 J9) {J30 : zq_P} (j30 : zq_ok X 6 30 J30) {J62 : zq_P} (j62 : zq_ok X 6 62 J62) {Q : zq_Q} (hq : zq_R X none 0 Q) : zq_ok X 6 85 (xX12_goesByTurns_85 s_X12_has J9 J30 J62 Q) := by
  refine zs_aload_n C dX12_goesByTurns_85 rfl ?_
  refine zs_getR C zp_56 zF12 (j := 51) ⟨by decide, rfl⟩ zw_1147 dX12_goesByTurns_86 ?_
  refine zs_bipush C dX12_goesByTurns_89 (by decide) ?_
  refine zs_iload_n C dX12_goesByTurns_91 rfl ?_
  refine zs_imul C dX12_goesByTurns_92 ?_
  refine zs_iload C dX12_goesByTurns_93 ?_
  refine zs_iadd C dX12_goesByTurns_95 ?_
  refine zs_iaload C zp_89 dX12_goesByTurns_96 ?_
  refine zs_aload_n C dX12_goesByTurns_97 rfl ?_
  refine zs_getR C zp_56 zF12 (j := 51) ⟨by decide, rfl⟩ zw_1147 dX12_goesByTurns_98 ?_
  refine zs_bipush C dX12_goesByTurns_101 (by decide) ?_
  refine zs_iload_n C dX12_goesByTurns_103 rfl ?_
  refine zs_imul C dX12_goesByTurns_104 ?_
  refine zs_iload C dX12_goesByTurns_105 ?_
  refine zs_iadd C dX12_goesByTurns_107 ?_
  refine zs_iaload C zp_89 dX12_goesByTurns_108 ?_
  exact zs_icmp_le C dX12_goesByTurns_109 (by decide) (kX12_goesByTurns_117 C h_X12_has g_X12_has j9 j30 j62 hq) (kX12_goesByTurns_112 C h_X12_has g_X12_has j9 j30 j62 hq)
def xX12_goesByTurns_80 (s_X12_has : zq_Sp) (J9 : zq_P) (J30 : zq_P) (J62 : zq_P) (Q : zq_Q) (ls : zq_L) (st : List Value) (h : zq_H) : Prop := (zi_iload 4 (zi_if1 (fun x => x < 0) (xX12_goesByTurns_112 s_X12_has J9 J30 J62 Q) (xX12_goesByTurns_85 s_X12_has J9 J30 J62 Q))) ls st h
theorem kX12_goesByTurns_80 {X : zq_X} {d : Nat} (C : zq_C X cX12_goesByTurns 6 RX12 d) {d_X12_has : Nat} {s_X12_has : zq_Sp} (h_X12_has : zq_M yX12_has cX12_has 2 (some .boolean) 1 d_X12_has s_X12_has) (g_X12_has : d_X12_has + 1 ≤ d) {J9 : zq_P} (j9 : zq_ok X 6 9 J9) {J30 : zq_P} (j30 : zq_ok X 6 30 J30) {J62 : zq_P} (j62 : zq_ok X 6 62 J62) {Q : zq_Q} (hq : zq_R X none 0 Q) : zq_ok X 6 80 (xX12_goesByTurns_80 s_X12_has J9 J30 J62 Q) := by
  refine zs_iload C dX12_goesByTurns_80 ?_
  exact zs_if_lt C dX12_goesByTurns_82 (by decide) (kX12_goesByTurns_112 C h_X12_has g_X12_has j9 j30 j62 hq) (kX12_goesByTurns_85 C h_X12_has g_X12_has j9 j30 j62 hq)
def xX12_goesByTurns_71 (s_X12_has : zq_Sp) (J9 : zq_P) (J30 : zq_P) (J62 : zq_P) (Q : zq_Q) (ls : zq_L) (st : List Value) (h : zq_H) : Prop := (zi_iload 1 (zi_iload 5 (zi_callS 2 s_X12_has (zi_if1 (fun x => x = 0) (xX12_goesByTurns_80 s_X12_has J9 J30 J62 Q) (xX12_goesByTurns_117 s_X12_has J9 J30 J62 Q))))) ls st h
theorem kX12_goesByTurns_71 {X : zq_X} {d : Nat} (C : zq_C X cX12_goesByTurns 6 RX12 d) {d_X12_has : Nat} {s_X12_has : zq_Sp} (h_X12_has : zq_M yX12_has cX12_has 2 (some .boolean) 1 d_X12_has s_X12_has) (g_X12_has : d_X12_has + 1 ≤ d) {J9 : zq_P} (j9 : zq_ok X 6 9 J9) {J30 : zq_P} (j30 : zq_ok X 6 30 J30) {J62 : zq_P} (j62 : zq_ok X 6 62 J62) {Q : zq_Q} (hq : zq_R X none 0 Q) : zq_ok X 6 71 (xX12_goesByTurns_71 s_X12_has J9 J30 J62 Q) := by
  refine zs_iload_n C dX12_goesByTurns_71 rfl ?_
  refine zs_iload C dX12_goesByTurns_72 ?_
  refine zs_callS C h_X12_has g_X12_has zy_X12_has zw_1626 zw_1627 dX12_goesByTurns_74 ?_
  exact zs_if_ne C dX12_goesByTurns_77 (by decide) (kX12_goesByTurns_117 C h_X12_has g_X12_has j9 j30 j62 hq) (kX12_goesByTurns_80 C h_X12_has g_X12_has j9 j30 j62 hq)
def xX12_goesByTurns_62 (s_X12_has : zq_Sp) (J9 : zq_P) (J30 : zq_P) (J62 : zq_P) (Q : zq_Q) (ls : zq_L) (st : List Value) (h : zq_H) : Prop := (zi_iload 5 (zi_aload 0 (zi_getI 56 3 (zi_if2 (fun x y => y ≤ x) (xX12_goesByTurns_127 s_X12_has J9 J30 J62 Q) (xX12_goesByTurns_71 s_X12_has J9 J30 J62 Q))))) ls st h
theorem kX12_goesByTurns_62 {X : zq_X} {d : Nat} (C : zq_C X cX12_goesByTurns 6 RX12 d) {d_X12_has : Nat} {s_X12_has : zq_Sp} (h_X12_has : zq_M yX12_has cX12_has 2 (some .boolean) 1 d_X12_has s_X12_has) (g_X12_has : d_X12_has + 1 ≤ d) {J9 : zq_P} (j9 : zq_ok X 6 9 J9) {J30 : zq_P} (j30 : zq_ok X 6 30 J30) {J62 : zq_P} (j62 : zq_ok X 6 62 J62) {Q : zq_Q} (hq : zq_R X none 0 Q) : zq_ok X 6 62 (xX12_goesByTurns_62 s_X12_has J9 J30 J62 Q) := by
  refine zs_iload C dX12_goesByTurns_62 ?_
  refine zs_aload_n C dX12_goesByTurns_64 rfl ?_
  refine zs_getI C zp_56 zF12 (j := 3) ⟨by decide, rfl⟩ zw_1099 dX12_goesByTurns_65 ?_
  exact zs_icmp_ge C dX12_goesByTurns_68 (by decide) (kX12_goesByTurns_127 C h_X12_has g_X12_has j9 j30 j62 hq) (kX12_goesByTurns_71 C h_X12_has g_X12_has j9 j30 j62 hq)
def xX12_goesByTurns_49 (s_X12_has : zq_Sp) (J9 : zq_P) (J30 : zq_P) (J62 : zq_P) (Q : zq_Q) (ls : zq_L) (st : List Value) (h : zq_H) : Prop := (zi_aload 0 (zi_getR 56 88 (zi_iload 2 (zi_aldI 88 16 (zi_istore 3 (zi_push (.int (-1)) (zi_istore 4 (zi_push (.int 0) (zi_istore 5 (J62)))))))))) ls st h
theorem kX12_goesByTurns_49 {X : zq_X} {d : Nat} (C : zq_C X cX12_goesByTurns 6 RX12 d) {d_X12_has : Nat} {s_X12_has : zq_Sp} (h_X12_has : zq_M yX12_has cX12_has 2 (some .boolean) 1 d_X12_has s_X12_has) (g_X12_has : d_X12_has + 1 ≤ d) {J9 : zq_P} (j9 : zq_ok X 6 9 J9) {J30 : zq_P} (j30 : zq_ok X 6 30 J30) {J62 : zq_P} (j62 : zq_ok X 6 62 J62) {Q : zq_Q} (hq : zq_R X none 0 Q) : zq_ok X 6 49 (xX12_goesByTurns_49 s_X12_has J9 J30 J62 Q) := by
  refine zs_aload_n C dX12_goesByTurns_49 rfl ?_
  refine zs_getR C zp_56 zF12 (j := 48) ⟨by decide, rfl⟩ zw_1144 dX12_goesByTurns_50 ?_
  refine zs_iload_n C dX12_goesByTurns_53 rfl ?_
  refine zs_iaload C zp_88 dX12_goesByTurns_54 ?_
  refine zs_istore_n C dX12_goesByTurns_55 rfl (by decide) ?_
  refine zs_iconst C dX12_goesByTurns_56 (by decide) ?_
  refine zs_istore C dX12_goesByTurns_57 (by decide) ?_
  refine zs_iconst C dX12_goesByTurns_59 (by decide) ?_
  refine zs_istore C dX12_goesByTurns_60 (by decide) ?_
  exact j62
def xX12_goesByTurns_38 (s_X12_has : zq_Sp) (J9 : zq_P) (J30 : zq_P) (J62 : zq_P) (Q : zq_Q) (ls : zq_L) (st : List Value) (h : zq_H) : Prop := (zi_aload 0 (zi_getI 56 50 (zi_aload 0 (zi_getI 56 3 (zi_if2 (fun x y => y ≤ x) (xX12_goesByTurns_171 s_X12_has J9 J30 J62 Q) (xX12_goesByTurns_49 s_X12_has J9 J30 J62 Q)))))) ls st h
theorem kX12_goesByTurns_38 {X : zq_X} {d : Nat} (C : zq_C X cX12_goesByTurns 6 RX12 d) {d_X12_has : Nat} {s_X12_has : zq_Sp} (h_X12_has : zq_M yX12_has cX12_has 2 (some .boolean) 1 d_X12_has s_X12_has) (g_X12_has : d_X12_has + 1 ≤ d) {J9 : zq_P} (j9 : zq_ok X 6 9 J9) {J30 : zq_P} (j30 : zq_ok X 6 30 J30) {J62 : zq_P} (j62 : zq_ok X 6 62 J62) {Q : zq_Q} (hq : zq_R X none 0 Q) : zq_ok X 6 38 (xX12_goesByTurns_38 s_X12_has J9 J30 J62 Q) := by
  refine zs_aload_n C dX12_goesByTurns_38 rfl ?_
  refine zs_getI C zp_56 zF12 (j := 50) ⟨by decide, rfl⟩ zw_1146 dX12_goesByTurns_39 ?_
  refine zs_aload_n C dX12_goesByTurns_42 rfl ?_
  refine zs_getI C zp_56 zF12 (j := 3) ⟨by decide, rfl⟩ zw_1099 dX12_goesByTurns_43 ?_
  exact zs_icmp_ge C dX12_goesByTurns_46 (by decide) (kX12_goesByTurns_171 C h_X12_has g_X12_has j9 j30 j62 hq) (kX12_goesByTurns_49 C h_X12_has g_X12_has j9 j30 j62 hq)
def xX12_goesByTurns_30 (s_X12_has : zq_Sp) (J9 : zq_P) (J30 : zq_P) (J62 : zq_P) (Q : zq_Q) (ls : zq_L) (st : List Value) (h : zq_H) : Prop := (zi_iload 2 (zi_aload 0 (zi_getI 56 49 (zi_if2 (fun x y => y ≤ x) (xX12_goesByTurns_171 s_X12_has J9 J30 J62 Q) (xX12_goesByTurns_38 s_X12_has J9 J30 J62 Q))))) ls st h
theorem kX12_goesByTurns_30 {X : zq_X} {d : Nat} (C : zq_C X cX12_goesByTurns 6 RX12 d) {d_X12_has : Nat} {s_X12_has : zq_Sp} (h_X12_has : zq_M yX12_has cX12_has 2 (some .boolean) 1 d_X12_has s_X12_has) (g_X12_has : d_X12_has + 1 ≤ d) {J9 : zq_P} (j9 : zq_ok X 6 9 J9) {J30 : zq_P} (j30 : zq_ok X 6 30 J30) {J62 : zq_P} (j62 : zq_ok X 6 62 J62) {Q : zq_Q} (hq : zq_R X none 0 Q) : zq_ok X 6 30 (xX12_goesByTurns_30 s_X12_has J9 J30 J62 Q) := by
  refine zs_iload_n C dX12_goesByTurns_30 rfl ?_
  refine zs_aload_n C dX12_goesByTurns_31 rfl ?_
  refine zs_getI C zp_56 zF12 (j := 49) ⟨by decide, rfl⟩ zw_1145 dX12_goesByTurns_32 ?_
  exact zs_icmp_ge C dX12_goesByTurns_35 (by decide) (kX12_goesByTurns_171 C h_X12_has g_X12_has j9 j30 j62 hq) (kX12_goesByTurns_38 C h_X12_has g_X12_has j9 j30 j62 hq)
def xX12_goesByTurns_28 (s_X12_has : zq_Sp) (J9 : zq_P) (J30 : zq_P) (J62 : zq_P) (Q : zq_Q) (ls : zq_L) (st : List Value) (h : zq_H) : Prop := (zi_push (.int 0) (zi_istore 2 (J30))) ls st h
theorem kX12_goesByTurns_28 {X : zq_X} {d : Nat} (C : zq_C X cX12_goesByTurns 6 RX12 d) {d_X12_has : Nat} {s_X12_has : zq_Sp} (h_X12_has : zq_M yX12_has cX12_has 2 (some .boolean) 1 d_X12_has s_X12_has) (g_X12_has : d_X12_has + 1 ≤ d) {J9 : zq_P} (j9 : zq_ok X 6 9 J9) {J30 : zq_P} (j30 : zq_ok X 6 30 J30) {J62 : zq_P} (j62 : zq_ok X 6 62 J62) {Q : zq_Q} (hq : zq_R X none 0 Q) : zq_ok X 6 28 (xX12_goesByTurns_28 s_X12_has J9 J30 J62 Q) := by
  refine zs_iconst C dX12_goesByTurns_28 (by decide) ?_
  refine zs_istore_n C dX12_goesByTurns_29 rfl (by decide) ?_
  exact j30
def xX12_goesByTurns_15 (s_X12_has : zq_Sp) (J9 : zq_P) (J30 : zq_P) (J62 : zq_P) (Q : zq_Q) (ls : zq_L) (st : List Value) (h : zq_H) : Prop := (zi_aload 0 (zi_getR 56 90 (zi_iload 2 (zi_push (.int 0) (zi_astI 90 6 (zi_iinc 2 1 (J9))))))) ls st h
theorem kX12_goesByTurns_15 {X : zq_X} {d : Nat} (C : zq_C X cX12_goesByTurns 6 RX12 d) {d_X12_has : Nat} {s_X12_has : zq_Sp} (h_X12_has : zq_M yX12_has cX12_has 2 (some .boolean) 1 d_X12_has s_X12_has) (g_X12_has : d_X12_has + 1 ≤ d) {J9 : zq_P} (j9 : zq_ok X 6 9 J9) {J30 : zq_P} (j30 : zq_ok X 6 30 J30) {J62 : zq_P} (j62 : zq_ok X 6 62 J62) {Q : zq_Q} (hq : zq_R X none 0 Q) : zq_ok X 6 15 (xX12_goesByTurns_15 s_X12_has J9 J30 J62 Q) := by
  refine zs_aload_n C dX12_goesByTurns_15 rfl ?_
  refine zs_getR C zp_56 zF12 (j := 52) ⟨by decide, rfl⟩ zw_1148 dX12_goesByTurns_16 ?_
  refine zs_iload_n C dX12_goesByTurns_19 rfl ?_
  refine zs_iconst C dX12_goesByTurns_20 (by decide) ?_
  refine zs_iastore C zp_90 dX12_goesByTurns_21 ?_
  refine zs_iinc C dX12_goesByTurns_22 (by decide) (by decide) ?_
  exact zs_goto C dX12_goesByTurns_25 (by decide) (j9)
def xX12_goesByTurns_9 (s_X12_has : zq_Sp) (J9 : zq_P) (J30 : zq_P) (J62 : zq_P) (Q : zq_Q) (ls : zq_L) (st : List Value) (h : zq_H) : Prop := (zi_iload 2 (zi_push (.int 6) (zi_if2 (fun x y => y ≤ x) (xX12_goesByTurns_28 s_X12_has J9 J30 J62 Q) (xX12_goesByTurns_15 s_X12_has J9 J30 J62 Q)))) ls st h
theorem kX12_goesByTurns_9 {X : zq_X} {d : Nat} (C : zq_C X cX12_goesByTurns 6 RX12 d) {d_X12_has : Nat} {s_X12_has : zq_Sp} (h_X12_has : zq_M yX12_has cX12_has 2 (some .boolean) 1 d_X12_has s_X12_has) (g_X12_has : d_X12_has + 1 ≤ d) {J9 : zq_P} (j9 : zq_ok X 6 9 J9) {J30 : zq_P} (j30 : zq_ok X 6 30 J30) {J62 : zq_P} (j62 : zq_ok X 6 62 J62) {Q : zq_Q} (hq : zq_R X none 0 Q) : zq_ok X 6 9 (xX12_goesByTurns_9 s_X12_has J9 J30 J62 Q) := by
  refine zs_iload_n C dX12_goesByTurns_9 rfl ?_
  refine zs_bipush C dX12_goesByTurns_10 (by decide) ?_
  exact zs_icmp_ge C dX12_goesByTurns_12 (by decide) (kX12_goesByTurns_28 C h_X12_has g_X12_has j9 j30 j62 hq) (kX12_goesByTurns_15 C h_X12_has g_X12_has j9 j30 j62 hq)
def xX12_goesByTurns_0 (s_X12_has : zq_Sp) (J9 : zq_P) (J30 : zq_P) (J62 : zq_P) (Q : zq_Q) (ls : zq_L) (st : List Value) (h : zq_H) : Prop := (zi_push (.int 0) (zi_istore 1 (zi_aload 0 (zi_push (.int 0) (zi_putI 56 50 (zi_push (.int 0) (zi_istore 2 (J9)))))))) ls st h
theorem kX12_goesByTurns_0 {X : zq_X} {d : Nat} (C : zq_C X cX12_goesByTurns 6 RX12 d) {d_X12_has : Nat} {s_X12_has : zq_Sp} (h_X12_has : zq_M yX12_has cX12_has 2 (some .boolean) 1 d_X12_has s_X12_has) (g_X12_has : d_X12_has + 1 ≤ d) {J9 : zq_P} (j9 : zq_ok X 6 9 J9) {J30 : zq_P} (j30 : zq_ok X 6 30 J30) {J62 : zq_P} (j62 : zq_ok X 6 62 J62) {Q : zq_Q} (hq : zq_R X none 0 Q) : zq_ok X 6 0 (xX12_goesByTurns_0 s_X12_has J9 J30 J62 Q) := by
  refine zs_iconst C dX12_goesByTurns_0 (by decide) ?_
  refine zs_istore_n C dX12_goesByTurns_1 rfl (by decide) ?_
  refine zs_aload_n C dX12_goesByTurns_2 rfl ?_
  refine zs_iconst C dX12_goesByTurns_3 (by decide) ?_
  refine zs_putI C zp_56 zF12 (j := 50) ⟨by decide, rfl⟩ ⟨rfl, by decide +kernel⟩ zw_1146 dX12_goesByTurns_4 ?_
  refine zs_iconst C dX12_goesByTurns_7 (by decide) ?_
  refine zs_istore_n C dX12_goesByTurns_8 rfl (by decide) ?_
  exact j9
theorem mX12_goesByTurns {d : Nat} {spec : zq_Sp} {σ9 : Type} {σ30 : Type} {σ62 : Type} {d_X12_has : Nat} {s_X12_has : zq_Sp} (h_X12_has : zq_M yX12_has cX12_has 2 (some .boolean) 1 d_X12_has s_X12_has) (g_X12_has : d_X12_has + 1 ≤ d) (μ9 : σ9 → Nat) (I9 : zq_Q → σ9 → zq_P) (μ30 : σ30 → Nat) (I30 : zq_Q → σ30 → zq_P) (μ62 : σ62 → Nat) (I62 : zq_Q → σ62 → zq_P) (v : ∀ args h Q, spec args h Q → (zq_a args).length ≤ 6 ∧ xX12_goesByTurns_0 s_X12_has (fun ls st h => ∃ b, I9 Q b ls st h) (fun ls st h => ∃ b, I30 Q b ls st h) (fun ls st h => ∃ b, I62 Q b ls st h) Q (zq_l0 6 args) [] h) (v9 : ∀ Q a ls st h, I9 Q a ls st h → xX12_goesByTurns_9 s_X12_has (fun ls st h => ∃ b, μ9 b < μ9 a ∧ I9 Q b ls st h) (fun ls st h => ∃ b, μ30 b < μ9 a ∧ I30 Q b ls st h) (fun ls st h => ∃ b, μ62 b < μ9 a ∧ I62 Q b ls st h) Q ls st h) (v30 : ∀ Q a ls st h, I30 Q a ls st h → xX12_goesByTurns_30 s_X12_has (fun ls st h => ∃ b, μ9 b < μ30 a ∧ I9 Q b ls st h) (fun ls st h => ∃ b, μ30 b < μ30 a ∧ I30 Q b ls st h) (fun ls st h => ∃ b, μ62 b < μ30 a ∧ I62 Q b ls st h) Q ls st h) (v62 : ∀ Q a ls st h, I62 Q a ls st h → xX12_goesByTurns_62 s_X12_has (fun ls st h => ∃ b, μ9 b < μ62 a ∧ I9 Q b ls st h) (fun ls st h => ∃ b, μ30 b < μ62 a ∧ I30 Q b ls st h) (fun ls st h => ∃ b, μ62 b < μ62 a ∧ I62 Q b ls st h) Q ls st h) : zq_M yX12_goesByTurns cX12_goesByTurns 6 none 0 d spec := by
  refine zq_met (by decide +kernel) (by decide) (fun X Q args h C hq hs => ⟨(v args h Q hs).1, _, ?_, (v args h Q hs).2⟩)
  have hl := zq_loop3 (X := X) (nL := 6) (pc1 := 9) (pc2 := 30) (pc3 := 62) μ9 μ30 μ62 (I9 Q) (I30 Q) (I62 Q) (fun J9 J30 J62 => xX12_goesByTurns_9 s_X12_has J9 J30 J62 Q) (fun J9 J30 J62 => xX12_goesByTurns_30 s_X12_has J9 J30 J62 Q) (fun J9 J30 J62 => xX12_goesByTurns_62 s_X12_has J9 J30 J62 Q) (fun j9 j30 j62 => kX12_goesByTurns_9 C h_X12_has g_X12_has j9 j30 j62 hq) (fun j9 j30 j62 => kX12_goesByTurns_30 C h_X12_has g_X12_has j9 j30 j62 hq) (fun j9 j30 j62 => kX12_goesByTurns_62 C h_X12_has g_X12_has j9 j30 j62 hq) (v9 Q) (v30 Q) (v62 Q)
  exact kX12_goesByTurns_0 C h_X12_has g_X12_has hl.1 hl.2.1 hl.2.2 hq
/-! ToOneCrumbModel.byturns()I -/
theorem dX12_byturns_0 : decode cX12_byturns 0 = .ok (.aload_n 0, 1) := by decide +kernel
theorem dX12_byturns_1 : decode cX12_byturns 1 = .ok (.iconst 0, 1) := by decide +kernel
theorem dX12_byturns_2 : decode cX12_byturns 2 = .ok (.putfield 147, 3) := by decide +kernel
theorem dX12_byturns_5 : decode cX12_byturns 5 = .ok (.aload_n 0, 1) := by decide +kernel
theorem dX12_byturns_6 : decode cX12_byturns 6 = .ok (.bipush 80, 2) := by decide +kernel
theorem dX12_byturns_8 : decode cX12_byturns 8 = .ok (.invokevirtual 218, 3) := by decide +kernel
theorem dX12_byturns_11 : decode cX12_byturns 11 = .ok (.pop, 1) := by decide +kernel
theorem dX12_byturns_12 : decode cX12_byturns 12 = .ok (.aload_n 0, 1) := by decide +kernel
theorem dX12_byturns_13 : decode cX12_byturns 13 = .ok (.invokevirtual 434, 3) := by decide +kernel
theorem dX12_byturns_16 : decode cX12_byturns 16 = .ok (.istore_n 1, 1) := by decide +kernel
theorem dX12_byturns_17 : decode cX12_byturns 17 = .ok (.iload_n 1, 1) := by decide +kernel
theorem dX12_byturns_18 : decode cX12_byturns 18 = .ok (.ifCond .ge 5, 3) := by decide +kernel
theorem dX12_byturns_21 : decode cX12_byturns 21 = .ok (.iload_n 1, 1) := by decide +kernel
theorem dX12_byturns_22 : decode cX12_byturns 22 = .ok (.ireturn, 1) := by decide +kernel
theorem dX12_byturns_23 : decode cX12_byturns 23 = .ok (.aload_n 0, 1) := by decide +kernel
theorem dX12_byturns_24 : decode cX12_byturns 24 = .ok (.invokevirtual 318, 3) := by decide +kernel
theorem dX12_byturns_27 : decode cX12_byturns 27 = .ok (.aload_n 0, 1) := by decide +kernel
theorem dX12_byturns_28 : decode cX12_byturns 28 = .ok (.invokevirtual 437, 3) := by decide +kernel
theorem dX12_byturns_31 : decode cX12_byturns 31 = .ok (.aload_n 0, 1) := by decide +kernel
theorem dX12_byturns_32 : decode cX12_byturns 32 = .ok (.invokevirtual 440, 3) := by decide +kernel
theorem dX12_byturns_35 : decode cX12_byturns 35 = .ok (.aload_n 0, 1) := by decide +kernel
theorem dX12_byturns_36 : decode cX12_byturns 36 = .ok (.iconst 0, 1) := by decide +kernel
theorem dX12_byturns_37 : decode cX12_byturns 37 = .ok (.putfield 155, 3) := by decide +kernel
theorem dX12_byturns_40 : decode cX12_byturns 40 = .ok (.iconst 0, 1) := by decide +kernel
theorem dX12_byturns_41 : decode cX12_byturns 41 = .ok (.istore_n 2, 1) := by decide +kernel
theorem dX12_byturns_42 : decode cX12_byturns 42 = .ok (.iload_n 2, 1) := by decide +kernel
theorem dX12_byturns_43 : decode cX12_byturns 43 = .ok (.aload_n 0, 1) := by decide +kernel
theorem dX12_byturns_44 : decode cX12_byturns 44 = .ok (.getfield 165, 3) := by decide +kernel
theorem dX12_byturns_47 : decode cX12_byturns 47 = .ok (.if_icmp .ge 20, 3) := by decide +kernel
theorem dX12_byturns_50 : decode cX12_byturns 50 = .ok (.aload_n 0, 1) := by decide +kernel
theorem dX12_byturns_51 : decode cX12_byturns 51 = .ok (.aload_n 0, 1) := by decide +kernel
theorem dX12_byturns_52 : decode cX12_byturns 52 = .ok (.getfield 111, 3) := by decide +kernel
theorem dX12_byturns_55 : decode cX12_byturns 55 = .ok (.iload_n 2, 1) := by decide +kernel
theorem dX12_byturns_56 : decode cX12_byturns 56 = .ok (.iaload, 1) := by decide +kernel
theorem dX12_byturns_57 : decode cX12_byturns 57 = .ok (.i2l, 1) := by decide +kernel
theorem dX12_byturns_58 : decode cX12_byturns 58 = .ok (.invokevirtual 368, 3) := by decide +kernel
theorem dX12_byturns_61 : decode cX12_byturns 61 = .ok (.iinc 2 1, 3) := by decide +kernel
theorem dX12_byturns_64 : decode cX12_byturns 64 = .ok (.goto (-22), 3) := by decide +kernel
theorem dX12_byturns_67 : decode cX12_byturns 67 = .ok (.aload_n 0, 1) := by decide +kernel
theorem dX12_byturns_68 : decode cX12_byturns 68 = .ok (.getfield 431, 3) := by decide +kernel
theorem dX12_byturns_71 : decode cX12_byturns 71 = .ok (.ireturn, 1) := by decide +kernel
def xX12_byturns_67 (s_X12_begins : zq_Sp) (s_X12_readsTurns : zq_Sp) (s_X12_laysTable : zq_Sp) (s_X12_picksAsWorth : zq_Sp) (s_X12_goesByTurns : zq_Sp) (s_X12_enters : zq_Sp) (J42 : zq_P) (Q : zq_Q) (ls : zq_L) (st : List Value) (h : zq_H) : Prop := (zi_aload 0 (zi_getI 56 50 (zi_iret Q))) ls st h
theorem kX12_byturns_67 {X : zq_X} {d : Nat} (C : zq_C X cX12_byturns 3 RX12 d) {d_X12_begins : Nat} {s_X12_begins : zq_Sp} (h_X12_begins : zq_M yX12_begins cX12_begins 3 (some .int) 1 d_X12_begins s_X12_begins) (g_X12_begins : d_X12_begins + 1 ≤ d) {d_X12_readsTurns : Nat} {s_X12_readsTurns : zq_Sp} (h_X12_readsTurns : zq_M yX12_readsTurns cX12_readsTurns 3 (some .int) 1 d_X12_readsTurns s_X12_readsTurns) (g_X12_readsTurns : d_X12_readsTurns + 1 ≤ d) {d_X12_laysTable : Nat} {s_X12_laysTable : zq_Sp} (h_X12_laysTable : zq_M yX12_laysTable cX12_laysTable 3 none 0 d_X12_laysTable s_X12_laysTable) (g_X12_laysTable : d_X12_laysTable + 1 ≤ d) {d_X12_picksAsWorth : Nat} {s_X12_picksAsWorth : zq_Sp} (h_X12_picksAsWorth : zq_M yX12_picksAsWorth cX12_picksAsWorth 2 none 0 d_X12_picksAsWorth s_X12_picksAsWorth) (g_X12_picksAsWorth : d_X12_picksAsWorth + 1 ≤ d) {d_X12_goesByTurns : Nat} {s_X12_goesByTurns : zq_Sp} (h_X12_goesByTurns : zq_M yX12_goesByTurns cX12_goesByTurns 6 none 0 d_X12_goesByTurns s_X12_goesByTurns) (g_X12_goesByTurns : d_X12_goesByTurns + 1 ≤ d) {d_X12_enters : Nat} {s_X12_enters : zq_Sp} (h_X12_enters : zq_M yX12_enters cX12_enters 3 none 0 d_X12_enters s_X12_enters) (g_X12_enters : d_X12_enters + 1 ≤ d) {J42 : zq_P} (j42 : zq_ok X 3 42 J42) {Q : zq_Q} (hq : zq_R X (some .int) 1 Q) : zq_ok X 3 67 (xX12_byturns_67 s_X12_begins s_X12_readsTurns s_X12_laysTable s_X12_picksAsWorth s_X12_goesByTurns s_X12_enters J42 Q) := by
  refine zs_aload_n C dX12_byturns_67 rfl ?_
  refine zs_getI C zp_56 zF12 (j := 50) ⟨by decide, rfl⟩ zw_1146 dX12_byturns_68 ?_
  exact zs_iret C hq dX12_byturns_71
def xX12_byturns_50 (s_X12_begins : zq_Sp) (s_X12_readsTurns : zq_Sp) (s_X12_laysTable : zq_Sp) (s_X12_picksAsWorth : zq_Sp) (s_X12_goesByTurns : zq_Sp) (s_X12_enters : zq_Sp) (J42 : zq_P) (Q : zq_Q) (ls : zq_L) (st : List Value) (h : zq_H) : Prop := (zi_aload 0 (zi_aload 0 (zi_getR 56 90 (zi_iload 2 (zi_aldI 90 6 (zi_i2l (zi_callV 1 56 s_X12_enters (zi_iinc 2 1 (J42))))))))) ls st h
theorem kX12_byturns_50 {X : zq_X} {d : Nat} (C : zq_C X cX12_byturns 3 RX12 d) {d_X12_begins : Nat} {s_X12_begins : zq_Sp} (h_X12_begins : zq_M yX12_begins cX12_begins 3 (some .int) 1 d_X12_begins s_X12_begins) (g_X12_begins : d_X12_begins + 1 ≤ d) {d_X12_readsTurns : Nat} {s_X12_readsTurns : zq_Sp} (h_X12_readsTurns : zq_M yX12_readsTurns cX12_readsTurns 3 (some .int) 1 d_X12_readsTurns s_X12_readsTurns) (g_X12_readsTurns : d_X12_readsTurns + 1 ≤ d) {d_X12_laysTable : Nat} {s_X12_laysTable : zq_Sp} (h_X12_laysTable : zq_M yX12_laysTable cX12_laysTable 3 none 0 d_X12_laysTable s_X12_laysTable) (g_X12_laysTable : d_X12_laysTable + 1 ≤ d) {d_X12_picksAsWorth : Nat} {s_X12_picksAsWorth : zq_Sp} (h_X12_picksAsWorth : zq_M yX12_picksAsWorth cX12_picksAsWorth 2 none 0 d_X12_picksAsWorth s_X12_picksAsWorth) (g_X12_picksAsWorth : d_X12_picksAsWorth + 1 ≤ d) {d_X12_goesByTurns : Nat} {s_X12_goesByTurns : zq_Sp} (h_X12_goesByTurns : zq_M yX12_goesByTurns cX12_goesByTurns 6 none 0 d_X12_goesByTurns s_X12_goesByTurns) (g_X12_goesByTurns : d_X12_goesByTurns + 1 ≤ d) {d_X12_enters : Nat} {s_X12_enters : zq_Sp} (h_X12_enters : zq_M yX12_enters cX12_enters 3 none 0 d_X12_enters s_X12_enters) (g_X12_enters : d_X12_enters + 1 ≤ d) {J42 : zq_P} (j42 : zq_ok X 3 42 J42) {Q : zq_Q} (hq : zq_R X (some .int) 1 Q) : zq_ok X 3 50 (xX12_byturns_50 s_X12_begins s_X12_readsTurns s_X12_laysTable s_X12_picksAsWorth s_X12_goesByTurns s_X12_enters J42 Q) := by
  refine zs_aload_n C dX12_byturns_50 rfl ?_
  refine zs_aload_n C dX12_byturns_51 rfl ?_
  refine zs_getR C zp_56 zF12 (j := 52) ⟨by decide, rfl⟩ zw_1148 dX12_byturns_52 ?_
  refine zs_iload_n C dX12_byturns_55 rfl ?_
  refine zs_iaload C zp_90 dX12_byturns_56 ?_
  refine zs_i2l C dX12_byturns_57 ?_
  refine zs_callV C h_X12_enters g_X12_enters zy_X12_enters zp_56 (show vwCl[12]? = some (RX12, TX12, 67) from rfl) zw_1574 zw_1576 zs9_X12_enters dX12_byturns_58 ?_
  refine zs_iinc C dX12_byturns_61 (by decide) (by decide) ?_
  exact zs_goto C dX12_byturns_64 (by decide) (j42)
def xX12_byturns_42 (s_X12_begins : zq_Sp) (s_X12_readsTurns : zq_Sp) (s_X12_laysTable : zq_Sp) (s_X12_picksAsWorth : zq_Sp) (s_X12_goesByTurns : zq_Sp) (s_X12_enters : zq_Sp) (J42 : zq_P) (Q : zq_Q) (ls : zq_L) (st : List Value) (h : zq_H) : Prop := (zi_iload 2 (zi_aload 0 (zi_getI 56 4 (zi_if2 (fun x y => y ≤ x) (xX12_byturns_67 s_X12_begins s_X12_readsTurns s_X12_laysTable s_X12_picksAsWorth s_X12_goesByTurns s_X12_enters J42 Q) (xX12_byturns_50 s_X12_begins s_X12_readsTurns s_X12_laysTable s_X12_picksAsWorth s_X12_goesByTurns s_X12_enters J42 Q))))) ls st h
theorem kX12_byturns_42 {X : zq_X} {d : Nat} (C : zq_C X cX12_byturns 3 RX12 d) {d_X12_begins : Nat} {s_X12_begins : zq_Sp} (h_X12_begins : zq_M yX12_begins cX12_begins 3 (some .int) 1 d_X12_begins s_X12_begins) (g_X12_begins : d_X12_begins + 1 ≤ d) {d_X12_readsTurns : Nat} {s_X12_readsTurns : zq_Sp} (h_X12_readsTurns : zq_M yX12_readsTurns cX12_readsTurns 3 (some .int) 1 d_X12_readsTurns s_X12_readsTurns) (g_X12_readsTurns : d_X12_readsTurns + 1 ≤ d) {d_X12_laysTable : Nat} {s_X12_laysTable : zq_Sp} (h_X12_laysTable : zq_M yX12_laysTable cX12_laysTable 3 none 0 d_X12_laysTable s_X12_laysTable) (g_X12_laysTable : d_X12_laysTable + 1 ≤ d) {d_X12_picksAsWorth : Nat} {s_X12_picksAsWorth : zq_Sp} (h_X12_picksAsWorth : zq_M yX12_picksAsWorth cX12_picksAsWorth 2 none 0 d_X12_picksAsWorth s_X12_picksAsWorth) (g_X12_picksAsWorth : d_X12_picksAsWorth + 1 ≤ d) {d_X12_goesByTurns : Nat} {s_X12_goesByTurns : zq_Sp} (h_X12_goesByTurns : zq_M yX12_goesByTurns cX12_goesByTurns 6 none 0 d_X12_goesByTurns s_X12_goesByTurns) (g_X12_goesByTurns : d_X12_goesByTurns + 1 ≤ d) {d_X12_enters : Nat} {s_X12_enters : zq_Sp} (h_X12_enters : zq_M yX12_enters cX12_enters 3 none 0 d_X12_enters s_X12_enters) (g_X12_enters : d_X12_enters + 1 ≤ d) {J42 : zq_P} (j42 : zq_ok X 3 42 J42) {Q : zq_Q} (hq : zq_R X (some .int) 1 Q) : zq_ok X 3 42 (xX12_byturns_42 s_X12_begins s_X12_readsTurns s_X12_laysTable s_X12_picksAsWorth s_X12_goesByTurns s_X12_enters J42 Q) := by
  refine zs_iload_n C dX12_byturns_42 rfl ?_
  refine zs_aload_n C dX12_byturns_43 rfl ?_
  refine zs_getI C zp_56 zF12 (j := 4) ⟨by decide, rfl⟩ zw_1100 dX12_byturns_44 ?_
  exact zs_icmp_ge C dX12_byturns_47 (by decide) (kX12_byturns_67 C h_X12_begins g_X12_begins h_X12_readsTurns g_X12_readsTurns h_X12_laysTable g_X12_laysTable h_X12_picksAsWorth g_X12_picksAsWorth h_X12_goesByTurns g_X12_goesByTurns h_X12_enters g_X12_enters j42 hq) (kX12_byturns_50 C h_X12_begins g_X12_begins h_X12_readsTurns g_X12_readsTurns h_X12_laysTable g_X12_laysTable h_X12_picksAsWorth g_X12_picksAsWorth h_X12_goesByTurns g_X12_goesByTurns h_X12_enters g_X12_enters j42 hq)
def xX12_byturns_23 (s_X12_begins : zq_Sp) (s_X12_readsTurns : zq_Sp) (s_X12_laysTable : zq_Sp) (s_X12_picksAsWorth : zq_Sp) (s_X12_goesByTurns : zq_Sp) (s_X12_enters : zq_Sp) (J42 : zq_P) (Q : zq_Q) (ls : zq_L) (st : List Value) (h : zq_H) : Prop := (zi_aload 0 (zi_callV 0 56 s_X12_laysTable (zi_aload 0 (zi_callV 0 56 s_X12_picksAsWorth (zi_aload 0 (zi_callV 0 56 s_X12_goesByTurns (zi_aload 0 (zi_push (.int 0) (zi_putI 56 1 (zi_push (.int 0) (zi_istore 2 (J42)))))))))))) ls st h
theorem kX12_byturns_23 {X : zq_X} {d : Nat} (C : zq_C X cX12_byturns 3 RX12 d) {d_X12_begins : Nat} {s_X12_begins : zq_Sp} (h_X12_begins : zq_M yX12_begins cX12_begins 3 (some .int) 1 d_X12_begins s_X12_begins) (g_X12_begins : d_X12_begins + 1 ≤ d) {d_X12_readsTurns : Nat} {s_X12_readsTurns : zq_Sp} (h_X12_readsTurns : zq_M yX12_readsTurns cX12_readsTurns 3 (some .int) 1 d_X12_readsTurns s_X12_readsTurns) (g_X12_readsTurns : d_X12_readsTurns + 1 ≤ d) {d_X12_laysTable : Nat} {s_X12_laysTable : zq_Sp} (h_X12_laysTable : zq_M yX12_laysTable cX12_laysTable 3 none 0 d_X12_laysTable s_X12_laysTable) (g_X12_laysTable : d_X12_laysTable + 1 ≤ d) {d_X12_picksAsWorth : Nat} {s_X12_picksAsWorth : zq_Sp} (h_X12_picksAsWorth : zq_M yX12_picksAsWorth cX12_picksAsWorth 2 none 0 d_X12_picksAsWorth s_X12_picksAsWorth) (g_X12_picksAsWorth : d_X12_picksAsWorth + 1 ≤ d) {d_X12_goesByTurns : Nat} {s_X12_goesByTurns : zq_Sp} (h_X12_goesByTurns : zq_M yX12_goesByTurns cX12_goesByTurns 6 none 0 d_X12_goesByTurns s_X12_goesByTurns) (g_X12_goesByTurns : d_X12_goesByTurns + 1 ≤ d) {d_X12_enters : Nat} {s_X12_enters : zq_Sp} (h_X12_enters : zq_M yX12_enters cX12_enters 3 none 0 d_X12_enters s_X12_enters) (g_X12_enters : d_X12_enters + 1 ≤ d) {J42 : zq_P} (j42 : zq_ok X 3 42 J42) {Q : zq_Q} (hq : zq_R X (some .int) 1 Q) : zq_ok X 3 23 (xX12_byturns_23 s_X12_begins s_X12_readsTurns s_X12_laysTable s_X12_picksAsWorth s_X12_goesByTurns s_X12_enters J42 Q) := by
  refine zs_aload_n C dX12_byturns_23 rfl ?_
  refine zs_callV C h_X12_laysTable g_X12_laysTable zy_X12_laysTable zp_56 (show vwCl[12]? = some (RX12, TX12, 67) from rfl) zw_1471 zw_1473 zs9_X12_laysTable dX12_byturns_24 ?_
  refine zs_aload_n C dX12_byturns_27 rfl ?_
  refine zs_callV C h_X12_picksAsWorth g_X12_picksAsWorth zy_X12_picksAsWorth zp_56 (show vwCl[12]? = some (RX12, TX12, 67) from rfl) zw_1688 zw_1690 zs9_X12_picksAsWorth dX12_byturns_28 ?_
  refine zs_aload_n C dX12_byturns_31 rfl ?_
  refine zs_callV C h_X12_goesByTurns g_X12_goesByTurns zy_X12_goesByTurns zp_56 (show vwCl[12]? = some (RX12, TX12, 67) from rfl) zw_1692 zw_1694 zs9_X12_goesByTurns dX12_byturns_32 ?_
  refine zs_aload_n C dX12_byturns_35 rfl ?_
  refine zs_iconst C dX12_byturns_36 (by decide) ?_
  refine zs_putI C zp_56 zF12 (j := 1) ⟨by decide, rfl⟩ ⟨rfl, by decide +kernel⟩ zw_1097 dX12_byturns_37 ?_
  refine zs_iconst C dX12_byturns_40 (by decide) ?_
  refine zs_istore_n C dX12_byturns_41 rfl (by decide) ?_
  exact j42
def xX12_byturns_21 (s_X12_begins : zq_Sp) (s_X12_readsTurns : zq_Sp) (s_X12_laysTable : zq_Sp) (s_X12_picksAsWorth : zq_Sp) (s_X12_goesByTurns : zq_Sp) (s_X12_enters : zq_Sp) (J42 : zq_P) (Q : zq_Q) (ls : zq_L) (st : List Value) (h : zq_H) : Prop := (zi_iload 1 (zi_iret Q)) ls st h
theorem kX12_byturns_21 {X : zq_X} {d : Nat} (C : zq_C X cX12_byturns 3 RX12 d) {d_X12_begins : Nat} {s_X12_begins : zq_Sp} (h_X12_begins : zq_M yX12_begins cX12_begins 3 (some .int) 1 d_X12_begins s_X12_begins) (g_X12_begins : d_X12_begins + 1 ≤ d) {d_X12_readsTurns : Nat} {s_X12_readsTurns : zq_Sp} (h_X12_readsTurns : zq_M yX12_readsTurns cX12_readsTurns 3 (some .int) 1 d_X12_readsTurns s_X12_readsTurns) (g_X12_readsTurns : d_X12_readsTurns + 1 ≤ d) {d_X12_laysTable : Nat} {s_X12_laysTable : zq_Sp} (h_X12_laysTable : zq_M yX12_laysTable cX12_laysTable 3 none 0 d_X12_laysTable s_X12_laysTable) (g_X12_laysTable : d_X12_laysTable + 1 ≤ d) {d_X12_picksAsWorth : Nat} {s_X12_picksAsWorth : zq_Sp} (h_X12_picksAsWorth : zq_M yX12_picksAsWorth cX12_picksAsWorth 2 none 0 d_X12_picksAsWorth s_X12_picksAsWorth) (g_X12_picksAsWorth : d_X12_picksAsWorth + 1 ≤ d) {d_X12_goesByTurns : Nat} {s_X12_goesByTurns : zq_Sp} (h_X12_goesByTurns : zq_M yX12_goesByTurns cX12_goesByTurns 6 none 0 d_X12_goesByTurns s_X12_goesByTurns) (g_X12_goesByTurns : d_X12_goesByTurns + 1 ≤ d) {d_X12_enters : Nat} {s_X12_enters : zq_Sp} (h_X12_enters : zq_M yX12_enters cX12_enters 3 none 0 d_X12_enters s_X12_enters) (g_X12_enters : d_X12_enters + 1 ≤ d) {J42 : zq_P} (j42 : zq_ok X 3 42 J42) {Q : zq_Q} (hq : zq_R X (some .int) 1 Q) : zq_ok X 3 21 (xX12_byturns_21 s_X12_begins s_X12_readsTurns s_X12_laysTable s_X12_picksAsWorth s_X12_goesByTurns s_X12_enters J42 Q) := by
  refine zs_iload_n C dX12_byturns_21 rfl ?_
  exact zs_iret C hq dX12_byturns_22
def xX12_byturns_0 (s_X12_begins : zq_Sp) (s_X12_readsTurns : zq_Sp) (s_X12_laysTable : zq_Sp) (s_X12_picksAsWorth : zq_Sp) (s_X12_goesByTurns : zq_Sp) (s_X12_enters : zq_Sp) (J42 : zq_P) (Q : zq_Q) (ls : zq_L) (st : List Value) (h : zq_H) : Prop := (zi_aload 0 (zi_push (.int 0) (zi_putI 56 0 (zi_aload 0 (zi_push (.int 80) (zi_callV 1 56 s_X12_begins (zi_pop (zi_aload 0 (zi_callV 0 56 s_X12_readsTurns (zi_istore 1 (zi_iload 1 (zi_if1 (fun x => 0 ≤ x) (xX12_byturns_23 s_X12_begins s_X12_readsTurns s_X12_laysTable s_X12_picksAsWorth s_X12_goesByTurns s_X12_enters J42 Q) (xX12_byturns_21 s_X12_begins s_X12_readsTurns s_X12_laysTable s_X12_picksAsWorth s_X12_goesByTurns s_X12_enters J42 Q))))))))))))) ls st h
theorem kX12_byturns_0 {X : zq_X} {d : Nat} (C : zq_C X cX12_byturns 3 RX12 d) {d_X12_begins : Nat} {s_X12_begins : zq_Sp} (h_X12_begins : zq_M yX12_begins cX12_begins 3 (some .int) 1 d_X12_begins s_X12_begins) (g_X12_begins : d_X12_begins + 1 ≤ d) {d_X12_readsTurns : Nat} {s_X12_readsTurns : zq_Sp} (h_X12_readsTurns : zq_M yX12_readsTurns cX12_readsTurns 3 (some .int) 1 d_X12_readsTurns s_X12_readsTurns) (g_X12_readsTurns : d_X12_readsTurns + 1 ≤ d) {d_X12_laysTable : Nat} {s_X12_laysTable : zq_Sp} (h_X12_laysTable : zq_M yX12_laysTable cX12_laysTable 3 none 0 d_X12_laysTable s_X12_laysTable) (g_X12_laysTable : d_X12_laysTable + 1 ≤ d) {d_X12_picksAsWorth : Nat} {s_X12_picksAsWorth : zq_Sp} (h_X12_picksAsWorth : zq_M yX12_picksAsWorth cX12_picksAsWorth 2 none 0 d_X12_picksAsWorth s_X12_picksAsWorth) (g_X12_picksAsWorth : d_X12_picksAsWorth + 1 ≤ d) {d_X12_goesByTurns : Nat} {s_X12_goesByTurns : zq_Sp} (h_X12_goesByTurns : zq_M yX12_goesByTurns cX12_goesByTurns 6 none 0 d_X12_goesByTurns s_X12_goesByTurns) (g_X12_goesByTurns : d_X12_goesByTurns + 1 ≤ d) {d_X12_enters : Nat} {s_X12_enters : zq_Sp} (h_X12_enters : zq_M yX12_enters cX12_enters 3 none 0 d_X12_enters s_X12_enters) (g_X12_enters : d_X12_enters + 1 ≤ d) {J42 : zq_P} (j42 : zq_ok X 3 42 J42) {Q : zq_Q} (hq : zq_R X (some .int) 1 Q) : zq_ok X 3 0 (xX12_byturns_0 s_X12_begins s_X12_readsTurns s_X12_laysTable s_X12_picksAsWorth s_X12_goesByTurns s_X12_enters J42 Q) := by
  refine zs_aload_n C dX12_byturns_0 rfl ?_
  refine zs_iconst C dX12_byturns_1 (by decide) ?_
  refine zs_putI C zp_56 zF12 (j := 0) ⟨by decide, rfl⟩ ⟨rfl, by decide +kernel⟩ zw_1096 dX12_byturns_2 ?_
  refine zs_aload_n C dX12_byturns_5 rfl ?_
  refine zs_bipush C dX12_byturns_6 (by decide) ?_
  refine zs_callV C h_X12_begins g_X12_begins zy_X12_begins zp_56 (show vwCl[12]? = some (RX12, TX12, 67) from rfl) zw_1318 zw_1320 zs9_X12_begins dX12_byturns_8 ?_
  refine zs_pop C dX12_byturns_11 ?_
  refine zs_aload_n C dX12_byturns_12 rfl ?_
  refine zs_callV C h_X12_readsTurns g_X12_readsTurns zy_X12_readsTurns zp_56 (show vwCl[12]? = some (RX12, TX12, 67) from rfl) zw_1684 zw_1686 zs9_X12_readsTurns dX12_byturns_13 ?_
  refine zs_istore_n C dX12_byturns_16 rfl (by decide) ?_
  refine zs_iload_n C dX12_byturns_17 rfl ?_
  exact zs_if_ge C dX12_byturns_18 (by decide) (kX12_byturns_23 C h_X12_begins g_X12_begins h_X12_readsTurns g_X12_readsTurns h_X12_laysTable g_X12_laysTable h_X12_picksAsWorth g_X12_picksAsWorth h_X12_goesByTurns g_X12_goesByTurns h_X12_enters g_X12_enters j42 hq) (kX12_byturns_21 C h_X12_begins g_X12_begins h_X12_readsTurns g_X12_readsTurns h_X12_laysTable g_X12_laysTable h_X12_picksAsWorth g_X12_picksAsWorth h_X12_goesByTurns g_X12_goesByTurns h_X12_enters g_X12_enters j42 hq)
theorem mX12_byturns {d : Nat} {spec : zq_Sp} {σ42 : Type} {d_X12_begins : Nat} {s_X12_begins : zq_Sp} (h_X12_begins : zq_M yX12_begins cX12_begins 3 (some .int) 1 d_X12_begins s_X12_begins) (g_X12_begins : d_X12_begins + 1 ≤ d) {d_X12_readsTurns : Nat} {s_X12_readsTurns : zq_Sp} (h_X12_readsTurns : zq_M yX12_readsTurns cX12_readsTurns 3 (some .int) 1 d_X12_readsTurns s_X12_readsTurns) (g_X12_readsTurns : d_X12_readsTurns + 1 ≤ d) {d_X12_laysTable : Nat} {s_X12_laysTable : zq_Sp} (h_X12_laysTable : zq_M yX12_laysTable cX12_laysTable 3 none 0 d_X12_laysTable s_X12_laysTable) (g_X12_laysTable : d_X12_laysTable + 1 ≤ d) {d_X12_picksAsWorth : Nat} {s_X12_picksAsWorth : zq_Sp} (h_X12_picksAsWorth : zq_M yX12_picksAsWorth cX12_picksAsWorth 2 none 0 d_X12_picksAsWorth s_X12_picksAsWorth) (g_X12_picksAsWorth : d_X12_picksAsWorth + 1 ≤ d) {d_X12_goesByTurns : Nat} {s_X12_goesByTurns : zq_Sp} (h_X12_goesByTurns : zq_M yX12_goesByTurns cX12_goesByTurns 6 none 0 d_X12_goesByTurns s_X12_goesByTurns) (g_X12_goesByTurns : d_X12_goesByTurns + 1 ≤ d) {d_X12_enters : Nat} {s_X12_enters : zq_Sp} (h_X12_enters : zq_M yX12_enters cX12_enters 3 none 0 d_X12_enters s_X12_enters) (g_X12_enters : d_X12_enters + 1 ≤ d) (μ42 : σ42 → Nat) (I42 : zq_Q → σ42 → zq_P) (v : ∀ args h Q, spec args h Q → (zq_a args).length ≤ 3 ∧ xX12_byturns_0 s_X12_begins s_X12_readsTurns s_X12_laysTable s_X12_picksAsWorth s_X12_goesByTurns s_X12_enters (fun ls st h => ∃ b, I42 Q b ls st h) Q (zq_l0 3 args) [] h) (v42 : ∀ Q a ls st h, I42 Q a ls st h → xX12_byturns_42 s_X12_begins s_X12_readsTurns s_X12_laysTable s_X12_picksAsWorth s_X12_goesByTurns s_X12_enters (fun ls st h => ∃ b, μ42 b < μ42 a ∧ I42 Q b ls st h) Q ls st h) : zq_M yX12_byturns cX12_byturns 3 (some .int) 1 d spec := by
  refine zq_met (by decide +kernel) (by decide) (fun X Q args h C hq hs => ⟨(v args h Q hs).1, _, ?_, (v args h Q hs).2⟩)
  have hl := zq_loop1 (X := X) (nL := 3) (pc1 := 42) μ42 (I42 Q) (fun J42 => xX12_byturns_42 s_X12_begins s_X12_readsTurns s_X12_laysTable s_X12_picksAsWorth s_X12_goesByTurns s_X12_enters J42 Q) (fun j42 => kX12_byturns_42 C h_X12_begins g_X12_begins h_X12_readsTurns g_X12_readsTurns h_X12_laysTable g_X12_laysTable h_X12_picksAsWorth g_X12_picksAsWorth h_X12_goesByTurns g_X12_goesByTurns h_X12_enters g_X12_enters j42 hq) (v42 Q)
  exact kX12_byturns_0 C h_X12_begins g_X12_begins h_X12_readsTurns g_X12_readsTurns h_X12_laysTable g_X12_laysTable h_X12_picksAsWorth g_X12_picksAsWorth h_X12_goesByTurns g_X12_goesByTurns h_X12_enters g_X12_enters hl hq
/-! ToOneCrumbModel.lies(I)I -/
theorem dX12_lies_0 : decode cX12_lies 0 = .ok (.aload_n 0, 1) := by decide +kernel
theorem dX12_lies_1 : decode cX12_lies 1 = .ok (.iconst 0, 1) := by decide +kernel
theorem dX12_lies_2 : decode cX12_lies 2 = .ok (.putfield 147, 3) := by decide +kernel
theorem dX12_lies_5 : decode cX12_lies 5 = .ok (.aload_n 0, 1) := by decide +kernel
theorem dX12_lies_6 : decode cX12_lies 6 = .ok (.bipush 80, 2) := by decide +kernel
theorem dX12_lies_8 : decode cX12_lies 8 = .ok (.invokevirtual 218, 3) := by decide +kernel
theorem dX12_lies_11 : decode cX12_lies 11 = .ok (.pop, 1) := by decide +kernel
theorem dX12_lies_12 : decode cX12_lies 12 = .ok (.aload_n 0, 1) := by decide +kernel
theorem dX12_lies_13 : decode cX12_lies 13 = .ok (.iload_n 1, 1) := by decide +kernel
theorem dX12_lies_14 : decode cX12_lies 14 = .ok (.invokevirtual 313, 3) := by decide +kernel
theorem dX12_lies_17 : decode cX12_lies 17 = .ok (.ifCond .ne 6, 3) := by decide +kernel
theorem dX12_lies_20 : decode cX12_lies 20 = .ok (.bipush (-100), 2) := by decide +kernel
theorem dX12_lies_22 : decode cX12_lies 22 = .ok (.ireturn, 1) := by decide +kernel
theorem dX12_lies_23 : decode cX12_lies 23 = .ok (.aload_n 0, 1) := by decide +kernel
theorem dX12_lies_24 : decode cX12_lies 24 = .ok (.invokevirtual 434, 3) := by decide +kernel
theorem dX12_lies_27 : decode cX12_lies 27 = .ok (.istore_n 2, 1) := by decide +kernel
theorem dX12_lies_28 : decode cX12_lies 28 = .ok (.iload_n 2, 1) := by decide +kernel
theorem dX12_lies_29 : decode cX12_lies 29 = .ok (.ifCond .ge 5, 3) := by decide +kernel
theorem dX12_lies_32 : decode cX12_lies 32 = .ok (.iload_n 2, 1) := by decide +kernel
theorem dX12_lies_33 : decode cX12_lies 33 = .ok (.ireturn, 1) := by decide +kernel
theorem dX12_lies_34 : decode cX12_lies 34 = .ok (.aload_n 0, 1) := by decide +kernel
theorem dX12_lies_35 : decode cX12_lies 35 = .ok (.invokevirtual 318, 3) := by decide +kernel
theorem dX12_lies_38 : decode cX12_lies 38 = .ok (.aload_n 0, 1) := by decide +kernel
theorem dX12_lies_39 : decode cX12_lies 39 = .ok (.invokevirtual 437, 3) := by decide +kernel
theorem dX12_lies_42 : decode cX12_lies 42 = .ok (.aload_n 0, 1) := by decide +kernel
theorem dX12_lies_43 : decode cX12_lies 43 = .ok (.invokevirtual 440, 3) := by decide +kernel
theorem dX12_lies_46 : decode cX12_lies 46 = .ok (.aload_n 0, 1) := by decide +kernel
theorem dX12_lies_47 : decode cX12_lies 47 = .ok (.getfield 111, 3) := by decide +kernel
theorem dX12_lies_50 : decode cX12_lies 50 = .ok (.iload_n 1, 1) := by decide +kernel
theorem dX12_lies_51 : decode cX12_lies 51 = .ok (.iaload, 1) := by decide +kernel
theorem dX12_lies_52 : decode cX12_lies 52 = .ok (.istore_n 3, 1) := by decide +kernel
theorem dX12_lies_53 : decode cX12_lies 53 = .ok (.iconst 0, 1) := by decide +kernel
theorem dX12_lies_54 : decode cX12_lies 54 = .ok (.istore 4, 2) := by decide +kernel
theorem dX12_lies_56 : decode cX12_lies 56 = .ok (.iconst (-1), 1) := by decide +kernel
theorem dX12_lies_57 : decode cX12_lies 57 = .ok (.istore 5, 2) := by decide +kernel
theorem dX12_lies_59 : decode cX12_lies 59 = .ok (.iconst (-1), 1) := by decide +kernel
theorem dX12_lies_60 : decode cX12_lies 60 = .ok (.istore 6, 2) := by decide +kernel
theorem dX12_lies_62 : decode cX12_lies 62 = .ok (.iconst 0, 1) := by decide +kernel
theorem dX12_lies_63 : decode cX12_lies 63 = .ok (.istore 7, 2) := by decide +kernel
theorem dX12_lies_65 : decode cX12_lies 65 = .ok (.iload 7, 2) := by decide +kernel
theorem dX12_lies_67 : decode cX12_lies 67 = .ok (.iconst 3, 1) := by decide +kernel
theorem dX12_lies_68 : decode cX12_lies 68 = .ok (.if_icmp .ge 136, 3) := by decide +kernel
theorem dX12_lies_71 : decode cX12_lies 71 = .ok (.iconst 0, 1) := by decide +kernel
theorem dX12_lies_72 : decode cX12_lies 72 = .ok (.istore 8, 2) := by decide +kernel
theorem dX12_lies_74 : decode cX12_lies 74 = .ok (.iload 8, 2) := by decide +kernel
theorem dX12_lies_76 : decode cX12_lies 76 = .ok (.bipush 9, 2) := by decide +kernel
theorem dX12_lies_78 : decode cX12_lies 78 = .ok (.if_icmp .gt 120, 3) := by decide +kernel
theorem dX12_lies_81 : decode cX12_lies 81 = .ok (.aload_n 0, 1) := by decide +kernel
theorem dX12_lies_82 : decode cX12_lies 82 = .ok (.getfield 24, 3) := by decide +kernel
theorem dX12_lies_85 : decode cX12_lies 85 = .ok (.iconst 3, 1) := by decide +kernel
theorem dX12_lies_86 : decode cX12_lies 86 = .ok (.iload_n 1, 1) := by decide +kernel
theorem dX12_lies_87 : decode cX12_lies 87 = .ok (.imul, 1) := by decide +kernel
theorem dX12_lies_88 : decode cX12_lies 88 = .ok (.iload 7, 2) := by decide +kernel
theorem dX12_lies_90 : decode cX12_lies 90 = .ok (.iadd, 1) := by decide +kernel
theorem dX12_lies_91 : decode cX12_lies 91 = .ok (.iaload, 1) := by decide +kernel
theorem dX12_lies_92 : decode cX12_lies 92 = .ok (.istore 9, 2) := by decide +kernel
theorem dX12_lies_94 : decode cX12_lies 94 = .ok (.aload_n 0, 1) := by decide +kernel
theorem dX12_lies_95 : decode cX12_lies 95 = .ok (.getfield 24, 3) := by decide +kernel
theorem dX12_lies_98 : decode cX12_lies 98 = .ok (.iconst 3, 1) := by decide +kernel
theorem dX12_lies_99 : decode cX12_lies 99 = .ok (.iload_n 1, 1) := by decide +kernel
theorem dX12_lies_100 : decode cX12_lies 100 = .ok (.imul, 1) := by decide +kernel
theorem dX12_lies_101 : decode cX12_lies 101 = .ok (.iload 7, 2) := by decide +kernel
theorem dX12_lies_103 : decode cX12_lies 103 = .ok (.iadd, 1) := by decide +kernel
theorem dX12_lies_104 : decode cX12_lies 104 = .ok (.iload 8, 2) := by decide +kernel
theorem dX12_lies_106 : decode cX12_lies 106 = .ok (.iastore, 1) := by decide +kernel
theorem dX12_lies_107 : decode cX12_lies 107 = .ok (.iconst 0, 1) := by decide +kernel
theorem dX12_lies_108 : decode cX12_lies 108 = .ok (.istore 10, 2) := by decide +kernel
theorem dX12_lies_110 : decode cX12_lies 110 = .ok (.iload 10, 2) := by decide +kernel
theorem dX12_lies_112 : decode cX12_lies 112 = .ok (.aload_n 0, 1) := by decide +kernel
theorem dX12_lies_113 : decode cX12_lies 113 = .ok (.getfield 158, 3) := by decide +kernel
theorem dX12_lies_116 : decode cX12_lies 116 = .ok (.if_icmp .ge 28, 3) := by decide +kernel
theorem dX12_lies_119 : decode cX12_lies 119 = .ok (.aload_n 0, 1) := by decide +kernel
theorem dX12_lies_120 : decode cX12_lies 120 = .ok (.getfield 108, 3) := by decide +kernel
theorem dX12_lies_123 : decode cX12_lies 123 = .ok (.bipush 16, 2) := by decide +kernel
theorem dX12_lies_125 : decode cX12_lies 125 = .ok (.iload_n 1, 1) := by decide +kernel
theorem dX12_lies_126 : decode cX12_lies 126 = .ok (.imul, 1) := by decide +kernel
theorem dX12_lies_127 : decode cX12_lies 127 = .ok (.iload 10, 2) := by decide +kernel
theorem dX12_lies_129 : decode cX12_lies 129 = .ok (.iadd, 1) := by decide +kernel
theorem dX12_lies_130 : decode cX12_lies 130 = .ok (.aload_n 0, 1) := by decide +kernel
theorem dX12_lies_131 : decode cX12_lies 131 = .ok (.iload_n 1, 1) := by decide +kernel
theorem dX12_lies_132 : decode cX12_lies 132 = .ok (.iload 10, 2) := by decide +kernel
theorem dX12_lies_134 : decode cX12_lies 134 = .ok (.invokevirtual 303, 3) := by decide +kernel
theorem dX12_lies_137 : decode cX12_lies 137 = .ok (.iastore, 1) := by decide +kernel
theorem dX12_lies_138 : decode cX12_lies 138 = .ok (.iinc 10 1, 3) := by decide +kernel
theorem dX12_lies_141 : decode cX12_lies 141 = .ok (.goto (-31), 3) := by decide +kernel
theorem dX12_lies_144 : decode cX12_lies 144 = .ok (.aload_n 0, 1) := by decide +kernel
theorem dX12_lies_145 : decode cX12_lies 145 = .ok (.getfield 24, 3) := by decide +kernel
theorem dX12_lies_148 : decode cX12_lies 148 = .ok (.iconst 3, 1) := by decide +kernel
theorem dX12_lies_149 : decode cX12_lies 149 = .ok (.iload_n 1, 1) := by decide +kernel
theorem dX12_lies_150 : decode cX12_lies 150 = .ok (.imul, 1) := by decide +kernel
theorem dX12_lies_151 : decode cX12_lies 151 = .ok (.iload 7, 2) := by decide +kernel
theorem dX12_lies_153 : decode cX12_lies 153 = .ok (.iadd, 1) := by decide +kernel
theorem dX12_lies_154 : decode cX12_lies 154 = .ok (.iload 9, 2) := by decide +kernel
theorem dX12_lies_156 : decode cX12_lies 156 = .ok (.iastore, 1) := by decide +kernel
theorem dX12_lies_157 : decode cX12_lies 157 = .ok (.aload_n 0, 1) := by decide +kernel
theorem dX12_lies_158 : decode cX12_lies 158 = .ok (.invokevirtual 440, 3) := by decide +kernel
theorem dX12_lies_161 : decode cX12_lies 161 = .ok (.aload_n 0, 1) := by decide +kernel
theorem dX12_lies_162 : decode cX12_lies 162 = .ok (.getfield 111, 3) := by decide +kernel
theorem dX12_lies_165 : decode cX12_lies 165 = .ok (.iload_n 1, 1) := by decide +kernel
theorem dX12_lies_166 : decode cX12_lies 166 = .ok (.iaload, 1) := by decide +kernel
theorem dX12_lies_167 : decode cX12_lies 167 = .ok (.iload_n 3, 1) := by decide +kernel
theorem dX12_lies_168 : decode cX12_lies 168 = .ok (.isub, 1) := by decide +kernel
theorem dX12_lies_169 : decode cX12_lies 169 = .ok (.iload 4, 2) := by decide +kernel
theorem dX12_lies_171 : decode cX12_lies 171 = .ok (.if_icmp .le 21, 3) := by decide +kernel
theorem dX12_lies_174 : decode cX12_lies 174 = .ok (.aload_n 0, 1) := by decide +kernel
theorem dX12_lies_175 : decode cX12_lies 175 = .ok (.getfield 111, 3) := by decide +kernel
theorem dX12_lies_178 : decode cX12_lies 178 = .ok (.iload_n 1, 1) := by decide +kernel
theorem dX12_lies_179 : decode cX12_lies 179 = .ok (.iaload, 1) := by decide +kernel
theorem dX12_lies_180 : decode cX12_lies 180 = .ok (.iload_n 3, 1) := by decide +kernel
theorem dX12_lies_181 : decode cX12_lies 181 = .ok (.isub, 1) := by decide +kernel
theorem dX12_lies_182 : decode cX12_lies 182 = .ok (.istore 4, 2) := by decide +kernel
theorem dX12_lies_184 : decode cX12_lies 184 = .ok (.iload 7, 2) := by decide +kernel
theorem dX12_lies_186 : decode cX12_lies 186 = .ok (.istore 5, 2) := by decide +kernel
theorem dX12_lies_188 : decode cX12_lies 188 = .ok (.iload 8, 2) := by decide +kernel
theorem dX12_lies_190 : decode cX12_lies 190 = .ok (.istore 6, 2) := by decide +kernel
theorem dX12_lies_192 : decode cX12_lies 192 = .ok (.iinc 8 1, 3) := by decide +kernel
theorem dX12_lies_195 : decode cX12_lies 195 = .ok (.goto (-121), 3) := by decide +kernel
theorem dX12_lies_198 : decode cX12_lies 198 = .ok (.iinc 7 1, 3) := by decide +kernel
theorem dX12_lies_201 : decode cX12_lies 201 = .ok (.goto (-136), 3) := by decide +kernel
theorem dX12_lies_204 : decode cX12_lies 204 = .ok (.aload_n 0, 1) := by decide +kernel
theorem dX12_lies_205 : decode cX12_lies 205 = .ok (.iconst 0, 1) := by decide +kernel
theorem dX12_lies_206 : decode cX12_lies 206 = .ok (.putfield 155, 3) := by decide +kernel
theorem dX12_lies_209 : decode cX12_lies 209 = .ok (.iload 4, 2) := by decide +kernel
theorem dX12_lies_211 : decode cX12_lies 211 = .ok (.ifCond .le 17, 3) := by decide +kernel
theorem dX12_lies_214 : decode cX12_lies 214 = .ok (.aload_n 0, 1) := by decide +kernel
theorem dX12_lies_215 : decode cX12_lies 215 = .ok (.iload 5, 2) := by decide +kernel
theorem dX12_lies_217 : decode cX12_lies 217 = .ok (.i2l, 1) := by decide +kernel
theorem dX12_lies_218 : decode cX12_lies 218 = .ok (.invokevirtual 368, 3) := by decide +kernel
theorem dX12_lies_221 : decode cX12_lies 221 = .ok (.aload_n 0, 1) := by decide +kernel
theorem dX12_lies_222 : decode cX12_lies 222 = .ok (.iload 6, 2) := by decide +kernel
theorem dX12_lies_224 : decode cX12_lies 224 = .ok (.i2l, 1) := by decide +kernel
theorem dX12_lies_225 : decode cX12_lies 225 = .ok (.invokevirtual 368, 3) := by decide +kernel
theorem dX12_lies_228 : decode cX12_lies 228 = .ok (.iload 4, 2) := by decide +kernel
theorem dX12_lies_230 : decode cX12_lies 230 = .ok (.ireturn, 1) := by decide +kernel
def xX12_lies_228 (s_X12_begins : zq_Sp) (s_X12_isGuest : zq_Sp) (s_X12_readsTurns : zq_Sp) (s_X12_laysTable : zq_Sp) (s_X12_picksAsWorth : zq_Sp) (s_X12_goesByTurns : zq_Sp) (s_X12_worthOf : zq_Sp) (s_X12_enters : zq_Sp) (J65 : zq_P) (J74 : zq_P) (J110 : zq_P) (Q : zq_Q) (ls : zq_L) (st : List Value) (h : zq_H) : Prop := (zi_iload 4 (zi_iret Q)) ls st h
theorem kX12_lies_228 {X : zq_X} {d : Nat} (C : zq_C X cX12_lies 11 RX12 d) {d_X12_begins : Nat} {s_X12_begins : zq_Sp} (h_X12_begins : zq_M yX12_begins cX12_begins 3 (some .int) 1 d_X12_begins s_X12_begins) (g_X12_begins : d_X12_begins + 1 ≤ d) {d_X12_isGuest : Nat} {s_X12_isGuest : zq_Sp} (h_X12_isGuest : zq_M yX12_isGuest cX12_isGuest 2 (some .boolean) 1 d_X12_isGuest s_X12_isGuest) (g_X12_isGuest : d_X12_isGuest + 1 ≤ d) {d_X12_readsTurns : Nat} {s_X12_readsTurns : zq_Sp} (h_X12_readsTurns : zq_M yX12_readsTurns cX12_readsTurns 3 (some .int) 1 d_X12_readsTurns s_X12_readsTurns) (g_X12_readsTurns : d_X12_readsTurns + 1 ≤ d) {d_X12_laysTable : Nat} {s_X12_laysTable : zq_Sp} (h_X12_laysTable : zq_M yX12_laysTable cX12_laysTable 3 none 0 d_X12_laysTable s_X12_laysTable) (g_X12_laysTable : d_X12_laysTable + 1 ≤ d) {d_X12_picksAsWorth : Nat} {s_X12_picksAsWorth : zq_Sp} (h_X12_picksAsWorth : zq_M yX12_picksAsWorth cX12_picksAsWorth 2 none 0 d_X12_picksAsWorth s_X12_picksAsWorth) (g_X12_picksAsWorth : d_X12_picksAsWorth + 1 ≤ d) {d_X12_goesByTurns : Nat} {s_X12_goesByTurns : zq_Sp} (h_X12_goesByTurns : zq_M yX12_goesByTurns cX12_goesByTurns 6 none 0 d_X12_goesByTurns s_X12_goesByTurns) (g_X12_goesByTurns : d_X12_goesByTurns + 1 ≤ d) {d_X12_worthOf : Nat} {s_X12_worthOf : zq_Sp} (h_X12_worthOf : zq_M yX12_worthOf cX12_worthOf 3 (some .int) 1 d_X12_worthOf s_X12_worthOf) (g_X12_worthOf : d_X12_worthOf + 1 ≤ d) {d_X12_enters : Nat} {s_X12_enters : zq_Sp} (h_X12_enters : zq_M yX12_enters cX12_enters 3 none 0 d_X12_enters s_X12_enters) (g_X12_enters : d_X12_enters + 1 ≤ d) {J65 : zq_P} (j65 : zq_ok X 11 65 J65) {J74 : zq_P} (j74 : zq_ok X 11 74 J74) {J110 : zq_P} (j110 : zq_ok X 11 110 J110) {Q : zq_Q} (hq : zq_R X (some .int) 1 Q) : zq_ok X 11 228 (xX12_lies_228 s_X12_begins s_X12_isGuest s_X12_readsTurns s_X12_laysTable s_X12_picksAsWorth s_X12_goesByTurns s_X12_worthOf s_X12_enters J65 J74 J110 Q) := by
  refine zs_iload C dX12_lies_228 ?_
  exact zs_iret C hq dX12_lies_230
def xX12_lies_214 (s_X12_begins : zq_Sp) (s_X12_isGuest : zq_Sp) (s_X12_readsTurns : zq_Sp) (s_X12_laysTable : zq_Sp) (s_X12_picksAsWorth : zq_Sp) (s_X12_goesByTurns : zq_Sp) (s_X12_worthOf : zq_Sp) (s_X12_enters : zq_Sp) (J65 : zq_P) (J74 : zq_P) (J110 : zq_P) (Q : zq_Q) (ls : zq_L) (st : List Value) (h : zq_H) : Prop := (zi_aload 0 (zi_iload 5 (zi_i2l (zi_callV 1 56 s_X12_enters (zi_aload 0 (zi_iload 6 (zi_i2l (zi_callV 1 56 s_X12_enters ((xX12_lies_228 s_X12_begins s_X12_isGuest s_X12_readsTurns s_X12_laysTable s_X12_picksAsWorth s_X12_goesByTurns s_X12_worthOf s_X12_enters J65 J74 J110 Q)))))))))) ls st h
theorem kX12_lies_214 {X : zq_X} {d : Nat} (C : zq_C X cX12_lies 11 RX12 d) {d_X12_begins : Nat} {s_X12_begins : zq_Sp} (h_X12_begins : zq_M yX12_begins cX12_begins 3 (some .int) 1 d_X12_begins s_X12_begins) (g_X12_begins : d_X12_begins + 1 ≤ d) {d_X12_isGuest : Nat} {s_X12_isGuest : zq_Sp} (h_X12_isGuest : zq_M yX12_isGuest cX12_isGuest 2 (some .boolean) 1 d_X12_isGuest s_X12_isGuest) (g_X12_isGuest : d_X12_isGuest + 1 ≤ d) {d_X12_readsTurns : Nat} {s_X12_readsTurns : zq_Sp} (h_X12_readsTurns : zq_M yX12_readsTurns cX12_readsTurns 3 (some .int) 1 d_X12_readsTurns s_X12_readsTurns) (g_X12_readsTurns : d_X12_readsTurns + 1 ≤ d) {d_X12_laysTable : Nat} {s_X12_laysTable : zq_Sp} (h_X12_laysTable : zq_M yX12_laysTable cX12_laysTable 3 none 0 d_X12_laysTable s_X12_laysTable) (g_X12_laysTable : d_X12_laysTable + 1 ≤ d) {d_X12_picksAsWorth : Nat} {s_X12_picksAsWorth : zq_Sp} (h_X12_picksAsWorth : zq_M yX12_picksAsWorth cX12_picksAsWorth 2 none 0 d_X12_picksAsWorth s_X12_picksAsWorth) (g_X12_picksAsWorth : d_X12_picksAsWorth + 1 ≤ d) {d_X12_goesByTurns : Nat} {s_X12_goesByTurns : zq_Sp} (h_X12_goesByTurns : zq_M yX12_goesByTurns cX12_goesByTurns 6 none 0 d_X12_goesByTurns s_X12_goesByTurns) (g_X12_goesByTurns : d_X12_goesByTurns + 1 ≤ d) {d_X12_worthOf : Nat} {s_X12_worthOf : zq_Sp} (h_X12_worthOf : zq_M yX12_worthOf cX12_worthOf 3 (some .int) 1 d_X12_worthOf s_X12_worthOf) (g_X12_worthOf : d_X12_worthOf + 1 ≤ d) {d_X12_enters : Nat} {s_X12_enters : zq_Sp} (h_X12_enters : zq_M yX12_enters cX12_enters 3 none 0 d_X12_enters s_X12_enters) (g_X12_enters : d_X12_enters + 1 ≤ d) {J65 : zq_P} (j65 : zq_ok X 11 65 J65) {J74 : zq_P} (j74 : zq_ok X 11 74 J74) {J110 : zq_P} (j110 : zq_ok X 11 110 J110) {Q : zq_Q} (hq : zq_R X (some .int) 1 Q) : zq_ok X 11 214 (xX12_lies_214 s_X12_begins s_X12_isGuest s_X12_readsTurns s_X12_laysTable s_X12_picksAsWorth s_X12_goesByTurns s_X12_worthOf s_X12_enters J65 J74 J110 Q) := by
  refine zs_aload_n C dX12_lies_214 rfl ?_
  refine zs_iload C dX12_lies_215 ?_
  refine zs_i2l C dX12_lies_217 ?_
  refine zs_callV C h_X12_enters g_X12_enters zy_X12_enters zp_56 (show vwCl[12]? = some (RX12, TX12, 67) from rfl) zw_1574 zw_1576 zs9_X12_enters dX12_lies_218 ?_
  refine zs_aload_n C dX12_lies_221 rfl ?_
  refine zs_iload C dX12_lies_222 ?_
  refine zs_i2l C dX12_lies_224 ?_
  refine zs_callV C h_X12_enters g_X12_enters zy_X12_enters zp_56 (show vwCl[12]? = some (RX12, TX12, 67) from rfl) zw_1574 zw_1576 zs9_X12_enters dX12_lies_225 ?_
  exact kX12_lies_228 C h_X12_begins g_X12_begins h_X12_isGuest g_X12_isGuest h_X12_readsTurns g_X12_readsTurns h_X12_laysTable g_X12_laysTable h_X12_picksAsWorth g_X12_picksAsWorth h_X12_goesByTurns g_X12_goesByTurns h_X12_worthOf g_X12_worthOf h_X12_enters g_X12_enters j65 j74 j110 hq
def xX12_lies_204 (s_X12_begins : zq_Sp) (s_X12_isGuest : zq_Sp) (s_X12_readsTurns : zq_Sp) (s_X12_laysTable : zq_Sp) (s_X12_picksAsWorth : zq_Sp) (s_X12_goesByTurns : zq_Sp) (s_X12_worthOf : zq_Sp) (s_X12_enters : zq_Sp) (J65 : zq_P) (J74 : zq_P) (J110 : zq_P) (Q : zq_Q) (ls : zq_L) (st : List Value) (h : zq_H) : Prop := (zi_aload 0 (zi_push (.int 0) (zi_putI 56 1 (zi_iload 4 (zi_if1 (fun x => x ≤ 0) (xX12_lies_228 s_X12_begins s_X12_isGuest s_X12_readsTurns s_X12_laysTable s_X12_picksAsWorth s_X12_goesByTurns s_X12_worthOf s_X12_enters J65 J74 J110 Q) (xX12_lies_214 s_X12_begins s_X12_isGuest s_X12_readsTurns s_X12_laysTable s_X12_picksAsWorth s_X12_goesByTurns s_X12_worthOf s_X12_enters J65 J74 J110 Q)))))) ls st h
theorem kX12_lies_204 {X : zq_X} {d : Nat} (C : zq_C X cX12_lies 11 RX12 d) {d_X12_begins : Nat} {s_X12_begins : zq_Sp} (h_X12_begins : zq_M yX12_begins cX12_begins 3 (some .int) 1 d_X12_begins s_X12_begins) (g_X12_begins : d_X12_begins + 1 ≤ d) {d_X12_isGuest : Nat} {s_X12_isGuest : zq_Sp} (h_X12_isGuest : zq_M yX12_isGuest cX12_isGuest 2 (some .boolean) 1 d_X12_isGuest s_X12_isGuest) (g_X12_isGuest : d_X12_isGuest + 1 ≤ d) {d_X12_readsTurns : Nat} {s_X12_readsTurns : zq_Sp} (h_X12_readsTurns : zq_M yX12_readsTurns cX12_readsTurns 3 (some .int) 1 d_X12_readsTurns s_X12_readsTurns) (g_X12_readsTurns : d_X12_readsTurns + 1 ≤ d) {d_X12_laysTable : Nat} {s_X12_laysTable : zq_Sp} (h_X12_laysTable : zq_M yX12_laysTable cX12_laysTable 3 none 0 d_X12_laysTable s_X12_laysTable) (g_X12_laysTable : d_X12_laysTable + 1 ≤ d) {d_X12_picksAsWorth : Nat} {s_X12_picksAsWorth : zq_Sp} (h_X12_picksAsWorth : zq_M yX12_picksAsWorth cX12_picksAsWorth 2 none 0 d_X12_picksAsWorth s_X12_picksAsWorth) (g_X12_picksAsWorth : d_X12_picksAsWorth + 1 ≤ d) {d_X12_goesByTurns : Nat} {s_X12_goesByTurns : zq_Sp} (h_X12_goesByTurns : zq_M yX12_goesByTurns cX12_goesByTurns 6 none 0 d_X12_goesByTurns s_X12_goesByTurns) (g_X12_goesByTurns : d_X12_goesByTurns + 1 ≤ d) {d_X12_worthOf : Nat} {s_X12_worthOf : zq_Sp} (h_X12_worthOf : zq_M yX12_worthOf cX12_worthOf 3 (some .int) 1 d_X12_worthOf s_X12_worthOf) (g_X12_worthOf : d_X12_worthOf + 1 ≤ d) {d_X12_enters : Nat} {s_X12_enters : zq_Sp} (h_X12_enters : zq_M yX12_enters cX12_enters 3 none 0 d_X12_enters s_X12_enters) (g_X12_enters : d_X12_enters + 1 ≤ d) {J65 : zq_P} (j65 : zq_ok X 11 65 J65) {J74 : zq_P} (j74 : zq_ok X 11 74 J74) {J110 : zq_P} (j110 : zq_ok X 11 110 J110) {Q : zq_Q} (hq : zq_R X (some .int) 1 Q) : zq_ok X 11 204 (xX12_lies_204 s_X12_begins s_X12_isGuest s_X12_readsTurns s_X12_laysTable s_X12_picksAsWorth s_X12_goesByTurns s_X12_worthOf s_X12_enters J65 J74 J110 Q) := by
  refine zs_aload_n C dX12_lies_204 rfl ?_
  refine zs_iconst C dX12_lies_205 (by decide) ?_
  refine zs_putI C zp_56 zF12 (j := 1) ⟨by decide, rfl⟩ ⟨rfl, by decide +kernel⟩ zw_1097 dX12_lies_206 ?_
  refine zs_iload C dX12_lies_209 ?_
  exact zs_if_le C dX12_lies_211 (by decide) (kX12_lies_228 C h_X12_begins g_X12_begins h_X12_isGuest g_X12_isGuest h_X12_readsTurns g_X12_readsTurns h_X12_laysTable g_X12_laysTable h_X12_picksAsWorth g_X12_picksAsWorth h_X12_goesByTurns g_X12_goesByTurns h_X12_worthOf g_X12_worthOf h_X12_enters g_X12_enters j65 j74 j110 hq) (kX12_lies_214 C h_X12_begins g_X12_begins h_X12_isGuest g_X12_isGuest h_X12_readsTurns g_X12_readsTurns h_X12_laysTable g_X12_laysTable h_X12_picksAsWorth g_X12_picksAsWorth h_X12_goesByTurns g_X12_goesByTurns h_X12_worthOf g_X12_worthOf h_X12_enters g_X12_enters j65 j74 j110 hq)
def xX12_lies_198 (s_X12_begins : zq_Sp) (s_X12_isGuest : zq_Sp) (s_X12_readsTurns : zq_Sp) (s_X12_laysTable : zq_Sp) (s_X12_picksAsWorth : zq_Sp) (s_X12_goesByTurns : zq_Sp) (s_X12_worthOf : zq_Sp) (s_X12_enters : zq_Sp) (J65 : zq_P) (J74 : zq_P) (J110 : zq_P) (Q : zq_Q) (ls : zq_L) (st : List Value) (h : zq_H) : Prop := (zi_iinc 7 1 (J65)) ls st h
theorem kX12_lies_198 {X : zq_X} {d : Nat} (C : zq_C X cX12_lies 11 RX12 d) {d_X12_begins : Nat} {s_X12_begins : zq_Sp} (h_X12_begins : zq_M yX12_begins cX12_begins 3 (some .int) 1 d_X12_begins s_X12_begins) (g_X12_begins : d_X12_begins + 1 ≤ d) {d_X12_isGuest : Nat} {s_X12_isGuest : zq_Sp} (h_X12_isGuest : zq_M yX12_isGuest cX12_isGuest 2 (some .boolean) 1 d_X12_isGuest s_X12_isGuest) (g_X12_isGuest : d_X12_isGuest + 1 ≤ d) {d_X12_readsTurns : Nat} {s_X12_readsTurns : zq_Sp} (h_X12_readsTurns : zq_M yX12_readsTurns cX12_readsTurns 3 (some .int) 1 d_X12_readsTurns s_X12_readsTurns) (g_X12_readsTurns : d_X12_readsTurns + 1 ≤ d) {d_X12_laysTable : Nat} {s_X12_laysTable : zq_Sp} (h_X12_laysTable : zq_M yX12_laysTable cX12_laysTable 3 none 0 d_X12_laysTable s_X12_laysTable) (g_X12_laysTable : d_X12_laysTable + 1 ≤ d) {d_X12_picksAsWorth : Nat} {s_X12_picksAsWorth : zq_Sp} (h_X12_picksAsWorth : zq_M yX12_picksAsWorth cX12_picksAsWorth 2 none 0 d_X12_picksAsWorth s_X12_picksAsWorth) (g_X12_picksAsWorth : d_X12_picksAsWorth + 1 ≤ d) {d_X12_goesByTurns : Nat} {s_X12_goesByTurns : zq_Sp} (h_X12_goesByTurns : zq_M yX12_goesByTurns cX12_goesByTurns 6 none 0 d_X12_goesByTurns s_X12_goesByTurns) (g_X12_goesByTurns : d_X12_goesByTurns + 1 ≤ d) {d_X12_worthOf : Nat} {s_X12_worthOf : zq_Sp} (h_X12_worthOf : zq_M yX12_worthOf cX12_worthOf 3 (some .int) 1 d_X12_worthOf s_X12_worthOf) (g_X12_worthOf : d_X12_worthOf + 1 ≤ d) {d_X12_enters : Nat} {s_X12_enters : zq_Sp} (h_X12_enters : zq_M yX12_enters cX12_enters 3 none 0 d_X12_enters s_X12_enters) (g_X12_enters : d_X12_enters + 1 ≤ d) {J65 : zq_P} (j65 : zq_ok X 11 65 J65) {J74 : zq_P} (j74 : zq_ok X 11 74 J74) {J110 : zq_P} (j110 : zq_ok X 11 110 J110) {Q : zq_Q} (hq : zq_R X (some .int) 1 Q) : zq_ok X 11 198 (xX12_lies_198 s_X12_begins s_X12_isGuest s_X12_readsTurns s_X12_laysTable s_X12_picksAsWorth s_X12_goesByTurns s_X12_worthOf s_X12_enters J65 J74 J110 Q) := by
  refine zs_iinc C dX12_lies_198 (by decide) (by decide) ?_
  exact zs_goto C dX12_lies_201 (by decide) (j65)
def xX12_lies_192 (s_X12_begins : zq_Sp) (s_X12_isGuest : zq_Sp) (s_X12_readsTurns : zq_Sp) (s_X12_laysTable : zq_Sp) (s_X12_picksAsWorth : zq_Sp) (s_X12_goesByTurns : zq_Sp) (s_X12_worthOf : zq_Sp) (s_X12_enters : zq_Sp) (J65 : zq_P) (J74 : zq_P) (J110 : zq_P) (Q : zq_Q) (ls : zq_L) (st : List Value) (h : zq_H) : Prop := (zi_iinc 8 1 (J74)) ls st h
theorem kX12_lies_192 {X : zq_X} {d : Nat} (C : zq_C X cX12_lies 11 RX12 d) {d_X12_begins : Nat} {s_X12_begins : zq_Sp} (h_X12_begins : zq_M yX12_begins cX12_begins 3 (some .int) 1 d_X12_begins s_X12_begins) (g_X12_begins : d_X12_begins + 1 ≤ d) {d_X12_isGuest : Nat} {s_X12_isGuest : zq_Sp} (h_X12_isGuest : zq_M yX12_isGuest cX12_isGuest 2 (some .boolean) 1 d_X12_isGuest s_X12_isGuest) (g_X12_isGuest : d_X12_isGuest + 1 ≤ d) {d_X12_readsTurns : Nat} {s_X12_readsTurns : zq_Sp} (h_X12_readsTurns : zq_M yX12_readsTurns cX12_readsTurns 3 (some .int) 1 d_X12_readsTurns s_X12_readsTurns) (g_X12_readsTurns : d_X12_readsTurns + 1 ≤ d) {d_X12_laysTable : Nat} {s_X12_laysTable : zq_Sp} (h_X12_laysTable : zq_M yX12_laysTable cX12_laysTable 3 none 0 d_X12_laysTable s_X12_laysTable) (g_X12_laysTable : d_X12_laysTable + 1 ≤ d) {d_X12_picksAsWorth : Nat} {s_X12_picksAsWorth : zq_Sp} (h_X12_picksAsWorth : zq_M yX12_picksAsWorth cX12_picksAsWorth 2 none 0 d_X12_picksAsWorth s_X12_picksAsWorth) (g_X12_picksAsWorth : d_X12_picksAsWorth + 1 ≤ d) {d_X12_goesByTurns : Nat} {s_X12_goesByTurns : zq_Sp} (h_X12_goesByTurns : zq_M yX12_goesByTurns cX12_goesByTurns 6 none 0 d_X12_goesByTurns s_X12_goesByTurns) (g_X12_goesByTurns : d_X12_goesByTurns + 1 ≤ d) {d_X12_worthOf : Nat} {s_X12_worthOf : zq_Sp} (h_X12_worthOf : zq_M yX12_worthOf cX12_worthOf 3 (some .int) 1 d_X12_worthOf s_X12_worthOf) (g_X12_worthOf : d_X12_worthOf + 1 ≤ d) {d_X12_enters : Nat} {s_X12_enters : zq_Sp} (h_X12_enters : zq_M yX12_enters cX12_enters 3 none 0 d_X12_enters s_X12_enters) (g_X12_enters : d_X12_enters + 1 ≤ d) {J65 : zq_P} (j65 : zq_ok X 11 65 J65) {J74 : zq_P} (j74 : zq_ok X 11 74 J74) {J110 : zq_P} (j110 : zq_ok X 11 110 J110) {Q : zq_Q} (hq : zq_R X (some .int) 1 Q) : zq_ok X 11 192 (xX12_lies_192 s_X12_begins s_X12_isGuest s_X12_readsTurns s_X12_laysTable s_X12_picksAsWorth s_X12_goesByTurns s_X12_worthOf s_X12_enters J65 J74 J110 Q) := by
  refine zs_iinc C dX12_lies_192 (by decide) (by decide) ?_
  exact zs_goto C dX12_lies_195 (by decide) (j74)
def xX12_lies_174 (s_X12_begins : zq_Sp) (s_X12_isGuest : zq_Sp) (s_X12_readsTurns : zq_Sp) (s_X12_laysTable : zq_Sp) (s_X12_picksAsWorth : zq_Sp) (s_X12_goesByTurns : zq_Sp) (s_X12_worthOf : zq_Sp) (s_X12_enters : zq_Sp) (J65 : zq_P) (J74 : zq_P) (J110 : zq_P) (Q : zq_Q) (ls : zq_L) (st : List Value) (h : zq_H) : Prop := (zi_aload 0 (zi_getR 56 90 (zi_iload 1 (zi_aldI 90 6 (zi_iload 3 (zi_i2 (fun x y => x - y) (zi_istore 4 (zi_iload 7 (zi_istore 5 (zi_iload 8 (zi_istore 6 ((xX12_lies_192 s_X12_begins s_X12_isGuest s_X12_readsTurns s_X12_laysTable s_X12_picksAsWorth s_X12_goesByTurns s_X12_worthOf s_X12_enters J65 J74 J110 Q))))))))))))) ls st h
theorem kX12_lies_174 {X : zq_X} {d : Nat} (C : zq_C X cX12_lies 11 RX12 d) {d_X12_begins : Nat} {s_X12_begins : zq_Sp} (h_X12_begins : zq_M yX12_begins cX12_begins 3 (some .int) 1 d_X12_begins s_X12_begins) (g_X12_begins : d_X12_begins + 1 ≤ d) {d_X12_isGuest : Nat} {s_X12_isGuest : zq_Sp} (h_X12_isGuest : zq_M yX12_isGuest cX12_isGuest 2 (some .boolean) 1 d_X12_isGuest s_X12_isGuest) (g_X12_isGuest : d_X12_isGuest + 1 ≤ d) {d_X12_readsTurns : Nat} {s_X12_readsTurns : zq_Sp} (h_X12_readsTurns : zq_M yX12_readsTurns cX12_readsTurns 3 (some .int) 1 d_X12_readsTurns s_X12_readsTurns) (g_X12_readsTurns : d_X12_readsTurns + 1 ≤ d) {d_X12_laysTable : Nat} {s_X12_laysTable : zq_Sp} (h_X12_laysTable : zq_M yX12_laysTable cX12_laysTable 3 none 0 d_X12_laysTable s_X12_laysTable) (g_X12_laysTable : d_X12_laysTable + 1 ≤ d) {d_X12_picksAsWorth : Nat} {s_X12_picksAsWorth : zq_Sp} (h_X12_picksAsWorth : zq_M yX12_picksAsWorth cX12_picksAsWorth 2 none 0 d_X12_picksAsWorth s_X12_picksAsWorth) (g_X12_picksAsWorth : d_X12_picksAsWorth + 1 ≤ d) {d_X12_goesByTurns : Nat} {s_X12_goesByTurns : zq_Sp} (h_X12_goesByTurns : zq_M yX12_goesByTurns cX12_goesByTurns 6 none 0 d_X12_goesByTurns s_X12_goesByTurns) (g_X12_goesByTurns : d_X12_goesByTurns + 1 ≤ d) {d_X12_worthOf : Nat} {s_X12_worthOf : zq_Sp} (h_X12_worthOf : zq_M yX12_worthOf cX12_worthOf 3 (some .int) 1 d_X12_worthOf s_X12_worthOf) (g_X12_worthOf : d_X12_worthOf + 1 ≤ d) {d_X12_enters : Nat} {s_X12_enters : zq_Sp} (h_X12_enters : zq_M yX12_enters cX12_enters 3 none 0 d_X12_enters s_X12_enters) (g_X12_enters : d_X12_enters + 1 ≤ d) {J65 : zq_P} (j65 : zq_ok X 11 65 J65) {J74 : zq_P} (j74 : zq_ok X 11 74 J74) {J110 : zq_P} (j110 : zq_ok X 11 110 J110) {Q : zq_Q} (hq : zq_R X (some .int) 1 Q) : zq_ok X 11 174 (xX12_lies_174 s_X12_begins s_X12_isGuest s_X12_readsTurns s_X12_laysTable s_X12_picksAsWorth s_X12_goesByTurns s_X12_worthOf s_X12_enters J65 J74 J110 Q) := by
  refine zs_aload_n C dX12_lies_174 rfl ?_
  refine zs_getR C zp_56 zF12 (j := 52) ⟨by decide, rfl⟩ zw_1148 dX12_lies_175 ?_
  refine zs_iload_n C dX12_lies_178 rfl ?_
  refine zs_iaload C zp_90 dX12_lies_179 ?_
  refine zs_iload_n C dX12_lies_180 rfl ?_
  refine zs_isub C dX12_lies_181 ?_
  refine zs_istore C dX12_lies_182 (by decide) ?_
  refine zs_iload C dX12_lies_184 ?_
  refine zs_istore C dX12_lies_186 (by decide) ?_
  refine zs_iload C dX12_lies_188 ?_
  refine zs_istore C dX12_lies_190 (by decide) ?_
  exact kX12_lies_192 C h_X12_begins g_X12_begins h_X12_isGuest g_X12_isGuest h_X12_readsTurns g_X12_readsTurns h_X12_laysTable g_X12_laysTable h_X12_picksAsWorth g_X12_picksAsWorth h_X12_goesByTurns g_X12_goesByTurns h_X12_worthOf g_X12_worthOf h_X12_enters g_X12_enters j65 j74 j110 hq
def xX12_lies_144 (s_X12_begins : zq_Sp) (s_X12_isGuest : zq_Sp) (s_X12_readsTurns : zq_Sp) (s_X12_laysTable : zq_Sp) (s_X12_picksAsWorth : zq_Sp) (s_X12_goesByTurns : zq_Sp) (s_X12_worthOf : zq_Sp) (s_X12_enters : zq_Sp) (J65 : zq_P) (J74 : zq_P) (J110 : zq_P) (Q : zq_Q) (ls : zq_L) (st : List Value) (h : zq_H) : Prop := (zi_aload 0 (zi_getR 56 61 (zi_push (.int 3) (zi_iload 1 (zi_i2 (fun x y => x * y) (zi_iload 7 (zi_i2 (fun x y => x + y) (zi_iload 9 (zi_astI 61 18 (zi_aload 0 (zi_callV 0 56 s_X12_goesByTurns (zi_aload 0 (zi_getR 56 90 (zi_iload 1 (zi_aldI 90 6 (zi_iload 3 (zi_i2 (fun x y => x - y) (zi_iload 4 (zi_if2 (fun x y => x ≤ y) (xX12_lies_192 s_X12_begins s_X12_isGuest s_X12_readsTurns s_X12_laysTable s_X12_picksAsWorth s_X12_goesByTurns s_X12_worthOf s_X12_enters J65 J74 J110 Q) (xX12_lies_174 s_X12_begins s_X12_isGuest s_X12_readsTurns s_X12_laysTable s_X12_picksAsWorth s_X12_goesByTurns s_X12_worthOf s_X12_enters J65 J74 J110 Q)))))))))))))))))))) ls st h
theorem kX12_lies_144 {X : zq_X} {d : Nat} (C : zq_C X cX12_lies 11 RX12 d) {d_X12_begins : Nat} {s_X12_begins : zq_Sp} (h_X12_begins : zq_M yX12_begins cX12_begins 3 (some .int) 1 d_X12_begins s_X12_begins) (g_X12_begins : d_X12_begins + 1 ≤ d) {d_X12_isGuest : Nat} {s_X12_isGuest : zq_Sp} (h_X12_isGuest : zq_M yX12_isGuest cX12_isGuest 2 (some .boolean) 1 d_X12_isGuest s_X12_isGuest) (g_X12_isGuest : d_X12_isGuest + 1 ≤ d) {d_X12_readsTurns : Nat} {s_X12_readsTurns : zq_Sp} (h_X12_readsTurns : zq_M yX12_readsTurns cX12_readsTurns 3 (some .int) 1 d_X12_readsTurns s_X12_readsTurns) (g_X12_readsTurns : d_X12_readsTurns + 1 ≤ d) {d_X12_laysTable : Nat} {s_X12_laysTable : zq_Sp} (h_X12_laysTable : zq_M yX12_laysTable cX12_laysTable 3 none 0 d_X12_laysTable s_X12_laysTable) (g_X12_laysTable : d_X12_laysTable + 1 ≤ d) {d_X12_picksAsWorth : Nat} {s_X12_picksAsWorth : zq_Sp} (h_X12_picksAsWorth : zq_M yX12_picksAsWorth cX12_picksAsWorth 2 none 0 d_X12_picksAsWorth s_X12_picksAsWorth) (g_X12_picksAsWorth : d_X12_picksAsWorth + 1 ≤ d) {d_X12_goesByTurns : Nat} {s_X12_goesByTurns : zq_Sp} (h_X12_goesByTurns : zq_M yX12_goesByTurns cX12_goesByTurns 6 none 0 d_X12_goesByTurns s_X12_goesByTurns) (g_X12_goesByTurns : d_X12_goesByTurns + 1 ≤ d) {d_X12_worthOf : Nat} {s_X12_worthOf : zq_Sp} (h_X12_worthOf : zq_M yX12_worthOf cX12_worthOf 3 (some .int) 1 d_X12_worthOf s_X12_worthOf) (g_X12_worthOf : d_X12_worthOf + 1 ≤ d) {d_X12_enters : Nat} {s_X12_enters : zq_Sp} (h_X12_enters : zq_M yX12_enters cX12_enters 3 none 0 d_X12_enters s_X12_enters) (g_X12_enters : d_X12_enters + 1 ≤ d) {J65 : zq_P} (j65 : zq_ok X 11 65 J65) {J74 : zq_P} (j74 : zq_ok X 11 74 J74) {J110 : zq_P} (j110 : zq_ok X 11 110 J110) {Q : zq_Q} (hq : zq_R X (some .int) 1 Q) : zq_ok X 11 144 (xX12_lies_144 s_X12_begins s_X12_isGuest s_X12_readsTurns s_X12_laysTable s_X12_picksAsWorth s_X12_goesByTurns s_X12_worthOf s_X12_enters J65 J74 J110 Q) := by
  refine zs_aload_n C dX12_lies_144 rfl ?_
  refine zs_getR C zp_56 zF12 (j := 9) ⟨by decide, rfl⟩ zw_1105 dX12_lies_145 ?_
  refine zs_iconst C dX12_lies_148 (by decide) ?_
  refine zs_iload_n C dX12_lies_149 rfl ?_
  refine zs_imul C dX12_lies_150 ?_
  refine zs_iload C dX12_lies_151 ?_
  refine zs_iadd C dX12_lies_153 ?_
  refine zs_iload C dX12_lies_154 ?_
  refine zs_iastore C zp_61 dX12_lies_156 ?_
  refine zs_aload_n C dX12_lies_157 rfl ?_
  refine zs_callV C h_X12_goesByTurns g_X12_goesByTurns zy_X12_goesByTurns zp_56 (show vwCl[12]? = some (RX12, TX12, 67) from rfl) zw_1692 zw_1694 zs9_X12_goesByTurns dX12_lies_158 ?_
  refine zs_aload_n C dX12_lies_161 rfl ?_
  refine zs_getR C zp_56 zF12 (j := 52) ⟨by decide, rfl⟩ zw_1148 dX12_lies_162 ?_
  refine zs_iload_n C dX12_lies_165 rfl ?_
  refine zs_iaload C zp_90 dX12_lies_166 ?_
  refine zs_iload_n C dX12_lies_167 rfl ?_
  refine zs_isub C dX12_lies_168 ?_
  refine zs_iload C dX12_lies_169 ?_
  exact zs_icmp_le C dX12_lies_171 (by decide) (kX12_lies_192 C h_X12_begins g_X12_begins h_X12_isGuest g_X12_isGuest h_X12_readsTurns g_X12_readsTurns h_X12_laysTable g_X12_laysTable h_X12_picksAsWorth g_X12_picksAsWorth h_X12_goesByTurns g_X12_goesByTurns h_X12_worthOf g_X12_worthOf h_X12_enters g_X12_enters j65 j74 j110 hq) (kX12_lies_174 C h_X12_begins g_X12_begins h_X12_isGuest g_X12_isGuest h_X12_readsTurns g_X12_readsTurns h_X12_laysTable g_X12_laysTable h_X12_picksAsWorth g_X12_picksAsWorth h_X12_goesByTurns g_X12_goesByTurns h_X12_worthOf g_X12_worthOf h_X12_enters g_X12_enters j65 j74 j110 hq)
def xX12_lies_119 (s_X12_begins : zq_Sp) (s_X12_isGuest : zq_Sp) (s_X12_readsTurns : zq_Sp) (s_X12_laysTable : zq_Sp) (s_X12_picksAsWorth : zq_Sp) (s_X12_goesByTurns : zq_Sp) (s_X12_worthOf : zq_Sp) (s_X12_enters : zq_Sp) (J65 : zq_P) (J74 : zq_P) (J110 : zq_P) (Q : zq_Q) (ls : zq_L) (st : List Value) (h : zq_H) : Prop := (zi_aload 0 (zi_getR 56 89 (zi_push (.int 16) (zi_iload 1 (zi_i2 (fun x y => x * y) (zi_iload 10 (zi_i2 (fun x y => x + y) (zi_aload 0 (zi_iload 1 (zi_iload 10 (zi_callV 2 56 s_X12_worthOf (zi_astI 89 96 (zi_iinc 10 1 (J110)))))))))))))) ls st h
theorem kX12_lies_119 {X : zq_X} {d : Nat} (C : zq_C X cX12_lies 11 RX12 d) {d_X12_begins : Nat} {s_X12_begins : zq_Sp} (h_X12_begins : zq_M yX12_begins cX12_begins 3 (some .int) 1 d_X12_begins s_X12_begins) (g_X12_begins : d_X12_begins + 1 ≤ d) {d_X12_isGuest : Nat} {s_X12_isGuest : zq_Sp} (h_X12_isGuest : zq_M yX12_isGuest cX12_isGuest 2 (some .boolean) 1 d_X12_isGuest s_X12_isGuest) (g_X12_isGuest : d_X12_isGuest + 1 ≤ d) {d_X12_readsTurns : Nat} {s_X12_readsTurns : zq_Sp} (h_X12_readsTurns : zq_M yX12_readsTurns cX12_readsTurns 3 (some .int) 1 d_X12_readsTurns s_X12_readsTurns) (g_X12_readsTurns : d_X12_readsTurns + 1 ≤ d) {d_X12_laysTable : Nat} {s_X12_laysTable : zq_Sp} (h_X12_laysTable : zq_M yX12_laysTable cX12_laysTable 3 none 0 d_X12_laysTable s_X12_laysTable) (g_X12_laysTable : d_X12_laysTable + 1 ≤ d) {d_X12_picksAsWorth : Nat} {s_X12_picksAsWorth : zq_Sp} (h_X12_picksAsWorth : zq_M yX12_picksAsWorth cX12_picksAsWorth 2 none 0 d_X12_picksAsWorth s_X12_picksAsWorth) (g_X12_picksAsWorth : d_X12_picksAsWorth + 1 ≤ d) {d_X12_goesByTurns : Nat} {s_X12_goesByTurns : zq_Sp} (h_X12_goesByTurns : zq_M yX12_goesByTurns cX12_goesByTurns 6 none 0 d_X12_goesByTurns s_X12_goesByTurns) (g_X12_goesByTurns : d_X12_goesByTurns + 1 ≤ d) {d_X12_worthOf : Nat} {s_X12_worthOf : zq_Sp} (h_X12_worthOf : zq_M yX12_worthOf cX12_worthOf 3 (some .int) 1 d_X12_worthOf s_X12_worthOf) (g_X12_worthOf : d_X12_worthOf + 1 ≤ d) {d_X12_enters : Nat} {s_X12_enters : zq_Sp} (h_X12_enters : zq_M yX12_enters cX12_enters 3 none 0 d_X12_enters s_X12_enters) (g_X12_enters : d_X12_enters + 1 ≤ d) {J65 : zq_P} (j65 : zq_ok X 11 65 J65) {J74 : zq_P} (j74 : zq_ok X 11 74 J74) {J110 : zq_P} (j110 : zq_ok X 11 110 J110) {Q : zq_Q} (hq : zq_R X (some .int) 1 Q) : zq_ok X 11 119 (xX12_lies_119 s_X12_begins s_X12_isGuest s_X12_readsTurns s_X12_laysTable s_X12_picksAsWorth s_X12_goesByTurns s_X12_worthOf s_X12_enters J65 J74 J110 Q) := by
  refine zs_aload_n C dX12_lies_119 rfl ?_
  refine zs_getR C zp_56 zF12 (j := 51) ⟨by decide, rfl⟩ zw_1147 dX12_lies_120 ?_
  refine zs_bipush C dX12_lies_123 (by decide) ?_
  refine zs_iload_n C dX12_lies_125 rfl ?_
  refine zs_imul C dX12_lies_126 ?_
  refine zs_iload C dX12_lies_127 ?_
  refine zs_iadd C dX12_lies_129 ?_
  refine zs_aload_n C dX12_lies_130 rfl ?_
  refine zs_iload_n C dX12_lies_131 rfl ?_
  refine zs_iload C dX12_lies_132 ?_
  refine zs_callV C h_X12_worthOf g_X12_worthOf zy_X12_worthOf zp_56 (show vwCl[12]? = some (RX12, TX12, 67) from rfl) zw_1475 zw_1477 zs9_X12_worthOf dX12_lies_134 ?_
  refine zs_iastore C zp_89 dX12_lies_137 ?_
  refine zs_iinc C dX12_lies_138 (by decide) (by decide) ?_
  exact zs_goto C dX12_lies_141 (by decide) (j110)
def xX12_lies_110 (s_X12_begins : zq_Sp) (s_X12_isGuest : zq_Sp) (s_X12_readsTurns : zq_Sp) (s_X12_laysTable : zq_Sp) (s_X12_picksAsWorth : zq_Sp) (s_X12_goesByTurns : zq_Sp) (s_X12_worthOf : zq_Sp) (s_X12_enters : zq_Sp) (J65 : zq_P) (J74 : zq_P) (J110 : zq_P) (Q : zq_Q) (ls : zq_L) (st : List Value) (h : zq_H) : Prop := (zi_iload 10 (zi_aload 0 (zi_getI 56 3 (zi_if2 (fun x y => y ≤ x) (xX12_lies_144 s_X12_begins s_X12_isGuest s_X12_readsTurns s_X12_laysTable s_X12_picksAsWorth s_X12_goesByTurns s_X12_worthOf s_X12_enters J65 J74 J110 Q) (xX12_lies_119 s_X12_begins s_X12_isGuest s_X12_readsTurns s_X12_laysTable s_X12_picksAsWorth s_X12_goesByTurns s_X12_worthOf s_X12_enters J65 J74 J110 Q))))) ls st h
theorem kX12_lies_110 {X : zq_X} {d : Nat} (C : zq_C X cX12_lies 11 RX12 d) {d_X12_begins : Nat} {s_X12_begins : zq_Sp} (h_X12_begins : zq_M yX12_begins cX12_begins 3 (some .int) 1 d_X12_begins s_X12_begins) (g_X12_begins : d_X12_begins + 1 ≤ d) {d_X12_isGuest : Nat} {s_X12_isGuest : zq_Sp} (h_X12_isGuest : zq_M yX12_isGuest cX12_isGuest 2 (some .boolean) 1 d_X12_isGuest s_X12_isGuest) (g_X12_isGuest : d_X12_isGuest + 1 ≤ d) {d_X12_readsTurns : Nat} {s_X12_readsTurns : zq_Sp} (h_X12_readsTurns : zq_M yX12_readsTurns cX12_readsTurns 3 (some .int) 1 d_X12_readsTurns s_X12_readsTurns) (g_X12_readsTurns : d_X12_readsTurns + 1 ≤ d) {d_X12_laysTable : Nat} {s_X12_laysTable : zq_Sp} (h_X12_laysTable : zq_M yX12_laysTable cX12_laysTable 3 none 0 d_X12_laysTable s_X12_laysTable) (g_X12_laysTable : d_X12_laysTable + 1 ≤ d) {d_X12_picksAsWorth : Nat} {s_X12_picksAsWorth : zq_Sp} (h_X12_picksAsWorth : zq_M yX12_picksAsWorth cX12_picksAsWorth 2 none 0 d_X12_picksAsWorth s_X12_picksAsWorth) (g_X12_picksAsWorth : d_X12_picksAsWorth + 1 ≤ d) {d_X12_goesByTurns : Nat} {s_X12_goesByTurns : zq_Sp} (h_X12_goesByTurns : zq_M yX12_goesByTurns cX12_goesByTurns 6 none 0 d_X12_goesByTurns s_X12_goesByTurns) (g_X12_goesByTurns : d_X12_goesByTurns + 1 ≤ d) {d_X12_worthOf : Nat} {s_X12_worthOf : zq_Sp} (h_X12_worthOf : zq_M yX12_worthOf cX12_worthOf 3 (some .int) 1 d_X12_worthOf s_X12_worthOf) (g_X12_worthOf : d_X12_worthOf + 1 ≤ d) {d_X12_enters : Nat} {s_X12_enters : zq_Sp} (h_X12_enters : zq_M yX12_enters cX12_enters 3 none 0 d_X12_enters s_X12_enters) (g_X12_enters : d_X12_enters + 1 ≤ d) {J65 : zq_P} (j65 : zq_ok X 11 65 J65) {J74 : zq_P} (j74 : zq_ok X 11 74 J74) {J110 : zq_P} (j110 : zq_ok X 11 110 J110) {Q : zq_Q} (hq : zq_R X (some .int) 1 Q) : zq_ok X 11 110 (xX12_lies_110 s_X12_begins s_X12_isGuest s_X12_readsTurns s_X12_laysTable s_X12_picksAsWorth s_X12_goesByTurns s_X12_worthOf s_X12_enters J65 J74 J110 Q) := by
  refine zs_iload C dX12_lies_110 ?_
  refine zs_aload_n C dX12_lies_112 rfl ?_
  refine zs_getI C zp_56 zF12 (j := 3) ⟨by decide, rfl⟩ zw_1099 dX12_lies_113 ?_
  exact zs_icmp_ge C dX12_lies_116 (by decide) (kX12_lies_144 C h_X12_begins g_X12_begins h_X12_isGuest g_X12_isGuest h_X12_readsTurns g_X12_readsTurns h_X12_laysTable g_X12_laysTable h_X12_picksAsWorth g_X12_picksAsWorth h_X12_goesByTurns g_X12_goesByTurns h_X12_worthOf g_X12_worthOf h_X12_enters g_X12_enters j65 j74 j110 hq) (kX12_lies_119 C h_X12_begins g_X12_begins h_X12_isGuest g_X12_isGuest h_X12_readsTurns g_X12_readsTurns h_X12_laysTable g_X12_laysTable h_X12_picksAsWorth g_X12_picksAsWorth h_X12_goesByTurns g_X12_goesByTurns h_X12_worthOf g_X12_worthOf h_X12_enters g_X12_enters j65 j74 j110 hq)
def xX12_lies_81 (s_X12_begins : zq_Sp) (s_X12_isGuest : zq_Sp) (s_X12_readsTurns : zq_Sp) (s_X12_laysTable : zq_Sp) (s_X12_picksAsWorth : zq_Sp) (s_X12_goesByTurns : zq_Sp) (s_X12_worthOf : zq_Sp) (s_X12_enters : zq_Sp) (J65 : zq_P) (J74 : zq_P) (J110 : zq_P) (Q : zq_Q) (ls : zq_L) (st : List Value) (h : zq_H) : Prop := (zi_aload 0 (zi_getR 56 61 (zi_push (.int 3) (zi_iload 1 (zi_i2 (fun x y => x * y) (zi_iload 7 (zi_i2 (fun x y => x + y) (zi_aldI 61 18 (zi_istore 9 (zi_aload 0 (zi_getR 56 61 (zi_push (.int 3) (zi_iload 1 (zi_i2 (fun x y => x * y) (zi_iload 7 (zi_i2 (fun x y => x + y) (zi_iload 8 (zi_astI 61 18 (zi_push (.int 0) (zi_istore 10 (J110))))))))))))))))))))) ls st h
theorem kX12_lies_81 {X : zq_X} {d : Nat} (C : zq_C X cX12_lies 11 RX12 d) {d_X12_begins : Nat} {s_X12_begins : zq_Sp} (h_X12_begins : zq_M yX12_begins cX12_begins 3 (some .int) 1 d_X12_begins s_X12_begins) (g_X12_begins : d_X12_begins + 1 ≤ d) {d_X12_isGuest : Nat} {s_X12_isGuest : zq_Sp} (h_X12_isGuest : zq_M yX12_isGuest cX12_isGuest 2 (some .boolean) 1 d_X12_isGuest s_X12_isGuest) (g_X12_isGuest : d_X12_isGuest + 1 ≤ d) {d_X12_readsTurns : Nat} {s_X12_readsTurns : zq_Sp} (h_X12_readsTurns : zq_M yX12_readsTurns cX12_readsTurns 3 (some .int) 1 d_X12_readsTurns s_X12_readsTurns) (g_X12_readsTurns : d_X12_readsTurns + 1 ≤ d) {d_X12_laysTable : Nat} {s_X12_laysTable : zq_Sp} (h_X12_laysTable : zq_M yX12_laysTable cX12_laysTable 3 none 0 d_X12_laysTable s_X12_laysTable) (g_X12_laysTable : d_X12_laysTable + 1 ≤ d) {d_X12_picksAsWorth : Nat} {s_X12_picksAsWorth : zq_Sp} (h_X12_picksAsWorth : zq_M yX12_picksAsWorth cX12_picksAsWorth 2 none 0 d_X12_picksAsWorth s_X12_picksAsWorth) (g_X12_picksAsWorth : d_X12_picksAsWorth + 1 ≤ d) {d_X12_goesByTurns : Nat} {s_X12_goesByTurns : zq_Sp} (h_X12_goesByTurns : zq_M yX12_goesByTurns cX12_goesByTurns 6 none 0 d_X12_goesByTurns s_X12_goesByTurns) (g_X12_goesByTurns : d_X12_goesByTurns + 1 ≤ d) {d_X12_worthOf : Nat} {s_X12_worthOf : zq_Sp} (h_X12_worthOf : zq_M yX12_worthOf cX12_worthOf 3 (some .int) 1 d_X12_worthOf s_X12_worthOf) (g_X12_worthOf : d_X12_worthOf + 1 ≤ d) {d_X12_enters : Nat} {s_X12_enters : zq_Sp} (h_X12_enters : zq_M yX12_enters cX12_enters 3 none 0 d_X12_enters s_X12_enters) (g_X12_enters : d_X12_enters + 1 ≤ d) {J65 : zq_P} (j65 : zq_ok X 11 65 J65) {J74 : zq_P} (j74 : zq_ok X 11 74 J74) {J110 : zq_P} (j110 : zq_ok X 11 110 J110) {Q : zq_Q} (hq : zq_R X (some .int) 1 Q) : zq_ok X 11 81 (xX12_lies_81 s_X12_begins s_X12_isGuest s_X12_readsTurns s_X12_laysTable s_X12_picksAsWorth s_X12_goesByTurns s_X12_worthOf s_X12_enters J65 J74 J110 Q) := by
  refine zs_aload_n C dX12_lies_81 rfl ?_
  refine zs_getR C zp_56 zF12 (j := 9) ⟨by decide, rfl⟩ zw_1105 dX12_lies_82 ?_
  refine zs_iconst C dX12_lies_85 (by decide) ?_
  refine zs_iload_n C dX12_lies_86 rfl ?_
  refine zs_imul C dX12_lies_87 ?_
  refine zs_iload C dX12_lies_88 ?_
  refine zs_iadd C dX12_lies_90 ?_
  refine zs_iaload C zp_61 dX12_lies_91 ?_
  refine zs_istore C dX12_lies_92 (by decide) ?_
  refine zs_aload_n C dX12_lies_94 rfl ?_
  refine zs_getR C zp_56 zF12 (j := 9) ⟨by decide, rfl⟩ zw_1105 dX12_lies_95 ?_
  refine zs_iconst C dX12_lies_98 (by decide) ?_
  refine zs_iload_n C dX12_lies_99 rfl ?_
  refine zs_imul C dX12_lies_100 ?_
  refine zs_iload C dX12_lies_101 ?_
  refine zs_iadd C dX12_lies_103 ?_
  refine zs_iload C dX12_lies_104 ?_
  refine zs_iastore C zp_61 dX12_lies_106 ?_
  refine zs_iconst C dX12_lies_107 (by decide) ?_
  refine zs_istore C dX12_lies_108 (by decide) ?_
  exact j110
def xX12_lies_74 (s_X12_begins : zq_Sp) (s_X12_isGuest : zq_Sp) (s_X12_readsTurns : zq_Sp) (s_X12_laysTable : zq_Sp) (s_X12_picksAsWorth : zq_Sp) (s_X12_goesByTurns : zq_Sp) (s_X12_worthOf : zq_Sp) (s_X12_enters : zq_Sp) (J65 : zq_P) (J74 : zq_P) (J110 : zq_P) (Q : zq_Q) (ls : zq_L) (st : List Value) (h : zq_H) : Prop := (zi_iload 8 (zi_push (.int 9) (zi_if2 (fun x y => y < x) (xX12_lies_198 s_X12_begins s_X12_isGuest s_X12_readsTurns s_X12_laysTable s_X12_picksAsWorth s_X12_goesByTurns s_X12_worthOf s_X12_enters J65 J74 J110 Q) (xX12_lies_81 s_X12_begins s_X12_isGuest s_X12_readsTurns s_X12_laysTable s_X12_picksAsWorth s_X12_goesByTurns s_X12_worthOf s_X12_enters J65 J74 J110 Q)))) ls st h
theorem kX12_lies_74 {X : zq_X} {d : Nat} (C : zq_C X cX12_lies 11 RX12 d) {d_X12_begins : Nat} {s_X12_begins : zq_Sp} (h_X12_begins : zq_M yX12_begins cX12_begins 3 (some .int) 1 d_X12_begins s_X12_begins) (g_X12_begins : d_X12_begins + 1 ≤ d) {d_X12_isGuest : Nat} {s_X12_isGuest : zq_Sp} (h_X12_isGuest : zq_M yX12_isGuest cX12_isGuest 2 (some .boolean) 1 d_X12_isGuest s_X12_isGuest) (g_X12_isGuest : d_X12_isGuest + 1 ≤ d) {d_X12_readsTurns : Nat} {s_X12_readsTurns : zq_Sp} (h_X12_readsTurns : zq_M yX12_readsTurns cX12_readsTurns 3 (some .int) 1 d_X12_readsTurns s_X12_readsTurns) (g_X12_readsTurns : d_X12_readsTurns + 1 ≤ d) {d_X12_laysTable : Nat} {s_X12_laysTable : zq_Sp} (h_X12_laysTable : zq_M yX12_laysTable cX12_laysTable 3 none 0 d_X12_laysTable s_X12_laysTable) (g_X12_laysTable : d_X12_laysTable + 1 ≤ d) {d_X12_picksAsWorth : Nat} {s_X12_picksAsWorth : zq_Sp} (h_X12_picksAsWorth : zq_M yX12_picksAsWorth cX12_picksAsWorth 2 none 0 d_X12_picksAsWorth s_X12_picksAsWorth) (g_X12_picksAsWorth : d_X12_picksAsWorth + 1 ≤ d) {d_X12_goesByTurns : Nat} {s_X12_goesByTurns : zq_Sp} (h_X12_goesByTurns : zq_M yX12_goesByTurns cX12_goesByTurns 6 none 0 d_X12_goesByTurns s_X12_goesByTurns) (g_X12_goesByTurns : d_X12_goesByTurns + 1 ≤ d) {d_X12_worthOf : Nat} {s_X12_worthOf : zq_Sp} (h_X12_worthOf : zq_M yX12_worthOf cX12_worthOf 3 (some .int) 1 d_X12_worthOf s_X12_worthOf) (g_X12_worthOf : d_X12_worthOf + 1 ≤ d) {d_X12_enters : Nat} {s_X12_enters : zq_Sp} (h_X12_enters : zq_M yX12_enters cX12_enters 3 none 0 d_X12_enters s_X12_enters) (g_X12_enters : d_X12_enters + 1 ≤ d) {J65 : zq_P} (j65 : zq_ok X 11 65 J65) {J74 : zq_P} (j74 : zq_ok X 11 74 J74) {J110 : zq_P} (j110 : zq_ok X 11 110 J110) {Q : zq_Q} (hq : zq_R X (some .int) 1 Q) : zq_ok X 11 74 (xX12_lies_74 s_X12_begins s_X12_isGuest s_X12_readsTurns s_X12_laysTable s_X12_picksAsWorth s_X12_goesByTurns s_X12_worthOf s_X12_enters J65 J74 J110 Q) := by
  refine zs_iload C dX12_lies_74 ?_
  refine zs_bipush C dX12_lies_76 (by decide) ?_
  exact zs_icmp_gt C dX12_lies_78 (by decide) (kX12_lies_198 C h_X12_begins g_X12_begins h_X12_isGuest g_X12_isGuest h_X12_readsTurns g_X12_readsTurns h_X12_laysTable g_X12_laysTable h_X12_picksAsWorth g_X12_picksAsWorth h_X12_goesByTurns g_X12_goesByTurns h_X12_worthOf g_X12_worthOf h_X12_enters g_X12_enters j65 j74 j110 hq) (kX12_lies_81 C h_X12_begins g_X12_begins h_X12_isGuest g_X12_isGuest h_X12_readsTurns g_X12_readsTurns h_X12_laysTable g_X12_laysTable h_X12_picksAsWorth g_X12_picksAsWorth h_X12_goesByTurns g_X12_goesByTurns h_X12_worthOf g_X12_worthOf h_X12_enters g_X12_enters j65 j74 j110 hq)
def xX12_lies_71 (s_X12_begins : zq_Sp) (s_X12_isGuest : zq_Sp) (s_X12_readsTurns : zq_Sp) (s_X12_laysTable : zq_Sp) (s_X12_picksAsWorth : zq_Sp) (s_X12_goesByTurns : zq_Sp) (s_X12_worthOf : zq_Sp) (s_X12_enters : zq_Sp) (J65 : zq_P) (J74 : zq_P) (J110 : zq_P) (Q : zq_Q) (ls : zq_L) (st : List Value) (h : zq_H) : Prop := (zi_push (.int 0) (zi_istore 8 (J74))) ls st h
theorem kX12_lies_71 {X : zq_X} {d : Nat} (C : zq_C X cX12_lies 11 RX12 d) {d_X12_begins : Nat} {s_X12_begins : zq_Sp} (h_X12_begins : zq_M yX12_begins cX12_begins 3 (some .int) 1 d_X12_begins s_X12_begins) (g_X12_begins : d_X12_begins + 1 ≤ d) {d_X12_isGuest : Nat} {s_X12_isGuest : zq_Sp} (h_X12_isGuest : zq_M yX12_isGuest cX12_isGuest 2 (some .boolean) 1 d_X12_isGuest s_X12_isGuest) (g_X12_isGuest : d_X12_isGuest + 1 ≤ d) {d_X12_readsTurns : Nat} {s_X12_readsTurns : zq_Sp} (h_X12_readsTurns : zq_M yX12_readsTurns cX12_readsTurns 3 (some .int) 1 d_X12_readsTurns s_X12_readsTurns) (g_X12_readsTurns : d_X12_readsTurns + 1 ≤ d) {d_X12_laysTable : Nat} {s_X12_laysTable : zq_Sp} (h_X12_laysTable : zq_M yX12_laysTable cX12_laysTable 3 none 0 d_X12_laysTable s_X12_laysTable) (g_X12_laysTable : d_X12_laysTable + 1 ≤ d) {d_X12_picksAsWorth : Nat} {s_X12_picksAsWorth : zq_Sp} (h_X12_picksAsWorth : zq_M yX12_picksAsWorth cX12_picksAsWorth 2 none 0 d_X12_picksAsWorth s_X12_picksAsWorth) (g_X12_picksAsWorth : d_X12_picksAsWorth + 1 ≤ d) {d_X12_goesByTurns : Nat} {s_X12_goesByTurns : zq_Sp} (h_X12_goesByTurns : zq_M yX12_goesByTurns cX12_goesByTurns 6 none 0 d_X12_goesByTurns s_X12_goesByTurns) (g_X12_goesByTurns : d_X12_goesByTurns + 1 ≤ d) {d_X12_worthOf : Nat} {s_X12_worthOf : zq_Sp} (h_X12_worthOf : zq_M yX12_worthOf cX12_worthOf 3 (some .int) 1 d_X12_worthOf s_X12_worthOf) (g_X12_worthOf : d_X12_worthOf + 1 ≤ d) {d_X12_enters : Nat} {s_X12_enters : zq_Sp} (h_X12_enters : zq_M yX12_enters cX12_enters 3 none 0 d_X12_enters s_X12_enters) (g_X12_enters : d_X12_enters + 1 ≤ d) {J65 : zq_P} (j65 : zq_ok X 11 65 J65) {J74 : zq_P} (j74 : zq_ok X 11 74 J74) {J110 : zq_P} (j110 : zq_ok X 11 110 J110) {Q : zq_Q} (hq : zq_R X (some .int) 1 Q) : zq_ok X 11 71 (xX12_lies_71 s_X12_begins s_X12_isGuest s_X12_readsTurns s_X12_laysTable s_X12_picksAsWorth s_X12_goesByTurns s_X12_worthOf s_X12_enters J65 J74 J110 Q) := by
  refine zs_iconst C dX12_lies_71 (by decide) ?_
  refine zs_istore C dX12_lies_72 (by decide) ?_
  exact j74
def xX12_lies_65 (s_X12_begins : zq_Sp) (s_X12_isGuest : zq_Sp) (s_X12_readsTurns : zq_Sp) (s_X12_laysTable : zq_Sp) (s_X12_picksAsWorth : zq_Sp) (s_X12_goesByTurns : zq_Sp) (s_X12_worthOf : zq_Sp) (s_X12_enters : zq_Sp) (J65 : zq_P) (J74 : zq_P) (J110 : zq_P) (Q : zq_Q) (ls : zq_L) (st : List Value) (h : zq_H) : Prop := (zi_iload 7 (zi_push (.int 3) (zi_if2 (fun x y => y ≤ x) (xX12_lies_204 s_X12_begins s_X12_isGuest s_X12_readsTurns s_X12_laysTable s_X12_picksAsWorth s_X12_goesByTurns s_X12_worthOf s_X12_enters J65 J74 J110 Q) (xX12_lies_71 s_X12_begins s_X12_isGuest s_X12_readsTurns s_X12_laysTable s_X12_picksAsWorth s_X12_goesByTurns s_X12_worthOf s_X12_enters J65 J74 J110 Q)))) ls st h
theorem kX12_lies_65 {X : zq_X} {d : Nat} (C : zq_C X cX12_lies 11 RX12 d) {d_X12_begins : Nat} {s_X12_begins : zq_Sp} (h_X12_begins : zq_M yX12_begins cX12_begins 3 (some .int) 1 d_X12_begins s_X12_begins) (g_X12_begins : d_X12_begins + 1 ≤ d) {d_X12_isGuest : Nat} {s_X12_isGuest : zq_Sp} (h_X12_isGuest : zq_M yX12_isGuest cX12_isGuest 2 (some .boolean) 1 d_X12_isGuest s_X12_isGuest) (g_X12_isGuest : d_X12_isGuest + 1 ≤ d) {d_X12_readsTurns : Nat} {s_X12_readsTurns : zq_Sp} (h_X12_readsTurns : zq_M yX12_readsTurns cX12_readsTurns 3 (some .int) 1 d_X12_readsTurns s_X12_readsTurns) (g_X12_readsTurns : d_X12_readsTurns + 1 ≤ d) {d_X12_laysTable : Nat} {s_X12_laysTable : zq_Sp} (h_X12_laysTable : zq_M yX12_laysTable cX12_laysTable 3 none 0 d_X12_laysTable s_X12_laysTable) (g_X12_laysTable : d_X12_laysTable + 1 ≤ d) {d_X12_picksAsWorth : Nat} {s_X12_picksAsWorth : zq_Sp} (h_X12_picksAsWorth : zq_M yX12_picksAsWorth cX12_picksAsWorth 2 none 0 d_X12_picksAsWorth s_X12_picksAsWorth) (g_X12_picksAsWorth : d_X12_picksAsWorth + 1 ≤ d) {d_X12_goesByTurns : Nat} {s_X12_goesByTurns : zq_Sp} (h_X12_goesByTurns : zq_M yX12_goesByTurns cX12_goesByTurns 6 none 0 d_X12_goesByTurns s_X12_goesByTurns) (g_X12_goesByTurns : d_X12_goesByTurns + 1 ≤ d) {d_X12_worthOf : Nat} {s_X12_worthOf : zq_Sp} (h_X12_worthOf : zq_M yX12_worthOf cX12_worthOf 3 (some .int) 1 d_X12_worthOf s_X12_worthOf) (g_X12_worthOf : d_X12_worthOf + 1 ≤ d) {d_X12_enters : Nat} {s_X12_enters : zq_Sp} (h_X12_enters : zq_M yX12_enters cX12_enters 3 none 0 d_X12_enters s_X12_enters) (g_X12_enters : d_X12_enters + 1 ≤ d) {J65 : zq_P} (j65 : zq_ok X 11 65 J65) {J74 : zq_P} (j74 : zq_ok X 11 74 J74) {J110 : zq_P} (j110 : zq_ok X 11 110 J110) {Q : zq_Q} (hq : zq_R X (some .int) 1 Q) : zq_ok X 11 65 (xX12_lies_65 s_X12_begins s_X12_isGuest s_X12_readsTurns s_X12_laysTable s_X12_picksAsWorth s_X12_goesByTurns s_X12_worthOf s_X12_enters J65 J74 J110 Q) := by
  refine zs_iload C dX12_lies_65 ?_
  refine zs_iconst C dX12_lies_67 (by decide) ?_
  exact zs_icmp_ge C dX12_lies_68 (by decide) (kX12_lies_204 C h_X12_begins g_X12_begins h_X12_isGuest g_X12_isGuest h_X12_readsTurns g_X12_readsTurns h_X12_laysTable g_X12_laysTable h_X12_picksAsWorth g_X12_picksAsWorth h_X12_goesByTurns g_X12_goesByTurns h_X12_worthOf g_X12_worthOf h_X12_enters g_X12_enters j65 j74 j110 hq) (kX12_lies_71 C h_X12_begins g_X12_begins h_X12_isGuest g_X12_isGuest h_X12_readsTurns g_X12_readsTurns h_X12_laysTable g_X12_laysTable h_X12_picksAsWorth g_X12_picksAsWorth h_X12_goesByTurns g_X12_goesByTurns h_X12_worthOf g_X12_worthOf h_X12_enters g_X12_enters j65 j74 j110 hq)
def xX12_lies_34 (s_X12_begins : zq_Sp) (s_X12_isGuest : zq_Sp) (s_X12_readsTurns : zq_Sp) (s_X12_laysTable : zq_Sp) (s_X12_picksAsWorth : zq_Sp) (s_X12_goesByTurns : zq_Sp) (s_X12_worthOf : zq_Sp) (s_X12_enters : zq_Sp) (J65 : zq_P) (J74 : zq_P) (J110 : zq_P) (Q : zq_Q) (ls : zq_L) (st : List Value) (h : zq_H) : Prop := (zi_aload 0 (zi_callV 0 56 s_X12_laysTable (zi_aload 0 (zi_callV 0 56 s_X12_picksAsWorth (zi_aload 0 (zi_callV 0 56 s_X12_goesByTurns (zi_aload 0 (zi_getR 56 90 (zi_iload 1 (zi_aldI 90 6 (zi_istore 3 (zi_push (.int 0) (zi_istore 4 (zi_push (.int (-1)) (zi_istore 5 (zi_push (.int (-1)) (zi_istore 6 (zi_push (.int 0) (zi_istore 7 (J65)))))))))))))))))))) ls st h
theorem kX12_lies_34 {X : zq_X} {d : Nat} (C : zq_C X cX12_lies 11 RX12 d) {d_X12_begins : Nat} {s_X12_begins : zq_Sp} (h_X12_begins : zq_M yX12_begins cX12_begins 3 (some .int) 1 d_X12_begins s_X12_begins) (g_X12_begins : d_X12_begins + 1 ≤ d) {d_X12_isGuest : Nat} {s_X12_isGuest : zq_Sp} (h_X12_isGuest : zq_M yX12_isGuest cX12_isGuest 2 (some .boolean) 1 d_X12_isGuest s_X12_isGuest) (g_X12_isGuest : d_X12_isGuest + 1 ≤ d) {d_X12_readsTurns : Nat} {s_X12_readsTurns : zq_Sp} (h_X12_readsTurns : zq_M yX12_readsTurns cX12_readsTurns 3 (some .int) 1 d_X12_readsTurns s_X12_readsTurns) (g_X12_readsTurns : d_X12_readsTurns + 1 ≤ d) {d_X12_laysTable : Nat} {s_X12_laysTable : zq_Sp} (h_X12_laysTable : zq_M yX12_laysTable cX12_laysTable 3 none 0 d_X12_laysTable s_X12_laysTable) (g_X12_laysTable : d_X12_laysTable + 1 ≤ d) {d_X12_picksAsWorth : Nat} {s_X12_picksAsWorth : zq_Sp} (h_X12_picksAsWorth : zq_M yX12_picksAsWorth cX12_picksAsWorth 2 none 0 d_X12_picksAsWorth s_X12_picksAsWorth) (g_X12_picksAsWorth : d_X12_picksAsWorth + 1 ≤ d) {d_X12_goesByTurns : Nat} {s_X12_goesByTurns : zq_Sp} (h_X12_goesByTurns : zq_M yX12_goesByTurns cX12_goesByTurns 6 none 0 d_X12_goesByTurns s_X12_goesByTurns) (g_X12_goesByTurns : d_X12_goesByTurns + 1 ≤ d) {d_X12_worthOf : Nat} {s_X12_worthOf : zq_Sp} (h_X12_worthOf : zq_M yX12_worthOf cX12_worthOf 3 (some .int) 1 d_X12_worthOf s_X12_worthOf) (g_X12_worthOf : d_X12_worthOf + 1 ≤ d) {d_X12_enters : Nat} {s_X12_enters : zq_Sp} (h_X12_enters : zq_M yX12_enters cX12_enters 3 none 0 d_X12_enters s_X12_enters) (g_X12_enters : d_X12_enters + 1 ≤ d) {J65 : zq_P} (j65 : zq_ok X 11 65 J65) {J74 : zq_P} (j74 : zq_ok X 11 74 J74) {J110 : zq_P} (j110 : zq_ok X 11 110 J110) {Q : zq_Q} (hq : zq_R X (some .int) 1 Q) : zq_ok X 11 34 (xX12_lies_34 s_X12_begins s_X12_isGuest s_X12_readsTurns s_X12_laysTable s_X12_picksAsWorth s_X12_goesByTurns s_X12_worthOf s_X12_enters J65 J74 J110 Q) := by
  refine zs_aload_n C dX12_lies_34 rfl ?_
  refine zs_callV C h_X12_laysTable g_X12_laysTable zy_X12_laysTable zp_56 (show vwCl[12]? = some (RX12, TX12, 67) from rfl) zw_1471 zw_1473 zs9_X12_laysTable dX12_lies_35 ?_
  refine zs_aload_n C dX12_lies_38 rfl ?_
  refine zs_callV C h_X12_picksAsWorth g_X12_picksAsWorth zy_X12_picksAsWorth zp_56 (show vwCl[12]? = some (RX12, TX12, 67) from rfl) zw_1688 zw_1690 zs9_X12_picksAsWorth dX12_lies_39 ?_
  refine zs_aload_n C dX12_lies_42 rfl ?_
  refine zs_callV C h_X12_goesByTurns g_X12_goesByTurns zy_X12_goesByTurns zp_56 (show vwCl[12]? = some (RX12, TX12, 67) from rfl) zw_1692 zw_1694 zs9_X12_goesByTurns dX12_lies_43 ?_
  refine zs_aload_n C dX12_lies_46 rfl ?_
  refine zs_getR C zp_56 zF12 (j := 52) ⟨by decide, rfl⟩ zw_1148 dX12_lies_47 ?_
  refine zs_iload_n C dX12_lies_50 rfl ?_
  refine zs_iaload C zp_90 dX12_lies_51 ?_
  refine zs_istore_n C dX12_lies_52 rfl (by decide) ?_
  refine zs_iconst C dX12_lies_53 (by decide) ?_
  refine zs_istore C dX12_lies_54 (by decide) ?_
  refine zs_iconst C dX12_lies_56 (by decide) ?_
  refine zs_istore C dX12_lies_57 (by decide) ?_
  refine zs_iconst C dX12_lies_59 (by decide) ?_
  refine zs_istore C dX12_lies_60 (by decide) ?_
  refine zs_iconst C dX12_lies_62 (by decide) ?_
  refine zs_istore C dX12_lies_63 (by decide) ?_
  exact j65
def xX12_lies_32 (s_X12_begins : zq_Sp) (s_X12_isGuest : zq_Sp) (s_X12_readsTurns : zq_Sp) (s_X12_laysTable : zq_Sp) (s_X12_picksAsWorth : zq_Sp) (s_X12_goesByTurns : zq_Sp) (s_X12_worthOf : zq_Sp) (s_X12_enters : zq_Sp) (J65 : zq_P) (J74 : zq_P) (J110 : zq_P) (Q : zq_Q) (ls : zq_L) (st : List Value) (h : zq_H) : Prop := (zi_iload 2 (zi_iret Q)) ls st h
theorem kX12_lies_32 {X : zq_X} {d : Nat} (C : zq_C X cX12_lies 11 RX12 d) {d_X12_begins : Nat} {s_X12_begins : zq_Sp} (h_X12_begins : zq_M yX12_begins cX12_begins 3 (some .int) 1 d_X12_begins s_X12_begins) (g_X12_begins : d_X12_begins + 1 ≤ d) {d_X12_isGuest : Nat} {s_X12_isGuest : zq_Sp} (h_X12_isGuest : zq_M yX12_isGuest cX12_isGuest 2 (some .boolean) 1 d_X12_isGuest s_X12_isGuest) (g_X12_isGuest : d_X12_isGuest + 1 ≤ d) {d_X12_readsTurns : Nat} {s_X12_readsTurns : zq_Sp} (h_X12_readsTurns : zq_M yX12_readsTurns cX12_readsTurns 3 (some .int) 1 d_X12_readsTurns s_X12_readsTurns) (g_X12_readsTurns : d_X12_readsTurns + 1 ≤ d) {d_X12_laysTable : Nat} {s_X12_laysTable : zq_Sp} (h_X12_laysTable : zq_M yX12_laysTable cX12_laysTable 3 none 0 d_X12_laysTable s_X12_laysTable) (g_X12_laysTable : d_X12_laysTable + 1 ≤ d) {d_X12_picksAsWorth : Nat} {s_X12_picksAsWorth : zq_Sp} (h_X12_picksAsWorth : zq_M yX12_picksAsWorth cX12_picksAsWorth 2 none 0 d_X12_picksAsWorth s_X12_picksAsWorth) (g_X12_picksAsWorth : d_X12_picksAsWorth + 1 ≤ d) {d_X12_goesByTurns : Nat} {s_X12_goesByTurns : zq_Sp} (h_X12_goesByTurns : zq_M yX12_goesByTurns cX12_goesByTurns 6 none 0 d_X12_goesByTurns s_X12_goesByTurns) (g_X12_goesByTurns : d_X12_goesByTurns + 1 ≤ d) {d_X12_worthOf : Nat} {s_X12_worthOf : zq_Sp} (h_X12_worthOf : zq_M yX12_worthOf cX12_worthOf 3 (some .int) 1 d_X12_worthOf s_X12_worthOf) (g_X12_worthOf : d_X12_worthOf + 1 ≤ d) {d_X12_enters : Nat} {s_X12_enters : zq_Sp} (h_X12_enters : zq_M yX12_enters cX12_enters 3 none 0 d_X12_enters s_X12_enters) (g_X12_enters : d_X12_enters + 1 ≤ d) {J65 : zq_P} (j65 : zq_ok X 11 65 J65) {J74 : zq_P} (j74 : zq_ok X 11 74 J74) {J110 : zq_P} (j110 : zq_ok X 11 110 J110) {Q : zq_Q} (hq : zq_R X (some .int) 1 Q) : zq_ok X 11 32 (xX12_lies_32 s_X12_begins s_X12_isGuest s_X12_readsTurns s_X12_laysTable s_X12_picksAsWorth s_X12_goesByTurns s_X12_worthOf s_X12_enters J65 J74 J110 Q) := by
  refine zs_iload_n C dX12_lies_32 rfl ?_
  exact zs_iret C hq dX12_lies_33
def xX12_lies_23 (s_X12_begins : zq_Sp) (s_X12_isGuest : zq_Sp) (s_X12_readsTurns : zq_Sp) (s_X12_laysTable : zq_Sp) (s_X12_picksAsWorth : zq_Sp) (s_X12_goesByTurns : zq_Sp) (s_X12_worthOf : zq_Sp) (s_X12_enters : zq_Sp) (J65 : zq_P) (J74 : zq_P) (J110 : zq_P) (Q : zq_Q) (ls : zq_L) (st : List Value) (h : zq_H) : Prop := (zi_aload 0 (zi_callV 0 56 s_X12_readsTurns (zi_istore 2 (zi_iload 2 (zi_if1 (fun x => 0 ≤ x) (xX12_lies_34 s_X12_begins s_X12_isGuest s_X12_readsTurns s_X12_laysTable s_X12_picksAsWorth s_X12_goesByTurns s_X12_worthOf s_X12_enters J65 J74 J110 Q) (xX12_lies_32 s_X12_begins s_X12_isGuest s_X12_readsTurns s_X12_laysTable s_X12_picksAsWorth s_X12_goesByTurns s_X12_worthOf s_X12_enters J65 J74 J110 Q)))))) ls st h
theorem kX12_lies_23 {X : zq_X} {d : Nat} (C : zq_C X cX12_lies 11 RX12 d) {d_X12_begins : Nat} {s_X12_begins : zq_Sp} (h_X12_begins : zq_M yX12_begins cX12_begins 3 (some .int) 1 d_X12_begins s_X12_begins) (g_X12_begins : d_X12_begins + 1 ≤ d) {d_X12_isGuest : Nat} {s_X12_isGuest : zq_Sp} (h_X12_isGuest : zq_M yX12_isGuest cX12_isGuest 2 (some .boolean) 1 d_X12_isGuest s_X12_isGuest) (g_X12_isGuest : d_X12_isGuest + 1 ≤ d) {d_X12_readsTurns : Nat} {s_X12_readsTurns : zq_Sp} (h_X12_readsTurns : zq_M yX12_readsTurns cX12_readsTurns 3 (some .int) 1 d_X12_readsTurns s_X12_readsTurns) (g_X12_readsTurns : d_X12_readsTurns + 1 ≤ d) {d_X12_laysTable : Nat} {s_X12_laysTable : zq_Sp} (h_X12_laysTable : zq_M yX12_laysTable cX12_laysTable 3 none 0 d_X12_laysTable s_X12_laysTable) (g_X12_laysTable : d_X12_laysTable + 1 ≤ d) {d_X12_picksAsWorth : Nat} {s_X12_picksAsWorth : zq_Sp} (h_X12_picksAsWorth : zq_M yX12_picksAsWorth cX12_picksAsWorth 2 none 0 d_X12_picksAsWorth s_X12_picksAsWorth) (g_X12_picksAsWorth : d_X12_picksAsWorth + 1 ≤ d) {d_X12_goesByTurns : Nat} {s_X12_goesByTurns : zq_Sp} (h_X12_goesByTurns : zq_M yX12_goesByTurns cX12_goesByTurns 6 none 0 d_X12_goesByTurns s_X12_goesByTurns) (g_X12_goesByTurns : d_X12_goesByTurns + 1 ≤ d) {d_X12_worthOf : Nat} {s_X12_worthOf : zq_Sp} (h_X12_worthOf : zq_M yX12_worthOf cX12_worthOf 3 (some .int) 1 d_X12_worthOf s_X12_worthOf) (g_X12_worthOf : d_X12_worthOf + 1 ≤ d) {d_X12_enters : Nat} {s_X12_enters : zq_Sp} (h_X12_enters : zq_M yX12_enters cX12_enters 3 none 0 d_X12_enters s_X12_enters) (g_X12_enters : d_X12_enters + 1 ≤ d) {J65 : zq_P} (j65 : zq_ok X 11 65 J65) {J74 : zq_P} (j74 : zq_ok X 11 74 J74) {J110 : zq_P} (j110 : zq_ok X 11 110 J110) {Q : zq_Q} (hq : zq_R X (some .int) 1 Q) : zq_ok X 11 23 (xX12_lies_23 s_X12_begins s_X12_isGuest s_X12_readsTurns s_X12_laysTable s_X12_picksAsWorth s_X12_goesByTurns s_X12_worthOf s_X12_enters J65 J74 J110 Q) := by
  refine zs_aload_n C dX12_lies_23 rfl ?_
  refine zs_callV C h_X12_readsTurns g_X12_readsTurns zy_X12_readsTurns zp_56 (show vwCl[12]? = some (RX12, TX12, 67) from rfl) zw_1684 zw_1686 zs9_X12_readsTurns dX12_lies_24 ?_
  refine zs_istore_n C dX12_lies_27 rfl (by decide) ?_
  refine zs_iload_n C dX12_lies_28 rfl ?_
  exact zs_if_ge C dX12_lies_29 (by decide) (kX12_lies_34 C h_X12_begins g_X12_begins h_X12_isGuest g_X12_isGuest h_X12_readsTurns g_X12_readsTurns h_X12_laysTable g_X12_laysTable h_X12_picksAsWorth g_X12_picksAsWorth h_X12_goesByTurns g_X12_goesByTurns h_X12_worthOf g_X12_worthOf h_X12_enters g_X12_enters j65 j74 j110 hq) (kX12_lies_32 C h_X12_begins g_X12_begins h_X12_isGuest g_X12_isGuest h_X12_readsTurns g_X12_readsTurns h_X12_laysTable g_X12_laysTable h_X12_picksAsWorth g_X12_picksAsWorth h_X12_goesByTurns g_X12_goesByTurns h_X12_worthOf g_X12_worthOf h_X12_enters g_X12_enters j65 j74 j110 hq)
def xX12_lies_20 (s_X12_begins : zq_Sp) (s_X12_isGuest : zq_Sp) (s_X12_readsTurns : zq_Sp) (s_X12_laysTable : zq_Sp) (s_X12_picksAsWorth : zq_Sp) (s_X12_goesByTurns : zq_Sp) (s_X12_worthOf : zq_Sp) (s_X12_enters : zq_Sp) (J65 : zq_P) (J74 : zq_P) (J110 : zq_P) (Q : zq_Q) (ls : zq_L) (st : List Value) (h : zq_H) : Prop := (zi_push (.int (-100)) (zi_iret Q)) ls st h
theorem kX12_lies_20 {X : zq_X} {d : Nat} (C : zq_C X cX12_lies 11 RX12 d) {d_X12_begins : Nat} {s_X12_begins : zq_Sp} (h_X12_begins : zq_M yX12_begins cX12_begins 3 (some .int) 1 d_X12_begins s_X12_begins) (g_X12_begins : d_X12_begins + 1 ≤ d) {d_X12_isGuest : Nat} {s_X12_isGuest : zq_Sp} (h_X12_isGuest : zq_M yX12_isGuest cX12_isGuest 2 (some .boolean) 1 d_X12_isGuest s_X12_isGuest) (g_X12_isGuest : d_X12_isGuest + 1 ≤ d) {d_X12_readsTurns : Nat} {s_X12_readsTurns : zq_Sp} (h_X12_readsTurns : zq_M yX12_readsTurns cX12_readsTurns 3 (some .int) 1 d_X12_readsTurns s_X12_readsTurns) (g_X12_readsTurns : d_X12_readsTurns + 1 ≤ d) {d_X12_laysTable : Nat} {s_X12_laysTable : zq_Sp} (h_X12_laysTable : zq_M yX12_laysTable cX12_laysTable 3 none 0 d_X12_laysTable s_X12_laysTable) (g_X12_laysTable : d_X12_laysTable + 1 ≤ d) {d_X12_picksAsWorth : Nat} {s_X12_picksAsWorth : zq_Sp} (h_X12_picksAsWorth : zq_M yX12_picksAsWorth cX12_picksAsWorth 2 none 0 d_X12_picksAsWorth s_X12_picksAsWorth) (g_X12_picksAsWorth : d_X12_picksAsWorth + 1 ≤ d) {d_X12_goesByTurns : Nat} {s_X12_goesByTurns : zq_Sp} (h_X12_goesByTurns : zq_M yX12_goesByTurns cX12_goesByTurns 6 none 0 d_X12_goesByTurns s_X12_goesByTurns) (g_X12_goesByTurns : d_X12_goesByTurns + 1 ≤ d) {d_X12_worthOf : Nat} {s_X12_worthOf : zq_Sp} (h_X12_worthOf : zq_M yX12_worthOf cX12_worthOf 3 (some .int) 1 d_X12_worthOf s_X12_worthOf) (g_X12_worthOf : d_X12_worthOf + 1 ≤ d) {d_X12_enters : Nat} {s_X12_enters : zq_Sp} (h_X12_enters : zq_M yX12_enters cX12_enters 3 none 0 d_X12_enters s_X12_enters) (g_X12_enters : d_X12_enters + 1 ≤ d) {J65 : zq_P} (j65 : zq_ok X 11 65 J65) {J74 : zq_P} (j74 : zq_ok X 11 74 J74) {J110 : zq_P} (j110 : zq_ok X 11 110 J110) {Q : zq_Q} (hq : zq_R X (some .int) 1 Q) : zq_ok X 11 20 (xX12_lies_20 s_X12_begins s_X12_isGuest s_X12_readsTurns s_X12_laysTable s_X12_picksAsWorth s_X12_goesByTurns s_X12_worthOf s_X12_enters J65 J74 J110 Q) := by
  refine zs_bipush C dX12_lies_20 (by decide) ?_
  exact zs_iret C hq dX12_lies_22
def xX12_lies_0 (s_X12_begins : zq_Sp) (s_X12_isGuest : zq_Sp) (s_X12_readsTurns : zq_Sp) (s_X12_laysTable : zq_Sp) (s_X12_picksAsWorth : zq_Sp) (s_X12_goesByTurns : zq_Sp) (s_X12_worthOf : zq_Sp) (s_X12_enters : zq_Sp) (J65 : zq_P) (J74 : zq_P) (J110 : zq_P) (Q : zq_Q) (ls : zq_L) (st : List Value) (h : zq_H) : Prop := (zi_aload 0 (zi_push (.int 0) (zi_putI 56 0 (zi_aload 0 (zi_push (.int 80) (zi_callV 1 56 s_X12_begins (zi_pop (zi_aload 0 (zi_iload 1 (zi_callV 1 56 s_X12_isGuest (zi_if1 (fun x => x = 0) (xX12_lies_20 s_X12_begins s_X12_isGuest s_X12_readsTurns s_X12_laysTable s_X12_picksAsWorth s_X12_goesByTurns s_X12_worthOf s_X12_enters J65 J74 J110 Q) (xX12_lies_23 s_X12_begins s_X12_isGuest s_X12_readsTurns s_X12_laysTable s_X12_picksAsWorth s_X12_goesByTurns s_X12_worthOf s_X12_enters J65 J74 J110 Q)))))))))))) ls st h
theorem kX12_lies_0 {X : zq_X} {d : Nat} (C : zq_C X cX12_lies 11 RX12 d) {d_X12_begins : Nat} {s_X12_begins : zq_Sp} (h_X12_begins : zq_M yX12_begins cX12_begins 3 (some .int) 1 d_X12_begins s_X12_begins) (g_X12_begins : d_X12_begins + 1 ≤ d) {d_X12_isGuest : Nat} {s_X12_isGuest : zq_Sp} (h_X12_isGuest : zq_M yX12_isGuest cX12_isGuest 2 (some .boolean) 1 d_X12_isGuest s_X12_isGuest) (g_X12_isGuest : d_X12_isGuest + 1 ≤ d) {d_X12_readsTurns : Nat} {s_X12_readsTurns : zq_Sp} (h_X12_readsTurns : zq_M yX12_readsTurns cX12_readsTurns 3 (some .int) 1 d_X12_readsTurns s_X12_readsTurns) (g_X12_readsTurns : d_X12_readsTurns + 1 ≤ d) {d_X12_laysTable : Nat} {s_X12_laysTable : zq_Sp} (h_X12_laysTable : zq_M yX12_laysTable cX12_laysTable 3 none 0 d_X12_laysTable s_X12_laysTable) (g_X12_laysTable : d_X12_laysTable + 1 ≤ d) {d_X12_picksAsWorth : Nat} {s_X12_picksAsWorth : zq_Sp} (h_X12_picksAsWorth : zq_M yX12_picksAsWorth cX12_picksAsWorth 2 none 0 d_X12_picksAsWorth s_X12_picksAsWorth) (g_X12_picksAsWorth : d_X12_picksAsWorth + 1 ≤ d) {d_X12_goesByTurns : Nat} {s_X12_goesByTurns : zq_Sp} (h_X12_goesByTurns : zq_M yX12_goesByTurns cX12_goesByTurns 6 none 0 d_X12_goesByTurns s_X12_goesByTurns) (g_X12_goesByTurns : d_X12_goesByTurns + 1 ≤ d) {d_X12_worthOf : Nat} {s_X12_worthOf : zq_Sp} (h_X12_worthOf : zq_M yX12_worthOf cX12_worthOf 3 (some .int) 1 d_X12_worthOf s_X12_worthOf) (g_X12_worthOf : d_X12_worthOf + 1 ≤ d) {d_X12_enters : Nat} {s_X12_enters : zq_Sp} (h_X12_enters : zq_M yX12_enters cX12_enters 3 none 0 d_X12_enters s_X12_enters) (g_X12_enters : d_X12_enters + 1 ≤ d) {J65 : zq_P} (j65 : zq_ok X 11 65 J65) {J74 : zq_P} (j74 : zq_ok X 11 74 J74) {J110 : zq_P} (j110 : zq_ok X 11 110 J110) {Q : zq_Q} (hq : zq_R X (some .int) 1 Q) : zq_ok X 11 0 (xX12_lies_0 s_X12_begins s_X12_isGuest s_X12_readsTurns s_X12_laysTable s_X12_picksAsWorth s_X12_goesByTurns s_X12_worthOf s_X12_enters J65 J74 J110 Q) := by
  refine zs_aload_n C dX12_lies_0 rfl ?_
  refine zs_iconst C dX12_lies_1 (by decide) ?_
  refine zs_putI C zp_56 zF12 (j := 0) ⟨by decide, rfl⟩ ⟨rfl, by decide +kernel⟩ zw_1096 dX12_lies_2 ?_
  refine zs_aload_n C dX12_lies_5 rfl ?_
  refine zs_bipush C dX12_lies_6 (by decide) ?_
  refine zs_callV C h_X12_begins g_X12_begins zy_X12_begins zp_56 (show vwCl[12]? = some (RX12, TX12, 67) from rfl) zw_1318 zw_1320 zs9_X12_begins dX12_lies_8 ?_
  refine zs_pop C dX12_lies_11 ?_
  refine zs_aload_n C dX12_lies_12 rfl ?_
  refine zs_iload_n C dX12_lies_13 rfl ?_
  refine zs_callV C h_X12_isGuest g_X12_isGuest zy_X12_isGuest zp_56 (show vwCl[12]? = some (RX12, TX12, 67) from rfl) zw_1466 zw_1468 zs9_X12_isGuest dX12_lies_14 ?_
  exact zs_if_ne C dX12_lies_17 (by decide) (kX12_lies_23 C h_X12_begins g_X12_begins h_X12_isGuest g_X12_isGuest h_X12_readsTurns g_X12_readsTurns h_X12_laysTable g_X12_laysTable h_X12_picksAsWorth g_X12_picksAsWorth h_X12_goesByTurns g_X12_goesByTurns h_X12_worthOf g_X12_worthOf h_X12_enters g_X12_enters j65 j74 j110 hq) (kX12_lies_20 C h_X12_begins g_X12_begins h_X12_isGuest g_X12_isGuest h_X12_readsTurns g_X12_readsTurns h_X12_laysTable g_X12_laysTable h_X12_picksAsWorth g_X12_picksAsWorth h_X12_goesByTurns g_X12_goesByTurns h_X12_worthOf g_X12_worthOf h_X12_enters g_X12_enters j65 j74 j110 hq)
theorem mX12_lies {d : Nat} {spec : zq_Sp} {σ65 : Type} {σ74 : Type} {σ110 : Type} {d_X12_begins : Nat} {s_X12_begins : zq_Sp} (h_X12_begins : zq_M yX12_begins cX12_begins 3 (some .int) 1 d_X12_begins s_X12_begins) (g_X12_begins : d_X12_begins + 1 ≤ d) {d_X12_isGuest : Nat} {s_X12_isGuest : zq_Sp} (h_X12_isGuest : zq_M yX12_isGuest cX12_isGuest 2 (some .boolean) 1 d_X12_isGuest s_X12_isGuest) (g_X12_isGuest : d_X12_isGuest + 1 ≤ d) {d_X12_readsTurns : Nat} {s_X12_readsTurns : zq_Sp} (h_X12_readsTurns : zq_M yX12_readsTurns cX12_readsTurns 3 (some .int) 1 d_X12_readsTurns s_X12_readsTurns) (g_X12_readsTurns : d_X12_readsTurns + 1 ≤ d) {d_X12_laysTable : Nat} {s_X12_laysTable : zq_Sp} (h_X12_laysTable : zq_M yX12_laysTable cX12_laysTable 3 none 0 d_X12_laysTable s_X12_laysTable) (g_X12_laysTable : d_X12_laysTable + 1 ≤ d) {d_X12_picksAsWorth : Nat} {s_X12_picksAsWorth : zq_Sp} (h_X12_picksAsWorth : zq_M yX12_picksAsWorth cX12_picksAsWorth 2 none 0 d_X12_picksAsWorth s_X12_picksAsWorth) (g_X12_picksAsWorth : d_X12_picksAsWorth + 1 ≤ d) {d_X12_goesByTurns : Nat} {s_X12_goesByTurns : zq_Sp} (h_X12_goesByTurns : zq_M yX12_goesByTurns cX12_goesByTurns 6 none 0 d_X12_goesByTurns s_X12_goesByTurns) (g_X12_goesByTurns : d_X12_goesByTurns + 1 ≤ d) {d_X12_worthOf : Nat} {s_X12_worthOf : zq_Sp} (h_X12_worthOf : zq_M yX12_worthOf cX12_worthOf 3 (some .int) 1 d_X12_worthOf s_X12_worthOf) (g_X12_worthOf : d_X12_worthOf + 1 ≤ d) {d_X12_enters : Nat} {s_X12_enters : zq_Sp} (h_X12_enters : zq_M yX12_enters cX12_enters 3 none 0 d_X12_enters s_X12_enters) (g_X12_enters : d_X12_enters + 1 ≤ d) (μ65 : σ65 → Nat) (I65 : zq_Q → σ65 → zq_P) (μ74 : σ74 → Nat) (I74 : zq_Q → σ74 → zq_P) (μ110 : σ110 → Nat) (I110 : zq_Q → σ110 → zq_P) (v : ∀ args h Q, spec args h Q → (zq_a args).length ≤ 11 ∧ xX12_lies_0 s_X12_begins s_X12_isGuest s_X12_readsTurns s_X12_laysTable s_X12_picksAsWorth s_X12_goesByTurns s_X12_worthOf s_X12_enters (fun ls st h => ∃ b, I65 Q b ls st h) (fun ls st h => ∃ b, I74 Q b ls st h) (fun ls st h => ∃ b, I110 Q b ls st h) Q (zq_l0 11 args) [] h) (v65 : ∀ Q a ls st h, I65 Q a ls st h → xX12_lies_65 s_X12_begins s_X12_isGuest s_X12_readsTurns s_X12_laysTable s_X12_picksAsWorth s_X12_goesByTurns s_X12_worthOf s_X12_enters (fun ls st h => ∃ b, μ65 b < μ65 a ∧ I65 Q b ls st h) (fun ls st h => ∃ b, μ74 b < μ65 a ∧ I74 Q b ls st h) (fun ls st h => ∃ b, μ110 b < μ65 a ∧ I110 Q b ls st h) Q ls st h) (v74 : ∀ Q a ls st h, I74 Q a ls st h → xX12_lies_74 s_X12_begins s_X12_isGuest s_X12_readsTurns s_X12_laysTable s_X12_picksAsWorth s_X12_goesByTurns s_X12_worthOf s_X12_enters (fun ls st h => ∃ b, μ65 b < μ74 a ∧ I65 Q b ls st h) (fun ls st h => ∃ b, μ74 b < μ74 a ∧ I74 Q b ls st h) (fun ls st h => ∃ b, μ110 b < μ74 a ∧ I110 Q b ls st h) Q ls st h) (v110 : ∀ Q a ls st h, I110 Q a ls st h → xX12_lies_110 s_X12_begins s_X12_isGuest s_X12_readsTurns s_X12_laysTable s_X12_picksAsWorth s_X12_goesByTurns s_X12_worthOf s_X12_enters (fun ls st h => ∃ b, μ65 b < μ110 a ∧ I65 Q b ls st h) (fun ls st h => ∃ b, μ74 b < μ110 a ∧ I74 Q b ls st h) (fun ls st h => ∃ b, μ110 b < μ110 a ∧ I110 Q b ls st h) Q ls st h) : zq_M yX12_lies cX12_lies 11 (some .int) 1 d spec := by
  refine zq_met (by decide +kernel) (by decide) (fun X Q args h C hq hs => ⟨(v args h Q hs).1, _, ?_, (v args h Q hs).2⟩)
  have hl := zq_loop3 (X := X) (nL := 11) (pc1 := 65) (pc2 := 74) (pc3 := 110) μ65 μ74 μ110 (I65 Q) (I74 Q) (I110 Q) (fun J65 J74 J110 => xX12_lies_65 s_X12_begins s_X12_isGuest s_X12_readsTurns s_X12_laysTable s_X12_picksAsWorth s_X12_goesByTurns s_X12_worthOf s_X12_enters J65 J74 J110 Q) (fun J65 J74 J110 => xX12_lies_74 s_X12_begins s_X12_isGuest s_X12_readsTurns s_X12_laysTable s_X12_picksAsWorth s_X12_goesByTurns s_X12_worthOf s_X12_enters J65 J74 J110 Q) (fun J65 J74 J110 => xX12_lies_110 s_X12_begins s_X12_isGuest s_X12_readsTurns s_X12_laysTable s_X12_picksAsWorth s_X12_goesByTurns s_X12_worthOf s_X12_enters J65 J74 J110 Q) (fun j65 j74 j110 => kX12_lies_65 C h_X12_begins g_X12_begins h_X12_isGuest g_X12_isGuest h_X12_readsTurns g_X12_readsTurns h_X12_laysTable g_X12_laysTable h_X12_picksAsWorth g_X12_picksAsWorth h_X12_goesByTurns g_X12_goesByTurns h_X12_worthOf g_X12_worthOf h_X12_enters g_X12_enters j65 j74 j110 hq) (fun j65 j74 j110 => kX12_lies_74 C h_X12_begins g_X12_begins h_X12_isGuest g_X12_isGuest h_X12_readsTurns g_X12_readsTurns h_X12_laysTable g_X12_laysTable h_X12_picksAsWorth g_X12_picksAsWorth h_X12_goesByTurns g_X12_goesByTurns h_X12_worthOf g_X12_worthOf h_X12_enters g_X12_enters j65 j74 j110 hq) (fun j65 j74 j110 => kX12_lies_110 C h_X12_begins g_X12_begins h_X12_isGuest g_X12_isGuest h_X12_readsTurns g_X12_readsTurns h_X12_laysTable g_X12_laysTable h_X12_picksAsWorth g_X12_picksAsWorth h_X12_goesByTurns g_X12_goesByTurns h_X12_worthOf g_X12_worthOf h_X12_enters g_X12_enters j65 j74 j110 hq) (v65 Q) (v74 Q) (v110 Q)
  exact kX12_lies_0 C h_X12_begins g_X12_begins h_X12_isGuest g_X12_isGuest h_X12_readsTurns g_X12_readsTurns h_X12_laysTable g_X12_laysTable h_X12_picksAsWorth g_X12_picksAsWorth h_X12_goesByTurns g_X12_goesByTurns h_X12_worthOf g_X12_worthOf h_X12_enters g_X12_enters hl.1 hl.2.1 hl.2.2 hq
/-! ToOneCrumbModel.chose(II)I -/
theorem dX12_chose_0 : decode cX12_chose 0 = .ok (.aload_n 0, 1) := by decide +kernel
theorem dX12_chose_1 : decode cX12_chose 1 = .ok (.iconst 0, 1) := by decide +kernel
theorem dX12_chose_2 : decode cX12_chose 2 = .ok (.putfield 147, 3) := by decide +kernel
theorem dX12_chose_5 : decode cX12_chose 5 = .ok (.aload_n 0, 1) := by decide +kernel
theorem dX12_chose_6 : decode cX12_chose 6 = .ok (.iload_n 1, 1) := by decide +kernel
theorem dX12_chose_7 : decode cX12_chose 7 = .ok (.invokevirtual 168, 3) := by decide +kernel
theorem dX12_chose_10 : decode cX12_chose 10 = .ok (.ifCond .eq 25, 3) := by decide +kernel
theorem dX12_chose_13 : decode cX12_chose 13 = .ok (.aload_n 0, 1) := by decide +kernel
theorem dX12_chose_14 : decode cX12_chose 14 = .ok (.iload_n 2, 1) := by decide +kernel
theorem dX12_chose_15 : decode cX12_chose 15 = .ok (.invokevirtual 168, 3) := by decide +kernel
theorem dX12_chose_18 : decode cX12_chose 18 = .ok (.ifCond .eq 17, 3) := by decide +kernel
theorem dX12_chose_21 : decode cX12_chose 21 = .ok (.iload_n 1, 1) := by decide +kernel
theorem dX12_chose_22 : decode cX12_chose 22 = .ok (.iload_n 2, 1) := by decide +kernel
theorem dX12_chose_23 : decode cX12_chose 23 = .ok (.if_icmp .eq 12, 3) := by decide +kernel
theorem dX12_chose_26 : decode cX12_chose 26 = .ok (.aload_n 0, 1) := by decide +kernel
theorem dX12_chose_27 : decode cX12_chose 27 = .ok (.getfield 239, 3) := by decide +kernel
theorem dX12_chose_30 : decode cX12_chose 30 = .ok (.bipush 12, 2) := by decide +kernel
theorem dX12_chose_32 : decode cX12_chose 32 = .ok (.if_icmp .ne 5, 3) := by decide +kernel
theorem dX12_chose_35 : decode cX12_chose 35 = .ok (.iconst (-1), 1) := by decide +kernel
theorem dX12_chose_36 : decode cX12_chose 36 = .ok (.ireturn, 1) := by decide +kernel
theorem dX12_chose_37 : decode cX12_chose 37 = .ok (.aload_n 0, 1) := by decide +kernel
theorem dX12_chose_38 : decode cX12_chose 38 = .ok (.getfield 114, 3) := by decide +kernel
theorem dX12_chose_41 : decode cX12_chose 41 = .ok (.aload_n 0, 1) := by decide +kernel
theorem dX12_chose_42 : decode cX12_chose 42 = .ok (.getfield 239, 3) := by decide +kernel
theorem dX12_chose_45 : decode cX12_chose 45 = .ok (.iload_n 1, 1) := by decide +kernel
theorem dX12_chose_46 : decode cX12_chose 46 = .ok (.iastore, 1) := by decide +kernel
theorem dX12_chose_47 : decode cX12_chose 47 = .ok (.aload_n 0, 1) := by decide +kernel
theorem dX12_chose_48 : decode cX12_chose 48 = .ok (.getfield 117, 3) := by decide +kernel
theorem dX12_chose_51 : decode cX12_chose 51 = .ok (.aload_n 0, 1) := by decide +kernel
theorem dX12_chose_52 : decode cX12_chose 52 = .ok (.getfield 239, 3) := by decide +kernel
theorem dX12_chose_55 : decode cX12_chose 55 = .ok (.iload_n 2, 1) := by decide +kernel
theorem dX12_chose_56 : decode cX12_chose 56 = .ok (.iastore, 1) := by decide +kernel
theorem dX12_chose_57 : decode cX12_chose 57 = .ok (.aload_n 0, 1) := by decide +kernel
theorem dX12_chose_58 : decode cX12_chose 58 = .ok (.dup, 1) := by decide +kernel
theorem dX12_chose_59 : decode cX12_chose 59 = .ok (.getfield 239, 3) := by decide +kernel
theorem dX12_chose_62 : decode cX12_chose 62 = .ok (.iconst 1, 1) := by decide +kernel
theorem dX12_chose_63 : decode cX12_chose 63 = .ok (.iadd, 1) := by decide +kernel
theorem dX12_chose_64 : decode cX12_chose 64 = .ok (.putfield 239, 3) := by decide +kernel
theorem dX12_chose_67 : decode cX12_chose 67 = .ok (.aload_n 0, 1) := by decide +kernel
theorem dX12_chose_68 : decode cX12_chose 68 = .ok (.getfield 239, 3) := by decide +kernel
theorem dX12_chose_71 : decode cX12_chose 71 = .ok (.ireturn, 1) := by decide +kernel
def xX12_chose_37 (s_X12_isCell : zq_Sp) (Q : zq_Q) (ls : zq_L) (st : List Value) (h : zq_H) : Prop := (zi_aload 0 (zi_getR 56 91 (zi_aload 0 (zi_getI 56 53 (zi_iload 1 (zi_astI 91 12 (zi_aload 0 (zi_getR 56 92 (zi_aload 0 (zi_getI 56 53 (zi_iload 2 (zi_astI 92 12 (zi_aload 0 (zi_dup (zi_getI 56 53 (zi_push (.int 1) (zi_i2 (fun x y => x + y) (zi_putI 56 53 (zi_aload 0 (zi_getI 56 53 (zi_iret Q))))))))))))))))))))) ls st h
theorem kX12_chose_37 {X : zq_X} {d : Nat} (C : zq_C X cX12_chose 3 RX12 d) {d_X12_isCell : Nat} {s_X12_isCell : zq_Sp} (h_X12_isCell : zq_M yX12_isCell cX12_isCell 2 (some .boolean) 1 d_X12_isCell s_X12_isCell) (g_X12_isCell : d_X12_isCell + 1 ≤ d) {Q : zq_Q} (hq : zq_R X (some .int) 1 Q) : zq_ok X 3 37 (xX12_chose_37 s_X12_isCell Q) := by
  refine zs_aload_n C dX12_chose_37 rfl ?_
  refine zs_getR C zp_56 zF12 (j := 54) ⟨by decide, rfl⟩ zw_1150 dX12_chose_38 ?_
  refine zs_aload_n C dX12_chose_41 rfl ?_
  refine zs_getI C zp_56 zF12 (j := 53) ⟨by decide, rfl⟩ zw_1149 dX12_chose_42 ?_
  refine zs_iload_n C dX12_chose_45 rfl ?_
  refine zs_iastore C zp_91 dX12_chose_46 ?_
  refine zs_aload_n C dX12_chose_47 rfl ?_
  refine zs_getR C zp_56 zF12 (j := 55) ⟨by decide, rfl⟩ zw_1151 dX12_chose_48 ?_
  refine zs_aload_n C dX12_chose_51 rfl ?_
  refine zs_getI C zp_56 zF12 (j := 53) ⟨by decide, rfl⟩ zw_1149 dX12_chose_52 ?_
  refine zs_iload_n C dX12_chose_55 rfl ?_
  refine zs_iastore C zp_92 dX12_chose_56 ?_
  refine zs_aload_n C dX12_chose_57 rfl ?_
  refine zs_dup C dX12_chose_58 ?_
  refine zs_getI C zp_56 zF12 (j := 53) ⟨by decide, rfl⟩ zw_1149 dX12_chose_59 ?_
  refine zs_iconst C dX12_chose_62 (by decide) ?_
  refine zs_iadd C dX12_chose_63 ?_
  refine zs_putI C zp_56 zF12 (j := 53) ⟨by decide, rfl⟩ ⟨rfl, by decide +kernel⟩ zw_1149 dX12_chose_64 ?_
  refine zs_aload_n C dX12_chose_67 rfl ?_
  refine zs_getI C zp_56 zF12 (j := 53) ⟨by decide, rfl⟩ zw_1149 dX12_chose_68 ?_
  exact zs_iret C hq dX12_chose_71
def xX12_chose_35 (s_X12_isCell : zq_Sp) (Q : zq_Q) (ls : zq_L) (st : List Value) (h : zq_H) : Prop := (zi_push (.int (-1)) (zi_iret Q)) ls st h
theorem kX12_chose_35 {X : zq_X} {d : Nat} (C : zq_C X cX12_chose 3 RX12 d) {d_X12_isCell : Nat} {s_X12_isCell : zq_Sp} (h_X12_isCell : zq_M yX12_isCell cX12_isCell 2 (some .boolean) 1 d_X12_isCell s_X12_isCell) (g_X12_isCell : d_X12_isCell + 1 ≤ d) {Q : zq_Q} (hq : zq_R X (some .int) 1 Q) : zq_ok X 3 35 (xX12_chose_35 s_X12_isCell Q) := by
  refine zs_iconst C dX12_chose_35 (by decide) ?_
  exact zs_iret C hq dX12_chose_36
def xX12_chose_26 (s_X12_isCell : zq_Sp) (Q : zq_Q) (ls : zq_L) (st : List Value) (h : zq_H) : Prop := (zi_aload 0 (zi_getI 56 53 (zi_push (.int 12) (zi_if2 (fun x y => x = y) (xX12_chose_35 s_X12_isCell Q) (xX12_chose_37 s_X12_isCell Q))))) ls st h
theorem kX12_chose_26 {X : zq_X} {d : Nat} (C : zq_C X cX12_chose 3 RX12 d) {d_X12_isCell : Nat} {s_X12_isCell : zq_Sp} (h_X12_isCell : zq_M yX12_isCell cX12_isCell 2 (some .boolean) 1 d_X12_isCell s_X12_isCell) (g_X12_isCell : d_X12_isCell + 1 ≤ d) {Q : zq_Q} (hq : zq_R X (some .int) 1 Q) : zq_ok X 3 26 (xX12_chose_26 s_X12_isCell Q) := by
  refine zs_aload_n C dX12_chose_26 rfl ?_
  refine zs_getI C zp_56 zF12 (j := 53) ⟨by decide, rfl⟩ zw_1149 dX12_chose_27 ?_
  refine zs_bipush C dX12_chose_30 (by decide) ?_
  exact zs_icmp_ne C dX12_chose_32 (by decide) (kX12_chose_37 C h_X12_isCell g_X12_isCell hq) (kX12_chose_35 C h_X12_isCell g_X12_isCell hq)
def xX12_chose_21 (s_X12_isCell : zq_Sp) (Q : zq_Q) (ls : zq_L) (st : List Value) (h : zq_H) : Prop := (zi_iload 1 (zi_iload 2 (zi_if2 (fun x y => x = y) (xX12_chose_35 s_X12_isCell Q) (xX12_chose_26 s_X12_isCell Q)))) ls st h
theorem kX12_chose_21 {X : zq_X} {d : Nat} (C : zq_C X cX12_chose 3 RX12 d) {d_X12_isCell : Nat} {s_X12_isCell : zq_Sp} (h_X12_isCell : zq_M yX12_isCell cX12_isCell 2 (some .boolean) 1 d_X12_isCell s_X12_isCell) (g_X12_isCell : d_X12_isCell + 1 ≤ d) {Q : zq_Q} (hq : zq_R X (some .int) 1 Q) : zq_ok X 3 21 (xX12_chose_21 s_X12_isCell Q) := by
  refine zs_iload_n C dX12_chose_21 rfl ?_
  refine zs_iload_n C dX12_chose_22 rfl ?_
  exact zs_icmp_eq C dX12_chose_23 (by decide) (kX12_chose_35 C h_X12_isCell g_X12_isCell hq) (kX12_chose_26 C h_X12_isCell g_X12_isCell hq)
def xX12_chose_13 (s_X12_isCell : zq_Sp) (Q : zq_Q) (ls : zq_L) (st : List Value) (h : zq_H) : Prop := (zi_aload 0 (zi_iload 2 (zi_callV 1 56 s_X12_isCell (zi_if1 (fun x => x = 0) (xX12_chose_35 s_X12_isCell Q) (xX12_chose_21 s_X12_isCell Q))))) ls st h
theorem kX12_chose_13 {X : zq_X} {d : Nat} (C : zq_C X cX12_chose 3 RX12 d) {d_X12_isCell : Nat} {s_X12_isCell : zq_Sp} (h_X12_isCell : zq_M yX12_isCell cX12_isCell 2 (some .boolean) 1 d_X12_isCell s_X12_isCell) (g_X12_isCell : d_X12_isCell + 1 ≤ d) {Q : zq_Q} (hq : zq_R X (some .int) 1 Q) : zq_ok X 3 13 (xX12_chose_13 s_X12_isCell Q) := by
  refine zs_aload_n C dX12_chose_13 rfl ?_
  refine zs_iload_n C dX12_chose_14 rfl ?_
  refine zs_callV C h_X12_isCell g_X12_isCell zy_X12_isCell zp_56 (show vwCl[12]? = some (RX12, TX12, 67) from rfl) zw_1453 zw_1455 zs9_X12_isCell dX12_chose_15 ?_
  exact zs_if_eq C dX12_chose_18 (by decide) (kX12_chose_35 C h_X12_isCell g_X12_isCell hq) (kX12_chose_21 C h_X12_isCell g_X12_isCell hq)
def xX12_chose_0 (s_X12_isCell : zq_Sp) (Q : zq_Q) (ls : zq_L) (st : List Value) (h : zq_H) : Prop := (zi_aload 0 (zi_push (.int 0) (zi_putI 56 0 (zi_aload 0 (zi_iload 1 (zi_callV 1 56 s_X12_isCell (zi_if1 (fun x => x = 0) (xX12_chose_35 s_X12_isCell Q) (xX12_chose_13 s_X12_isCell Q)))))))) ls st h
theorem kX12_chose_0 {X : zq_X} {d : Nat} (C : zq_C X cX12_chose 3 RX12 d) {d_X12_isCell : Nat} {s_X12_isCell : zq_Sp} (h_X12_isCell : zq_M yX12_isCell cX12_isCell 2 (some .boolean) 1 d_X12_isCell s_X12_isCell) (g_X12_isCell : d_X12_isCell + 1 ≤ d) {Q : zq_Q} (hq : zq_R X (some .int) 1 Q) : zq_ok X 3 0 (xX12_chose_0 s_X12_isCell Q) := by
  refine zs_aload_n C dX12_chose_0 rfl ?_
  refine zs_iconst C dX12_chose_1 (by decide) ?_
  refine zs_putI C zp_56 zF12 (j := 0) ⟨by decide, rfl⟩ ⟨rfl, by decide +kernel⟩ zw_1096 dX12_chose_2 ?_
  refine zs_aload_n C dX12_chose_5 rfl ?_
  refine zs_iload_n C dX12_chose_6 rfl ?_
  refine zs_callV C h_X12_isCell g_X12_isCell zy_X12_isCell zp_56 (show vwCl[12]? = some (RX12, TX12, 67) from rfl) zw_1453 zw_1455 zs9_X12_isCell dX12_chose_7 ?_
  exact zs_if_eq C dX12_chose_10 (by decide) (kX12_chose_35 C h_X12_isCell g_X12_isCell hq) (kX12_chose_13 C h_X12_isCell g_X12_isCell hq)
theorem mX12_chose {d : Nat} {spec : zq_Sp} {d_X12_isCell : Nat} {s_X12_isCell : zq_Sp} (h_X12_isCell : zq_M yX12_isCell cX12_isCell 2 (some .boolean) 1 d_X12_isCell s_X12_isCell) (g_X12_isCell : d_X12_isCell + 1 ≤ d) (v : ∀ args h Q, spec args h Q → (zq_a args).length ≤ 3 ∧ xX12_chose_0 s_X12_isCell Q (zq_l0 3 args) [] h) : zq_M yX12_chose cX12_chose 3 (some .int) 1 d spec := by
  refine zq_met (by decide +kernel) (by decide) (fun X Q args h C hq hs => ⟨(v args h Q hs).1, _, ?_, (v args h Q hs).2⟩)
  exact kX12_chose_0 C h_X12_isCell g_X12_isCell hq
/-! ToOneCrumbModel.forget()I -/
theorem dX12_forget_0 : decode cX12_forget 0 = .ok (.aload_n 0, 1) := by decide +kernel
theorem dX12_forget_1 : decode cX12_forget 1 = .ok (.iconst 0, 1) := by decide +kernel
theorem dX12_forget_2 : decode cX12_forget 2 = .ok (.putfield 147, 3) := by decide +kernel
theorem dX12_forget_5 : decode cX12_forget 5 = .ok (.aload_n 0, 1) := by decide +kernel
theorem dX12_forget_6 : decode cX12_forget 6 = .ok (.getfield 239, 3) := by decide +kernel
theorem dX12_forget_9 : decode cX12_forget 9 = .ok (.istore_n 1, 1) := by decide +kernel
theorem dX12_forget_10 : decode cX12_forget 10 = .ok (.aload_n 0, 1) := by decide +kernel
theorem dX12_forget_11 : decode cX12_forget 11 = .ok (.iconst 0, 1) := by decide +kernel
theorem dX12_forget_12 : decode cX12_forget 12 = .ok (.putfield 239, 3) := by decide +kernel
theorem dX12_forget_15 : decode cX12_forget 15 = .ok (.iload_n 1, 1) := by decide +kernel
theorem dX12_forget_16 : decode cX12_forget 16 = .ok (.ireturn, 1) := by decide +kernel
def xX12_forget_0 (Q : zq_Q) (ls : zq_L) (st : List Value) (h : zq_H) : Prop := (zi_aload 0 (zi_push (.int 0) (zi_putI 56 0 (zi_aload 0 (zi_getI 56 53 (zi_istore 1 (zi_aload 0 (zi_push (.int 0) (zi_putI 56 53 (zi_iload 1 (zi_iret Q))))))))))) ls st h
theorem kX12_forget_0 {X : zq_X} {d : Nat} (C : zq_C X cX12_forget 2 RX12 d) {Q : zq_Q} (hq : zq_R X (some .int) 1 Q) : zq_ok X 2 0 (xX12_forget_0 Q) := by
  refine zs_aload_n C dX12_forget_0 rfl ?_
  refine zs_iconst C dX12_forget_1 (by decide) ?_
  refine zs_putI C zp_56 zF12 (j := 0) ⟨by decide, rfl⟩ ⟨rfl, by decide +kernel⟩ zw_1096 dX12_forget_2 ?_
  refine zs_aload_n C dX12_forget_5 rfl ?_
  refine zs_getI C zp_56 zF12 (j := 53) ⟨by decide, rfl⟩ zw_1149 dX12_forget_6 ?_
  refine zs_istore_n C dX12_forget_9 rfl (by decide) ?_
  refine zs_aload_n C dX12_forget_10 rfl ?_
  refine zs_iconst C dX12_forget_11 (by decide) ?_
  refine zs_putI C zp_56 zF12 (j := 53) ⟨by decide, rfl⟩ ⟨rfl, by decide +kernel⟩ zw_1149 dX12_forget_12 ?_
  refine zs_iload_n C dX12_forget_15 rfl ?_
  exact zs_iret C hq dX12_forget_16
theorem mX12_forget {d : Nat} {spec : zq_Sp} (v : ∀ args h Q, spec args h Q → (zq_a args).length ≤ 2 ∧ xX12_forget_0 Q (zq_l0 2 args) [] h) : zq_M yX12_forget cX12_forget 2 (some .int) 1 d spec := by
  refine zq_met (by decide +kernel) (by decide) (fun X Q args h C hq hs => ⟨(v args h Q hs).1, _, ?_, (v args h Q hs).2⟩)
  exact kX12_forget_0 C hq
/-! ToOneCrumbModel.fitsBy(IIII)Z -/
theorem dX12_fitsBy_0 : decode cX12_fitsBy 0 = .ok (.iconst 0, 1) := by decide +kernel
theorem dX12_fitsBy_1 : decode cX12_fitsBy 1 = .ok (.istore 5, 2) := by decide +kernel
theorem dX12_fitsBy_3 : decode cX12_fitsBy 3 = .ok (.iload 5, 2) := by decide +kernel
theorem dX12_fitsBy_5 : decode cX12_fitsBy 5 = .ok (.aload_n 0, 1) := by decide +kernel
theorem dX12_fitsBy_6 : decode cX12_fitsBy 6 = .ok (.getfield 158, 3) := by decide +kernel
theorem dX12_fitsBy_9 : decode cX12_fitsBy 9 = .ok (.if_icmp .ge 27, 3) := by decide +kernel
theorem dX12_fitsBy_12 : decode cX12_fitsBy 12 = .ok (.aload_n 0, 1) := by decide +kernel
theorem dX12_fitsBy_13 : decode cX12_fitsBy 13 = .ok (.getfield 120, 3) := by decide +kernel
theorem dX12_fitsBy_16 : decode cX12_fitsBy 16 = .ok (.iload 5, 2) := by decide +kernel
theorem dX12_fitsBy_18 : decode cX12_fitsBy 18 = .ok (.aload_n 0, 1) := by decide +kernel
theorem dX12_fitsBy_19 : decode cX12_fitsBy 19 = .ok (.iload_n 1, 1) := by decide +kernel
theorem dX12_fitsBy_20 : decode cX12_fitsBy 20 = .ok (.iload 5, 2) := by decide +kernel
theorem dX12_fitsBy_22 : decode cX12_fitsBy 22 = .ok (.iload_n 2, 1) := by decide +kernel
theorem dX12_fitsBy_23 : decode cX12_fitsBy 23 = .ok (.iload_n 3, 1) := by decide +kernel
theorem dX12_fitsBy_24 : decode cX12_fitsBy 24 = .ok (.iload 4, 2) := by decide +kernel
theorem dX12_fitsBy_26 : decode cX12_fitsBy 26 = .ok (.invokevirtual 299, 3) := by decide +kernel
theorem dX12_fitsBy_29 : decode cX12_fitsBy 29 = .ok (.iastore, 1) := by decide +kernel
theorem dX12_fitsBy_30 : decode cX12_fitsBy 30 = .ok (.iinc 5 1, 3) := by decide +kernel
theorem dX12_fitsBy_33 : decode cX12_fitsBy 33 = .ok (.goto (-30), 3) := by decide +kernel
theorem dX12_fitsBy_36 : decode cX12_fitsBy 36 = .ok (.iconst 1, 1) := by decide +kernel
theorem dX12_fitsBy_37 : decode cX12_fitsBy 37 = .ok (.istore 5, 2) := by decide +kernel
theorem dX12_fitsBy_39 : decode cX12_fitsBy 39 = .ok (.iconst 0, 1) := by decide +kernel
theorem dX12_fitsBy_40 : decode cX12_fitsBy 40 = .ok (.istore 6, 2) := by decide +kernel
theorem dX12_fitsBy_42 : decode cX12_fitsBy 42 = .ok (.iload 6, 2) := by decide +kernel
theorem dX12_fitsBy_44 : decode cX12_fitsBy 44 = .ok (.aload_n 0, 1) := by decide +kernel
theorem dX12_fitsBy_45 : decode cX12_fitsBy 45 = .ok (.getfield 239, 3) := by decide +kernel
theorem dX12_fitsBy_48 : decode cX12_fitsBy 48 = .ok (.if_icmp .ge 48, 3) := by decide +kernel
theorem dX12_fitsBy_51 : decode cX12_fitsBy 51 = .ok (.iload 5, 2) := by decide +kernel
theorem dX12_fitsBy_53 : decode cX12_fitsBy 53 = .ok (.ifCond .eq 43, 3) := by decide +kernel
theorem dX12_fitsBy_56 : decode cX12_fitsBy 56 = .ok (.aload_n 0, 1) := by decide +kernel
theorem dX12_fitsBy_57 : decode cX12_fitsBy 57 = .ok (.getfield 120, 3) := by decide +kernel
theorem dX12_fitsBy_60 : decode cX12_fitsBy 60 = .ok (.aload_n 0, 1) := by decide +kernel
theorem dX12_fitsBy_61 : decode cX12_fitsBy 61 = .ok (.getfield 114, 3) := by decide +kernel
theorem dX12_fitsBy_64 : decode cX12_fitsBy 64 = .ok (.iload 6, 2) := by decide +kernel
theorem dX12_fitsBy_66 : decode cX12_fitsBy 66 = .ok (.iaload, 1) := by decide +kernel
theorem dX12_fitsBy_67 : decode cX12_fitsBy 67 = .ok (.iaload, 1) := by decide +kernel
theorem dX12_fitsBy_68 : decode cX12_fitsBy 68 = .ok (.aload_n 0, 1) := by decide +kernel
theorem dX12_fitsBy_69 : decode cX12_fitsBy 69 = .ok (.getfield 120, 3) := by decide +kernel
theorem dX12_fitsBy_72 : decode cX12_fitsBy 72 = .ok (.aload_n 0, 1) := by decide +kernel
theorem dX12_fitsBy_73 : decode cX12_fitsBy 73 = .ok (.getfield 117, 3) := by decide +kernel
theorem dX12_fitsBy_76 : decode cX12_fitsBy 76 = .ok (.iload 6, 2) := by decide +kernel
theorem dX12_fitsBy_78 : decode cX12_fitsBy 78 = .ok (.iaload, 1) := by decide +kernel
theorem dX12_fitsBy_79 : decode cX12_fitsBy 79 = .ok (.iaload, 1) := by decide +kernel
theorem dX12_fitsBy_80 : decode cX12_fitsBy 80 = .ok (.if_icmp .lt 7, 3) := by decide +kernel
theorem dX12_fitsBy_83 : decode cX12_fitsBy 83 = .ok (.iconst 1, 1) := by decide +kernel
theorem dX12_fitsBy_84 : decode cX12_fitsBy 84 = .ok (.goto 4, 3) := by decide +kernel
theorem dX12_fitsBy_87 : decode cX12_fitsBy 87 = .ok (.iconst 0, 1) := by decide +kernel
theorem dX12_fitsBy_88 : decode cX12_fitsBy 88 = .ok (.istore 5, 2) := by decide +kernel
theorem dX12_fitsBy_90 : decode cX12_fitsBy 90 = .ok (.iinc 6 1, 3) := by decide +kernel
theorem dX12_fitsBy_93 : decode cX12_fitsBy 93 = .ok (.goto (-51), 3) := by decide +kernel
theorem dX12_fitsBy_96 : decode cX12_fitsBy 96 = .ok (.iload 5, 2) := by decide +kernel
theorem dX12_fitsBy_98 : decode cX12_fitsBy 98 = .ok (.ireturn, 1) := by decide +kernel
def xX12_fitsBy_96 (s_X12_worthBy : zq_Sp) (J3 : zq_P) (J42 : zq_P) (Q : zq_Q) (ls : zq_L) (st : List Value) (h : zq_H) : Prop := (zi_iload 5 (zi_zret Q)) ls st h
theorem kX12_fitsBy_96 {X : zq_X} {d : Nat} (C : zq_C X cX12_fitsBy 7 RX12 d) {d_X12_worthBy : Nat} {s_X12_worthBy : zq_Sp} (h_X12_worthBy : zq_M yX12_worthBy cX12_worthBy 6 (some .int) 1 d_X12_worthBy s_X12_worthBy) (g_X12_worthBy : d_X12_worthBy + 1 ≤ d) {J3 : zq_P} (j3 : zq_ok X 7 3 J3) {J42 : zq_P} (j42 : zq_ok X 7 42 J42) {Q : zq_Q} (hq : zq_R X (some .boolean) 1 Q) : zq_ok X 7 96 (xX12_fitsBy_96 s_X12_worthBy J3 J42 Q) := by
  refine zs_iload C dX12_fitsBy_96 ?_
  exact zs_zret C hq dX12_fitsBy_98
def xX12_fitsBy_88 (s_X12_worthBy : zq_Sp) (J3 : zq_P) (J42 : zq_P) (Q : zq_Q) (ls : zq_L) (st : List Value) (h : zq_H) : Prop := (zi_istore 5 (zi_iinc 6 1 (J42))) ls st h
theorem kX12_fitsBy_88 {X : zq_X} {d : Nat} (C : zq_C X cX12_fitsBy 7 RX12 d) {d_X12_worthBy : Nat} {s_X12_worthBy : zq_Sp} (h_X12_worthBy : zq_M yX12_worthBy cX12_worthBy 6 (some .int) 1 d_X12_worthBy s_X12_worthBy) (g_X12_worthBy : d_X12_worthBy + 1 ≤ d) {J3 : zq_P} (j3 : zq_ok X 7 3 J3) {J42 : zq_P} (j42 : zq_ok X 7 42 J42) {Q : zq_Q} (hq : zq_R X (some .boolean) 1 Q) : zq_ok X 7 88 (xX12_fitsBy_88 s_X12_worthBy J3 J42 Q) := by
  refine zs_istore C dX12_fitsBy_88 (by decide) ?_
  refine zs_iinc C dX12_fitsBy_90 (by decide) (by decide) ?_
  exact zs_goto C dX12_fitsBy_93 (by decide) (j42)
def xX12_fitsBy_87 (s_X12_worthBy : zq_Sp) (J3 : zq_P) (J42 : zq_P) (Q : zq_Q) (ls : zq_L) (st : List Value) (h : zq_H) : Prop := (zi_push (.int 0) ((xX12_fitsBy_88 s_X12_worthBy J3 J42 Q))) ls st h
theorem kX12_fitsBy_87 {X : zq_X} {d : Nat} (C : zq_C X cX12_fitsBy 7 RX12 d) {d_X12_worthBy : Nat} {s_X12_worthBy : zq_Sp} (h_X12_worthBy : zq_M yX12_worthBy cX12_worthBy 6 (some .int) 1 d_X12_worthBy s_X12_worthBy) (g_X12_worthBy : d_X12_worthBy + 1 ≤ d) {J3 : zq_P} (j3 : zq_ok X 7 3 J3) {J42 : zq_P} (j42 : zq_ok X 7 42 J42) {Q : zq_Q} (hq : zq_R X (some .boolean) 1 Q) : zq_ok X 7 87 (xX12_fitsBy_87 s_X12_worthBy J3 J42 Q) := by
  refine zs_iconst C dX12_fitsBy_87 (by decide) ?_
  exact kX12_fitsBy_88 C h_X12_worthBy g_X12_worthBy j3 j42 hq
def xX12_fitsBy_83 (s_X12_worthBy : zq_Sp) (J3 : zq_P) (J42 : zq_P) (Q : zq_Q) (ls : zq_L) (st : List Value) (h : zq_H) : Prop := (zi_push (.int 1) ((xX12_fitsBy_88 s_X12_worthBy J3 J42 Q))) ls st h
theorem kX12_fitsBy_83 {X : zq_X} {d : Nat} (C : zq_C X cX12_fitsBy 7 RX12 d) {d_X12_worthBy : Nat} {s_X12_worthBy : zq_Sp} (h_X12_worthBy : zq_M yX12_worthBy cX12_worthBy 6 (some .int) 1 d_X12_worthBy s_X12_worthBy) (g_X12_worthBy : d_X12_worthBy + 1 ≤ d) {J3 : zq_P} (j3 : zq_ok X 7 3 J3) {J42 : zq_P} (j42 : zq_ok X 7 42 J42) {Q : zq_Q} (hq : zq_R X (some .boolean) 1 Q) : zq_ok X 7 83 (xX12_fitsBy_83 s_X12_worthBy J3 J42 Q) := by
  refine zs_iconst C dX12_fitsBy_83 (by decide) ?_
  exact zs_goto C dX12_fitsBy_84 (by decide) (kX12_fitsBy_88 C h_X12_worthBy g_X12_worthBy j3 j42 hq)
def xX12_fitsBy_56 (s_X12_worthBy : zq_Sp) (J3 : zq_P) (J42 : zq_P) (Q : zq_Q) (ls : zq_L) (st : List Value) (h : zq_H) : Prop := (zi_aload 0 (zi_getR 56 93 (zi_aload 0 (zi_getR 56 91 (zi_iload 6 (zi_aldI 91 12 (zi_aldI 93 16 (zi_aload 0 (zi_getR 56 93 (zi_aload 0 (zi_getR 56 92 (zi_iload 6 (zi_aldI 92 12 (zi_aldI 93 16 (zi_if2 (fun x y => x < y) (xX12_fitsBy_87 s_X12_worthBy J3 J42 Q) (xX12_fitsBy_83 s_X12_worthBy J3 J42 Q)))))))))))))))) ls st h
theorem kX12_fitsBy_56 {X : zq_X} {d : Nat} (C : zq_C X cX12_fitsBy 7 RX12 d) {d_X12_worthBy : Nat} {s_X12_worthBy : zq_Sp} (h_X12_worthBy : zq_M yX12_worthBy cX12_worthBy 6 (some .int) 1 d_X12_worthBy s_X12_worthBy) (g_X12_worthBy : d_X12_worthBy + 1 ≤ d) {J3 : zq_P} (j3 : zq_ok X 7 3 J3) {J42 : zq_P} (j42 : zq_ok X 7 42 J42) {Q : zq_Q} (hq : zq_R X (some .boolean) 1 Q) : zq_ok X 7 56 (xX12_fitsBy_56 s_X12_worthBy J3 J42 Q) := by
  refine zs_aload_n C dX12_fitsBy_56 rfl ?_
  refine zs_getR C zp_56 zF12 (j := 56) ⟨by decide, rfl⟩ zw_1152 dX12_fitsBy_57 ?_
  refine zs_aload_n C dX12_fitsBy_60 rfl ?_
  refine zs_getR C zp_56 zF12 (j := 54) ⟨by decide, rfl⟩ zw_1150 dX12_fitsBy_61 ?_
  refine zs_iload C dX12_fitsBy_64 ?_
  refine zs_iaload C zp_91 dX12_fitsBy_66 ?_
  refine zs_iaload C zp_93 dX12_fitsBy_67 ?_
  refine zs_aload_n C dX12_fitsBy_68 rfl ?_
  refine zs_getR C zp_56 zF12 (j := 56) ⟨by decide, rfl⟩ zw_1152 dX12_fitsBy_69 ?_
  refine zs_aload_n C dX12_fitsBy_72 rfl ?_
  refine zs_getR C zp_56 zF12 (j := 55) ⟨by decide, rfl⟩ zw_1151 dX12_fitsBy_73 ?_
  refine zs_iload C dX12_fitsBy_76 ?_
  refine zs_iaload C zp_92 dX12_fitsBy_78 ?_
  refine zs_iaload C zp_93 dX12_fitsBy_79 ?_
  exact zs_icmp_lt C dX12_fitsBy_80 (by decide) (kX12_fitsBy_87 C h_X12_worthBy g_X12_worthBy j3 j42 hq) (kX12_fitsBy_83 C h_X12_worthBy g_X12_worthBy j3 j42 hq)
def xX12_fitsBy_51 (s_X12_worthBy : zq_Sp) (J3 : zq_P) (J42 : zq_P) (Q : zq_Q) (ls : zq_L) (st : List Value) (h : zq_H) : Prop := (zi_iload 5 (zi_if1 (fun x => x = 0) (xX12_fitsBy_96 s_X12_worthBy J3 J42 Q) (xX12_fitsBy_56 s_X12_worthBy J3 J42 Q))) ls st h
theorem kX12_fitsBy_51 {X : zq_X} {d : Nat} (C : zq_C X cX12_fitsBy 7 RX12 d) {d_X12_worthBy : Nat} {s_X12_worthBy : zq_Sp} (h_X12_worthBy : zq_M yX12_worthBy cX12_worthBy 6 (some .int) 1 d_X12_worthBy s_X12_worthBy) (g_X12_worthBy : d_X12_worthBy + 1 ≤ d) {J3 : zq_P} (j3 : zq_ok X 7 3 J3) {J42 : zq_P} (j42 : zq_ok X 7 42 J42) {Q : zq_Q} (hq : zq_R X (some .boolean) 1 Q) : zq_ok X 7 51 (xX12_fitsBy_51 s_X12_worthBy J3 J42 Q) := by
  refine zs_iload C dX12_fitsBy_51 ?_
  exact zs_if_eq C dX12_fitsBy_53 (by decide) (kX12_fitsBy_96 C h_X12_worthBy g_X12_worthBy j3 j42 hq) (kX12_fitsBy_56 C h_X12_worthBy g_X12_worthBy j3 j42 hq)
def xX12_fitsBy_42 (s_X12_worthBy : zq_Sp) (J3 : zq_P) (J42 : zq_P) (Q : zq_Q) (ls : zq_L) (st : List Value) (h : zq_H) : Prop := (zi_iload 6 (zi_aload 0 (zi_getI 56 53 (zi_if2 (fun x y => y ≤ x) (xX12_fitsBy_96 s_X12_worthBy J3 J42 Q) (xX12_fitsBy_51 s_X12_worthBy J3 J42 Q))))) ls st h
theorem kX12_fitsBy_42 {X : zq_X} {d : Nat} (C : zq_C X cX12_fitsBy 7 RX12 d) {d_X12_worthBy : Nat} {s_X12_worthBy : zq_Sp} (h_X12_worthBy : zq_M yX12_worthBy cX12_worthBy 6 (some .int) 1 d_X12_worthBy s_X12_worthBy) (g_X12_worthBy : d_X12_worthBy + 1 ≤ d) {J3 : zq_P} (j3 : zq_ok X 7 3 J3) {J42 : zq_P} (j42 : zq_ok X 7 42 J42) {Q : zq_Q} (hq : zq_R X (some .boolean) 1 Q) : zq_ok X 7 42 (xX12_fitsBy_42 s_X12_worthBy J3 J42 Q) := by
  refine zs_iload C dX12_fitsBy_42 ?_
  refine zs_aload_n C dX12_fitsBy_44 rfl ?_
  refine zs_getI C zp_56 zF12 (j := 53) ⟨by decide, rfl⟩ zw_1149 dX12_fitsBy_45 ?_
  exact zs_icmp_ge C dX12_fitsBy_48 (by decide) (kX12_fitsBy_96 C h_X12_worthBy g_X12_worthBy j3 j42 hq) (kX12_fitsBy_51 C h_X12_worthBy g_X12_worthBy j3 j42 hq)
def xX12_fitsBy_36 (s_X12_worthBy : zq_Sp) (J3 : zq_P) (J42 : zq_P) (Q : zq_Q) (ls : zq_L) (st : List Value) (h : zq_H) : Prop := (zi_push (.int 1) (zi_istore 5 (zi_push (.int 0) (zi_istore 6 (J42))))) ls st h
theorem kX12_fitsBy_36 {X : zq_X} {d : Nat} (C : zq_C X cX12_fitsBy 7 RX12 d) {d_X12_worthBy : Nat} {s_X12_worthBy : zq_Sp} (h_X12_worthBy : zq_M yX12_worthBy cX12_worthBy 6 (some .int) 1 d_X12_worthBy s_X12_worthBy) (g_X12_worthBy : d_X12_worthBy + 1 ≤ d) {J3 : zq_P} (j3 : zq_ok X 7 3 J3) {J42 : zq_P} (j42 : zq_ok X 7 42 J42) {Q : zq_Q} (hq : zq_R X (some .boolean) 1 Q) : zq_ok X 7 36 (xX12_fitsBy_36 s_X12_worthBy J3 J42 Q) := by
  refine zs_iconst C dX12_fitsBy_36 (by decide) ?_
  refine zs_istore C dX12_fitsBy_37 (by decide) ?_
  refine zs_iconst C dX12_fitsBy_39 (by decide) ?_
  refine zs_istore C dX12_fitsBy_40 (by decide) ?_
  exact j42
def xX12_fitsBy_12 (s_X12_worthBy : zq_Sp) (J3 : zq_P) (J42 : zq_P) (Q : zq_Q) (ls : zq_L) (st : List Value) (h : zq_H) : Prop := (zi_aload 0 (zi_getR 56 93 (zi_iload 5 (zi_aload 0 (zi_iload 1 (zi_iload 5 (zi_iload 2 (zi_iload 3 (zi_iload 4 (zi_callV 5 56 s_X12_worthBy (zi_astI 93 16 (zi_iinc 5 1 (J3))))))))))))) ls st h
theorem kX12_fitsBy_12 {X : zq_X} {d : Nat} (C : zq_C X cX12_fitsBy 7 RX12 d) {d_X12_worthBy : Nat} {s_X12_worthBy : zq_Sp} (h_X12_worthBy : zq_M yX12_worthBy cX12_worthBy 6 (some .int) 1 d_X12_worthBy s_X12_worthBy) (g_X12_worthBy : d_X12_worthBy + 1 ≤ d) {J3 : zq_P} (j3 : zq_ok X 7 3 J3) {J42 : zq_P} (j42 : zq_ok X 7 42 J42) {Q : zq_Q} (hq : zq_R X (some .boolean) 1 Q) : zq_ok X 7 12 (xX12_fitsBy_12 s_X12_worthBy J3 J42 Q) := by
  refine zs_aload_n C dX12_fitsBy_12 rfl ?_
  refine zs_getR C zp_56 zF12 (j := 56) ⟨by decide, rfl⟩ zw_1152 dX12_fitsBy_13 ?_
  refine zs_iload C dX12_fitsBy_16 ?_
  refine zs_aload_n C dX12_fitsBy_18 rfl ?_
  refine zs_iload_n C dX12_fitsBy_19 rfl ?_
  refine zs_iload C dX12_fitsBy_20 ?_
  refine zs_iload_n C dX12_fitsBy_22 rfl ?_
  refine zs_iload_n C dX12_fitsBy_23 rfl ?_
  refine zs_iload C dX12_fitsBy_24 ?_
  refine zs_callV C h_X12_worthBy g_X12_worthBy zy_X12_worthBy zp_56 (show vwCl[12]? = some (RX12, TX12, 67) from rfl) zw_1479 zw_1481 zs9_X12_worthBy dX12_fitsBy_26 ?_
  refine zs_iastore C zp_93 dX12_fitsBy_29 ?_
  refine zs_iinc C dX12_fitsBy_30 (by decide) (by decide) ?_
  exact zs_goto C dX12_fitsBy_33 (by decide) (j3)
def xX12_fitsBy_3 (s_X12_worthBy : zq_Sp) (J3 : zq_P) (J42 : zq_P) (Q : zq_Q) (ls : zq_L) (st : List Value) (h : zq_H) : Prop := (zi_iload 5 (zi_aload 0 (zi_getI 56 3 (zi_if2 (fun x y => y ≤ x) (xX12_fitsBy_36 s_X12_worthBy J3 J42 Q) (xX12_fitsBy_12 s_X12_worthBy J3 J42 Q))))) ls st h
theorem kX12_fitsBy_3 {X : zq_X} {d : Nat} (C : zq_C X cX12_fitsBy 7 RX12 d) {d_X12_worthBy : Nat} {s_X12_worthBy : zq_Sp} (h_X12_worthBy : zq_M yX12_worthBy cX12_worthBy 6 (some .int) 1 d_X12_worthBy s_X12_worthBy) (g_X12_worthBy : d_X12_worthBy + 1 ≤ d) {J3 : zq_P} (j3 : zq_ok X 7 3 J3) {J42 : zq_P} (j42 : zq_ok X 7 42 J42) {Q : zq_Q} (hq : zq_R X (some .boolean) 1 Q) : zq_ok X 7 3 (xX12_fitsBy_3 s_X12_worthBy J3 J42 Q) := by
  refine zs_iload C dX12_fitsBy_3 ?_
  refine zs_aload_n C dX12_fitsBy_5 rfl ?_
  refine zs_getI C zp_56 zF12 (j := 3) ⟨by decide, rfl⟩ zw_1099 dX12_fitsBy_6 ?_
  exact zs_icmp_ge C dX12_fitsBy_9 (by decide) (kX12_fitsBy_36 C h_X12_worthBy g_X12_worthBy j3 j42 hq) (kX12_fitsBy_12 C h_X12_worthBy g_X12_worthBy j3 j42 hq)
def xX12_fitsBy_0 (s_X12_worthBy : zq_Sp) (J3 : zq_P) (J42 : zq_P) (Q : zq_Q) (ls : zq_L) (st : List Value) (h : zq_H) : Prop := (zi_push (.int 0) (zi_istore 5 (J3))) ls st h
theorem kX12_fitsBy_0 {X : zq_X} {d : Nat} (C : zq_C X cX12_fitsBy 7 RX12 d) {d_X12_worthBy : Nat} {s_X12_worthBy : zq_Sp} (h_X12_worthBy : zq_M yX12_worthBy cX12_worthBy 6 (some .int) 1 d_X12_worthBy s_X12_worthBy) (g_X12_worthBy : d_X12_worthBy + 1 ≤ d) {J3 : zq_P} (j3 : zq_ok X 7 3 J3) {J42 : zq_P} (j42 : zq_ok X 7 42 J42) {Q : zq_Q} (hq : zq_R X (some .boolean) 1 Q) : zq_ok X 7 0 (xX12_fitsBy_0 s_X12_worthBy J3 J42 Q) := by
  refine zs_iconst C dX12_fitsBy_0 (by decide) ?_
  refine zs_istore C dX12_fitsBy_1 (by decide) ?_
  exact j3
theorem mX12_fitsBy {d : Nat} {spec : zq_Sp} {σ3 : Type} {σ42 : Type} {d_X12_worthBy : Nat} {s_X12_worthBy : zq_Sp} (h_X12_worthBy : zq_M yX12_worthBy cX12_worthBy 6 (some .int) 1 d_X12_worthBy s_X12_worthBy) (g_X12_worthBy : d_X12_worthBy + 1 ≤ d) (μ3 : σ3 → Nat) (I3 : zq_Q → σ3 → zq_P) (μ42 : σ42 → Nat) (I42 : zq_Q → σ42 → zq_P) (v : ∀ args h Q, spec args h Q → (zq_a args).length ≤ 7 ∧ xX12_fitsBy_0 s_X12_worthBy (fun ls st h => ∃ b, I3 Q b ls st h) (fun ls st h => ∃ b, I42 Q b ls st h) Q (zq_l0 7 args) [] h) (v3 : ∀ Q a ls st h, I3 Q a ls st h → xX12_fitsBy_3 s_X12_worthBy (fun ls st h => ∃ b, μ3 b < μ3 a ∧ I3 Q b ls st h) (fun ls st h => ∃ b, μ42 b < μ3 a ∧ I42 Q b ls st h) Q ls st h) (v42 : ∀ Q a ls st h, I42 Q a ls st h → xX12_fitsBy_42 s_X12_worthBy (fun ls st h => ∃ b, μ3 b < μ42 a ∧ I3 Q b ls st h) (fun ls st h => ∃ b, μ42 b < μ42 a ∧ I42 Q b ls st h) Q ls st h) : zq_M yX12_fitsBy cX12_fitsBy 7 (some .boolean) 1 d spec := by
  refine zq_met (by decide +kernel) (by decide) (fun X Q args h C hq hs => ⟨(v args h Q hs).1, _, ?_, (v args h Q hs).2⟩)
  have hl := zq_loop2 (X := X) (nL := 7) (pc1 := 3) (pc2 := 42) μ3 μ42 (I3 Q) (I42 Q) (fun J3 J42 => xX12_fitsBy_3 s_X12_worthBy J3 J42 Q) (fun J3 J42 => xX12_fitsBy_42 s_X12_worthBy J3 J42 Q) (fun j3 j42 => kX12_fitsBy_3 C h_X12_worthBy g_X12_worthBy j3 j42 hq) (fun j3 j42 => kX12_fitsBy_42 C h_X12_worthBy g_X12_worthBy j3 j42 hq) (v3 Q) (v42 Q)
  exact kX12_fitsBy_0 C h_X12_worthBy g_X12_worthBy hl.1 hl.2 hq
/-! ToOneCrumbModel.tastes(I)I -/
theorem dX12_tastes_0 : decode cX12_tastes 0 = .ok (.aload_n 0, 1) := by decide +kernel
theorem dX12_tastes_1 : decode cX12_tastes 1 = .ok (.iconst 0, 1) := by decide +kernel
theorem dX12_tastes_2 : decode cX12_tastes 2 = .ok (.putfield 147, 3) := by decide +kernel
theorem dX12_tastes_5 : decode cX12_tastes 5 = .ok (.aload_n 0, 1) := by decide +kernel
theorem dX12_tastes_6 : decode cX12_tastes 6 = .ok (.iload_n 1, 1) := by decide +kernel
theorem dX12_tastes_7 : decode cX12_tastes 7 = .ok (.invokevirtual 313, 3) := by decide +kernel
theorem dX12_tastes_10 : decode cX12_tastes 10 = .ok (.ifCond .ne 5, 3) := by decide +kernel
theorem dX12_tastes_13 : decode cX12_tastes 13 = .ok (.iconst (-1), 1) := by decide +kernel
theorem dX12_tastes_14 : decode cX12_tastes 14 = .ok (.ireturn, 1) := by decide +kernel
theorem dX12_tastes_15 : decode cX12_tastes 15 = .ok (.iconst 0, 1) := by decide +kernel
theorem dX12_tastes_16 : decode cX12_tastes 16 = .ok (.istore_n 2, 1) := by decide +kernel
theorem dX12_tastes_17 : decode cX12_tastes 17 = .ok (.iconst (-1), 1) := by decide +kernel
theorem dX12_tastes_18 : decode cX12_tastes 18 = .ok (.istore_n 3, 1) := by decide +kernel
theorem dX12_tastes_19 : decode cX12_tastes 19 = .ok (.sipush 1000, 3) := by decide +kernel
theorem dX12_tastes_22 : decode cX12_tastes 22 = .ok (.istore 4, 2) := by decide +kernel
theorem dX12_tastes_24 : decode cX12_tastes 24 = .ok (.iconst 0, 1) := by decide +kernel
theorem dX12_tastes_25 : decode cX12_tastes 25 = .ok (.istore 5, 2) := by decide +kernel
theorem dX12_tastes_27 : decode cX12_tastes 27 = .ok (.iload 5, 2) := by decide +kernel
theorem dX12_tastes_29 : decode cX12_tastes 29 = .ok (.sipush 1000, 3) := by decide +kernel
theorem dX12_tastes_32 : decode cX12_tastes 32 = .ok (.if_icmp .ge 83, 3) := by decide +kernel
theorem dX12_tastes_35 : decode cX12_tastes 35 = .ok (.aload_n 0, 1) := by decide +kernel
theorem dX12_tastes_36 : decode cX12_tastes 36 = .ok (.iload_n 1, 1) := by decide +kernel
theorem dX12_tastes_37 : decode cX12_tastes 37 = .ok (.iload 5, 2) := by decide +kernel
theorem dX12_tastes_39 : decode cX12_tastes 39 = .ok (.bipush 100, 2) := by decide +kernel
theorem dX12_tastes_41 : decode cX12_tastes 41 = .ok (.idiv, 1) := by decide +kernel
theorem dX12_tastes_42 : decode cX12_tastes 42 = .ok (.iload 5, 2) := by decide +kernel
theorem dX12_tastes_44 : decode cX12_tastes 44 = .ok (.bipush 10, 2) := by decide +kernel
theorem dX12_tastes_46 : decode cX12_tastes 46 = .ok (.idiv, 1) := by decide +kernel
theorem dX12_tastes_47 : decode cX12_tastes 47 = .ok (.bipush 10, 2) := by decide +kernel
theorem dX12_tastes_49 : decode cX12_tastes 49 = .ok (.irem, 1) := by decide +kernel
theorem dX12_tastes_50 : decode cX12_tastes 50 = .ok (.iload 5, 2) := by decide +kernel
theorem dX12_tastes_52 : decode cX12_tastes 52 = .ok (.bipush 10, 2) := by decide +kernel
theorem dX12_tastes_54 : decode cX12_tastes 54 = .ok (.irem, 1) := by decide +kernel
theorem dX12_tastes_55 : decode cX12_tastes 55 = .ok (.invokevirtual 443, 3) := by decide +kernel
theorem dX12_tastes_58 : decode cX12_tastes 58 = .ok (.ifCond .eq 51, 3) := by decide +kernel
theorem dX12_tastes_61 : decode cX12_tastes 61 = .ok (.iload 5, 2) := by decide +kernel
theorem dX12_tastes_63 : decode cX12_tastes 63 = .ok (.bipush 100, 2) := by decide +kernel
theorem dX12_tastes_65 : decode cX12_tastes 65 = .ok (.idiv, 1) := by decide +kernel
theorem dX12_tastes_66 : decode cX12_tastes 66 = .ok (.iload 5, 2) := by decide +kernel
theorem dX12_tastes_68 : decode cX12_tastes 68 = .ok (.bipush 10, 2) := by decide +kernel
theorem dX12_tastes_70 : decode cX12_tastes 70 = .ok (.idiv, 1) := by decide +kernel
theorem dX12_tastes_71 : decode cX12_tastes 71 = .ok (.bipush 10, 2) := by decide +kernel
theorem dX12_tastes_73 : decode cX12_tastes 73 = .ok (.irem, 1) := by decide +kernel
theorem dX12_tastes_74 : decode cX12_tastes 74 = .ok (.iadd, 1) := by decide +kernel
theorem dX12_tastes_75 : decode cX12_tastes 75 = .ok (.iload 5, 2) := by decide +kernel
theorem dX12_tastes_77 : decode cX12_tastes 77 = .ok (.bipush 10, 2) := by decide +kernel
theorem dX12_tastes_79 : decode cX12_tastes 79 = .ok (.irem, 1) := by decide +kernel
theorem dX12_tastes_80 : decode cX12_tastes 80 = .ok (.iadd, 1) := by decide +kernel
theorem dX12_tastes_81 : decode cX12_tastes 81 = .ok (.istore 6, 2) := by decide +kernel
theorem dX12_tastes_83 : decode cX12_tastes 83 = .ok (.iload 6, 2) := by decide +kernel
theorem dX12_tastes_85 : decode cX12_tastes 85 = .ok (.iload 4, 2) := by decide +kernel
theorem dX12_tastes_87 : decode cX12_tastes 87 = .ok (.if_icmp .ge 8, 3) := by decide +kernel
theorem dX12_tastes_90 : decode cX12_tastes 90 = .ok (.iload 5, 2) := by decide +kernel
theorem dX12_tastes_92 : decode cX12_tastes 92 = .ok (.goto 4, 3) := by decide +kernel
theorem dX12_tastes_95 : decode cX12_tastes 95 = .ok (.iload_n 3, 1) := by decide +kernel
theorem dX12_tastes_96 : decode cX12_tastes 96 = .ok (.istore_n 3, 1) := by decide +kernel
theorem dX12_tastes_97 : decode cX12_tastes 97 = .ok (.iload 4, 2) := by decide +kernel
theorem dX12_tastes_99 : decode cX12_tastes 99 = .ok (.iload 6, 2) := by decide +kernel
theorem dX12_tastes_101 : decode cX12_tastes 101 = .ok (.invokestatic 181, 3) := by decide +kernel
theorem dX12_tastes_104 : decode cX12_tastes 104 = .ok (.istore 4, 2) := by decide +kernel
theorem dX12_tastes_106 : decode cX12_tastes 106 = .ok (.iinc 2 1, 3) := by decide +kernel
theorem dX12_tastes_109 : decode cX12_tastes 109 = .ok (.iinc 5 1, 3) := by decide +kernel
theorem dX12_tastes_112 : decode cX12_tastes 112 = .ok (.goto (-85), 3) := by decide +kernel
theorem dX12_tastes_115 : decode cX12_tastes 115 = .ok (.aload_n 0, 1) := by decide +kernel
theorem dX12_tastes_116 : decode cX12_tastes 116 = .ok (.iconst 0, 1) := by decide +kernel
theorem dX12_tastes_117 : decode cX12_tastes 117 = .ok (.putfield 155, 3) := by decide +kernel
theorem dX12_tastes_120 : decode cX12_tastes 120 = .ok (.iload_n 2, 1) := by decide +kernel
theorem dX12_tastes_121 : decode cX12_tastes 121 = .ok (.ifCond .le 33, 3) := by decide +kernel
theorem dX12_tastes_124 : decode cX12_tastes 124 = .ok (.aload_n 0, 1) := by decide +kernel
theorem dX12_tastes_125 : decode cX12_tastes 125 = .ok (.iload_n 3, 1) := by decide +kernel
theorem dX12_tastes_126 : decode cX12_tastes 126 = .ok (.bipush 100, 2) := by decide +kernel
theorem dX12_tastes_128 : decode cX12_tastes 128 = .ok (.idiv, 1) := by decide +kernel
theorem dX12_tastes_129 : decode cX12_tastes 129 = .ok (.i2l, 1) := by decide +kernel
theorem dX12_tastes_130 : decode cX12_tastes 130 = .ok (.invokevirtual 368, 3) := by decide +kernel
theorem dX12_tastes_133 : decode cX12_tastes 133 = .ok (.aload_n 0, 1) := by decide +kernel
theorem dX12_tastes_134 : decode cX12_tastes 134 = .ok (.iload_n 3, 1) := by decide +kernel
theorem dX12_tastes_135 : decode cX12_tastes 135 = .ok (.bipush 10, 2) := by decide +kernel
theorem dX12_tastes_137 : decode cX12_tastes 137 = .ok (.idiv, 1) := by decide +kernel
theorem dX12_tastes_138 : decode cX12_tastes 138 = .ok (.bipush 10, 2) := by decide +kernel
theorem dX12_tastes_140 : decode cX12_tastes 140 = .ok (.irem, 1) := by decide +kernel
theorem dX12_tastes_141 : decode cX12_tastes 141 = .ok (.i2l, 1) := by decide +kernel
theorem dX12_tastes_142 : decode cX12_tastes 142 = .ok (.invokevirtual 368, 3) := by decide +kernel
theorem dX12_tastes_145 : decode cX12_tastes 145 = .ok (.aload_n 0, 1) := by decide +kernel
theorem dX12_tastes_146 : decode cX12_tastes 146 = .ok (.iload_n 3, 1) := by decide +kernel
theorem dX12_tastes_147 : decode cX12_tastes 147 = .ok (.bipush 10, 2) := by decide +kernel
theorem dX12_tastes_149 : decode cX12_tastes 149 = .ok (.irem, 1) := by decide +kernel
theorem dX12_tastes_150 : decode cX12_tastes 150 = .ok (.i2l, 1) := by decide +kernel
theorem dX12_tastes_151 : decode cX12_tastes 151 = .ok (.invokevirtual 368, 3) := by decide +kernel
theorem dX12_tastes_154 : decode cX12_tastes 154 = .ok (.iload_n 2, 1) := by decide +kernel
theorem dX12_tastes_155 : decode cX12_tastes 155 = .ok (.ireturn, 1) := by decide +kernel
def xX12_tastes_154 (s_X12_isGuest : zq_Sp) (s_X12_fitsBy : zq_Sp) (s_X12_enters : zq_Sp) (J27 : zq_P) (Q : zq_Q) (ls : zq_L) (st : List Value) (h : zq_H) : Prop := (zi_iload 2 (zi_iret Q)) ls st h
theorem kX12_tastes_154 {X : zq_X} {d : Nat} (C : zq_C X cX12_tastes 7 RX12 d) (hd1 : 1 ≤ d) {d_X12_isGuest : Nat} {s_X12_isGuest : zq_Sp} (h_X12_isGuest : zq_M yX12_isGuest cX12_isGuest 2 (some .boolean) 1 d_X12_isGuest s_X12_isGuest) (g_X12_isGuest : d_X12_isGuest + 1 ≤ d) {d_X12_fitsBy : Nat} {s_X12_fitsBy : zq_Sp} (h_X12_fitsBy : zq_M yX12_fitsBy cX12_fitsBy 7 (some .boolean) 1 d_X12_fitsBy s_X12_fitsBy) (g_X12_fitsBy : d_X12_fitsBy + 1 ≤ d) {d_X12_enters : Nat} {s_X12_enters : zq_Sp} (h_X12_enters : zq_M yX12_enters cX12_enters 3 none 0 d_X12_enters s_X12_enters) (g_X12_enters : d_X12_enters + 1 ≤ d) {J27 : zq_P} (j27 : zq_ok X 7 27 J27) {Q : zq_Q} (hq : zq_R X (some .int) 1 Q) : zq_ok X 7 154 (xX12_tastes_154 s_X12_isGuest s_X12_fitsBy s_X12_enters J27 Q) := by
  refine zs_iload_n C dX12_tastes_154 rfl ?_
  exact zs_iret C hq dX12_tastes_155
def xX12_tastes_124 (s_X12_isGuest : zq_Sp) (s_X12_fitsBy : zq_Sp) (s_X12_enters : zq_Sp) (J27 : zq_P) (Q : zq_Q) (ls : zq_L) (st : List Value) (h : zq_H) : Prop := (zi_aload 0 (zi_iload 3 (zi_push (.int 100) (zi_idv (fun x y => x / y) (zi_i2l (zi_callV 1 56 s_X12_enters (zi_aload 0 (zi_iload 3 (zi_push (.int 10) (zi_idv (fun x y => x / y) (zi_push (.int 10) (zi_idv zf_rem (zi_i2l (zi_callV 1 56 s_X12_enters (zi_aload 0 (zi_iload 3 (zi_push (.int 10) (zi_idv zf_rem (zi_i2l (zi_callV 1 56 s_X12_enters ((xX12_tastes_154 s_X12_isGuest s_X12_fitsBy s_X12_enters J27 Q)))))))))))))))))))))) ls st h
theorem kX12_tastes_124 {X : zq_X} {d : Nat} (C : zq_C X cX12_tastes 7 RX12 d) (hd1 : 1 ≤ d) {d_X12_isGuest : Nat} {s_X12_isGuest : zq_Sp} (h_X12_isGuest : zq_M yX12_isGuest cX12_isGuest 2 (some .boolean) 1 d_X12_isGuest s_X12_isGuest) (g_X12_isGuest : d_X12_isGuest + 1 ≤ d) {d_X12_fitsBy : Nat} {s_X12_fitsBy : zq_Sp} (h_X12_fitsBy : zq_M yX12_fitsBy cX12_fitsBy 7 (some .boolean) 1 d_X12_fitsBy s_X12_fitsBy) (g_X12_fitsBy : d_X12_fitsBy + 1 ≤ d) {d_X12_enters : Nat} {s_X12_enters : zq_Sp} (h_X12_enters : zq_M yX12_enters cX12_enters 3 none 0 d_X12_enters s_X12_enters) (g_X12_enters : d_X12_enters + 1 ≤ d) {J27 : zq_P} (j27 : zq_ok X 7 27 J27) {Q : zq_Q} (hq : zq_R X (some .int) 1 Q) : zq_ok X 7 124 (xX12_tastes_124 s_X12_isGuest s_X12_fitsBy s_X12_enters J27 Q) := by
  refine zs_aload_n C dX12_tastes_124 rfl ?_
  refine zs_iload_n C dX12_tastes_125 rfl ?_
  refine zs_bipush C dX12_tastes_126 (by decide) ?_
  refine zs_idiv C dX12_tastes_128 ?_
  refine zs_i2l C dX12_tastes_129 ?_
  refine zs_callV C h_X12_enters g_X12_enters zy_X12_enters zp_56 (show vwCl[12]? = some (RX12, TX12, 67) from rfl) zw_1574 zw_1576 zs9_X12_enters dX12_tastes_130 ?_
  refine zs_aload_n C dX12_tastes_133 rfl ?_
  refine zs_iload_n C dX12_tastes_134 rfl ?_
  refine zs_bipush C dX12_tastes_135 (by decide) ?_
  refine zs_idiv C dX12_tastes_137 ?_
  refine zs_bipush C dX12_tastes_138 (by decide) ?_
  refine zs_irem C dX12_tastes_140 ?_
  refine zs_i2l C dX12_tastes_141 ?_
  refine zs_callV C h_X12_enters g_X12_enters zy_X12_enters zp_56 (show vwCl[12]? = some (RX12, TX12, 67) from rfl) zw_1574 zw_1576 zs9_X12_enters dX12_tastes_142 ?_
  refine zs_aload_n C dX12_tastes_145 rfl ?_
  refine zs_iload_n C dX12_tastes_146 rfl ?_
  refine zs_bipush C dX12_tastes_147 (by decide) ?_
  refine zs_irem C dX12_tastes_149 ?_
  refine zs_i2l C dX12_tastes_150 ?_
  refine zs_callV C h_X12_enters g_X12_enters zy_X12_enters zp_56 (show vwCl[12]? = some (RX12, TX12, 67) from rfl) zw_1574 zw_1576 zs9_X12_enters dX12_tastes_151 ?_
  exact kX12_tastes_154 C hd1 h_X12_isGuest g_X12_isGuest h_X12_fitsBy g_X12_fitsBy h_X12_enters g_X12_enters j27 hq
def xX12_tastes_115 (s_X12_isGuest : zq_Sp) (s_X12_fitsBy : zq_Sp) (s_X12_enters : zq_Sp) (J27 : zq_P) (Q : zq_Q) (ls : zq_L) (st : List Value) (h : zq_H) : Prop := (zi_aload 0 (zi_push (.int 0) (zi_putI 56 1 (zi_iload 2 (zi_if1 (fun x => x ≤ 0) (xX12_tastes_154 s_X12_isGuest s_X12_fitsBy s_X12_enters J27 Q) (xX12_tastes_124 s_X12_isGuest s_X12_fitsBy s_X12_enters J27 Q)))))) ls st h
theorem kX12_tastes_115 {X : zq_X} {d : Nat} (C : zq_C X cX12_tastes 7 RX12 d) (hd1 : 1 ≤ d) {d_X12_isGuest : Nat} {s_X12_isGuest : zq_Sp} (h_X12_isGuest : zq_M yX12_isGuest cX12_isGuest 2 (some .boolean) 1 d_X12_isGuest s_X12_isGuest) (g_X12_isGuest : d_X12_isGuest + 1 ≤ d) {d_X12_fitsBy : Nat} {s_X12_fitsBy : zq_Sp} (h_X12_fitsBy : zq_M yX12_fitsBy cX12_fitsBy 7 (some .boolean) 1 d_X12_fitsBy s_X12_fitsBy) (g_X12_fitsBy : d_X12_fitsBy + 1 ≤ d) {d_X12_enters : Nat} {s_X12_enters : zq_Sp} (h_X12_enters : zq_M yX12_enters cX12_enters 3 none 0 d_X12_enters s_X12_enters) (g_X12_enters : d_X12_enters + 1 ≤ d) {J27 : zq_P} (j27 : zq_ok X 7 27 J27) {Q : zq_Q} (hq : zq_R X (some .int) 1 Q) : zq_ok X 7 115 (xX12_tastes_115 s_X12_isGuest s_X12_fitsBy s_X12_enters J27 Q) := by
  refine zs_aload_n C dX12_tastes_115 rfl ?_
  refine zs_iconst C dX12_tastes_116 (by decide) ?_
  refine zs_putI C zp_56 zF12 (j := 1) ⟨by decide, rfl⟩ ⟨rfl, by decide +kernel⟩ zw_1097 dX12_tastes_117 ?_
  refine zs_iload_n C dX12_tastes_120 rfl ?_
  exact zs_if_le C dX12_tastes_121 (by decide) (kX12_tastes_154 C hd1 h_X12_isGuest g_X12_isGuest h_X12_fitsBy g_X12_fitsBy h_X12_enters g_X12_enters j27 hq) (kX12_tastes_124 C hd1 h_X12_isGuest g_X12_isGuest h_X12_fitsBy g_X12_fitsBy h_X12_enters g_X12_enters j27 hq)
def xX12_tastes_109 (s_X12_isGuest : zq_Sp) (s_X12_fitsBy : zq_Sp) (s_X12_enters : zq_Sp) (J27 : zq_P) (Q : zq_Q) (ls : zq_L) (st : List Value) (h : zq_H) : Prop := (zi_iinc 5 1 (J27)) ls st h
theorem kX12_tastes_109 {X : zq_X} {d : Nat} (C : zq_C X cX12_tastes 7 RX12 d) (hd1 : 1 ≤ d) {d_X12_isGuest : Nat} {s_X12_isGuest : zq_Sp} (h_X12_isGuest : zq_M yX12_isGuest cX12_isGuest 2 (some .boolean) 1 d_X12_isGuest s_X12_isGuest) (g_X12_isGuest : d_X12_isGuest + 1 ≤ d) {d_X12_fitsBy : Nat} {s_X12_fitsBy : zq_Sp} (h_X12_fitsBy : zq_M yX12_fitsBy cX12_fitsBy 7 (some .boolean) 1 d_X12_fitsBy s_X12_fitsBy) (g_X12_fitsBy : d_X12_fitsBy + 1 ≤ d) {d_X12_enters : Nat} {s_X12_enters : zq_Sp} (h_X12_enters : zq_M yX12_enters cX12_enters 3 none 0 d_X12_enters s_X12_enters) (g_X12_enters : d_X12_enters + 1 ≤ d) {J27 : zq_P} (j27 : zq_ok X 7 27 J27) {Q : zq_Q} (hq : zq_R X (some .int) 1 Q) : zq_ok X 7 109 (xX12_tastes_109 s_X12_isGuest s_X12_fitsBy s_X12_enters J27 Q) := by
  refine zs_iinc C dX12_tastes_109 (by decide) (by decide) ?_
  exact zs_goto C dX12_tastes_112 (by decide) (j27)
def xX12_tastes_96 (s_X12_isGuest : zq_Sp) (s_X12_fitsBy : zq_Sp) (s_X12_enters : zq_Sp) (J27 : zq_P) (Q : zq_Q) (ls : zq_L) (st : List Value) (h : zq_H) : Prop := (zi_istore 3 (zi_iload 4 (zi_iload 6 (zi_m2 zf_min (zi_istore 4 (zi_iinc 2 1 ((xX12_tastes_109 s_X12_isGuest s_X12_fitsBy s_X12_enters J27 Q)))))))) ls st h
theorem kX12_tastes_96 {X : zq_X} {d : Nat} (C : zq_C X cX12_tastes 7 RX12 d) (hd1 : 1 ≤ d) {d_X12_isGuest : Nat} {s_X12_isGuest : zq_Sp} (h_X12_isGuest : zq_M yX12_isGuest cX12_isGuest 2 (some .boolean) 1 d_X12_isGuest s_X12_isGuest) (g_X12_isGuest : d_X12_isGuest + 1 ≤ d) {d_X12_fitsBy : Nat} {s_X12_fitsBy : zq_Sp} (h_X12_fitsBy : zq_M yX12_fitsBy cX12_fitsBy 7 (some .boolean) 1 d_X12_fitsBy s_X12_fitsBy) (g_X12_fitsBy : d_X12_fitsBy + 1 ≤ d) {d_X12_enters : Nat} {s_X12_enters : zq_Sp} (h_X12_enters : zq_M yX12_enters cX12_enters 3 none 0 d_X12_enters s_X12_enters) (g_X12_enters : d_X12_enters + 1 ≤ d) {J27 : zq_P} (j27 : zq_ok X 7 27 J27) {Q : zq_Q} (hq : zq_R X (some .int) 1 Q) : zq_ok X 7 96 (xX12_tastes_96 s_X12_isGuest s_X12_fitsBy s_X12_enters J27 Q) := by
  refine zs_istore_n C dX12_tastes_96 rfl (by decide) ?_
  refine zs_iload C dX12_tastes_97 ?_
  refine zs_iload C dX12_tastes_99 ?_
  refine zs_mmin C hd1 zw_1322 zw_393 zw_14 zw_394 dX12_tastes_101 ?_
  refine zs_istore C dX12_tastes_104 (by decide) ?_
  refine zs_iinc C dX12_tastes_106 (by decide) (by decide) ?_
  exact kX12_tastes_109 C hd1 h_X12_isGuest g_X12_isGuest h_X12_fitsBy g_X12_fitsBy h_X12_enters g_X12_enters j27 hq
def xX12_tastes_95 (s_X12_isGuest : zq_Sp) (s_X12_fitsBy : zq_Sp) (s_X12_enters : zq_Sp) (J27 : zq_P) (Q : zq_Q) (ls : zq_L) (st : List Value) (h : zq_H) : Prop := (zi_iload 3 ((xX12_tastes_96 s_X12_isGuest s_X12_fitsBy s_X12_enters J27 Q))) ls st h
theorem kX12_tastes_95 {X : zq_X} {d : Nat} (C : zq_C X cX12_tastes 7 RX12 d) (hd1 : 1 ≤ d) {d_X12_isGuest : Nat} {s_X12_isGuest : zq_Sp} (h_X12_isGuest : zq_M yX12_isGuest cX12_isGuest 2 (some .boolean) 1 d_X12_isGuest s_X12_isGuest) (g_X12_isGuest : d_X12_isGuest + 1 ≤ d) {d_X12_fitsBy : Nat} {s_X12_fitsBy : zq_Sp} (h_X12_fitsBy : zq_M yX12_fitsBy cX12_fitsBy 7 (some .boolean) 1 d_X12_fitsBy s_X12_fitsBy) (g_X12_fitsBy : d_X12_fitsBy + 1 ≤ d) {d_X12_enters : Nat} {s_X12_enters : zq_Sp} (h_X12_enters : zq_M yX12_enters cX12_enters 3 none 0 d_X12_enters s_X12_enters) (g_X12_enters : d_X12_enters + 1 ≤ d) {J27 : zq_P} (j27 : zq_ok X 7 27 J27) {Q : zq_Q} (hq : zq_R X (some .int) 1 Q) : zq_ok X 7 95 (xX12_tastes_95 s_X12_isGuest s_X12_fitsBy s_X12_enters J27 Q) := by
  refine zs_iload_n C dX12_tastes_95 rfl ?_
  exact kX12_tastes_96 C hd1 h_X12_isGuest g_X12_isGuest h_X12_fitsBy g_X12_fitsBy h_X12_enters g_X12_enters j27 hq
def xX12_tastes_90 (s_X12_isGuest : zq_Sp) (s_X12_fitsBy : zq_Sp) (s_X12_enters : zq_Sp) (J27 : zq_P) (Q : zq_Q) (ls : zq_L) (st : List Value) (h : zq_H) : Prop := (zi_iload 5 ((xX12_tastes_96 s_X12_isGuest s_X12_fitsBy s_X12_enters J27 Q))) ls st h
theorem kX12_tastes_90 {X : zq_X} {d : Nat} (C : zq_C X cX12_tastes 7 RX12 d) (hd1 : 1 ≤ d) {d_X12_isGuest : Nat} {s_X12_isGuest : zq_Sp} (h_X12_isGuest : zq_M yX12_isGuest cX12_isGuest 2 (some .boolean) 1 d_X12_isGuest s_X12_isGuest) (g_X12_isGuest : d_X12_isGuest + 1 ≤ d) {d_X12_fitsBy : Nat} {s_X12_fitsBy : zq_Sp} (h_X12_fitsBy : zq_M yX12_fitsBy cX12_fitsBy 7 (some .boolean) 1 d_X12_fitsBy s_X12_fitsBy) (g_X12_fitsBy : d_X12_fitsBy + 1 ≤ d) {d_X12_enters : Nat} {s_X12_enters : zq_Sp} (h_X12_enters : zq_M yX12_enters cX12_enters 3 none 0 d_X12_enters s_X12_enters) (g_X12_enters : d_X12_enters + 1 ≤ d) {J27 : zq_P} (j27 : zq_ok X 7 27 J27) {Q : zq_Q} (hq : zq_R X (some .int) 1 Q) : zq_ok X 7 90 (xX12_tastes_90 s_X12_isGuest s_X12_fitsBy s_X12_enters J27 Q) := by
  refine zs_iload C dX12_tastes_90 ?_
  exact zs_goto C dX12_tastes_92 (by decide) (kX12_tastes_96 C hd1 h_X12_isGuest g_X12_isGuest h_X12_fitsBy g_X12_fitsBy h_X12_enters g_X12_enters j27 hq)
def xX12_tastes_61 (s_X12_isGuest : zq_Sp) (s_X12_fitsBy : zq_Sp) (s_X12_enters : zq_Sp) (J27 : zq_P) (Q : zq_Q) (ls : zq_L) (st : List Value) (h : zq_H) : Prop := (zi_iload 5 (zi_push (.int 100) (zi_idv (fun x y => x / y) (zi_iload 5 (zi_push (.int 10) (zi_idv (fun x y => x / y) (zi_push (.int 10) (zi_idv zf_rem (zi_i2 (fun x y => x + y) (zi_iload 5 (zi_push (.int 10) (zi_idv zf_rem (zi_i2 (fun x y => x + y) (zi_istore 6 (zi_iload 6 (zi_iload 4 (zi_if2 (fun x y => y ≤ x) (xX12_tastes_95 s_X12_isGuest s_X12_fitsBy s_X12_enters J27 Q) (xX12_tastes_90 s_X12_isGuest s_X12_fitsBy s_X12_enters J27 Q)))))))))))))))))) ls st h
theorem kX12_tastes_61 {X : zq_X} {d : Nat} (C : zq_C X cX12_tastes 7 RX12 d) (hd1 : 1 ≤ d) {d_X12_isGuest : Nat} {s_X12_isGuest : zq_Sp} (h_X12_isGuest : zq_M yX12_isGuest cX12_isGuest 2 (some .boolean) 1 d_X12_isGuest s_X12_isGuest) (g_X12_isGuest : d_X12_isGuest + 1 ≤ d) {d_X12_fitsBy : Nat} {s_X12_fitsBy : zq_Sp} (h_X12_fitsBy : zq_M yX12_fitsBy cX12_fitsBy 7 (some .boolean) 1 d_X12_fitsBy s_X12_fitsBy) (g_X12_fitsBy : d_X12_fitsBy + 1 ≤ d) {d_X12_enters : Nat} {s_X12_enters : zq_Sp} (h_X12_enters : zq_M yX12_enters cX12_enters 3 none 0 d_X12_enters s_X12_enters) (g_X12_enters : d_X12_enters + 1 ≤ d) {J27 : zq_P} (j27 : zq_ok X 7 27 J27) {Q : zq_Q} (hq : zq_R X (some .int) 1 Q) : zq_ok X 7 61 (xX12_tastes_61 s_X12_isGuest s_X12_fitsBy s_X12_enters J27 Q) := by
  refine zs_iload C dX12_tastes_61 ?_
  refine zs_bipush C dX12_tastes_63 (by decide) ?_
  refine zs_idiv C dX12_tastes_65 ?_
  refine zs_iload C dX12_tastes_66 ?_
  refine zs_bipush C dX12_tastes_68 (by decide) ?_
  refine zs_idiv C dX12_tastes_70 ?_
  refine zs_bipush C dX12_tastes_71 (by decide) ?_
  refine zs_irem C dX12_tastes_73 ?_
  refine zs_iadd C dX12_tastes_74 ?_
  refine zs_iload C dX12_tastes_75 ?_
  refine zs_bipush C dX12_tastes_77 (by decide) ?_
  refine zs_irem C dX12_tastes_79 ?_
  refine zs_iadd C dX12_tastes_80 ?_
  refine zs_istore C dX12_tastes_81 (by decide) ?_
  refine zs_iload C dX12_tastes_83 ?_
  refine zs_iload C dX12_tastes_85 ?_
  exact zs_icmp_ge C dX12_tastes_87 (by decide) (kX12_tastes_95 C hd1 h_X12_isGuest g_X12_isGuest h_X12_fitsBy g_X12_fitsBy h_X12_enters g_X12_enters j27 hq) (kX12_tastes_90 C hd1 h_X12_isGuest g_X12_isGuest h_X12_fitsBy g_X12_fitsBy h_X12_enters g_X12_enters j27 hq)
def xX12_tastes_35 (s_X12_isGuest : zq_Sp) (s_X12_fitsBy : zq_Sp) (s_X12_enters : zq_Sp) (J27 : zq_P) (Q : zq_Q) (ls : zq_L) (st : List Value) (h : zq_H) : Prop := (zi_aload 0 (zi_iload 1 (zi_iload 5 (zi_push (.int 100) (zi_idv (fun x y => x / y) (zi_iload 5 (zi_push (.int 10) (zi_idv (fun x y => x / y) (zi_push (.int 10) (zi_idv zf_rem (zi_iload 5 (zi_push (.int 10) (zi_idv zf_rem (zi_callV 4 56 s_X12_fitsBy (zi_if1 (fun x => x = 0) (xX12_tastes_109 s_X12_isGuest s_X12_fitsBy s_X12_enters J27 Q) (xX12_tastes_61 s_X12_isGuest s_X12_fitsBy s_X12_enters J27 Q)))))))))))))))) ls st h
theorem kX12_tastes_35 {X : zq_X} {d : Nat} (C : zq_C X cX12_tastes 7 RX12 d) (hd1 : 1 ≤ d) {d_X12_isGuest : Nat} {s_X12_isGuest : zq_Sp} (h_X12_isGuest : zq_M yX12_isGuest cX12_isGuest 2 (some .boolean) 1 d_X12_isGuest s_X12_isGuest) (g_X12_isGuest : d_X12_isGuest + 1 ≤ d) {d_X12_fitsBy : Nat} {s_X12_fitsBy : zq_Sp} (h_X12_fitsBy : zq_M yX12_fitsBy cX12_fitsBy 7 (some .boolean) 1 d_X12_fitsBy s_X12_fitsBy) (g_X12_fitsBy : d_X12_fitsBy + 1 ≤ d) {d_X12_enters : Nat} {s_X12_enters : zq_Sp} (h_X12_enters : zq_M yX12_enters cX12_enters 3 none 0 d_X12_enters s_X12_enters) (g_X12_enters : d_X12_enters + 1 ≤ d) {J27 : zq_P} (j27 : zq_ok X 7 27 J27) {Q : zq_Q} (hq : zq_R X (some .int) 1 Q) : zq_ok X 7 35 (xX12_tastes_35 s_X12_isGuest s_X12_fitsBy s_X12_enters J27 Q) := by
  refine zs_aload_n C dX12_tastes_35 rfl ?_
  refine zs_iload_n C dX12_tastes_36 rfl ?_
  refine zs_iload C dX12_tastes_37 ?_
  refine zs_bipush C dX12_tastes_39 (by decide) ?_
  refine zs_idiv C dX12_tastes_41 ?_
  refine zs_iload C dX12_tastes_42 ?_
  refine zs_bipush C dX12_tastes_44 (by decide) ?_
  refine zs_idiv C dX12_tastes_46 ?_
  refine zs_bipush C dX12_tastes_47 (by decide) ?_
  refine zs_irem C dX12_tastes_49 ?_
  refine zs_iload C dX12_tastes_50 ?_
  refine zs_bipush C dX12_tastes_52 (by decide) ?_
  refine zs_irem C dX12_tastes_54 ?_
  refine zs_callV C h_X12_fitsBy g_X12_fitsBy zy_X12_fitsBy zp_56 (show vwCl[12]? = some (RX12, TX12, 67) from rfl) zw_1712 zw_1714 zs9_X12_fitsBy dX12_tastes_55 ?_
  exact zs_if_eq C dX12_tastes_58 (by decide) (kX12_tastes_109 C hd1 h_X12_isGuest g_X12_isGuest h_X12_fitsBy g_X12_fitsBy h_X12_enters g_X12_enters j27 hq) (kX12_tastes_61 C hd1 h_X12_isGuest g_X12_isGuest h_X12_fitsBy g_X12_fitsBy h_X12_enters g_X12_enters j27 hq)
def xX12_tastes_27 (s_X12_isGuest : zq_Sp) (s_X12_fitsBy : zq_Sp) (s_X12_enters : zq_Sp) (J27 : zq_P) (Q : zq_Q) (ls : zq_L) (st : List Value) (h : zq_H) : Prop := (zi_iload 5 (zi_push (.int 1000) (zi_if2 (fun x y => y ≤ x) (xX12_tastes_115 s_X12_isGuest s_X12_fitsBy s_X12_enters J27 Q) (xX12_tastes_35 s_X12_isGuest s_X12_fitsBy s_X12_enters J27 Q)))) ls st h
theorem kX12_tastes_27 {X : zq_X} {d : Nat} (C : zq_C X cX12_tastes 7 RX12 d) (hd1 : 1 ≤ d) {d_X12_isGuest : Nat} {s_X12_isGuest : zq_Sp} (h_X12_isGuest : zq_M yX12_isGuest cX12_isGuest 2 (some .boolean) 1 d_X12_isGuest s_X12_isGuest) (g_X12_isGuest : d_X12_isGuest + 1 ≤ d) {d_X12_fitsBy : Nat} {s_X12_fitsBy : zq_Sp} (h_X12_fitsBy : zq_M yX12_fitsBy cX12_fitsBy 7 (some .boolean) 1 d_X12_fitsBy s_X12_fitsBy) (g_X12_fitsBy : d_X12_fitsBy + 1 ≤ d) {d_X12_enters : Nat} {s_X12_enters : zq_Sp} (h_X12_enters : zq_M yX12_enters cX12_enters 3 none 0 d_X12_enters s_X12_enters) (g_X12_enters : d_X12_enters + 1 ≤ d) {J27 : zq_P} (j27 : zq_ok X 7 27 J27) {Q : zq_Q} (hq : zq_R X (some .int) 1 Q) : zq_ok X 7 27 (xX12_tastes_27 s_X12_isGuest s_X12_fitsBy s_X12_enters J27 Q) := by
  refine zs_iload C dX12_tastes_27 ?_
  refine zs_sipush C dX12_tastes_29 (by decide) ?_
  exact zs_icmp_ge C dX12_tastes_32 (by decide) (kX12_tastes_115 C hd1 h_X12_isGuest g_X12_isGuest h_X12_fitsBy g_X12_fitsBy h_X12_enters g_X12_enters j27 hq) (kX12_tastes_35 C hd1 h_X12_isGuest g_X12_isGuest h_X12_fitsBy g_X12_fitsBy h_X12_enters g_X12_enters j27 hq)
def xX12_tastes_15 (s_X12_isGuest : zq_Sp) (s_X12_fitsBy : zq_Sp) (s_X12_enters : zq_Sp) (J27 : zq_P) (Q : zq_Q) (ls : zq_L) (st : List Value) (h : zq_H) : Prop := (zi_push (.int 0) (zi_istore 2 (zi_push (.int (-1)) (zi_istore 3 (zi_push (.int 1000) (zi_istore 4 (zi_push (.int 0) (zi_istore 5 (J27))))))))) ls st h
theorem kX12_tastes_15 {X : zq_X} {d : Nat} (C : zq_C X cX12_tastes 7 RX12 d) (hd1 : 1 ≤ d) {d_X12_isGuest : Nat} {s_X12_isGuest : zq_Sp} (h_X12_isGuest : zq_M yX12_isGuest cX12_isGuest 2 (some .boolean) 1 d_X12_isGuest s_X12_isGuest) (g_X12_isGuest : d_X12_isGuest + 1 ≤ d) {d_X12_fitsBy : Nat} {s_X12_fitsBy : zq_Sp} (h_X12_fitsBy : zq_M yX12_fitsBy cX12_fitsBy 7 (some .boolean) 1 d_X12_fitsBy s_X12_fitsBy) (g_X12_fitsBy : d_X12_fitsBy + 1 ≤ d) {d_X12_enters : Nat} {s_X12_enters : zq_Sp} (h_X12_enters : zq_M yX12_enters cX12_enters 3 none 0 d_X12_enters s_X12_enters) (g_X12_enters : d_X12_enters + 1 ≤ d) {J27 : zq_P} (j27 : zq_ok X 7 27 J27) {Q : zq_Q} (hq : zq_R X (some .int) 1 Q) : zq_ok X 7 15 (xX12_tastes_15 s_X12_isGuest s_X12_fitsBy s_X12_enters J27 Q) := by
  refine zs_iconst C dX12_tastes_15 (by decide) ?_
  refine zs_istore_n C dX12_tastes_16 rfl (by decide) ?_
  refine zs_iconst C dX12_tastes_17 (by decide) ?_
  refine zs_istore_n C dX12_tastes_18 rfl (by decide) ?_
  refine zs_sipush C dX12_tastes_19 (by decide) ?_
  refine zs_istore C dX12_tastes_22 (by decide) ?_
  refine zs_iconst C dX12_tastes_24 (by decide) ?_
  refine zs_istore C dX12_tastes_25 (by decide) ?_
  exact j27
def xX12_tastes_13 (s_X12_isGuest : zq_Sp) (s_X12_fitsBy : zq_Sp) (s_X12_enters : zq_Sp) (J27 : zq_P) (Q : zq_Q) (ls : zq_L) (st : List Value) (h : zq_H) : Prop := (zi_push (.int (-1)) (zi_iret Q)) ls st h
theorem kX12_tastes_13 {X : zq_X} {d : Nat} (C : zq_C X cX12_tastes 7 RX12 d) (hd1 : 1 ≤ d) {d_X12_isGuest : Nat} {s_X12_isGuest : zq_Sp} (h_X12_isGuest : zq_M yX12_isGuest cX12_isGuest 2 (some .boolean) 1 d_X12_isGuest s_X12_isGuest) (g_X12_isGuest : d_X12_isGuest + 1 ≤ d) {d_X12_fitsBy : Nat} {s_X12_fitsBy : zq_Sp} (h_X12_fitsBy : zq_M yX12_fitsBy cX12_fitsBy 7 (some .boolean) 1 d_X12_fitsBy s_X12_fitsBy) (g_X12_fitsBy : d_X12_fitsBy + 1 ≤ d) {d_X12_enters : Nat} {s_X12_enters : zq_Sp} (h_X12_enters : zq_M yX12_enters cX12_enters 3 none 0 d_X12_enters s_X12_enters) (g_X12_enters : d_X12_enters + 1 ≤ d) {J27 : zq_P} (j27 : zq_ok X 7 27 J27) {Q : zq_Q} (hq : zq_R X (some .int) 1 Q) : zq_ok X 7 13 (xX12_tastes_13 s_X12_isGuest s_X12_fitsBy s_X12_enters J27 Q) := by
  refine zs_iconst C dX12_tastes_13 (by decide) ?_
  exact zs_iret C hq dX12_tastes_14
def xX12_tastes_0 (s_X12_isGuest : zq_Sp) (s_X12_fitsBy : zq_Sp) (s_X12_enters : zq_Sp) (J27 : zq_P) (Q : zq_Q) (ls : zq_L) (st : List Value) (h : zq_H) : Prop := (zi_aload 0 (zi_push (.int 0) (zi_putI 56 0 (zi_aload 0 (zi_iload 1 (zi_callV 1 56 s_X12_isGuest (zi_if1 (fun x => x = 0) (xX12_tastes_13 s_X12_isGuest s_X12_fitsBy s_X12_enters J27 Q) (xX12_tastes_15 s_X12_isGuest s_X12_fitsBy s_X12_enters J27 Q)))))))) ls st h
theorem kX12_tastes_0 {X : zq_X} {d : Nat} (C : zq_C X cX12_tastes 7 RX12 d) (hd1 : 1 ≤ d) {d_X12_isGuest : Nat} {s_X12_isGuest : zq_Sp} (h_X12_isGuest : zq_M yX12_isGuest cX12_isGuest 2 (some .boolean) 1 d_X12_isGuest s_X12_isGuest) (g_X12_isGuest : d_X12_isGuest + 1 ≤ d) {d_X12_fitsBy : Nat} {s_X12_fitsBy : zq_Sp} (h_X12_fitsBy : zq_M yX12_fitsBy cX12_fitsBy 7 (some .boolean) 1 d_X12_fitsBy s_X12_fitsBy) (g_X12_fitsBy : d_X12_fitsBy + 1 ≤ d) {d_X12_enters : Nat} {s_X12_enters : zq_Sp} (h_X12_enters : zq_M yX12_enters cX12_enters 3 none 0 d_X12_enters s_X12_enters) (g_X12_enters : d_X12_enters + 1 ≤ d) {J27 : zq_P} (j27 : zq_ok X 7 27 J27) {Q : zq_Q} (hq : zq_R X (some .int) 1 Q) : zq_ok X 7 0 (xX12_tastes_0 s_X12_isGuest s_X12_fitsBy s_X12_enters J27 Q) := by
  refine zs_aload_n C dX12_tastes_0 rfl ?_
  refine zs_iconst C dX12_tastes_1 (by decide) ?_
  refine zs_putI C zp_56 zF12 (j := 0) ⟨by decide, rfl⟩ ⟨rfl, by decide +kernel⟩ zw_1096 dX12_tastes_2 ?_
  refine zs_aload_n C dX12_tastes_5 rfl ?_
  refine zs_iload_n C dX12_tastes_6 rfl ?_
  refine zs_callV C h_X12_isGuest g_X12_isGuest zy_X12_isGuest zp_56 (show vwCl[12]? = some (RX12, TX12, 67) from rfl) zw_1466 zw_1468 zs9_X12_isGuest dX12_tastes_7 ?_
  exact zs_if_ne C dX12_tastes_10 (by decide) (kX12_tastes_15 C hd1 h_X12_isGuest g_X12_isGuest h_X12_fitsBy g_X12_fitsBy h_X12_enters g_X12_enters j27 hq) (kX12_tastes_13 C hd1 h_X12_isGuest g_X12_isGuest h_X12_fitsBy g_X12_fitsBy h_X12_enters g_X12_enters j27 hq)
theorem mX12_tastes {d : Nat} {spec : zq_Sp} {σ27 : Type} {d_X12_isGuest : Nat} {s_X12_isGuest : zq_Sp} (h_X12_isGuest : zq_M yX12_isGuest cX12_isGuest 2 (some .boolean) 1 d_X12_isGuest s_X12_isGuest) (g_X12_isGuest : d_X12_isGuest + 1 ≤ d) {d_X12_fitsBy : Nat} {s_X12_fitsBy : zq_Sp} (h_X12_fitsBy : zq_M yX12_fitsBy cX12_fitsBy 7 (some .boolean) 1 d_X12_fitsBy s_X12_fitsBy) (g_X12_fitsBy : d_X12_fitsBy + 1 ≤ d) {d_X12_enters : Nat} {s_X12_enters : zq_Sp} (h_X12_enters : zq_M yX12_enters cX12_enters 3 none 0 d_X12_enters s_X12_enters) (g_X12_enters : d_X12_enters + 1 ≤ d) (hd1 : 1 ≤ d) (μ27 : σ27 → Nat) (I27 : zq_Q → σ27 → zq_P) (v : ∀ args h Q, spec args h Q → (zq_a args).length ≤ 7 ∧ xX12_tastes_0 s_X12_isGuest s_X12_fitsBy s_X12_enters (fun ls st h => ∃ b, I27 Q b ls st h) Q (zq_l0 7 args) [] h) (v27 : ∀ Q a ls st h, I27 Q a ls st h → xX12_tastes_27 s_X12_isGuest s_X12_fitsBy s_X12_enters (fun ls st h => ∃ b, μ27 b < μ27 a ∧ I27 Q b ls st h) Q ls st h) : zq_M yX12_tastes cX12_tastes 7 (some .int) 1 d spec := by
  refine zq_met (by decide +kernel) (by decide) (fun X Q args h C hq hs => ⟨(v args h Q hs).1, _, ?_, (v args h Q hs).2⟩)
  have hl := zq_loop1 (X := X) (nL := 7) (pc1 := 27) μ27 (I27 Q) (fun J27 => xX12_tastes_27 s_X12_isGuest s_X12_fitsBy s_X12_enters J27 Q) (fun j27 => kX12_tastes_27 C hd1 h_X12_isGuest g_X12_isGuest h_X12_fitsBy g_X12_fitsBy h_X12_enters g_X12_enters j27 hq) (v27 Q)
  exact kX12_tastes_0 C hd1 h_X12_isGuest g_X12_isGuest h_X12_fitsBy g_X12_fitsBy h_X12_enters g_X12_enters hl hq
/-! ToOneCrumbModel.offer(I)I -/
theorem dX12_offer_0 : decode cX12_offer 0 = .ok (.aload_n 0, 1) := by decide +kernel
theorem dX12_offer_1 : decode cX12_offer 1 = .ok (.iconst 0, 1) := by decide +kernel
theorem dX12_offer_2 : decode cX12_offer 2 = .ok (.putfield 147, 3) := by decide +kernel
theorem dX12_offer_5 : decode cX12_offer 5 = .ok (.aload_n 0, 1) := by decide +kernel
theorem dX12_offer_6 : decode cX12_offer 6 = .ok (.iload_n 1, 1) := by decide +kernel
theorem dX12_offer_7 : decode cX12_offer 7 = .ok (.invokevirtual 313, 3) := by decide +kernel
theorem dX12_offer_10 : decode cX12_offer 10 = .ok (.ifCond .ne 5, 3) := by decide +kernel
theorem dX12_offer_13 : decode cX12_offer 13 = .ok (.iconst (-1), 1) := by decide +kernel
theorem dX12_offer_14 : decode cX12_offer 14 = .ok (.ireturn, 1) := by decide +kernel
theorem dX12_offer_15 : decode cX12_offer 15 = .ok (.aload_n 0, 1) := by decide +kernel
theorem dX12_offer_16 : decode cX12_offer 16 = .ok (.getfield 158, 3) := by decide +kernel
theorem dX12_offer_19 : decode cX12_offer 19 = .ok (.iconst 2, 1) := by decide +kernel
theorem dX12_offer_20 : decode cX12_offer 20 = .ok (.if_icmp .ge 6, 3) := by decide +kernel
theorem dX12_offer_23 : decode cX12_offer 23 = .ok (.bipush (-2), 2) := by decide +kernel
theorem dX12_offer_25 : decode cX12_offer 25 = .ok (.ireturn, 1) := by decide +kernel
theorem dX12_offer_26 : decode cX12_offer 26 = .ok (.iconst 0, 1) := by decide +kernel
theorem dX12_offer_27 : decode cX12_offer 27 = .ok (.istore_n 2, 1) := by decide +kernel
theorem dX12_offer_28 : decode cX12_offer 28 = .ok (.iload_n 2, 1) := by decide +kernel
theorem dX12_offer_29 : decode cX12_offer 29 = .ok (.sipush 256, 3) := by decide +kernel
theorem dX12_offer_32 : decode cX12_offer 32 = .ok (.if_icmp .ge 23, 3) := by decide +kernel
theorem dX12_offer_35 : decode cX12_offer 35 = .ok (.aload_n 0, 1) := by decide +kernel
theorem dX12_offer_36 : decode cX12_offer 36 = .ok (.getfield 123, 3) := by decide +kernel
theorem dX12_offer_39 : decode cX12_offer 39 = .ok (.iload_n 2, 1) := by decide +kernel
theorem dX12_offer_40 : decode cX12_offer 40 = .ok (.iconst 0, 1) := by decide +kernel
theorem dX12_offer_41 : decode cX12_offer 41 = .ok (.iastore, 1) := by decide +kernel
theorem dX12_offer_42 : decode cX12_offer 42 = .ok (.aload_n 0, 1) := by decide +kernel
theorem dX12_offer_43 : decode cX12_offer 43 = .ok (.getfield 126, 3) := by decide +kernel
theorem dX12_offer_46 : decode cX12_offer 46 = .ok (.iload_n 2, 1) := by decide +kernel
theorem dX12_offer_47 : decode cX12_offer 47 = .ok (.iconst 0, 1) := by decide +kernel
theorem dX12_offer_48 : decode cX12_offer 48 = .ok (.iastore, 1) := by decide +kernel
theorem dX12_offer_49 : decode cX12_offer 49 = .ok (.iinc 2 1, 3) := by decide +kernel
theorem dX12_offer_52 : decode cX12_offer 52 = .ok (.goto (-24), 3) := by decide +kernel
theorem dX12_offer_55 : decode cX12_offer 55 = .ok (.iconst 0, 1) := by decide +kernel
theorem dX12_offer_56 : decode cX12_offer 56 = .ok (.istore_n 2, 1) := by decide +kernel
theorem dX12_offer_57 : decode cX12_offer 57 = .ok (.iload_n 2, 1) := by decide +kernel
theorem dX12_offer_58 : decode cX12_offer 58 = .ok (.sipush 1000, 3) := by decide +kernel
theorem dX12_offer_61 : decode cX12_offer 61 = .ok (.if_icmp .ge 146, 3) := by decide +kernel
theorem dX12_offer_64 : decode cX12_offer 64 = .ok (.aload_n 0, 1) := by decide +kernel
theorem dX12_offer_65 : decode cX12_offer 65 = .ok (.iload_n 1, 1) := by decide +kernel
theorem dX12_offer_66 : decode cX12_offer 66 = .ok (.iload_n 2, 1) := by decide +kernel
theorem dX12_offer_67 : decode cX12_offer 67 = .ok (.bipush 100, 2) := by decide +kernel
theorem dX12_offer_69 : decode cX12_offer 69 = .ok (.idiv, 1) := by decide +kernel
theorem dX12_offer_70 : decode cX12_offer 70 = .ok (.iload_n 2, 1) := by decide +kernel
theorem dX12_offer_71 : decode cX12_offer 71 = .ok (.bipush 10, 2) := by decide +kernel
theorem dX12_offer_73 : decode cX12_offer 73 = .ok (.idiv, 1) := by decide +kernel
theorem dX12_offer_74 : decode cX12_offer 74 = .ok (.bipush 10, 2) := by decide +kernel
theorem dX12_offer_76 : decode cX12_offer 76 = .ok (.irem, 1) := by decide +kernel
theorem dX12_offer_77 : decode cX12_offer 77 = .ok (.iload_n 2, 1) := by decide +kernel
theorem dX12_offer_78 : decode cX12_offer 78 = .ok (.bipush 10, 2) := by decide +kernel
theorem dX12_offer_80 : decode cX12_offer 80 = .ok (.irem, 1) := by decide +kernel
theorem dX12_offer_81 : decode cX12_offer 81 = .ok (.invokevirtual 443, 3) := by decide +kernel
theorem dX12_offer_84 : decode cX12_offer 84 = .ok (.ifCond .eq 117, 3) := by decide +kernel
theorem dX12_offer_87 : decode cX12_offer 87 = .ok (.iconst 0, 1) := by decide +kernel
theorem dX12_offer_88 : decode cX12_offer 88 = .ok (.istore_n 3, 1) := by decide +kernel
theorem dX12_offer_89 : decode cX12_offer 89 = .ok (.iload_n 3, 1) := by decide +kernel
theorem dX12_offer_90 : decode cX12_offer 90 = .ok (.aload_n 0, 1) := by decide +kernel
theorem dX12_offer_91 : decode cX12_offer 91 = .ok (.getfield 158, 3) := by decide +kernel
theorem dX12_offer_94 : decode cX12_offer 94 = .ok (.if_icmp .ge 107, 3) := by decide +kernel
theorem dX12_offer_97 : decode cX12_offer 97 = .ok (.iload_n 3, 1) := by decide +kernel
theorem dX12_offer_98 : decode cX12_offer 98 = .ok (.iconst 1, 1) := by decide +kernel
theorem dX12_offer_99 : decode cX12_offer 99 = .ok (.iadd, 1) := by decide +kernel
theorem dX12_offer_100 : decode cX12_offer 100 = .ok (.istore 4, 2) := by decide +kernel
theorem dX12_offer_102 : decode cX12_offer 102 = .ok (.iload 4, 2) := by decide +kernel
theorem dX12_offer_104 : decode cX12_offer 104 = .ok (.aload_n 0, 1) := by decide +kernel
theorem dX12_offer_105 : decode cX12_offer 105 = .ok (.getfield 158, 3) := by decide +kernel
theorem dX12_offer_108 : decode cX12_offer 108 = .ok (.if_icmp .ge 87, 3) := by decide +kernel
theorem dX12_offer_111 : decode cX12_offer 111 = .ok (.aload_n 0, 1) := by decide +kernel
theorem dX12_offer_112 : decode cX12_offer 112 = .ok (.getfield 123, 3) := by decide +kernel
theorem dX12_offer_115 : decode cX12_offer 115 = .ok (.bipush 16, 2) := by decide +kernel
theorem dX12_offer_117 : decode cX12_offer 117 = .ok (.iload_n 3, 1) := by decide +kernel
theorem dX12_offer_118 : decode cX12_offer 118 = .ok (.imul, 1) := by decide +kernel
theorem dX12_offer_119 : decode cX12_offer 119 = .ok (.iload 4, 2) := by decide +kernel
theorem dX12_offer_121 : decode cX12_offer 121 = .ok (.iadd, 1) := by decide +kernel
theorem dX12_offer_122 : decode cX12_offer 122 = .ok (.dup2, 1) := by decide +kernel
theorem dX12_offer_123 : decode cX12_offer 123 = .ok (.iaload, 1) := by decide +kernel
theorem dX12_offer_124 : decode cX12_offer 124 = .ok (.aload_n 0, 1) := by decide +kernel
theorem dX12_offer_125 : decode cX12_offer 125 = .ok (.getfield 120, 3) := by decide +kernel
theorem dX12_offer_128 : decode cX12_offer 128 = .ok (.iload_n 3, 1) := by decide +kernel
theorem dX12_offer_129 : decode cX12_offer 129 = .ok (.iaload, 1) := by decide +kernel
theorem dX12_offer_130 : decode cX12_offer 130 = .ok (.aload_n 0, 1) := by decide +kernel
theorem dX12_offer_131 : decode cX12_offer 131 = .ok (.getfield 120, 3) := by decide +kernel
theorem dX12_offer_134 : decode cX12_offer 134 = .ok (.iload 4, 2) := by decide +kernel
theorem dX12_offer_136 : decode cX12_offer 136 = .ok (.iaload, 1) := by decide +kernel
theorem dX12_offer_137 : decode cX12_offer 137 = .ok (.if_icmp .lt 7, 3) := by decide +kernel
theorem dX12_offer_140 : decode cX12_offer 140 = .ok (.iconst 1, 1) := by decide +kernel
theorem dX12_offer_141 : decode cX12_offer 141 = .ok (.goto 4, 3) := by decide +kernel
theorem dX12_offer_144 : decode cX12_offer 144 = .ok (.iconst 0, 1) := by decide +kernel
theorem dX12_offer_145 : decode cX12_offer 145 = .ok (.invokestatic 190, 3) := by decide +kernel
theorem dX12_offer_148 : decode cX12_offer 148 = .ok (.iadd, 1) := by decide +kernel
theorem dX12_offer_149 : decode cX12_offer 149 = .ok (.iastore, 1) := by decide +kernel
theorem dX12_offer_150 : decode cX12_offer 150 = .ok (.aload_n 0, 1) := by decide +kernel
theorem dX12_offer_151 : decode cX12_offer 151 = .ok (.getfield 126, 3) := by decide +kernel
theorem dX12_offer_154 : decode cX12_offer 154 = .ok (.bipush 16, 2) := by decide +kernel
theorem dX12_offer_156 : decode cX12_offer 156 = .ok (.iload_n 3, 1) := by decide +kernel
theorem dX12_offer_157 : decode cX12_offer 157 = .ok (.imul, 1) := by decide +kernel
theorem dX12_offer_158 : decode cX12_offer 158 = .ok (.iload 4, 2) := by decide +kernel
theorem dX12_offer_160 : decode cX12_offer 160 = .ok (.iadd, 1) := by decide +kernel
theorem dX12_offer_161 : decode cX12_offer 161 = .ok (.dup2, 1) := by decide +kernel
theorem dX12_offer_162 : decode cX12_offer 162 = .ok (.iaload, 1) := by decide +kernel
theorem dX12_offer_163 : decode cX12_offer 163 = .ok (.aload_n 0, 1) := by decide +kernel
theorem dX12_offer_164 : decode cX12_offer 164 = .ok (.getfield 120, 3) := by decide +kernel
theorem dX12_offer_167 : decode cX12_offer 167 = .ok (.iload 4, 2) := by decide +kernel
theorem dX12_offer_169 : decode cX12_offer 169 = .ok (.iaload, 1) := by decide +kernel
theorem dX12_offer_170 : decode cX12_offer 170 = .ok (.aload_n 0, 1) := by decide +kernel
theorem dX12_offer_171 : decode cX12_offer 171 = .ok (.getfield 120, 3) := by decide +kernel
theorem dX12_offer_174 : decode cX12_offer 174 = .ok (.iload_n 3, 1) := by decide +kernel
theorem dX12_offer_175 : decode cX12_offer 175 = .ok (.iaload, 1) := by decide +kernel
theorem dX12_offer_176 : decode cX12_offer 176 = .ok (.if_icmp .lt 7, 3) := by decide +kernel
theorem dX12_offer_179 : decode cX12_offer 179 = .ok (.iconst 1, 1) := by decide +kernel
theorem dX12_offer_180 : decode cX12_offer 180 = .ok (.goto 4, 3) := by decide +kernel
theorem dX12_offer_183 : decode cX12_offer 183 = .ok (.iconst 0, 1) := by decide +kernel
theorem dX12_offer_184 : decode cX12_offer 184 = .ok (.invokestatic 190, 3) := by decide +kernel
theorem dX12_offer_187 : decode cX12_offer 187 = .ok (.iadd, 1) := by decide +kernel
theorem dX12_offer_188 : decode cX12_offer 188 = .ok (.iastore, 1) := by decide +kernel
theorem dX12_offer_189 : decode cX12_offer 189 = .ok (.iinc 4 1, 3) := by decide +kernel
theorem dX12_offer_192 : decode cX12_offer 192 = .ok (.goto (-90), 3) := by decide +kernel
theorem dX12_offer_195 : decode cX12_offer 195 = .ok (.iinc 3 1, 3) := by decide +kernel
theorem dX12_offer_198 : decode cX12_offer 198 = .ok (.goto (-109), 3) := by decide +kernel
theorem dX12_offer_201 : decode cX12_offer 201 = .ok (.iinc 2 1, 3) := by decide +kernel
theorem dX12_offer_204 : decode cX12_offer 204 = .ok (.goto (-147), 3) := by decide +kernel
theorem dX12_offer_207 : decode cX12_offer 207 = .ok (.iconst (-1), 1) := by decide +kernel
theorem dX12_offer_208 : decode cX12_offer 208 = .ok (.istore_n 2, 1) := by decide +kernel
theorem dX12_offer_209 : decode cX12_offer 209 = .ok (.iconst 0, 1) := by decide +kernel
theorem dX12_offer_210 : decode cX12_offer 210 = .ok (.istore_n 3, 1) := by decide +kernel
theorem dX12_offer_211 : decode cX12_offer 211 = .ok (.iconst 0, 1) := by decide +kernel
theorem dX12_offer_212 : decode cX12_offer 212 = .ok (.istore 4, 2) := by decide +kernel
theorem dX12_offer_214 : decode cX12_offer 214 = .ok (.iload 4, 2) := by decide +kernel
theorem dX12_offer_216 : decode cX12_offer 216 = .ok (.aload_n 0, 1) := by decide +kernel
theorem dX12_offer_217 : decode cX12_offer 217 = .ok (.getfield 158, 3) := by decide +kernel
theorem dX12_offer_220 : decode cX12_offer 220 = .ok (.if_icmp .ge 83, 3) := by decide +kernel
theorem dX12_offer_223 : decode cX12_offer 223 = .ok (.iload 4, 2) := by decide +kernel
theorem dX12_offer_225 : decode cX12_offer 225 = .ok (.iconst 1, 1) := by decide +kernel
theorem dX12_offer_226 : decode cX12_offer 226 = .ok (.iadd, 1) := by decide +kernel
theorem dX12_offer_227 : decode cX12_offer 227 = .ok (.istore 5, 2) := by decide +kernel
theorem dX12_offer_229 : decode cX12_offer 229 = .ok (.iload 5, 2) := by decide +kernel
theorem dX12_offer_231 : decode cX12_offer 231 = .ok (.aload_n 0, 1) := by decide +kernel
theorem dX12_offer_232 : decode cX12_offer 232 = .ok (.getfield 158, 3) := by decide +kernel
theorem dX12_offer_235 : decode cX12_offer 235 = .ok (.if_icmp .ge 62, 3) := by decide +kernel
theorem dX12_offer_238 : decode cX12_offer 238 = .ok (.aload_n 0, 1) := by decide +kernel
theorem dX12_offer_239 : decode cX12_offer 239 = .ok (.getfield 123, 3) := by decide +kernel
theorem dX12_offer_242 : decode cX12_offer 242 = .ok (.bipush 16, 2) := by decide +kernel
theorem dX12_offer_244 : decode cX12_offer 244 = .ok (.iload 4, 2) := by decide +kernel
theorem dX12_offer_246 : decode cX12_offer 246 = .ok (.imul, 1) := by decide +kernel
theorem dX12_offer_247 : decode cX12_offer 247 = .ok (.iload 5, 2) := by decide +kernel
theorem dX12_offer_249 : decode cX12_offer 249 = .ok (.iadd, 1) := by decide +kernel
theorem dX12_offer_250 : decode cX12_offer 250 = .ok (.iaload, 1) := by decide +kernel
theorem dX12_offer_251 : decode cX12_offer 251 = .ok (.aload_n 0, 1) := by decide +kernel
theorem dX12_offer_252 : decode cX12_offer 252 = .ok (.getfield 126, 3) := by decide +kernel
theorem dX12_offer_255 : decode cX12_offer 255 = .ok (.bipush 16, 2) := by decide +kernel
theorem dX12_offer_257 : decode cX12_offer 257 = .ok (.iload 4, 2) := by decide +kernel
theorem dX12_offer_259 : decode cX12_offer 259 = .ok (.imul, 1) := by decide +kernel
theorem dX12_offer_260 : decode cX12_offer 260 = .ok (.iload 5, 2) := by decide +kernel
theorem dX12_offer_262 : decode cX12_offer 262 = .ok (.iadd, 1) := by decide +kernel
theorem dX12_offer_263 : decode cX12_offer 263 = .ok (.iaload, 1) := by decide +kernel
theorem dX12_offer_264 : decode cX12_offer 264 = .ok (.invokestatic 262, 3) := by decide +kernel
theorem dX12_offer_267 : decode cX12_offer 267 = .ok (.istore 6, 2) := by decide +kernel
theorem dX12_offer_269 : decode cX12_offer 269 = .ok (.iload_n 2, 1) := by decide +kernel
theorem dX12_offer_270 : decode cX12_offer 270 = .ok (.ifCond .lt 9, 3) := by decide +kernel
theorem dX12_offer_273 : decode cX12_offer 273 = .ok (.iload 6, 2) := by decide +kernel
theorem dX12_offer_275 : decode cX12_offer 275 = .ok (.iload_n 3, 1) := by decide +kernel
theorem dX12_offer_276 : decode cX12_offer 276 = .ok (.if_icmp .ge 15, 3) := by decide +kernel
theorem dX12_offer_279 : decode cX12_offer 279 = .ok (.bipush 16, 2) := by decide +kernel
theorem dX12_offer_281 : decode cX12_offer 281 = .ok (.iload 4, 2) := by decide +kernel
theorem dX12_offer_283 : decode cX12_offer 283 = .ok (.imul, 1) := by decide +kernel
theorem dX12_offer_284 : decode cX12_offer 284 = .ok (.iload 5, 2) := by decide +kernel
theorem dX12_offer_286 : decode cX12_offer 286 = .ok (.iadd, 1) := by decide +kernel
theorem dX12_offer_287 : decode cX12_offer 287 = .ok (.istore_n 2, 1) := by decide +kernel
theorem dX12_offer_288 : decode cX12_offer 288 = .ok (.iload 6, 2) := by decide +kernel
theorem dX12_offer_290 : decode cX12_offer 290 = .ok (.istore_n 3, 1) := by decide +kernel
theorem dX12_offer_291 : decode cX12_offer 291 = .ok (.iinc 5 1, 3) := by decide +kernel
theorem dX12_offer_294 : decode cX12_offer 294 = .ok (.goto (-65), 3) := by decide +kernel
theorem dX12_offer_297 : decode cX12_offer 297 = .ok (.iinc 4 1, 3) := by decide +kernel
theorem dX12_offer_300 : decode cX12_offer 300 = .ok (.goto (-86), 3) := by decide +kernel
theorem dX12_offer_303 : decode cX12_offer 303 = .ok (.aload_n 0, 1) := by decide +kernel
theorem dX12_offer_304 : decode cX12_offer 304 = .ok (.iconst 0, 1) := by decide +kernel
theorem dX12_offer_305 : decode cX12_offer 305 = .ok (.putfield 155, 3) := by decide +kernel
theorem dX12_offer_308 : decode cX12_offer 308 = .ok (.aload_n 0, 1) := by decide +kernel
theorem dX12_offer_309 : decode cX12_offer 309 = .ok (.iload_n 3, 1) := by decide +kernel
theorem dX12_offer_310 : decode cX12_offer 310 = .ok (.i2l, 1) := by decide +kernel
theorem dX12_offer_311 : decode cX12_offer 311 = .ok (.invokevirtual 368, 3) := by decide +kernel
theorem dX12_offer_314 : decode cX12_offer 314 = .ok (.iload_n 2, 1) := by decide +kernel
theorem dX12_offer_315 : decode cX12_offer 315 = .ok (.ireturn, 1) := by decide +kernel
def xX12_offer_303 (s_X12_isGuest : zq_Sp) (s_X12_fitsBy : zq_Sp) (s_X12_flag : zq_Sp) (s_X12_enters : zq_Sp) (J28 : zq_P) (J57 : zq_P) (J89 : zq_P) (J102 : zq_P) (J214 : zq_P) (J229 : zq_P) (Q : zq_Q) (ls : zq_L) (st : List Value) (h : zq_H) : Prop := (zi_aload 0 (zi_push (.int 0) (zi_putI 56 1 (zi_aload 0 (zi_iload 3 (zi_i2l (zi_callV 1 56 s_X12_enters (zi_iload 2 (zi_iret Q))))))))) ls st h
theorem kX12_offer_303 {X : zq_X} {d : Nat} (C : zq_C X cX12_offer 7 RX12 d) (hd1 : 1 ≤ d) {d_X12_isGuest : Nat} {s_X12_isGuest : zq_Sp} (h_X12_isGuest : zq_M yX12_isGuest cX12_isGuest 2 (some .boolean) 1 d_X12_isGuest s_X12_isGuest) (g_X12_isGuest : d_X12_isGuest + 1 ≤ d) {d_X12_fitsBy : Nat} {s_X12_fitsBy : zq_Sp} (h_X12_fitsBy : zq_M yX12_fitsBy cX12_fitsBy 7 (some .boolean) 1 d_X12_fitsBy s_X12_fitsBy) (g_X12_fitsBy : d_X12_fitsBy + 1 ≤ d) {d_X12_flag : Nat} {s_X12_flag : zq_Sp} (h_X12_flag : zq_M yX12_flag cX12_flag 1 (some .int) 1 d_X12_flag s_X12_flag) (g_X12_flag : d_X12_flag + 1 ≤ d) {d_X12_enters : Nat} {s_X12_enters : zq_Sp} (h_X12_enters : zq_M yX12_enters cX12_enters 3 none 0 d_X12_enters s_X12_enters) (g_X12_enters : d_X12_enters + 1 ≤ d) {J28 : zq_P} (j28 : zq_ok X 7 28 J28) {J57 : zq_P} (j57 : zq_ok X 7 57 J57) {J89 : zq_P} (j89 : zq_ok X 7 89 J89) {J102 : zq_P} (j102 : zq_ok X 7 102 J102) {J214 : zq_P} (j214 : zq_ok X 7 214 J214) {J229 : zq_P} (j229 : zq_ok X 7 229 J229) {Q : zq_Q} (hq : zq_R X (some .int) 1 Q) : zq_ok X 7 303 (xX12_offer_303 s_X12_isGuest s_X12_fitsBy s_X12_flag s_X12_enters J28 J57 J89 J102 J214 J229 Q) := by
  refine zs_aload_n C dX12_offer_303 rfl ?_
  refine zs_iconst C dX12_offer_304 (by decide) ?_
  refine zs_putI C zp_56 zF12 (j := 1) ⟨by decide, rfl⟩ ⟨rfl, by decide +kernel⟩ zw_1097 dX12_offer_305 ?_
  refine zs_aload_n C dX12_offer_308 rfl ?_
  refine zs_iload_n C dX12_offer_309 rfl ?_
  refine zs_i2l C dX12_offer_310 ?_
  refine zs_callV C h_X12_enters g_X12_enters zy_X12_enters zp_56 (show vwCl[12]? = some (RX12, TX12, 67) from rfl) zw_1574 zw_1576 zs9_X12_enters dX12_offer_311 ?_
  refine zs_iload_n C dX12_offer_314 rfl ?_
  exact zs_iret C hq dX12_offer_315
def xX12_offer_297 (s_X12_isGuest : zq_Sp) (s_X12_fitsBy : zq_Sp) (s_X12_flag : zq_Sp) (s_X12_enters : zq_Sp) (J28 : zq_P) (J57 : zq_P) (J89 : zq_P) (J102 : zq_P) (J214 : zq_P) (J229 : zq_P) (Q : zq_Q) (ls : zq_L) (st : List Value) (h : zq_H) : Prop := (zi_iinc 4 1 (J214)) ls st h
theorem kX12_offer_297 {X : zq_X} {d : Nat} (C : zq_C X cX12_offer 7 RX12 d) (hd1 : 1 ≤ d) {d_X12_isGuest : Nat} {s_X12_isGuest : zq_Sp} (h_X12_isGuest : zq_M yX12_isGuest cX12_isGuest 2 (some .boolean) 1 d_X12_isGuest s_X12_isGuest) (g_X12_isGuest : d_X12_isGuest + 1 ≤ d) {d_X12_fitsBy : Nat} {s_X12_fitsBy : zq_Sp} (h_X12_fitsBy : zq_M yX12_fitsBy cX12_fitsBy 7 (some .boolean) 1 d_X12_fitsBy s_X12_fitsBy) (g_X12_fitsBy : d_X12_fitsBy + 1 ≤ d) {d_X12_flag : Nat} {s_X12_flag : zq_Sp} (h_X12_flag : zq_M yX12_flag cX12_flag 1 (some .int) 1 d_X12_flag s_X12_flag) (g_X12_flag : d_X12_flag + 1 ≤ d) {d_X12_enters : Nat} {s_X12_enters : zq_Sp} (h_X12_enters : zq_M yX12_enters cX12_enters 3 none 0 d_X12_enters s_X12_enters) (g_X12_enters : d_X12_enters + 1 ≤ d) {J28 : zq_P} (j28 : zq_ok X 7 28 J28) {J57 : zq_P} (j57 : zq_ok X 7 57 J57) {J89 : zq_P} (j89 : zq_ok X 7 89 J89) {J102 : zq_P} (j102 : zq_ok X 7 102 J102) {J214 : zq_P} (j214 : zq_ok X 7 214 J214) {J229 : zq_P} (j229 : zq_ok X 7 229 J229) {Q : zq_Q} (hq : zq_R X (some .int) 1 Q) : zq_ok X 7 297 (xX12_offer_297 s_X12_isGuest s_X12_fitsBy s_X12_flag s_X12_enters J28 J57 J89 J102 J214 J229 Q) := by
  refine zs_iinc C dX12_offer_297 (by decide) (by decide) ?_
  exact zs_goto C dX12_offer_300 (by decide) (j214)
def xX12_offer_291 (s_X12_isGuest : zq_Sp) (s_X12_fitsBy : zq_Sp) (s_X12_flag : zq_Sp) (s_X12_enters : zq_Sp) (J28 : zq_P) (J57 : zq_P) (J89 : zq_P) (J102 : zq_P) (J214 : zq_P) (J229 : zq_P) (Q : zq_Q) (ls : zq_L) (st : List Value) (h : zq_H) : Prop := (zi_iinc 5 1 (J229)) ls st h
theorem kX12_offer_291 {X : zq_X} {d : Nat} (C : zq_C X cX12_offer 7 RX12 d) (hd1 : 1 ≤ d) {d_X12_isGuest : Nat} {s_X12_isGuest : zq_Sp} (h_X12_isGuest : zq_M yX12_isGuest cX12_isGuest 2 (some .boolean) 1 d_X12_isGuest s_X12_isGuest) (g_X12_isGuest : d_X12_isGuest + 1 ≤ d) {d_X12_fitsBy : Nat} {s_X12_fitsBy : zq_Sp} (h_X12_fitsBy : zq_M yX12_fitsBy cX12_fitsBy 7 (some .boolean) 1 d_X12_fitsBy s_X12_fitsBy) (g_X12_fitsBy : d_X12_fitsBy + 1 ≤ d) {d_X12_flag : Nat} {s_X12_flag : zq_Sp} (h_X12_flag : zq_M yX12_flag cX12_flag 1 (some .int) 1 d_X12_flag s_X12_flag) (g_X12_flag : d_X12_flag + 1 ≤ d) {d_X12_enters : Nat} {s_X12_enters : zq_Sp} (h_X12_enters : zq_M yX12_enters cX12_enters 3 none 0 d_X12_enters s_X12_enters) (g_X12_enters : d_X12_enters + 1 ≤ d) {J28 : zq_P} (j28 : zq_ok X 7 28 J28) {J57 : zq_P} (j57 : zq_ok X 7 57 J57) {J89 : zq_P} (j89 : zq_ok X 7 89 J89) {J102 : zq_P} (j102 : zq_ok X 7 102 J102) {J214 : zq_P} (j214 : zq_ok X 7 214 J214) {J229 : zq_P} (j229 : zq_ok X 7 229 J229) {Q : zq_Q} (hq : zq_R X (some .int) 1 Q) : zq_ok X 7 291 (xX12_offer_291 s_X12_isGuest s_X12_fitsBy s_X12_flag s_X12_enters J28 J57 J89 J102 J214 J229 Q) := by
  refine zs_iinc C dX12_offer_291 (by decide) (by decide) ?_
  exact zs_goto C dX12_offer_294 (by decide) (j229)
def xX12_offer_279 (s_X12_isGuest : zq_Sp) (s_X12_fitsBy : zq_Sp) (s_X12_flag : zq_Sp) (s_X12_enters : zq_Sp) (J28 : zq_P) (J57 : zq_P) (J89 : zq_P) (J102 : zq_P) (J214 : zq_P) (J229 : zq_P) (Q : zq_Q) (ls : zq_L) (st : List Value) (h : zq_H) : Prop := (zi_push (.int 16) (zi_iload 4 (zi_i2 (fun x y => x * y) (zi_iload 5 (zi_i2 (fun x y => x + y) (zi_istore 2 (zi_iload 6 (zi_istore 3 ((xX12_offer_291 s_X12_isGuest s_X12_fitsBy s_X12_flag s_X12_enters J28 J57 J89 J102 J214 J229 Q)))))))))) ls st h
theorem kX12_offer_279 {X : zq_X} {d : Nat} (C : zq_C X cX12_offer 7 RX12 d) (hd1 : 1 ≤ d) {d_X12_isGuest : Nat} {s_X12_isGuest : zq_Sp} (h_X12_isGuest : zq_M yX12_isGuest cX12_isGuest 2 (some .boolean) 1 d_X12_isGuest s_X12_isGuest) (g_X12_isGuest : d_X12_isGuest + 1 ≤ d) {d_X12_fitsBy : Nat} {s_X12_fitsBy : zq_Sp} (h_X12_fitsBy : zq_M yX12_fitsBy cX12_fitsBy 7 (some .boolean) 1 d_X12_fitsBy s_X12_fitsBy) (g_X12_fitsBy : d_X12_fitsBy + 1 ≤ d) {d_X12_flag : Nat} {s_X12_flag : zq_Sp} (h_X12_flag : zq_M yX12_flag cX12_flag 1 (some .int) 1 d_X12_flag s_X12_flag) (g_X12_flag : d_X12_flag + 1 ≤ d) {d_X12_enters : Nat} {s_X12_enters : zq_Sp} (h_X12_enters : zq_M yX12_enters cX12_enters 3 none 0 d_X12_enters s_X12_enters) (g_X12_enters : d_X12_enters + 1 ≤ d) {J28 : zq_P} (j28 : zq_ok X 7 28 J28) {J57 : zq_P} (j57 : zq_ok X 7 57 J57) {J89 : zq_P} (j89 : zq_ok X 7 89 J89) {J102 : zq_P} (j102 : zq_ok X 7 102 J102) {J214 : zq_P} (j214 : zq_ok X 7 214 J214) {J229 : zq_P} (j229 : zq_ok X 7 229 J229) {Q : zq_Q} (hq : zq_R X (some .int) 1 Q) : zq_ok X 7 279 (xX12_offer_279 s_X12_isGuest s_X12_fitsBy s_X12_flag s_X12_enters J28 J57 J89 J102 J214 J229 Q) := by
  refine zs_bipush C dX12_offer_279 (by decide) ?_
  refine zs_iload C dX12_offer_281 ?_
  refine zs_imul C dX12_offer_283 ?_
  refine zs_iload C dX12_offer_284 ?_
  refine zs_iadd C dX12_offer_286 ?_
  refine zs_istore_n C dX12_offer_287 rfl (by decide) ?_
  refine zs_iload C dX12_offer_288 ?_
  refine zs_istore_n C dX12_offer_290 rfl (by decide) ?_
  exact kX12_offer_291 C hd1 h_X12_isGuest g_X12_isGuest h_X12_fitsBy g_X12_fitsBy h_X12_flag g_X12_flag h_X12_enters g_X12_enters j28 j57 j89 j102 j214 j229 hq
def xX12_offer_273 (s_X12_isGuest : zq_Sp) (s_X12_fitsBy : zq_Sp) (s_X12_flag : zq_Sp) (s_X12_enters : zq_Sp) (J28 : zq_P) (J57 : zq_P) (J89 : zq_P) (J102 : zq_P) (J214 : zq_P) (J229 : zq_P) (Q : zq_Q) (ls : zq_L) (st : List Value) (h : zq_H) : Prop := (zi_iload 6 (zi_iload 3 (zi_if2 (fun x y => y ≤ x) (xX12_offer_291 s_X12_isGuest s_X12_fitsBy s_X12_flag s_X12_enters J28 J57 J89 J102 J214 J229 Q) (xX12_offer_279 s_X12_isGuest s_X12_fitsBy s_X12_flag s_X12_enters J28 J57 J89 J102 J214 J229 Q)))) ls st h
theorem kX12_offer_273 {X : zq_X} {d : Nat} (C : zq_C X cX12_offer 7 RX12 d) (hd1 : 1 ≤ d) {d_X12_isGuest : Nat} {s_X12_isGuest : zq_Sp} (h_X12_isGuest : zq_M yX12_isGuest cX12_isGuest 2 (some .boolean) 1 d_X12_isGuest s_X12_isGuest) (g_X12_isGuest : d_X12_isGuest + 1 ≤ d) {d_X12_fitsBy : Nat} {s_X12_fitsBy : zq_Sp} (h_X12_fitsBy : zq_M yX12_fitsBy cX12_fitsBy 7 (some .boolean) 1 d_X12_fitsBy s_X12_fitsBy) (g_X12_fitsBy : d_X12_fitsBy + 1 ≤ d) {d_X12_flag : Nat} {s_X12_flag : zq_Sp} (h_X12_flag : zq_M yX12_flag cX12_flag 1 (some .int) 1 d_X12_flag s_X12_flag) (g_X12_flag : d_X12_flag + 1 ≤ d) {d_X12_enters : Nat} {s_X12_enters : zq_Sp} (h_X12_enters : zq_M yX12_enters cX12_enters 3 none 0 d_X12_enters s_X12_enters) (g_X12_enters : d_X12_enters + 1 ≤ d) {J28 : zq_P} (j28 : zq_ok X 7 28 J28) {J57 : zq_P} (j57 : zq_ok X 7 57 J57) {J89 : zq_P} (j89 : zq_ok X 7 89 J89) {J102 : zq_P} (j102 : zq_ok X 7 102 J102) {J214 : zq_P} (j214 : zq_ok X 7 214 J214) {J229 : zq_P} (j229 : zq_ok X 7 229 J229) {Q : zq_Q} (hq : zq_R X (some .int) 1 Q) : zq_ok X 7 273 (xX12_offer_273 s_X12_isGuest s_X12_fitsBy s_X12_flag s_X12_enters J28 J57 J89 J102 J214 J229 Q) := by
  refine zs_iload C dX12_offer_273 ?_
  refine zs_iload_n C dX12_offer_275 rfl ?_
  exact zs_icmp_ge C dX12_offer_276 (by decide) (kX12_offer_291 C hd1 h_X12_isGuest g_X12_isGuest h_X12_fitsBy g_X12_fitsBy h_X12_flag g_X12_flag h_X12_enters g_X12_enters j28 j57 j89 j102 j214 j229 hq) (kX12_offer_279 C hd1 h_X12_isGuest g_X12_isGuest h_X12_fitsBy g_X12_fitsBy h_X12_flag g_X12_flag h_X12_enters g_X12_enters j28 j57 j89 j102 j214 j229 hq)
def xX12_offer_238 (s_X12_isGuest : zq_Sp) (s_X12_fitsBy : zq_Sp) (s_X12_flag : zq_Sp) (s_X12_enters : zq_Sp) (J28 : zq_P) (J57 : zq_P) (J89 : zq_P) (J102 : zq_P) (J214 : zq_P) (J229 : zq_P) (Q : zq_Q) (ls : zq_L) (st : List Value) (h : zq_H) : Prop := (zi_aload 0 (zi_getR 56 94 (zi_push (.int 16) (zi_iload 4 (zi_i2 (fun x y => x * y) (zi_iload 5 (zi_i2 (fun x y => x + y) (zi_aldI 94 256 (zi_aload 0 (zi_getR 56 95 (zi_push (.int 16) (zi_iload 4 (zi_i2 (fun x y => x * y) (zi_iload 5 (zi_i2 (fun x y => x + y) (zi_aldI 95 256 (zi_m2 zf_max (zi_istore 6 (zi_iload 2 (zi_if1 (fun x => x < 0) (xX12_offer_279 s_X12_isGuest s_X12_fitsBy s_X12_flag s_X12_enters J28 J57 J89 J102 J214 J229 Q) (xX12_offer_273 s_X12_isGuest s_X12_fitsBy s_X12_flag s_X12_enters J28 J57 J89 J102 J214 J229 Q))))))))))))))))))))) ls st h
theorem kX12_offer_238 {X : zq_X} {d : Nat} (C : zq_C X cX12_offer 7 RX12 d) (hd1 : 1 ≤ d) {d_X12_isGuest : Nat} {s_X12_isGuest : zq_Sp} (h_X12_isGuest : zq_M yX12_isGuest cX12_isGuest 2 (some .boolean) 1 d_X12_isGuest s_X12_isGuest) (g_X12_isGuest : d_X12_isGuest + 1 ≤ d) {d_X12_fitsBy : Nat} {s_X12_fitsBy : zq_Sp} (h_X12_fitsBy : zq_M yX12_fitsBy cX12_fitsBy 7 (some .boolean) 1 d_X12_fitsBy s_X12_fitsBy) (g_X12_fitsBy : d_X12_fitsBy + 1 ≤ d) {d_X12_flag : Nat} {s_X12_flag : zq_Sp} (h_X12_flag : zq_M yX12_flag cX12_flag 1 (some .int) 1 d_X12_flag s_X12_flag) (g_X12_flag : d_X12_flag + 1 ≤ d) {d_X12_enters : Nat} {s_X12_enters : zq_Sp} (h_X12_enters : zq_M yX12_enters cX12_enters 3 none 0 d_X12_enters s_X12_enters) (g_X12_enters : d_X12_enters + 1 ≤ d) {J28 : zq_P} (j28 : zq_ok X 7 28 J28) {J57 : zq_P} (j57 : zq_ok X 7 57 J57) {J89 : zq_P} (j89 : zq_ok X 7 89 J89) {J102 : zq_P} (j102 : zq_ok X 7 102 J102) {J214 : zq_P} (j214 : zq_ok X 7 214 J214) {J229 : zq_P} (j229 : zq_ok X 7 229 J229) {Q : zq_Q} (hq : zq_R X (some .int) 1 Q) : zq_ok X 7 238 (xX12_offer_238 s_X12_isGuest s_X12_fitsBy s_X12_flag s_X12_enters J28 J57 J89 J102 J214 J229 Q) := by
  refine zs_aload_n C dX12_offer_238 rfl ?_
  refine zs_getR C zp_56 zF12 (j := 57) ⟨by decide, rfl⟩ zw_1153 dX12_offer_239 ?_
  refine zs_bipush C dX12_offer_242 (by decide) ?_
  refine zs_iload C dX12_offer_244 ?_
  refine zs_imul C dX12_offer_246 ?_
  refine zs_iload C dX12_offer_247 ?_
  refine zs_iadd C dX12_offer_249 ?_
  refine zs_iaload C zp_94 dX12_offer_250 ?_
  refine zs_aload_n C dX12_offer_251 rfl ?_
  refine zs_getR C zp_56 zF12 (j := 58) ⟨by decide, rfl⟩ zw_1154 dX12_offer_252 ?_
  refine zs_bipush C dX12_offer_255 (by decide) ?_
  refine zs_iload C dX12_offer_257 ?_
  refine zs_imul C dX12_offer_259 ?_
  refine zs_iload C dX12_offer_260 ?_
  refine zs_iadd C dX12_offer_262 ?_
  refine zs_iaload C zp_95 dX12_offer_263 ?_
  refine zs_mmax C hd1 zw_1424 zw_454 zw_14 zw_455 dX12_offer_264 ?_
  refine zs_istore C dX12_offer_267 (by decide) ?_
  refine zs_iload_n C dX12_offer_269 rfl ?_
  exact zs_if_lt C dX12_offer_270 (by decide) (kX12_offer_279 C hd1 h_X12_isGuest g_X12_isGuest h_X12_fitsBy g_X12_fitsBy h_X12_flag g_X12_flag h_X12_enters g_X12_enters j28 j57 j89 j102 j214 j229 hq) (kX12_offer_273 C hd1 h_X12_isGuest g_X12_isGuest h_X12_fitsBy g_X12_fitsBy h_X12_flag g_X12_flag h_X12_enters g_X12_enters j28 j57 j89 j102 j214 j229 hq)
def xX12_offer_229 (s_X12_isGuest : zq_Sp) (s_X12_fitsBy : zq_Sp) (s_X12_flag : zq_Sp) (s_X12_enters : zq_Sp) (J28 : zq_P) (J57 : zq_P) (J89 : zq_P) (J102 : zq_P) (J214 : zq_P) (J229 : zq_P) (Q : zq_Q) (ls : zq_L) (st : List Value) (h : zq_H) : Prop := (zi_iload 5 (zi_aload 0 (zi_getI 56 3 (zi_if2 (fun x y => y ≤ x) (xX12_offer_297 s_X12_isGuest s_X12_fitsBy s_X12_flag s_X12_enters J28 J57 J89 J102 J214 J229 Q) (xX12_offer_238 s_X12_isGuest s_X12_fitsBy s_X12_flag s_X12_enters J28 J57 J89 J102 J214 J229 Q))))) ls st h
theorem kX12_offer_229 {X : zq_X} {d : Nat} (C : zq_C X cX12_offer 7 RX12 d) (hd1 : 1 ≤ d) {d_X12_isGuest : Nat} {s_X12_isGuest : zq_Sp} (h_X12_isGuest : zq_M yX12_isGuest cX12_isGuest 2 (some .boolean) 1 d_X12_isGuest s_X12_isGuest) (g_X12_isGuest : d_X12_isGuest + 1 ≤ d) {d_X12_fitsBy : Nat} {s_X12_fitsBy : zq_Sp} (h_X12_fitsBy : zq_M yX12_fitsBy cX12_fitsBy 7 (some .boolean) 1 d_X12_fitsBy s_X12_fitsBy) (g_X12_fitsBy : d_X12_fitsBy + 1 ≤ d) {d_X12_flag : Nat} {s_X12_flag : zq_Sp} (h_X12_flag : zq_M yX12_flag cX12_flag 1 (some .int) 1 d_X12_flag s_X12_flag) (g_X12_flag : d_X12_flag + 1 ≤ d) {d_X12_enters : Nat} {s_X12_enters : zq_Sp} (h_X12_enters : zq_M yX12_enters cX12_enters 3 none 0 d_X12_enters s_X12_enters) (g_X12_enters : d_X12_enters + 1 ≤ d) {J28 : zq_P} (j28 : zq_ok X 7 28 J28) {J57 : zq_P} (j57 : zq_ok X 7 57 J57) {J89 : zq_P} (j89 : zq_ok X 7 89 J89) {J102 : zq_P} (j102 : zq_ok X 7 102 J102) {J214 : zq_P} (j214 : zq_ok X 7 214 J214) {J229 : zq_P} (j229 : zq_ok X 7 229 J229) {Q : zq_Q} (hq : zq_R X (some .int) 1 Q) : zq_ok X 7 229 (xX12_offer_229 s_X12_isGuest s_X12_fitsBy s_X12_flag s_X12_enters J28 J57 J89 J102 J214 J229 Q) := by
  refine zs_iload C dX12_offer_229 ?_
  refine zs_aload_n C dX12_offer_231 rfl ?_
  refine zs_getI C zp_56 zF12 (j := 3) ⟨by decide, rfl⟩ zw_1099 dX12_offer_232 ?_
  exact zs_icmp_ge C dX12_offer_235 (by decide) (kX12_offer_297 C hd1 h_X12_isGuest g_X12_isGuest h_X12_fitsBy g_X12_fitsBy h_X12_flag g_X12_flag h_X12_enters g_X12_enters j28 j57 j89 j102 j214 j229 hq) (kX12_offer_238 C hd1 h_X12_isGuest g_X12_isGuest h_X12_fitsBy g_X12_fitsBy h_X12_flag g_X12_flag h_X12_enters g_X12_enters j28 j57 j89 j102 j214 j229 hq)
def xX12_offer_223 (s_X12_isGuest : zq_Sp) (s_X12_fitsBy : zq_Sp) (s_X12_flag : zq_Sp) (s_X12_enters : zq_Sp) (J28 : zq_P) (J57 : zq_P) (J89 : zq_P) (J102 : zq_P) (J214 : zq_P) (J229 : zq_P) (Q : zq_Q) (ls : zq_L) (st : List Value) (h : zq_H) : Prop := (zi_iload 4 (zi_push (.int 1) (zi_i2 (fun x y => x + y) (zi_istore 5 (J229))))) ls st h
theorem kX12_offer_223 {X : zq_X} {d : Nat} (C : zq_C X cX12_offer 7 RX12 d) (hd1 : 1 ≤ d) {d_X12_isGuest : Nat} {s_X12_isGuest : zq_Sp} (h_X12_isGuest : zq_M yX12_isGuest cX12_isGuest 2 (some .boolean) 1 d_X12_isGuest s_X12_isGuest) (g_X12_isGuest : d_X12_isGuest + 1 ≤ d) {d_X12_fitsBy : Nat} {s_X12_fitsBy : zq_Sp} (h_X12_fitsBy : zq_M yX12_fitsBy cX12_fitsBy 7 (some .boolean) 1 d_X12_fitsBy s_X12_fitsBy) (g_X12_fitsBy : d_X12_fitsBy + 1 ≤ d) {d_X12_flag : Nat} {s_X12_flag : zq_Sp} (h_X12_flag : zq_M yX12_flag cX12_flag 1 (some .int) 1 d_X12_flag s_X12_flag) (g_X12_flag : d_X12_flag + 1 ≤ d) {d_X12_enters : Nat} {s_X12_enters : zq_Sp} (h_X12_enters : zq_M yX12_enters cX12_enters 3 none 0 d_X12_enters s_X12_enters) (g_X12_enters : d_X12_enters + 1 ≤ d) {J28 : zq_P} (j28 : zq_ok X 7 28 J28) {J57 : zq_P} (j57 : zq_ok X 7 57 J57) {J89 : zq_P} (j89 : zq_ok X 7 89 J89) {J102 : zq_P} (j102 : zq_ok X 7 102 J102) {J214 : zq_P} (j214 : zq_ok X 7 214 J214) {J229 : zq_P} (j229 : zq_ok X 7 229 J229) {Q : zq_Q} (hq : zq_R X (some .int) 1 Q) : zq_ok X 7 223 (xX12_offer_223 s_X12_isGuest s_X12_fitsBy s_X12_flag s_X12_enters J28 J57 J89 J102 J214 J229 Q) := by
  refine zs_iload C dX12_offer_223 ?_
  refine zs_iconst C dX12_offer_225 (by decide) ?_
  refine zs_iadd C dX12_offer_226 ?_
  refine zs_istore C dX12_offer_227 (by decide) ?_
  exact j229
def xX12_offer_214 (s_X12_isGuest : zq_Sp) (s_X12_fitsBy : zq_Sp) (s_X12_flag : zq_Sp) (s_X12_enters : zq_Sp) (J28 : zq_P) (J57 : zq_P) (J89 : zq_P) (J102 : zq_P) (J214 : zq_P) (J229 : zq_P) (Q : zq_Q) (ls : zq_L) (st : List Value) (h : zq_H) : Prop := (zi_iload 4 (zi_aload 0 (zi_getI 56 3 (zi_if2 (fun x y => y ≤ x) (xX12_offer_303 s_X12_isGuest s_X12_fitsBy s_X12_flag s_X12_enters J28 J57 J89 J102 J214 J229 Q) (xX12_offer_223 s_X12_isGuest s_X12_fitsBy s_X12_flag s_X12_enters J28 J57 J89 J102 J214 J229 Q))))) ls st h
theorem kX12_offer_214 {X : zq_X} {d : Nat} (C : zq_C X cX12_offer 7 RX12 d) (hd1 : 1 ≤ d) {d_X12_isGuest : Nat} {s_X12_isGuest : zq_Sp} (h_X12_isGuest : zq_M yX12_isGuest cX12_isGuest 2 (some .boolean) 1 d_X12_isGuest s_X12_isGuest) (g_X12_isGuest : d_X12_isGuest + 1 ≤ d) {d_X12_fitsBy : Nat} {s_X12_fitsBy : zq_Sp} (h_X12_fitsBy : zq_M yX12_fitsBy cX12_fitsBy 7 (some .boolean) 1 d_X12_fitsBy s_X12_fitsBy) (g_X12_fitsBy : d_X12_fitsBy + 1 ≤ d) {d_X12_flag : Nat} {s_X12_flag : zq_Sp} (h_X12_flag : zq_M yX12_flag cX12_flag 1 (some .int) 1 d_X12_flag s_X12_flag) (g_X12_flag : d_X12_flag + 1 ≤ d) {d_X12_enters : Nat} {s_X12_enters : zq_Sp} (h_X12_enters : zq_M yX12_enters cX12_enters 3 none 0 d_X12_enters s_X12_enters) (g_X12_enters : d_X12_enters + 1 ≤ d) {J28 : zq_P} (j28 : zq_ok X 7 28 J28) {J57 : zq_P} (j57 : zq_ok X 7 57 J57) {J89 : zq_P} (j89 : zq_ok X 7 89 J89) {J102 : zq_P} (j102 : zq_ok X 7 102 J102) {J214 : zq_P} (j214 : zq_ok X 7 214 J214) {J229 : zq_P} (j229 : zq_ok X 7 229 J229) {Q : zq_Q} (hq : zq_R X (some .int) 1 Q) : zq_ok X 7 214 (xX12_offer_214 s_X12_isGuest s_X12_fitsBy s_X12_flag s_X12_enters J28 J57 J89 J102 J214 J229 Q) := by
  refine zs_iload C dX12_offer_214 ?_
  refine zs_aload_n C dX12_offer_216 rfl ?_
  refine zs_getI C zp_56 zF12 (j := 3) ⟨by decide, rfl⟩ zw_1099 dX12_offer_217 ?_
  exact zs_icmp_ge C dX12_offer_220 (by decide) (kX12_offer_303 C hd1 h_X12_isGuest g_X12_isGuest h_X12_fitsBy g_X12_fitsBy h_X12_flag g_X12_flag h_X12_enters g_X12_enters j28 j57 j89 j102 j214 j229 hq) (kX12_offer_223 C hd1 h_X12_isGuest g_X12_isGuest h_X12_fitsBy g_X12_fitsBy h_X12_flag g_X12_flag h_X12_enters g_X12_enters j28 j57 j89 j102 j214 j229 hq)
def xX12_offer_207 (s_X12_isGuest : zq_Sp) (s_X12_fitsBy : zq_Sp) (s_X12_flag : zq_Sp) (s_X12_enters : zq_Sp) (J28 : zq_P) (J57 : zq_P) (J89 : zq_P) (J102 : zq_P) (J214 : zq_P) (J229 : zq_P) (Q : zq_Q) (ls : zq_L) (st : List Value) (h : zq_H) : Prop := (zi_push (.int (-1)) (zi_istore 2 (zi_push (.int 0) (zi_istore 3 (zi_push (.int 0) (zi_istore 4 (J214))))))) ls st h
theorem kX12_offer_207 {X : zq_X} {d : Nat} (C : zq_C X cX12_offer 7 RX12 d) (hd1 : 1 ≤ d) {d_X12_isGuest : Nat} {s_X12_isGuest : zq_Sp} (h_X12_isGuest : zq_M yX12_isGuest cX12_isGuest 2 (some .boolean) 1 d_X12_isGuest s_X12_isGuest) (g_X12_isGuest : d_X12_isGuest + 1 ≤ d) {d_X12_fitsBy : Nat} {s_X12_fitsBy : zq_Sp} (h_X12_fitsBy : zq_M yX12_fitsBy cX12_fitsBy 7 (some .boolean) 1 d_X12_fitsBy s_X12_fitsBy) (g_X12_fitsBy : d_X12_fitsBy + 1 ≤ d) {d_X12_flag : Nat} {s_X12_flag : zq_Sp} (h_X12_flag : zq_M yX12_flag cX12_flag 1 (some .int) 1 d_X12_flag s_X12_flag) (g_X12_flag : d_X12_flag + 1 ≤ d) {d_X12_enters : Nat} {s_X12_enters : zq_Sp} (h_X12_enters : zq_M yX12_enters cX12_enters 3 none 0 d_X12_enters s_X12_enters) (g_X12_enters : d_X12_enters + 1 ≤ d) {J28 : zq_P} (j28 : zq_ok X 7 28 J28) {J57 : zq_P} (j57 : zq_ok X 7 57 J57) {J89 : zq_P} (j89 : zq_ok X 7 89 J89) {J102 : zq_P} (j102 : zq_ok X 7 102 J102) {J214 : zq_P} (j214 : zq_ok X 7 214 J214) {J229 : zq_P} (j229 : zq_ok X 7 229 J229) {Q : zq_Q} (hq : zq_R X (some .int) 1 Q) : zq_ok X 7 207 (xX12_offer_207 s_X12_isGuest s_X12_fitsBy s_X12_flag s_X12_enters J28 J57 J89 J102 J214 J229 Q) := by
  refine zs_iconst C dX12_offer_207 (by decide) ?_
  refine zs_istore_n C dX12_offer_208 rfl (by decide) ?_
  refine zs_iconst C dX12_offer_209 (by decide) ?_
  refine zs_istore_n C dX12_offer_210 rfl (by decide) ?_
  refine zs_iconst C dX12_offer_211 (by decide) ?_
  refine zs_istore C dX12_offer_212 (by decide) ?_
  exact j214
def xX12_offer_201 (s_X12_isGuest : zq_Sp) (s_X12_fitsBy : zq_Sp) (s_X12_flag : zq_Sp) (s_X12_enters : zq_Sp) (J28 : zq_P) (J57 : zq_P) (J89 : zq_P) (J102 : zq_P) (J214 : zq_P) (J229 : zq_P) (Q : zq_Q) (ls : zq_L) (st : List Value) (h : zq_H) : Prop := (zi_iinc 2 1 (J57)) ls st h
theorem kX12_offer_201 {X : zq_X} {d : Nat} (C : zq_C X cX12_offer 7 RX12 d) (hd1 : 1 ≤ d) {d_X12_isGuest : Nat} {s_X12_isGuest : zq_Sp} (h_X12_isGuest : zq_M yX12_isGuest cX12_isGuest 2 (some .boolean) 1 d_X12_isGuest s_X12_isGuest) (g_X12_isGuest : d_X12_isGuest + 1 ≤ d) {d_X12_fitsBy : Nat} {s_X12_fitsBy : zq_Sp} (h_X12_fitsBy : zq_M yX12_fitsBy cX12_fitsBy 7 (some .boolean) 1 d_X12_fitsBy s_X12_fitsBy) (g_X12_fitsBy : d_X12_fitsBy + 1 ≤ d) {d_X12_flag : Nat} {s_X12_flag : zq_Sp} (h_X12_flag : zq_M yX12_flag cX12_flag 1 (some .int) 1 d_X12_flag s_X12_flag) (g_X12_flag : d_X12_flag + 1 ≤ d) {d_X12_enters : Nat} {s_X12_enters : zq_Sp} (h_X12_enters : zq_M yX12_enters cX12_enters 3 none 0 d_X12_enters s_X12_enters) (g_X12_enters : d_X12_enters + 1 ≤ d) {J28 : zq_P} (j28 : zq_ok X 7 28 J28) {J57 : zq_P} (j57 : zq_ok X 7 57 J57) {J89 : zq_P} (j89 : zq_ok X 7 89 J89) {J102 : zq_P} (j102 : zq_ok X 7 102 J102) {J214 : zq_P} (j214 : zq_ok X 7 214 J214) {J229 : zq_P} (j229 : zq_ok X 7 229 J229) {Q : zq_Q} (hq : zq_R X (some .int) 1 Q) : zq_ok X 7 201 (xX12_offer_201 s_X12_isGuest s_X12_fitsBy s_X12_flag s_X12_enters J28 J57 J89 J102 J214 J229 Q) := by
  refine zs_iinc C dX12_offer_201 (by decide) (by decide) ?_
  exact zs_goto C dX12_offer_204 (by decide) (j57)
def xX12_offer_195 (s_X12_isGuest : zq_Sp) (s_X12_fitsBy : zq_Sp) (s_X12_flag : zq_Sp) (s_X12_enters : zq_Sp) (J28 : zq_P) (J57 : zq_P) (J89 : zq_P) (J102 : zq_P) (J214 : zq_P) (J229 : zq_P) (Q : zq_Q) (ls : zq_L) (st : List Value) (h : zq_H) : Prop := (zi_iinc 3 1 (J89)) ls st h
theorem kX12_offer_195 {X : zq_X} {d : Nat} (C : zq_C X cX12_offer 7 RX12 d) (hd1 : 1 ≤ d) {d_X12_isGuest : Nat} {s_X12_isGuest : zq_Sp} (h_X12_isGuest : zq_M yX12_isGuest cX12_isGuest 2 (some .boolean) 1 d_X12_isGuest s_X12_isGuest) (g_X12_isGuest : d_X12_isGuest + 1 ≤ d) {d_X12_fitsBy : Nat} {s_X12_fitsBy : zq_Sp} (h_X12_fitsBy : zq_M yX12_fitsBy cX12_fitsBy 7 (some .boolean) 1 d_X12_fitsBy s_X12_fitsBy) (g_X12_fitsBy : d_X12_fitsBy + 1 ≤ d) {d_X12_flag : Nat} {s_X12_flag : zq_Sp} (h_X12_flag : zq_M yX12_flag cX12_flag 1 (some .int) 1 d_X12_flag s_X12_flag) (g_X12_flag : d_X12_flag + 1 ≤ d) {d_X12_enters : Nat} {s_X12_enters : zq_Sp} (h_X12_enters : zq_M yX12_enters cX12_enters 3 none 0 d_X12_enters s_X12_enters) (g_X12_enters : d_X12_enters + 1 ≤ d) {J28 : zq_P} (j28 : zq_ok X 7 28 J28) {J57 : zq_P} (j57 : zq_ok X 7 57 J57) {J89 : zq_P} (j89 : zq_ok X 7 89 J89) {J102 : zq_P} (j102 : zq_ok X 7 102 J102) {J214 : zq_P} (j214 : zq_ok X 7 214 J214) {J229 : zq_P} (j229 : zq_ok X 7 229 J229) {Q : zq_Q} (hq : zq_R X (some .int) 1 Q) : zq_ok X 7 195 (xX12_offer_195 s_X12_isGuest s_X12_fitsBy s_X12_flag s_X12_enters J28 J57 J89 J102 J214 J229 Q) := by
  refine zs_iinc C dX12_offer_195 (by decide) (by decide) ?_
  exact zs_goto C dX12_offer_198 (by decide) (j89)
def xX12_offer_184 (s_X12_isGuest : zq_Sp) (s_X12_fitsBy : zq_Sp) (s_X12_flag : zq_Sp) (s_X12_enters : zq_Sp) (J28 : zq_P) (J57 : zq_P) (J89 : zq_P) (J102 : zq_P) (J214 : zq_P) (J229 : zq_P) (Q : zq_Q) (ls : zq_L) (st : List Value) (h : zq_H) : Prop := (zi_callS 1 s_X12_flag (zi_i2 (fun x y => x + y) (zi_astI 95 256 (zi_iinc 4 1 (J102))))) ls st h
theorem kX12_offer_184 {X : zq_X} {d : Nat} (C : zq_C X cX12_offer 7 RX12 d) (hd1 : 1 ≤ d) {d_X12_isGuest : Nat} {s_X12_isGuest : zq_Sp} (h_X12_isGuest : zq_M yX12_isGuest cX12_isGuest 2 (some .boolean) 1 d_X12_isGuest s_X12_isGuest) (g_X12_isGuest : d_X12_isGuest + 1 ≤ d) {d_X12_fitsBy : Nat} {s_X12_fitsBy : zq_Sp} (h_X12_fitsBy : zq_M yX12_fitsBy cX12_fitsBy 7 (some .boolean) 1 d_X12_fitsBy s_X12_fitsBy) (g_X12_fitsBy : d_X12_fitsBy + 1 ≤ d) {d_X12_flag : Nat} {s_X12_flag : zq_Sp} (h_X12_flag : zq_M yX12_flag cX12_flag 1 (some .int) 1 d_X12_flag s_X12_flag) (g_X12_flag : d_X12_flag + 1 ≤ d) {d_X12_enters : Nat} {s_X12_enters : zq_Sp} (h_X12_enters : zq_M yX12_enters cX12_enters 3 none 0 d_X12_enters s_X12_enters) (g_X12_enters : d_X12_enters + 1 ≤ d) {J28 : zq_P} (j28 : zq_ok X 7 28 J28) {J57 : zq_P} (j57 : zq_ok X 7 57 J57) {J89 : zq_P} (j89 : zq_ok X 7 89 J89) {J102 : zq_P} (j102 : zq_ok X 7 102 J102) {J214 : zq_P} (j214 : zq_ok X 7 214 J214) {J229 : zq_P} (j229 : zq_ok X 7 229 J229) {Q : zq_Q} (hq : zq_R X (some .int) 1 Q) : zq_ok X 7 184 (xX12_offer_184 s_X12_isGuest s_X12_fitsBy s_X12_flag s_X12_enters J28 J57 J89 J102 J214 J229 Q) := by
  refine zs_callS C h_X12_flag g_X12_flag zy_X12_flag zw_1380 zw_1381 dX12_offer_184 ?_
  refine zs_iadd C dX12_offer_187 ?_
  refine zs_iastore C zp_95 dX12_offer_188 ?_
  refine zs_iinc C dX12_offer_189 (by decide) (by decide) ?_
  exact zs_goto C dX12_offer_192 (by decide) (j102)
def xX12_offer_183 (s_X12_isGuest : zq_Sp) (s_X12_fitsBy : zq_Sp) (s_X12_flag : zq_Sp) (s_X12_enters : zq_Sp) (J28 : zq_P) (J57 : zq_P) (J89 : zq_P) (J102 : zq_P) (J214 : zq_P) (J229 : zq_P) (Q : zq_Q) (ls : zq_L) (st : List Value) (h : zq_H) : Prop := (zi_push (.int 0) ((xX12_offer_184 s_X12_isGuest s_X12_fitsBy s_X12_flag s_X12_enters J28 J57 J89 J102 J214 J229 Q))) ls st h
theorem kX12_offer_183 {X : zq_X} {d : Nat} (C : zq_C X cX12_offer 7 RX12 d) (hd1 : 1 ≤ d) {d_X12_isGuest : Nat} {s_X12_isGuest : zq_Sp} (h_X12_isGuest : zq_M yX12_isGuest cX12_isGuest 2 (some .boolean) 1 d_X12_isGuest s_X12_isGuest) (g_X12_isGuest : d_X12_isGuest + 1 ≤ d) {d_X12_fitsBy : Nat} {s_X12_fitsBy : zq_Sp} (h_X12_fitsBy : zq_M yX12_fitsBy cX12_fitsBy 7 (some .boolean) 1 d_X12_fitsBy s_X12_fitsBy) (g_X12_fitsBy : d_X12_fitsBy + 1 ≤ d) {d_X12_flag : Nat} {s_X12_flag : zq_Sp} (h_X12_flag : zq_M yX12_flag cX12_flag 1 (some .int) 1 d_X12_flag s_X12_flag) (g_X12_flag : d_X12_flag + 1 ≤ d) {d_X12_enters : Nat} {s_X12_enters : zq_Sp} (h_X12_enters : zq_M yX12_enters cX12_enters 3 none 0 d_X12_enters s_X12_enters) (g_X12_enters : d_X12_enters + 1 ≤ d) {J28 : zq_P} (j28 : zq_ok X 7 28 J28) {J57 : zq_P} (j57 : zq_ok X 7 57 J57) {J89 : zq_P} (j89 : zq_ok X 7 89 J89) {J102 : zq_P} (j102 : zq_ok X 7 102 J102) {J214 : zq_P} (j214 : zq_ok X 7 214 J214) {J229 : zq_P} (j229 : zq_ok X 7 229 J229) {Q : zq_Q} (hq : zq_R X (some .int) 1 Q) : zq_ok X 7 183 (xX12_offer_183 s_X12_isGuest s_X12_fitsBy s_X12_flag s_X12_enters J28 J57 J89 J102 J214 J229 Q) := by
  refine zs_iconst C dX12_offer_183 (by decide) ?_
  exact kX12_offer_184 C hd1 h_X12_isGuest g_X12_isGuest h_X12_fitsBy g_X12_fitsBy h_X12_flag g_X12_flag h_X12_enters g_X12_enters j28 j57 j89 j102 j214 j229 hq
def xX12_offer_179 (s_X12_isGuest : zq_Sp) (s_X12_fitsBy : zq_Sp) (s_X12_flag : zq_Sp) (s_X12_enters : zq_Sp) (J28 : zq_P) (J57 : zq_P) (J89 : zq_P) (J102 : zq_P) (J214 : zq_P) (J229 : zq_P) (Q : zq_Q) (ls : zq_L) (st : List Value) (h : zq_H) : Prop := (zi_push (.int 1) ((xX12_offer_184 s_X12_isGuest s_X12_fitsBy s_X12_flag s_X12_enters J28 J57 J89 J102 J214 J229 Q))) ls st h
theorem kX12_offer_179 {X : zq_X} {d : Nat} (C : zq_C X cX12_offer 7 RX12 d) (hd1 : 1 ≤ d) {d_X12_isGuest : Nat} {s_X12_isGuest : zq_Sp} (h_X12_isGuest : zq_M yX12_isGuest cX12_isGuest 2 (some .boolean) 1 d_X12_isGuest s_X12_isGuest) (g_X12_isGuest : d_X12_isGuest + 1 ≤ d) {d_X12_fitsBy : Nat} {s_X12_fitsBy : zq_Sp} (h_X12_fitsBy : zq_M yX12_fitsBy cX12_fitsBy 7 (some .boolean) 1 d_X12_fitsBy s_X12_fitsBy) (g_X12_fitsBy : d_X12_fitsBy + 1 ≤ d) {d_X12_flag : Nat} {s_X12_flag : zq_Sp} (h_X12_flag : zq_M yX12_flag cX12_flag 1 (some .int) 1 d_X12_flag s_X12_flag) (g_X12_flag : d_X12_flag + 1 ≤ d) {d_X12_enters : Nat} {s_X12_enters : zq_Sp} (h_X12_enters : zq_M yX12_enters cX12_enters 3 none 0 d_X12_enters s_X12_enters) (g_X12_enters : d_X12_enters + 1 ≤ d) {J28 : zq_P} (j28 : zq_ok X 7 28 J28) {J57 : zq_P} (j57 : zq_ok X 7 57 J57) {J89 : zq_P} (j89 : zq_ok X 7 89 J89) {J102 : zq_P} (j102 : zq_ok X 7 102 J102) {J214 : zq_P} (j214 : zq_ok X 7 214 J214) {J229 : zq_P} (j229 : zq_ok X 7 229 J229) {Q : zq_Q} (hq : zq_R X (some .int) 1 Q) : zq_ok X 7 179 (xX12_offer_179 s_X12_isGuest s_X12_fitsBy s_X12_flag s_X12_enters J28 J57 J89 J102 J214 J229 Q) := by
  refine zs_iconst C dX12_offer_179 (by decide) ?_
  exact zs_goto C dX12_offer_180 (by decide) (kX12_offer_184 C hd1 h_X12_isGuest g_X12_isGuest h_X12_fitsBy g_X12_fitsBy h_X12_flag g_X12_flag h_X12_enters g_X12_enters j28 j57 j89 j102 j214 j229 hq)
def xX12_offer_145 (s_X12_isGuest : zq_Sp) (s_X12_fitsBy : zq_Sp) (s_X12_flag : zq_Sp) (s_X12_enters : zq_Sp) (J28 : zq_P) (J57 : zq_P) (J89 : zq_P) (J102 : zq_P) (J214 : zq_P) (J229 : zq_P) (Q : zq_Q) (ls : zq_L) (st : List Value) (h : zq_H) : Prop := (zi_callS 1 s_X12_flag (zi_i2 (fun x y => x + y) (zi_astI 94 256 (zi_aload 0 (zi_getR 56 95 (zi_push (.int 16) (zi_iload 3 (zi_i2 (fun x y => x * y) (zi_iload 4 (zi_i2 (fun x y => x + y) (zi_dup2 (zi_aldI 95 256 (zi_aload 0 (zi_getR 56 93 (zi_iload 4 (zi_aldI 93 16 (zi_aload 0 (zi_getR 56 93 (zi_iload 3 (zi_aldI 93 16 (zi_if2 (fun x y => x < y) (xX12_offer_183 s_X12_isGuest s_X12_fitsBy s_X12_flag s_X12_enters J28 J57 J89 J102 J214 J229 Q) (xX12_offer_179 s_X12_isGuest s_X12_fitsBy s_X12_flag s_X12_enters J28 J57 J89 J102 J214 J229 Q)))))))))))))))))))))) ls st h
theorem kX12_offer_145 {X : zq_X} {d : Nat} (C : zq_C X cX12_offer 7 RX12 d) (hd1 : 1 ≤ d) {d_X12_isGuest : Nat} {s_X12_isGuest : zq_Sp} (h_X12_isGuest : zq_M yX12_isGuest cX12_isGuest 2 (some .boolean) 1 d_X12_isGuest s_X12_isGuest) (g_X12_isGuest : d_X12_isGuest + 1 ≤ d) {d_X12_fitsBy : Nat} {s_X12_fitsBy : zq_Sp} (h_X12_fitsBy : zq_M yX12_fitsBy cX12_fitsBy 7 (some .boolean) 1 d_X12_fitsBy s_X12_fitsBy) (g_X12_fitsBy : d_X12_fitsBy + 1 ≤ d) {d_X12_flag : Nat} {s_X12_flag : zq_Sp} (h_X12_flag : zq_M yX12_flag cX12_flag 1 (some .int) 1 d_X12_flag s_X12_flag) (g_X12_flag : d_X12_flag + 1 ≤ d) {d_X12_enters : Nat} {s_X12_enters : zq_Sp} (h_X12_enters : zq_M yX12_enters cX12_enters 3 none 0 d_X12_enters s_X12_enters) (g_X12_enters : d_X12_enters + 1 ≤ d) {J28 : zq_P} (j28 : zq_ok X 7 28 J28) {J57 : zq_P} (j57 : zq_ok X 7 57 J57) {J89 : zq_P} (j89 : zq_ok X 7 89 J89) {J102 : zq_P} (j102 : zq_ok X 7 102 J102) {J214 : zq_P} (j214 : zq_ok X 7 214 J214) {J229 : zq_P} (j229 : zq_ok X 7 229 J229) {Q : zq_Q} (hq : zq_R X (some .int) 1 Q) : zq_ok X 7 145 (xX12_offer_145 s_X12_isGuest s_X12_fitsBy s_X12_flag s_X12_enters J28 J57 J89 J102 J214 J229 Q) := by
  refine zs_callS C h_X12_flag g_X12_flag zy_X12_flag zw_1380 zw_1381 dX12_offer_145 ?_
  refine zs_iadd C dX12_offer_148 ?_
  refine zs_iastore C zp_94 dX12_offer_149 ?_
  refine zs_aload_n C dX12_offer_150 rfl ?_
  refine zs_getR C zp_56 zF12 (j := 58) ⟨by decide, rfl⟩ zw_1154 dX12_offer_151 ?_
  refine zs_bipush C dX12_offer_154 (by decide) ?_
  refine zs_iload_n C dX12_offer_156 rfl ?_
  refine zs_imul C dX12_offer_157 ?_
  refine zs_iload C dX12_offer_158 ?_
  refine zs_iadd C dX12_offer_160 ?_
  refine zs_dup2 C dX12_offer_161 ?_
  refine zs_iaload C zp_95 dX12_offer_162 ?_
  refine zs_aload_n C dX12_offer_163 rfl ?_
  refine zs_getR C zp_56 zF12 (j := 56) ⟨by decide, rfl⟩ zw_1152 dX12_offer_164 ?_
  refine zs_iload C dX12_offer_167 ?_
  refine zs_iaload C zp_93 dX12_offer_169 ?_
  refine zs_aload_n C dX12_offer_170 rfl ?_
  refine zs_getR C zp_56 zF12 (j := 56) ⟨by decide, rfl⟩ zw_1152 dX12_offer_171 ?_
  refine zs_iload_n C dX12_offer_174 rfl ?_
  refine zs_iaload C zp_93 dX12_offer_175 ?_
  exact zs_icmp_lt C dX12_offer_176 (by decide) (kX12_offer_183 C hd1 h_X12_isGuest g_X12_isGuest h_X12_fitsBy g_X12_fitsBy h_X12_flag g_X12_flag h_X12_enters g_X12_enters j28 j57 j89 j102 j214 j229 hq) (kX12_offer_179 C hd1 h_X12_isGuest g_X12_isGuest h_X12_fitsBy g_X12_fitsBy h_X12_flag g_X12_flag h_X12_enters g_X12_enters j28 j57 j89 j102 j214 j229 hq)
def xX12_offer_144 (s_X12_isGuest : zq_Sp) (s_X12_fitsBy : zq_Sp) (s_X12_flag : zq_Sp) (s_X12_enters : zq_Sp) (J28 : zq_P) (J57 : zq_P) (J89 : zq_P) (J102 : zq_P) (J214 : zq_P) (J229 : zq_P) (Q : zq_Q) (ls : zq_L) (st : List Value) (h : zq_H) : Prop := (zi_push (.int 0) ((xX12_offer_145 s_X12_isGuest s_X12_fitsBy s_X12_flag s_X12_enters J28 J57 J89 J102 J214 J229 Q))) ls st h
theorem kX12_offer_144 {X : zq_X} {d : Nat} (C : zq_C X cX12_offer 7 RX12 d) (hd1 : 1 ≤ d) {d_X12_isGuest : Nat} {s_X12_isGuest : zq_Sp} (h_X12_isGuest : zq_M yX12_isGuest cX12_isGuest 2 (some .boolean) 1 d_X12_isGuest s_X12_isGuest) (g_X12_isGuest : d_X12_isGuest + 1 ≤ d) {d_X12_fitsBy : Nat} {s_X12_fitsBy : zq_Sp} (h_X12_fitsBy : zq_M yX12_fitsBy cX12_fitsBy 7 (some .boolean) 1 d_X12_fitsBy s_X12_fitsBy) (g_X12_fitsBy : d_X12_fitsBy + 1 ≤ d) {d_X12_flag : Nat} {s_X12_flag : zq_Sp} (h_X12_flag : zq_M yX12_flag cX12_flag 1 (some .int) 1 d_X12_flag s_X12_flag) (g_X12_flag : d_X12_flag + 1 ≤ d) {d_X12_enters : Nat} {s_X12_enters : zq_Sp} (h_X12_enters : zq_M yX12_enters cX12_enters 3 none 0 d_X12_enters s_X12_enters) (g_X12_enters : d_X12_enters + 1 ≤ d) {J28 : zq_P} (j28 : zq_ok X 7 28 J28) {J57 : zq_P} (j57 : zq_ok X 7 57 J57) {J89 : zq_P} (j89 : zq_ok X 7 89 J89) {J102 : zq_P} (j102 : zq_ok X 7 102 J102) {J214 : zq_P} (j214 : zq_ok X 7 214 J214) {J229 : zq_P} (j229 : zq_ok X 7 229 J229) {Q : zq_Q} (hq : zq_R X (some .int) 1 Q) : zq_ok X 7 144 (xX12_offer_144 s_X12_isGuest s_X12_fitsBy s_X12_flag s_X12_enters J28 J57 J89 J102 J214 J229 Q) := by
  refine zs_iconst C dX12_offer_144 (by decide) ?_
  exact kX12_offer_145 C hd1 h_X12_isGuest g_X12_isGuest h_X12_fitsBy g_X12_fitsBy h_X12_flag g_X12_flag h_X12_enters g_X12_enters j28 j57 j89 j102 j214 j229 hq
def xX12_offer_140 (s_X12_isGuest : zq_Sp) (s_X12_fitsBy : zq_Sp) (s_X12_flag : zq_Sp) (s_X12_enters : zq_Sp) (J28 : zq_P) (J57 : zq_P) (J89 : zq_P) (J102 : zq_P) (J214 : zq_P) (J229 : zq_P) (Q : zq_Q) (ls : zq_L) (st : List Value) (h : zq_H) : Prop := (zi_push (.int 1) ((xX12_offer_145 s_X12_isGuest s_X12_fitsBy s_X12_flag s_X12_enters J28 J57 J89 J102 J214 J229 Q))) ls st h
theorem kX12_offer_140 {X : zq_X} {d : Nat} (C : zq_C X cX12_offer 7 RX12 d) (hd1 : 1 ≤ d) {d_X12_isGuest : Nat} {s_X12_isGuest : zq_Sp} (h_X12_isGuest : zq_M yX12_isGuest cX12_isGuest 2 (some .boolean) 1 d_X12_isGuest s_X12_isGuest) (g_X12_isGuest : d_X12_isGuest + 1 ≤ d) {d_X12_fitsBy : Nat} {s_X12_fitsBy : zq_Sp} (h_X12_fitsBy : zq_M yX12_fitsBy cX12_fitsBy 7 (some .boolean) 1 d_X12_fitsBy s_X12_fitsBy) (g_X12_fitsBy : d_X12_fitsBy + 1 ≤ d) {d_X12_flag : Nat} {s_X12_flag : zq_Sp} (h_X12_flag : zq_M yX12_flag cX12_flag 1 (some .int) 1 d_X12_flag s_X12_flag) (g_X12_flag : d_X12_flag + 1 ≤ d) {d_X12_enters : Nat} {s_X12_enters : zq_Sp} (h_X12_enters : zq_M yX12_enters cX12_enters 3 none 0 d_X12_enters s_X12_enters) (g_X12_enters : d_X12_enters + 1 ≤ d) {J28 : zq_P} (j28 : zq_ok X 7 28 J28) {J57 : zq_P} (j57 : zq_ok X 7 57 J57) {J89 : zq_P} (j89 : zq_ok X 7 89 J89) {J102 : zq_P} (j102 : zq_ok X 7 102 J102) {J214 : zq_P} (j214 : zq_ok X 7 214 J214) {J229 : zq_P} (j229 : zq_ok X 7 229 J229) {Q : zq_Q} (hq : zq_R X (some .int) 1 Q) : zq_ok X 7 140 (xX12_offer_140 s_X12_isGuest s_X12_fitsBy s_X12_flag s_X12_enters J28 J57 J89 J102 J214 J229 Q) := by
  refine zs_iconst C dX12_offer_140 (by decide) ?_
  exact zs_goto C dX12_offer_141 (by decide) (kX12_offer_145 C hd1 h_X12_isGuest g_X12_isGuest h_X12_fitsBy g_X12_fitsBy h_X12_flag g_X12_flag h_X12_enters g_X12_enters j28 j57 j89 j102 j214 j229 hq)
def xX12_offer_111 (s_X12_isGuest : zq_Sp) (s_X12_fitsBy : zq_Sp) (s_X12_flag : zq_Sp) (s_X12_enters : zq_Sp) (J28 : zq_P) (J57 : zq_P) (J89 : zq_P) (J102 : zq_P) (J214 : zq_P) (J229 : zq_P) (Q : zq_Q) (ls : zq_L) (st : List Value) (h : zq_H) : Prop := (zi_aload 0 (zi_getR 56 94 (zi_push (.int 16) (zi_iload 3 (zi_i2 (fun x y => x * y) (zi_iload 4 (zi_i2 (fun x y => x + y) (zi_dup2 (zi_aldI 94 256 (zi_aload 0 (zi_getR 56 93 (zi_iload 3 (zi_aldI 93 16 (zi_aload 0 (zi_getR 56 93 (zi_iload 4 (zi_aldI 93 16 (zi_if2 (fun x y => x < y) (xX12_offer_144 s_X12_isGuest s_X12_fitsBy s_X12_flag s_X12_enters J28 J57 J89 J102 J214 J229 Q) (xX12_offer_140 s_X12_isGuest s_X12_fitsBy s_X12_flag s_X12_enters J28 J57 J89 J102 J214 J229 Q))))))))))))))))))) ls st h
theorem kX12_offer_111 {X : zq_X} {d : Nat} (C : zq_C X cX12_offer 7 RX12 d) (hd1 : 1 ≤ d) {d_X12_isGuest : Nat} {s_X12_isGuest : zq_Sp} (h_X12_isGuest : zq_M yX12_isGuest cX12_isGuest 2 (some .boolean) 1 d_X12_isGuest s_X12_isGuest) (g_X12_isGuest : d_X12_isGuest + 1 ≤ d) {d_X12_fitsBy : Nat} {s_X12_fitsBy : zq_Sp} (h_X12_fitsBy : zq_M yX12_fitsBy cX12_fitsBy 7 (some .boolean) 1 d_X12_fitsBy s_X12_fitsBy) (g_X12_fitsBy : d_X12_fitsBy + 1 ≤ d) {d_X12_flag : Nat} {s_X12_flag : zq_Sp} (h_X12_flag : zq_M yX12_flag cX12_flag 1 (some .int) 1 d_X12_flag s_X12_flag) (g_X12_flag : d_X12_flag + 1 ≤ d) {d_X12_enters : Nat} {s_X12_enters : zq_Sp} (h_X12_enters : zq_M yX12_enters cX12_enters 3 none 0 d_X12_enters s_X12_enters) (g_X12_enters : d_X12_enters + 1 ≤ d) {J28 : zq_P} (j28 : zq_ok X 7 28 J28) {J57 : zq_P} (j57 : zq_ok X 7 57 J57) {J89 : zq_P} (j89 : zq_ok X 7 89 J89) {J102 : zq_P} (j102 : zq_ok X 7 102 J102) {J214 : zq_P} (j214 : zq_ok X 7 214 J214) {J229 : zq_P} (j229 : zq_ok X 7 229 J229) {Q : zq_Q} (hq : zq_R X (some .int) 1 Q) : zq_ok X 7 111 (xX12_offer_111 s_X12_isGuest s_X12_fitsBy s_X12_flag s_X12_enters J28 J57 J89 J102 J214 J229 Q) := by
  refine zs_aload_n C dX12_offer_111 rfl ?_
  refine zs_getR C zp_56 zF12 (j := 57) ⟨by decide, rfl⟩ zw_1153 dX12_offer_112 ?_
  refine zs_bipush C dX12_offer_115 (by decide) ?_
  refine zs_iload_n C dX12_offer_117 rfl ?_
  refine zs_imul C dX12_offer_118 ?_
  refine zs_iload C dX12_offer_119 ?_
  refine zs_iadd C dX12_offer_121 ?_
  refine zs_dup2 C dX12_offer_122 ?_
  refine zs_iaload C zp_94 dX12_offer_123 ?_
  refine zs_aload_n C dX12_offer_124 rfl ?_
  refine zs_getR C zp_56 zF12 (j := 56) ⟨by decide, rfl⟩ zw_1152 dX12_offer_125 ?_
  refine zs_iload_n C dX12_offer_128 rfl ?_
  refine zs_iaload C zp_93 dX12_offer_129 ?_
  refine zs_aload_n C dX12_offer_130 rfl ?_
  refine zs_getR C zp_56 zF12 (j := 56) ⟨by decide, rfl⟩ zw_1152 dX12_offer_131 ?_
  refine zs_iload C dX12_offer_134 ?_
  refine zs_iaload C zp_93 dX12_offer_136 ?_
  exact zs_icmp_lt C dX12_offer_137 (by decide) (kX12_offer_144 C hd1 h_X12_isGuest g_X12_isGuest h_X12_fitsBy g_X12_fitsBy h_X12_flag g_X12_flag h_X12_enters g_X12_enters j28 j57 j89 j102 j214 j229 hq) (kX12_offer_140 C hd1 h_X12_isGuest g_X12_isGuest h_X12_fitsBy g_X12_fitsBy h_X12_flag g_X12_flag h_X12_enters g_X12_enters j28 j57 j89 j102 j214 j229 hq)
def xX12_offer_102 (s_X12_isGuest : zq_Sp) (s_X12_fitsBy : zq_Sp) (s_X12_flag : zq_Sp) (s_X12_enters : zq_Sp) (J28 : zq_P) (J57 : zq_P) (J89 : zq_P) (J102 : zq_P) (J214 : zq_P) (J229 : zq_P) (Q : zq_Q) (ls : zq_L) (st : List Value) (h : zq_H) : Prop := (zi_iload 4 (zi_aload 0 (zi_getI 56 3 (zi_if2 (fun x y => y ≤ x) (xX12_offer_195 s_X12_isGuest s_X12_fitsBy s_X12_flag s_X12_enters J28 J57 J89 J102 J214 J229 Q) (xX12_offer_111 s_X12_isGuest s_X12_fitsBy s_X12_flag s_X12_enters J28 J57 J89 J102 J214 J229 Q))))) ls st h
theorem kX12_offer_102 {X : zq_X} {d : Nat} (C : zq_C X cX12_offer 7 RX12 d) (hd1 : 1 ≤ d) {d_X12_isGuest : Nat} {s_X12_isGuest : zq_Sp} (h_X12_isGuest : zq_M yX12_isGuest cX12_isGuest 2 (some .boolean) 1 d_X12_isGuest s_X12_isGuest) (g_X12_isGuest : d_X12_isGuest + 1 ≤ d) {d_X12_fitsBy : Nat} {s_X12_fitsBy : zq_Sp} (h_X12_fitsBy : zq_M yX12_fitsBy cX12_fitsBy 7 (some .boolean) 1 d_X12_fitsBy s_X12_fitsBy) (g_X12_fitsBy : d_X12_fitsBy + 1 ≤ d) {d_X12_flag : Nat} {s_X12_flag : zq_Sp} (h_X12_flag : zq_M yX12_flag cX12_flag 1 (some .int) 1 d_X12_flag s_X12_flag) (g_X12_flag : d_X12_flag + 1 ≤ d) {d_X12_enters : Nat} {s_X12_enters : zq_Sp} (h_X12_enters : zq_M yX12_enters cX12_enters 3 none 0 d_X12_enters s_X12_enters) (g_X12_enters : d_X12_enters + 1 ≤ d) {J28 : zq_P} (j28 : zq_ok X 7 28 J28) {J57 : zq_P} (j57 : zq_ok X 7 57 J57) {J89 : zq_P} (j89 : zq_ok X 7 89 J89) {J102 : zq_P} (j102 : zq_ok X 7 102 J102) {J214 : zq_P} (j214 : zq_ok X 7 214 J214) {J229 : zq_P} (j229 : zq_ok X 7 229 J229) {Q : zq_Q} (hq : zq_R X (some .int) 1 Q) : zq_ok X 7 102 (xX12_offer_102 s_X12_isGuest s_X12_fitsBy s_X12_flag s_X12_enters J28 J57 J89 J102 J214 J229 Q) := by
  refine zs_iload C dX12_offer_102 ?_
  refine zs_aload_n C dX12_offer_104 rfl ?_
  refine zs_getI C zp_56 zF12 (j := 3) ⟨by decide, rfl⟩ zw_1099 dX12_offer_105 ?_
  exact zs_icmp_ge C dX12_offer_108 (by decide) (kX12_offer_195 C hd1 h_X12_isGuest g_X12_isGuest h_X12_fitsBy g_X12_fitsBy h_X12_flag g_X12_flag h_X12_enters g_X12_enters j28 j57 j89 j102 j214 j229 hq) (kX12_offer_111 C hd1 h_X12_isGuest g_X12_isGuest h_X12_fitsBy g_X12_fitsBy h_X12_flag g_X12_flag h_X12_enters g_X12_enters j28 j57 j89 j102 j214 j229 hq)
def xX12_offer_97 (s_X12_isGuest : zq_Sp) (s_X12_fitsBy : zq_Sp) (s_X12_flag : zq_Sp) (s_X12_enters : zq_Sp) (J28 : zq_P) (J57 : zq_P) (J89 : zq_P) (J102 : zq_P) (J214 : zq_P) (J229 : zq_P) (Q : zq_Q) (ls : zq_L) (st : List Value) (h : zq_H) : Prop := (zi_iload 3 (zi_push (.int 1) (zi_i2 (fun x y => x + y) (zi_istore 4 (J102))))) ls st h
theorem kX12_offer_97 {X : zq_X} {d : Nat} (C : zq_C X cX12_offer 7 RX12 d) (hd1 : 1 ≤ d) {d_X12_isGuest : Nat} {s_X12_isGuest : zq_Sp} (h_X12_isGuest : zq_M yX12_isGuest cX12_isGuest 2 (some .boolean) 1 d_X12_isGuest s_X12_isGuest) (g_X12_isGuest : d_X12_isGuest + 1 ≤ d) {d_X12_fitsBy : Nat} {s_X12_fitsBy : zq_Sp} (h_X12_fitsBy : zq_M yX12_fitsBy cX12_fitsBy 7 (some .boolean) 1 d_X12_fitsBy s_X12_fitsBy) (g_X12_fitsBy : d_X12_fitsBy + 1 ≤ d) {d_X12_flag : Nat} {s_X12_flag : zq_Sp} (h_X12_flag : zq_M yX12_flag cX12_flag 1 (some .int) 1 d_X12_flag s_X12_flag) (g_X12_flag : d_X12_flag + 1 ≤ d) {d_X12_enters : Nat} {s_X12_enters : zq_Sp} (h_X12_enters : zq_M yX12_enters cX12_enters 3 none 0 d_X12_enters s_X12_enters) (g_X12_enters : d_X12_enters + 1 ≤ d) {J28 : zq_P} (j28 : zq_ok X 7 28 J28) {J57 : zq_P} (j57 : zq_ok X 7 57 J57) {J89 : zq_P} (j89 : zq_ok X 7 89 J89) {J102 : zq_P} (j102 : zq_ok X 7 102 J102) {J214 : zq_P} (j214 : zq_ok X 7 214 J214) {J229 : zq_P} (j229 : zq_ok X 7 229 J229) {Q : zq_Q} (hq : zq_R X (some .int) 1 Q) : zq_ok X 7 97 (xX12_offer_97 s_X12_isGuest s_X12_fitsBy s_X12_flag s_X12_enters J28 J57 J89 J102 J214 J229 Q) := by
  refine zs_iload_n C dX12_offer_97 rfl ?_
  refine zs_iconst C dX12_offer_98 (by decide) ?_
  refine zs_iadd C dX12_offer_99 ?_
  refine zs_istore C dX12_offer_100 (by decide) ?_
  exact j102
def xX12_offer_89 (s_X12_isGuest : zq_Sp) (s_X12_fitsBy : zq_Sp) (s_X12_flag : zq_Sp) (s_X12_enters : zq_Sp) (J28 : zq_P) (J57 : zq_P) (J89 : zq_P) (J102 : zq_P) (J214 : zq_P) (J229 : zq_P) (Q : zq_Q) (ls : zq_L) (st : List Value) (h : zq_H) : Prop := (zi_iload 3 (zi_aload 0 (zi_getI 56 3 (zi_if2 (fun x y => y ≤ x) (xX12_offer_201 s_X12_isGuest s_X12_fitsBy s_X12_flag s_X12_enters J28 J57 J89 J102 J214 J229 Q) (xX12_offer_97 s_X12_isGuest s_X12_fitsBy s_X12_flag s_X12_enters J28 J57 J89 J102 J214 J229 Q))))) ls st h
theorem kX12_offer_89 {X : zq_X} {d : Nat} (C : zq_C X cX12_offer 7 RX12 d) (hd1 : 1 ≤ d) {d_X12_isGuest : Nat} {s_X12_isGuest : zq_Sp} (h_X12_isGuest : zq_M yX12_isGuest cX12_isGuest 2 (some .boolean) 1 d_X12_isGuest s_X12_isGuest) (g_X12_isGuest : d_X12_isGuest + 1 ≤ d) {d_X12_fitsBy : Nat} {s_X12_fitsBy : zq_Sp} (h_X12_fitsBy : zq_M yX12_fitsBy cX12_fitsBy 7 (some .boolean) 1 d_X12_fitsBy s_X12_fitsBy) (g_X12_fitsBy : d_X12_fitsBy + 1 ≤ d) {d_X12_flag : Nat} {s_X12_flag : zq_Sp} (h_X12_flag : zq_M yX12_flag cX12_flag 1 (some .int) 1 d_X12_flag s_X12_flag) (g_X12_flag : d_X12_flag + 1 ≤ d) {d_X12_enters : Nat} {s_X12_enters : zq_Sp} (h_X12_enters : zq_M yX12_enters cX12_enters 3 none 0 d_X12_enters s_X12_enters) (g_X12_enters : d_X12_enters + 1 ≤ d) {J28 : zq_P} (j28 : zq_ok X 7 28 J28) {J57 : zq_P} (j57 : zq_ok X 7 57 J57) {J89 : zq_P} (j89 : zq_ok X 7 89 J89) {J102 : zq_P} (j102 : zq_ok X 7 102 J102) {J214 : zq_P} (j214 : zq_ok X 7 214 J214) {J229 : zq_P} (j229 : zq_ok X 7 229 J229) {Q : zq_Q} (hq : zq_R X (some .int) 1 Q) : zq_ok X 7 89 (xX12_offer_89 s_X12_isGuest s_X12_fitsBy s_X12_flag s_X12_enters J28 J57 J89 J102 J214 J229 Q) := by
  refine zs_iload_n C dX12_offer_89 rfl ?_
  refine zs_aload_n C dX12_offer_90 rfl ?_
  refine zs_getI C zp_56 zF12 (j := 3) ⟨by decide, rfl⟩ zw_1099 dX12_offer_91 ?_
  exact zs_icmp_ge C dX12_offer_94 (by decide) (kX12_offer_201 C hd1 h_X12_isGuest g_X12_isGuest h_X12_fitsBy g_X12_fitsBy h_X12_flag g_X12_flag h_X12_enters g_X12_enters j28 j57 j89 j102 j214 j229 hq) (kX12_offer_97 C hd1 h_X12_isGuest g_X12_isGuest h_X12_fitsBy g_X12_fitsBy h_X12_flag g_X12_flag h_X12_enters g_X12_enters j28 j57 j89 j102 j214 j229 hq)
def xX12_offer_87 (s_X12_isGuest : zq_Sp) (s_X12_fitsBy : zq_Sp) (s_X12_flag : zq_Sp) (s_X12_enters : zq_Sp) (J28 : zq_P) (J57 : zq_P) (J89 : zq_P) (J102 : zq_P) (J214 : zq_P) (J229 : zq_P) (Q : zq_Q) (ls : zq_L) (st : List Value) (h : zq_H) : Prop := (zi_push (.int 0) (zi_istore 3 (J89))) ls st h
theorem kX12_offer_87 {X : zq_X} {d : Nat} (C : zq_C X cX12_offer 7 RX12 d) (hd1 : 1 ≤ d) {d_X12_isGuest : Nat} {s_X12_isGuest : zq_Sp} (h_X12_isGuest : zq_M yX12_isGuest cX12_isGuest 2 (some .boolean) 1 d_X12_isGuest s_X12_isGuest) (g_X12_isGuest : d_X12_isGuest + 1 ≤ d) {d_X12_fitsBy : Nat} {s_X12_fitsBy : zq_Sp} (h_X12_fitsBy : zq_M yX12_fitsBy cX12_fitsBy 7 (some .boolean) 1 d_X12_fitsBy s_X12_fitsBy) (g_X12_fitsBy : d_X12_fitsBy + 1 ≤ d) {d_X12_flag : Nat} {s_X12_flag : zq_Sp} (h_X12_flag : zq_M yX12_flag cX12_flag 1 (some .int) 1 d_X12_flag s_X12_flag) (g_X12_flag : d_X12_flag + 1 ≤ d) {d_X12_enters : Nat} {s_X12_enters : zq_Sp} (h_X12_enters : zq_M yX12_enters cX12_enters 3 none 0 d_X12_enters s_X12_enters) (g_X12_enters : d_X12_enters + 1 ≤ d) {J28 : zq_P} (j28 : zq_ok X 7 28 J28) {J57 : zq_P} (j57 : zq_ok X 7 57 J57) {J89 : zq_P} (j89 : zq_ok X 7 89 J89) {J102 : zq_P} (j102 : zq_ok X 7 102 J102) {J214 : zq_P} (j214 : zq_ok X 7 214 J214) {J229 : zq_P} (j229 : zq_ok X 7 229 J229) {Q : zq_Q} (hq : zq_R X (some .int) 1 Q) : zq_ok X 7 87 (xX12_offer_87 s_X12_isGuest s_X12_fitsBy s_X12_flag s_X12_enters J28 J57 J89 J102 J214 J229 Q) := by
  refine zs_iconst C dX12_offer_87 (by decide) ?_
  refine zs_istore_n C dX12_offer_88 rfl (by decide) ?_
  exact j89
def xX12_offer_64 (s_X12_isGuest : zq_Sp) (s_X12_fitsBy : zq_Sp) (s_X12_flag : zq_Sp) (s_X12_enters : zq_Sp) (J28 : zq_P) (J57 : zq_P) (J89 : zq_P) (J102 : zq_P) (J214 : zq_P) (J229 : zq_P) (Q : zq_Q) (ls : zq_L) (st : List Value) (h : zq_H) : Prop := (zi_aload 0 (zi_iload 1 (zi_iload 2 (zi_push (.int 100) (zi_idv (fun x y => x / y) (zi_iload 2 (zi_push (.int 10) (zi_idv (fun x y => x / y) (zi_push (.int 10) (zi_idv zf_rem (zi_iload 2 (zi_push (.int 10) (zi_idv zf_rem (zi_callV 4 56 s_X12_fitsBy (zi_if1 (fun x => x = 0) (xX12_offer_201 s_X12_isGuest s_X12_fitsBy s_X12_flag s_X12_enters J28 J57 J89 J102 J214 J229 Q) (xX12_offer_87 s_X12_isGuest s_X12_fitsBy s_X12_flag s_X12_enters J28 J57 J89 J102 J214 J229 Q)))))))))))))))) ls st h
theorem kX12_offer_64 {X : zq_X} {d : Nat} (C : zq_C X cX12_offer 7 RX12 d) (hd1 : 1 ≤ d) {d_X12_isGuest : Nat} {s_X12_isGuest : zq_Sp} (h_X12_isGuest : zq_M yX12_isGuest cX12_isGuest 2 (some .boolean) 1 d_X12_isGuest s_X12_isGuest) (g_X12_isGuest : d_X12_isGuest + 1 ≤ d) {d_X12_fitsBy : Nat} {s_X12_fitsBy : zq_Sp} (h_X12_fitsBy : zq_M yX12_fitsBy cX12_fitsBy 7 (some .boolean) 1 d_X12_fitsBy s_X12_fitsBy) (g_X12_fitsBy : d_X12_fitsBy + 1 ≤ d) {d_X12_flag : Nat} {s_X12_flag : zq_Sp} (h_X12_flag : zq_M yX12_flag cX12_flag 1 (some .int) 1 d_X12_flag s_X12_flag) (g_X12_flag : d_X12_flag + 1 ≤ d) {d_X12_enters : Nat} {s_X12_enters : zq_Sp} (h_X12_enters : zq_M yX12_enters cX12_enters 3 none 0 d_X12_enters s_X12_enters) (g_X12_enters : d_X12_enters + 1 ≤ d) {J28 : zq_P} (j28 : zq_ok X 7 28 J28) {J57 : zq_P} (j57 : zq_ok X 7 57 J57) {J89 : zq_P} (j89 : zq_ok X 7 89 J89) {J102 : zq_P} (j102 : zq_ok X 7 102 J102) {J214 : zq_P} (j214 : zq_ok X 7 214 J214) {J229 : zq_P} (j229 : zq_ok X 7 229 J229) {Q : zq_Q} (hq : zq_R X (some .int) 1 Q) : zq_ok X 7 64 (xX12_offer_64 s_X12_isGuest s_X12_fitsBy s_X12_flag s_X12_enters J28 J57 J89 J102 J214 J229 Q) := by
  refine zs_aload_n C dX12_offer_64 rfl ?_
  refine zs_iload_n C dX12_offer_65 rfl ?_
  refine zs_iload_n C dX12_offer_66 rfl ?_
  refine zs_bipush C dX12_offer_67 (by decide) ?_
  refine zs_idiv C dX12_offer_69 ?_
  refine zs_iload_n C dX12_offer_70 rfl ?_
  refine zs_bipush C dX12_offer_71 (by decide) ?_
  refine zs_idiv C dX12_offer_73 ?_
  refine zs_bipush C dX12_offer_74 (by decide) ?_
  refine zs_irem C dX12_offer_76 ?_
  refine zs_iload_n C dX12_offer_77 rfl ?_
  refine zs_bipush C dX12_offer_78 (by decide) ?_
  refine zs_irem C dX12_offer_80 ?_
  refine zs_callV C h_X12_fitsBy g_X12_fitsBy zy_X12_fitsBy zp_56 (show vwCl[12]? = some (RX12, TX12, 67) from rfl) zw_1712 zw_1714 zs9_X12_fitsBy dX12_offer_81 ?_
  exact zs_if_eq C dX12_offer_84 (by decide) (kX12_offer_201 C hd1 h_X12_isGuest g_X12_isGuest h_X12_fitsBy g_X12_fitsBy h_X12_flag g_X12_flag h_X12_enters g_X12_enters j28 j57 j89 j102 j214 j229 hq) (kX12_offer_87 C hd1 h_X12_isGuest g_X12_isGuest h_X12_fitsBy g_X12_fitsBy h_X12_flag g_X12_flag h_X12_enters g_X12_enters j28 j57 j89 j102 j214 j229 hq)
def xX12_offer_57 (s_X12_isGuest : zq_Sp) (s_X12_fitsBy : zq_Sp) (s_X12_flag : zq_Sp) (s_X12_enters : zq_Sp) (J28 : zq_P) (J57 : zq_P) (J89 : zq_P) (J102 : zq_P) (J214 : zq_P) (J229 : zq_P) (Q : zq_Q) (ls : zq_L) (st : List Value) (h : zq_H) : Prop := (zi_iload 2 (zi_push (.int 1000) (zi_if2 (fun x y => y ≤ x) (xX12_offer_207 s_X12_isGuest s_X12_fitsBy s_X12_flag s_X12_enters J28 J57 J89 J102 J214 J229 Q) (xX12_offer_64 s_X12_isGuest s_X12_fitsBy s_X12_flag s_X12_enters J28 J57 J89 J102 J214 J229 Q)))) ls st h
theorem kX12_offer_57 {X : zq_X} {d : Nat} (C : zq_C X cX12_offer 7 RX12 d) (hd1 : 1 ≤ d) {d_X12_isGuest : Nat} {s_X12_isGuest : zq_Sp} (h_X12_isGuest : zq_M yX12_isGuest cX12_isGuest 2 (some .boolean) 1 d_X12_isGuest s_X12_isGuest) (g_X12_isGuest : d_X12_isGuest + 1 ≤ d) {d_X12_fitsBy : Nat} {s_X12_fitsBy : zq_Sp} (h_X12_fitsBy : zq_M yX12_fitsBy cX12_fitsBy 7 (some .boolean) 1 d_X12_fitsBy s_X12_fitsBy) (g_X12_fitsBy : d_X12_fitsBy + 1 ≤ d) {d_X12_flag : Nat} {s_X12_flag : zq_Sp} (h_X12_flag : zq_M yX12_flag cX12_flag 1 (some .int) 1 d_X12_flag s_X12_flag) (g_X12_flag : d_X12_flag + 1 ≤ d) {d_X12_enters : Nat} {s_X12_enters : zq_Sp} (h_X12_enters : zq_M yX12_enters cX12_enters 3 none 0 d_X12_enters s_X12_enters) (g_X12_enters : d_X12_enters + 1 ≤ d) {J28 : zq_P} (j28 : zq_ok X 7 28 J28) {J57 : zq_P} (j57 : zq_ok X 7 57 J57) {J89 : zq_P} (j89 : zq_ok X 7 89 J89) {J102 : zq_P} (j102 : zq_ok X 7 102 J102) {J214 : zq_P} (j214 : zq_ok X 7 214 J214) {J229 : zq_P} (j229 : zq_ok X 7 229 J229) {Q : zq_Q} (hq : zq_R X (some .int) 1 Q) : zq_ok X 7 57 (xX12_offer_57 s_X12_isGuest s_X12_fitsBy s_X12_flag s_X12_enters J28 J57 J89 J102 J214 J229 Q) := by
  refine zs_iload_n C dX12_offer_57 rfl ?_
  refine zs_sipush C dX12_offer_58 (by decide) ?_
  exact zs_icmp_ge C dX12_offer_61 (by decide) (kX12_offer_207 C hd1 h_X12_isGuest g_X12_isGuest h_X12_fitsBy g_X12_fitsBy h_X12_flag g_X12_flag h_X12_enters g_X12_enters j28 j57 j89 j102 j214 j229 hq) (kX12_offer_64 C hd1 h_X12_isGuest g_X12_isGuest h_X12_fitsBy g_X12_fitsBy h_X12_flag g_X12_flag h_X12_enters g_X12_enters j28 j57 j89 j102 j214 j229 hq)
def xX12_offer_55 (s_X12_isGuest : zq_Sp) (s_X12_fitsBy : zq_Sp) (s_X12_flag : zq_Sp) (s_X12_enters : zq_Sp) (J28 : zq_P) (J57 : zq_P) (J89 : zq_P) (J102 : zq_P) (J214 : zq_P) (J229 : zq_P) (Q : zq_Q) (ls : zq_L) (st : List Value) (h : zq_H) : Prop := (zi_push (.int 0) (zi_istore 2 (J57))) ls st h
theorem kX12_offer_55 {X : zq_X} {d : Nat} (C : zq_C X cX12_offer 7 RX12 d) (hd1 : 1 ≤ d) {d_X12_isGuest : Nat} {s_X12_isGuest : zq_Sp} (h_X12_isGuest : zq_M yX12_isGuest cX12_isGuest 2 (some .boolean) 1 d_X12_isGuest s_X12_isGuest) (g_X12_isGuest : d_X12_isGuest + 1 ≤ d) {d_X12_fitsBy : Nat} {s_X12_fitsBy : zq_Sp} (h_X12_fitsBy : zq_M yX12_fitsBy cX12_fitsBy 7 (some .boolean) 1 d_X12_fitsBy s_X12_fitsBy) (g_X12_fitsBy : d_X12_fitsBy + 1 ≤ d) {d_X12_flag : Nat} {s_X12_flag : zq_Sp} (h_X12_flag : zq_M yX12_flag cX12_flag 1 (some .int) 1 d_X12_flag s_X12_flag) (g_X12_flag : d_X12_flag + 1 ≤ d) {d_X12_enters : Nat} {s_X12_enters : zq_Sp} (h_X12_enters : zq_M yX12_enters cX12_enters 3 none 0 d_X12_enters s_X12_enters) (g_X12_enters : d_X12_enters + 1 ≤ d) {J28 : zq_P} (j28 : zq_ok X 7 28 J28) {J57 : zq_P} (j57 : zq_ok X 7 57 J57) {J89 : zq_P} (j89 : zq_ok X 7 89 J89) {J102 : zq_P} (j102 : zq_ok X 7 102 J102) {J214 : zq_P} (j214 : zq_ok X 7 214 J214) {J229 : zq_P} (j229 : zq_ok X 7 229 J229) {Q : zq_Q} (hq : zq_R X (some .int) 1 Q) : zq_ok X 7 55 (xX12_offer_55 s_X12_isGuest s_X12_fitsBy s_X12_flag s_X12_enters J28 J57 J89 J102 J214 J229 Q) := by
  refine zs_iconst C dX12_offer_55 (by decide) ?_
  refine zs_istore_n C dX12_offer_56 rfl (by decide) ?_
  exact j57
def xX12_offer_35 (s_X12_isGuest : zq_Sp) (s_X12_fitsBy : zq_Sp) (s_X12_flag : zq_Sp) (s_X12_enters : zq_Sp) (J28 : zq_P) (J57 : zq_P) (J89 : zq_P) (J102 : zq_P) (J214 : zq_P) (J229 : zq_P) (Q : zq_Q) (ls : zq_L) (st : List Value) (h : zq_H) : Prop := (zi_aload 0 (zi_getR 56 94 (zi_iload 2 (zi_push (.int 0) (zi_astI 94 256 (zi_aload 0 (zi_getR 56 95 (zi_iload 2 (zi_push (.int 0) (zi_astI 95 256 (zi_iinc 2 1 (J28)))))))))))) ls st h
theorem kX12_offer_35 {X : zq_X} {d : Nat} (C : zq_C X cX12_offer 7 RX12 d) (hd1 : 1 ≤ d) {d_X12_isGuest : Nat} {s_X12_isGuest : zq_Sp} (h_X12_isGuest : zq_M yX12_isGuest cX12_isGuest 2 (some .boolean) 1 d_X12_isGuest s_X12_isGuest) (g_X12_isGuest : d_X12_isGuest + 1 ≤ d) {d_X12_fitsBy : Nat} {s_X12_fitsBy : zq_Sp} (h_X12_fitsBy : zq_M yX12_fitsBy cX12_fitsBy 7 (some .boolean) 1 d_X12_fitsBy s_X12_fitsBy) (g_X12_fitsBy : d_X12_fitsBy + 1 ≤ d) {d_X12_flag : Nat} {s_X12_flag : zq_Sp} (h_X12_flag : zq_M yX12_flag cX12_flag 1 (some .int) 1 d_X12_flag s_X12_flag) (g_X12_flag : d_X12_flag + 1 ≤ d) {d_X12_enters : Nat} {s_X12_enters : zq_Sp} (h_X12_enters : zq_M yX12_enters cX12_enters 3 none 0 d_X12_enters s_X12_enters) (g_X12_enters : d_X12_enters + 1 ≤ d) {J28 : zq_P} (j28 : zq_ok X 7 28 J28) {J57 : zq_P} (j57 : zq_ok X 7 57 J57) {J89 : zq_P} (j89 : zq_ok X 7 89 J89) {J102 : zq_P} (j102 : zq_ok X 7 102 J102) {J214 : zq_P} (j214 : zq_ok X 7 214 J214) {J229 : zq_P} (j229 : zq_ok X 7 229 J229) {Q : zq_Q} (hq : zq_R X (some .int) 1 Q) : zq_ok X 7 35 (xX12_offer_35 s_X12_isGuest s_X12_fitsBy s_X12_flag s_X12_enters J28 J57 J89 J102 J214 J229 Q) := by
  refine zs_aload_n C dX12_offer_35 rfl ?_
  refine zs_getR C zp_56 zF12 (j := 57) ⟨by decide, rfl⟩ zw_1153 dX12_offer_36 ?_
  refine zs_iload_n C dX12_offer_39 rfl ?_
  refine zs_iconst C dX12_offer_40 (by decide) ?_
  refine zs_iastore C zp_94 dX12_offer_41 ?_
  refine zs_aload_n C dX12_offer_42 rfl ?_
  refine zs_getR C zp_56 zF12 (j := 58) ⟨by decide, rfl⟩ zw_1154 dX12_offer_43 ?_
  refine zs_iload_n C dX12_offer_46 rfl ?_
  refine zs_iconst C dX12_offer_47 (by decide) ?_
  refine zs_iastore C zp_95 dX12_offer_48 ?_
  refine zs_iinc C dX12_offer_49 (by decide) (by decide) ?_
  exact zs_goto C dX12_offer_52 (by decide) (j28)
def xX12_offer_28 (s_X12_isGuest : zq_Sp) (s_X12_fitsBy : zq_Sp) (s_X12_flag : zq_Sp) (s_X12_enters : zq_Sp) (J28 : zq_P) (J57 : zq_P) (J89 : zq_P) (J102 : zq_P) (J214 : zq_P) (J229 : zq_P) (Q : zq_Q) (ls : zq_L) (st : List Value) (h : zq_H) : Prop := (zi_iload 2 (zi_push (.int 256) (zi_if2 (fun x y => y ≤ x) (xX12_offer_55 s_X12_isGuest s_X12_fitsBy s_X12_flag s_X12_enters J28 J57 J89 J102 J214 J229 Q) (xX12_offer_35 s_X12_isGuest s_X12_fitsBy s_X12_flag s_X12_enters J28 J57 J89 J102 J214 J229 Q)))) ls st h
theorem kX12_offer_28 {X : zq_X} {d : Nat} (C : zq_C X cX12_offer 7 RX12 d) (hd1 : 1 ≤ d) {d_X12_isGuest : Nat} {s_X12_isGuest : zq_Sp} (h_X12_isGuest : zq_M yX12_isGuest cX12_isGuest 2 (some .boolean) 1 d_X12_isGuest s_X12_isGuest) (g_X12_isGuest : d_X12_isGuest + 1 ≤ d) {d_X12_fitsBy : Nat} {s_X12_fitsBy : zq_Sp} (h_X12_fitsBy : zq_M yX12_fitsBy cX12_fitsBy 7 (some .boolean) 1 d_X12_fitsBy s_X12_fitsBy) (g_X12_fitsBy : d_X12_fitsBy + 1 ≤ d) {d_X12_flag : Nat} {s_X12_flag : zq_Sp} (h_X12_flag : zq_M yX12_flag cX12_flag 1 (some .int) 1 d_X12_flag s_X12_flag) (g_X12_flag : d_X12_flag + 1 ≤ d) {d_X12_enters : Nat} {s_X12_enters : zq_Sp} (h_X12_enters : zq_M yX12_enters cX12_enters 3 none 0 d_X12_enters s_X12_enters) (g_X12_enters : d_X12_enters + 1 ≤ d) {J28 : zq_P} (j28 : zq_ok X 7 28 J28) {J57 : zq_P} (j57 : zq_ok X 7 57 J57) {J89 : zq_P} (j89 : zq_ok X 7 89 J89) {J102 : zq_P} (j102 : zq_ok X 7 102 J102) {J214 : zq_P} (j214 : zq_ok X 7 214 J214) {J229 : zq_P} (j229 : zq_ok X 7 229 J229) {Q : zq_Q} (hq : zq_R X (some .int) 1 Q) : zq_ok X 7 28 (xX12_offer_28 s_X12_isGuest s_X12_fitsBy s_X12_flag s_X12_enters J28 J57 J89 J102 J214 J229 Q) := by
  refine zs_iload_n C dX12_offer_28 rfl ?_
  refine zs_sipush C dX12_offer_29 (by decide) ?_
  exact zs_icmp_ge C dX12_offer_32 (by decide) (kX12_offer_55 C hd1 h_X12_isGuest g_X12_isGuest h_X12_fitsBy g_X12_fitsBy h_X12_flag g_X12_flag h_X12_enters g_X12_enters j28 j57 j89 j102 j214 j229 hq) (kX12_offer_35 C hd1 h_X12_isGuest g_X12_isGuest h_X12_fitsBy g_X12_fitsBy h_X12_flag g_X12_flag h_X12_enters g_X12_enters j28 j57 j89 j102 j214 j229 hq)
def xX12_offer_26 (s_X12_isGuest : zq_Sp) (s_X12_fitsBy : zq_Sp) (s_X12_flag : zq_Sp) (s_X12_enters : zq_Sp) (J28 : zq_P) (J57 : zq_P) (J89 : zq_P) (J102 : zq_P) (J214 : zq_P) (J229 : zq_P) (Q : zq_Q) (ls : zq_L) (st : List Value) (h : zq_H) : Prop := (zi_push (.int 0) (zi_istore 2 (J28))) ls st h
theorem kX12_offer_26 {X : zq_X} {d : Nat} (C : zq_C X cX12_offer 7 RX12 d) (hd1 : 1 ≤ d) {d_X12_isGuest : Nat} {s_X12_isGuest : zq_Sp} (h_X12_isGuest : zq_M yX12_isGuest cX12_isGuest 2 (some .boolean) 1 d_X12_isGuest s_X12_isGuest) (g_X12_isGuest : d_X12_isGuest + 1 ≤ d) {d_X12_fitsBy : Nat} {s_X12_fitsBy : zq_Sp} (h_X12_fitsBy : zq_M yX12_fitsBy cX12_fitsBy 7 (some .boolean) 1 d_X12_fitsBy s_X12_fitsBy) (g_X12_fitsBy : d_X12_fitsBy + 1 ≤ d) {d_X12_flag : Nat} {s_X12_flag : zq_Sp} (h_X12_flag : zq_M yX12_flag cX12_flag 1 (some .int) 1 d_X12_flag s_X12_flag) (g_X12_flag : d_X12_flag + 1 ≤ d) {d_X12_enters : Nat} {s_X12_enters : zq_Sp} (h_X12_enters : zq_M yX12_enters cX12_enters 3 none 0 d_X12_enters s_X12_enters) (g_X12_enters : d_X12_enters + 1 ≤ d) {J28 : zq_P} (j28 : zq_ok X 7 28 J28) {J57 : zq_P} (j57 : zq_ok X 7 57 J57) {J89 : zq_P} (j89 : zq_ok X 7 89 J89) {J102 : zq_P} (j102 : zq_ok X 7 102 J102) {J214 : zq_P} (j214 : zq_ok X 7 214 J214) {J229 : zq_P} (j229 : zq_ok X 7 229 J229) {Q : zq_Q} (hq : zq_R X (some .int) 1 Q) : zq_ok X 7 26 (xX12_offer_26 s_X12_isGuest s_X12_fitsBy s_X12_flag s_X12_enters J28 J57 J89 J102 J214 J229 Q) := by
  refine zs_iconst C dX12_offer_26 (by decide) ?_
  refine zs_istore_n C dX12_offer_27 rfl (by decide) ?_
  exact j28
def xX12_offer_23 (s_X12_isGuest : zq_Sp) (s_X12_fitsBy : zq_Sp) (s_X12_flag : zq_Sp) (s_X12_enters : zq_Sp) (J28 : zq_P) (J57 : zq_P) (J89 : zq_P) (J102 : zq_P) (J214 : zq_P) (J229 : zq_P) (Q : zq_Q) (ls : zq_L) (st : List Value) (h : zq_H) : Prop := (zi_push (.int (-2)) (zi_iret Q)) ls st h
theorem kX12_offer_23 {X : zq_X} {d : Nat} (C : zq_C X cX12_offer 7 RX12 d) (hd1 : 1 ≤ d) {d_X12_isGuest : Nat} {s_X12_isGuest : zq_Sp} (h_X12_isGuest : zq_M yX12_isGuest cX12_isGuest 2 (some .boolean) 1 d_X12_isGuest s_X12_isGuest) (g_X12_isGuest : d_X12_isGuest + 1 ≤ d) {d_X12_fitsBy : Nat} {s_X12_fitsBy : zq_Sp} (h_X12_fitsBy : zq_M yX12_fitsBy cX12_fitsBy 7 (some .boolean) 1 d_X12_fitsBy s_X12_fitsBy) (g_X12_fitsBy : d_X12_fitsBy + 1 ≤ d) {d_X12_flag : Nat} {s_X12_flag : zq_Sp} (h_X12_flag : zq_M yX12_flag cX12_flag 1 (some .int) 1 d_X12_flag s_X12_flag) (g_X12_flag : d_X12_flag + 1 ≤ d) {d_X12_enters : Nat} {s_X12_enters : zq_Sp} (h_X12_enters : zq_M yX12_enters cX12_enters 3 none 0 d_X12_enters s_X12_enters) (g_X12_enters : d_X12_enters + 1 ≤ d) {J28 : zq_P} (j28 : zq_ok X 7 28 J28) {J57 : zq_P} (j57 : zq_ok X 7 57 J57) {J89 : zq_P} (j89 : zq_ok X 7 89 J89) {J102 : zq_P} (j102 : zq_ok X 7 102 J102) {J214 : zq_P} (j214 : zq_ok X 7 214 J214) {J229 : zq_P} (j229 : zq_ok X 7 229 J229) {Q : zq_Q} (hq : zq_R X (some .int) 1 Q) : zq_ok X 7 23 (xX12_offer_23 s_X12_isGuest s_X12_fitsBy s_X12_flag s_X12_enters J28 J57 J89 J102 J214 J229 Q) := by
  refine zs_bipush C dX12_offer_23 (by decide) ?_
  exact zs_iret C hq dX12_offer_25
def xX12_offer_15 (s_X12_isGuest : zq_Sp) (s_X12_fitsBy : zq_Sp) (s_X12_flag : zq_Sp) (s_X12_enters : zq_Sp) (J28 : zq_P) (J57 : zq_P) (J89 : zq_P) (J102 : zq_P) (J214 : zq_P) (J229 : zq_P) (Q : zq_Q) (ls : zq_L) (st : List Value) (h : zq_H) : Prop := (zi_aload 0 (zi_getI 56 3 (zi_push (.int 2) (zi_if2 (fun x y => y ≤ x) (xX12_offer_26 s_X12_isGuest s_X12_fitsBy s_X12_flag s_X12_enters J28 J57 J89 J102 J214 J229 Q) (xX12_offer_23 s_X12_isGuest s_X12_fitsBy s_X12_flag s_X12_enters J28 J57 J89 J102 J214 J229 Q))))) ls st h
theorem kX12_offer_15 {X : zq_X} {d : Nat} (C : zq_C X cX12_offer 7 RX12 d) (hd1 : 1 ≤ d) {d_X12_isGuest : Nat} {s_X12_isGuest : zq_Sp} (h_X12_isGuest : zq_M yX12_isGuest cX12_isGuest 2 (some .boolean) 1 d_X12_isGuest s_X12_isGuest) (g_X12_isGuest : d_X12_isGuest + 1 ≤ d) {d_X12_fitsBy : Nat} {s_X12_fitsBy : zq_Sp} (h_X12_fitsBy : zq_M yX12_fitsBy cX12_fitsBy 7 (some .boolean) 1 d_X12_fitsBy s_X12_fitsBy) (g_X12_fitsBy : d_X12_fitsBy + 1 ≤ d) {d_X12_flag : Nat} {s_X12_flag : zq_Sp} (h_X12_flag : zq_M yX12_flag cX12_flag 1 (some .int) 1 d_X12_flag s_X12_flag) (g_X12_flag : d_X12_flag + 1 ≤ d) {d_X12_enters : Nat} {s_X12_enters : zq_Sp} (h_X12_enters : zq_M yX12_enters cX12_enters 3 none 0 d_X12_enters s_X12_enters) (g_X12_enters : d_X12_enters + 1 ≤ d) {J28 : zq_P} (j28 : zq_ok X 7 28 J28) {J57 : zq_P} (j57 : zq_ok X 7 57 J57) {J89 : zq_P} (j89 : zq_ok X 7 89 J89) {J102 : zq_P} (j102 : zq_ok X 7 102 J102) {J214 : zq_P} (j214 : zq_ok X 7 214 J214) {J229 : zq_P} (j229 : zq_ok X 7 229 J229) {Q : zq_Q} (hq : zq_R X (some .int) 1 Q) : zq_ok X 7 15 (xX12_offer_15 s_X12_isGuest s_X12_fitsBy s_X12_flag s_X12_enters J28 J57 J89 J102 J214 J229 Q) := by
  refine zs_aload_n C dX12_offer_15 rfl ?_
  refine zs_getI C zp_56 zF12 (j := 3) ⟨by decide, rfl⟩ zw_1099 dX12_offer_16 ?_
  refine zs_iconst C dX12_offer_19 (by decide) ?_
  exact zs_icmp_ge C dX12_offer_20 (by decide) (kX12_offer_26 C hd1 h_X12_isGuest g_X12_isGuest h_X12_fitsBy g_X12_fitsBy h_X12_flag g_X12_flag h_X12_enters g_X12_enters j28 j57 j89 j102 j214 j229 hq) (kX12_offer_23 C hd1 h_X12_isGuest g_X12_isGuest h_X12_fitsBy g_X12_fitsBy h_X12_flag g_X12_flag h_X12_enters g_X12_enters j28 j57 j89 j102 j214 j229 hq)
def xX12_offer_13 (s_X12_isGuest : zq_Sp) (s_X12_fitsBy : zq_Sp) (s_X12_flag : zq_Sp) (s_X12_enters : zq_Sp) (J28 : zq_P) (J57 : zq_P) (J89 : zq_P) (J102 : zq_P) (J214 : zq_P) (J229 : zq_P) (Q : zq_Q) (ls : zq_L) (st : List Value) (h : zq_H) : Prop := (zi_push (.int (-1)) (zi_iret Q)) ls st h
theorem kX12_offer_13 {X : zq_X} {d : Nat} (C : zq_C X cX12_offer 7 RX12 d) (hd1 : 1 ≤ d) {d_X12_isGuest : Nat} {s_X12_isGuest : zq_Sp} (h_X12_isGuest : zq_M yX12_isGuest cX12_isGuest 2 (some .boolean) 1 d_X12_isGuest s_X12_isGuest) (g_X12_isGuest : d_X12_isGuest + 1 ≤ d) {d_X12_fitsBy : Nat} {s_X12_fitsBy : zq_Sp} (h_X12_fitsBy : zq_M yX12_fitsBy cX12_fitsBy 7 (some .boolean) 1 d_X12_fitsBy s_X12_fitsBy) (g_X12_fitsBy : d_X12_fitsBy + 1 ≤ d) {d_X12_flag : Nat} {s_X12_flag : zq_Sp} (h_X12_flag : zq_M yX12_flag cX12_flag 1 (some .int) 1 d_X12_flag s_X12_flag) (g_X12_flag : d_X12_flag + 1 ≤ d) {d_X12_enters : Nat} {s_X12_enters : zq_Sp} (h_X12_enters : zq_M yX12_enters cX12_enters 3 none 0 d_X12_enters s_X12_enters) (g_X12_enters : d_X12_enters + 1 ≤ d) {J28 : zq_P} (j28 : zq_ok X 7 28 J28) {J57 : zq_P} (j57 : zq_ok X 7 57 J57) {J89 : zq_P} (j89 : zq_ok X 7 89 J89) {J102 : zq_P} (j102 : zq_ok X 7 102 J102) {J214 : zq_P} (j214 : zq_ok X 7 214 J214) {J229 : zq_P} (j229 : zq_ok X 7 229 J229) {Q : zq_Q} (hq : zq_R X (some .int) 1 Q) : zq_ok X 7 13 (xX12_offer_13 s_X12_isGuest s_X12_fitsBy s_X12_flag s_X12_enters J28 J57 J89 J102 J214 J229 Q) := by
  refine zs_iconst C dX12_offer_13 (by decide) ?_
  exact zs_iret C hq dX12_offer_14
def xX12_offer_0 (s_X12_isGuest : zq_Sp) (s_X12_fitsBy : zq_Sp) (s_X12_flag : zq_Sp) (s_X12_enters : zq_Sp) (J28 : zq_P) (J57 : zq_P) (J89 : zq_P) (J102 : zq_P) (J214 : zq_P) (J229 : zq_P) (Q : zq_Q) (ls : zq_L) (st : List Value) (h : zq_H) : Prop := (zi_aload 0 (zi_push (.int 0) (zi_putI 56 0 (zi_aload 0 (zi_iload 1 (zi_callV 1 56 s_X12_isGuest (zi_if1 (fun x => x = 0) (xX12_offer_13 s_X12_isGuest s_X12_fitsBy s_X12_flag s_X12_enters J28 J57 J89 J102 J214 J229 Q) (xX12_offer_15 s_X12_isGuest s_X12_fitsBy s_X12_flag s_X12_enters J28 J57 J89 J102 J214 J229 Q)))))))) ls st h
theorem kX12_offer_0 {X : zq_X} {d : Nat} (C : zq_C X cX12_offer 7 RX12 d) (hd1 : 1 ≤ d) {d_X12_isGuest : Nat} {s_X12_isGuest : zq_Sp} (h_X12_isGuest : zq_M yX12_isGuest cX12_isGuest 2 (some .boolean) 1 d_X12_isGuest s_X12_isGuest) (g_X12_isGuest : d_X12_isGuest + 1 ≤ d) {d_X12_fitsBy : Nat} {s_X12_fitsBy : zq_Sp} (h_X12_fitsBy : zq_M yX12_fitsBy cX12_fitsBy 7 (some .boolean) 1 d_X12_fitsBy s_X12_fitsBy) (g_X12_fitsBy : d_X12_fitsBy + 1 ≤ d) {d_X12_flag : Nat} {s_X12_flag : zq_Sp} (h_X12_flag : zq_M yX12_flag cX12_flag 1 (some .int) 1 d_X12_flag s_X12_flag) (g_X12_flag : d_X12_flag + 1 ≤ d) {d_X12_enters : Nat} {s_X12_enters : zq_Sp} (h_X12_enters : zq_M yX12_enters cX12_enters 3 none 0 d_X12_enters s_X12_enters) (g_X12_enters : d_X12_enters + 1 ≤ d) {J28 : zq_P} (j28 : zq_ok X 7 28 J28) {J57 : zq_P} (j57 : zq_ok X 7 57 J57) {J89 : zq_P} (j89 : zq_ok X 7 89 J89) {J102 : zq_P} (j102 : zq_ok X 7 102 J102) {J214 : zq_P} (j214 : zq_ok X 7 214 J214) {J229 : zq_P} (j229 : zq_ok X 7 229 J229) {Q : zq_Q} (hq : zq_R X (some .int) 1 Q) : zq_ok X 7 0 (xX12_offer_0 s_X12_isGuest s_X12_fitsBy s_X12_flag s_X12_enters J28 J57 J89 J102 J214 J229 Q) := by
  refine zs_aload_n C dX12_offer_0 rfl ?_
  refine zs_iconst C dX12_offer_1 (by decide) ?_
  refine zs_putI C zp_56 zF12 (j := 0) ⟨by decide, rfl⟩ ⟨rfl, by decide +kernel⟩ zw_1096 dX12_offer_2 ?_
  refine zs_aload_n C dX12_offer_5 rfl ?_
  refine zs_iload_n C dX12_offer_6 rfl ?_
  refine zs_callV C h_X12_isGuest g_X12_isGuest zy_X12_isGuest zp_56 (show vwCl[12]? = some (RX12, TX12, 67) from rfl) zw_1466 zw_1468 zs9_X12_isGuest dX12_offer_7 ?_
  exact zs_if_ne C dX12_offer_10 (by decide) (kX12_offer_15 C hd1 h_X12_isGuest g_X12_isGuest h_X12_fitsBy g_X12_fitsBy h_X12_flag g_X12_flag h_X12_enters g_X12_enters j28 j57 j89 j102 j214 j229 hq) (kX12_offer_13 C hd1 h_X12_isGuest g_X12_isGuest h_X12_fitsBy g_X12_fitsBy h_X12_flag g_X12_flag h_X12_enters g_X12_enters j28 j57 j89 j102 j214 j229 hq)
theorem mX12_offer {d : Nat} {spec : zq_Sp} {σ28 : Type} {σ57 : Type} {σ89 : Type} {σ102 : Type} {σ214 : Type} {σ229 : Type} {d_X12_isGuest : Nat} {s_X12_isGuest : zq_Sp} (h_X12_isGuest : zq_M yX12_isGuest cX12_isGuest 2 (some .boolean) 1 d_X12_isGuest s_X12_isGuest) (g_X12_isGuest : d_X12_isGuest + 1 ≤ d) {d_X12_fitsBy : Nat} {s_X12_fitsBy : zq_Sp} (h_X12_fitsBy : zq_M yX12_fitsBy cX12_fitsBy 7 (some .boolean) 1 d_X12_fitsBy s_X12_fitsBy) (g_X12_fitsBy : d_X12_fitsBy + 1 ≤ d) {d_X12_flag : Nat} {s_X12_flag : zq_Sp} (h_X12_flag : zq_M yX12_flag cX12_flag 1 (some .int) 1 d_X12_flag s_X12_flag) (g_X12_flag : d_X12_flag + 1 ≤ d) {d_X12_enters : Nat} {s_X12_enters : zq_Sp} (h_X12_enters : zq_M yX12_enters cX12_enters 3 none 0 d_X12_enters s_X12_enters) (g_X12_enters : d_X12_enters + 1 ≤ d) (hd1 : 1 ≤ d) (μ28 : σ28 → Nat) (I28 : zq_Q → σ28 → zq_P) (μ57 : σ57 → Nat) (I57 : zq_Q → σ57 → zq_P) (μ89 : σ89 → Nat) (I89 : zq_Q → σ89 → zq_P) (μ102 : σ102 → Nat) (I102 : zq_Q → σ102 → zq_P) (μ214 : σ214 → Nat) (I214 : zq_Q → σ214 → zq_P) (μ229 : σ229 → Nat) (I229 : zq_Q → σ229 → zq_P) (v : ∀ args h Q, spec args h Q → (zq_a args).length ≤ 7 ∧ xX12_offer_0 s_X12_isGuest s_X12_fitsBy s_X12_flag s_X12_enters (fun ls st h => ∃ b, I28 Q b ls st h) (fun ls st h => ∃ b, I57 Q b ls st h) (fun ls st h => ∃ b, I89 Q b ls st h) (fun ls st h => ∃ b, I102 Q b ls st h) (fun ls st h => ∃ b, I214 Q b ls st h) (fun ls st h => ∃ b, I229 Q b ls st h) Q (zq_l0 7 args) [] h) (v28 : ∀ Q a ls st h, I28 Q a ls st h → xX12_offer_28 s_X12_isGuest s_X12_fitsBy s_X12_flag s_X12_enters (fun ls st h => ∃ b, μ28 b < μ28 a ∧ I28 Q b ls st h) (fun ls st h => ∃ b, μ57 b < μ28 a ∧ I57 Q b ls st h) (fun ls st h => ∃ b, μ89 b < μ28 a ∧ I89 Q b ls st h) (fun ls st h => ∃ b, μ102 b < μ28 a ∧ I102 Q b ls st h) (fun ls st h => ∃ b, μ214 b < μ28 a ∧ I214 Q b ls st h) (fun ls st h => ∃ b, μ229 b < μ28 a ∧ I229 Q b ls st h) Q ls st h) (v57 : ∀ Q a ls st h, I57 Q a ls st h → xX12_offer_57 s_X12_isGuest s_X12_fitsBy s_X12_flag s_X12_enters (fun ls st h => ∃ b, μ28 b < μ57 a ∧ I28 Q b ls st h) (fun ls st h => ∃ b, μ57 b < μ57 a ∧ I57 Q b ls st h) (fun ls st h => ∃ b, μ89 b < μ57 a ∧ I89 Q b ls st h) (fun ls st h => ∃ b, μ102 b < μ57 a ∧ I102 Q b ls st h) (fun ls st h => ∃ b, μ214 b < μ57 a ∧ I214 Q b ls st h) (fun ls st h => ∃ b, μ229 b < μ57 a ∧ I229 Q b ls st h) Q ls st h) (v89 : ∀ Q a ls st h, I89 Q a ls st h → xX12_offer_89 s_X12_isGuest s_X12_fitsBy s_X12_flag s_X12_enters (fun ls st h => ∃ b, μ28 b < μ89 a ∧ I28 Q b ls st h) (fun ls st h => ∃ b, μ57 b < μ89 a ∧ I57 Q b ls st h) (fun ls st h => ∃ b, μ89 b < μ89 a ∧ I89 Q b ls st h) (fun ls st h => ∃ b, μ102 b < μ89 a ∧ I102 Q b ls st h) (fun ls st h => ∃ b, μ214 b < μ89 a ∧ I214 Q b ls st h) (fun ls st h => ∃ b, μ229 b < μ89 a ∧ I229 Q b ls st h) Q ls st h) (v102 : ∀ Q a ls st h, I102 Q a ls st h → xX12_offer_102 s_X12_isGuest s_X12_fitsBy s_X12_flag s_X12_enters (fun ls st h => ∃ b, μ28 b < μ102 a ∧ I28 Q b ls st h) (fun ls st h => ∃ b, μ57 b < μ102 a ∧ I57 Q b ls st h) (fun ls st h => ∃ b, μ89 b < μ102 a ∧ I89 Q b ls st h) (fun ls st h => ∃ b, μ102 b < μ102 a ∧ I102 Q b ls st h) (fun ls st h => ∃ b, μ214 b < μ102 a ∧ I214 Q b ls st h) (fun ls st h => ∃ b, μ229 b < μ102 a ∧ I229 Q b ls st h) Q ls st h) (v214 : ∀ Q a ls st h, I214 Q a ls st h → xX12_offer_214 s_X12_isGuest s_X12_fitsBy s_X12_flag s_X12_enters (fun ls st h => ∃ b, μ28 b < μ214 a ∧ I28 Q b ls st h) (fun ls st h => ∃ b, μ57 b < μ214 a ∧ I57 Q b ls st h) (fun ls st h => ∃ b, μ89 b < μ214 a ∧ I89 Q b ls st h) (fun ls st h => ∃ b, μ102 b < μ214 a ∧ I102 Q b ls st h) (fun ls st h => ∃ b, μ214 b < μ214 a ∧ I214 Q b ls st h) (fun ls st h => ∃ b, μ229 b < μ214 a ∧ I229 Q b ls st h) Q ls st h) (v229 : ∀ Q a ls st h, I229 Q a ls st h → xX12_offer_229 s_X12_isGuest s_X12_fitsBy s_X12_flag s_X12_enters (fun ls st h => ∃ b, μ28 b < μ229 a ∧ I28 Q b ls st h) (fun ls st h => ∃ b, μ57 b < μ229 a ∧ I57 Q b ls st h) (fun ls st h => ∃ b, μ89 b < μ229 a ∧ I89 Q b ls st h) (fun ls st h => ∃ b, μ102 b < μ229 a ∧ I102 Q b ls st h) (fun ls st h => ∃ b, μ214 b < μ229 a ∧ I214 Q b ls st h) (fun ls st h => ∃ b, μ229 b < μ229 a ∧ I229 Q b ls st h) Q ls st h) : zq_M yX12_offer cX12_offer 7 (some .int) 1 d spec := by
  refine zq_met (by decide +kernel) (by decide) (fun X Q args h C hq hs => ⟨(v args h Q hs).1, _, ?_, (v args h Q hs).2⟩)
  have hl := zq_loop6 (X := X) (nL := 7) (pc1 := 28) (pc2 := 57) (pc3 := 89) (pc4 := 102) (pc5 := 214) (pc6 := 229) μ28 μ57 μ89 μ102 μ214 μ229 (I28 Q) (I57 Q) (I89 Q) (I102 Q) (I214 Q) (I229 Q) (fun J28 J57 J89 J102 J214 J229 => xX12_offer_28 s_X12_isGuest s_X12_fitsBy s_X12_flag s_X12_enters J28 J57 J89 J102 J214 J229 Q) (fun J28 J57 J89 J102 J214 J229 => xX12_offer_57 s_X12_isGuest s_X12_fitsBy s_X12_flag s_X12_enters J28 J57 J89 J102 J214 J229 Q) (fun J28 J57 J89 J102 J214 J229 => xX12_offer_89 s_X12_isGuest s_X12_fitsBy s_X12_flag s_X12_enters J28 J57 J89 J102 J214 J229 Q) (fun J28 J57 J89 J102 J214 J229 => xX12_offer_102 s_X12_isGuest s_X12_fitsBy s_X12_flag s_X12_enters J28 J57 J89 J102 J214 J229 Q) (fun J28 J57 J89 J102 J214 J229 => xX12_offer_214 s_X12_isGuest s_X12_fitsBy s_X12_flag s_X12_enters J28 J57 J89 J102 J214 J229 Q) (fun J28 J57 J89 J102 J214 J229 => xX12_offer_229 s_X12_isGuest s_X12_fitsBy s_X12_flag s_X12_enters J28 J57 J89 J102 J214 J229 Q) (fun j28 j57 j89 j102 j214 j229 => kX12_offer_28 C hd1 h_X12_isGuest g_X12_isGuest h_X12_fitsBy g_X12_fitsBy h_X12_flag g_X12_flag h_X12_enters g_X12_enters j28 j57 j89 j102 j214 j229 hq) (fun j28 j57 j89 j102 j214 j229 => kX12_offer_57 C hd1 h_X12_isGuest g_X12_isGuest h_X12_fitsBy g_X12_fitsBy h_X12_flag g_X12_flag h_X12_enters g_X12_enters j28 j57 j89 j102 j214 j229 hq) (fun j28 j57 j89 j102 j214 j229 => kX12_offer_89 C hd1 h_X12_isGuest g_X12_isGuest h_X12_fitsBy g_X12_fitsBy h_X12_flag g_X12_flag h_X12_enters g_X12_enters j28 j57 j89 j102 j214 j229 hq) (fun j28 j57 j89 j102 j214 j229 => kX12_offer_102 C hd1 h_X12_isGuest g_X12_isGuest h_X12_fitsBy g_X12_fitsBy h_X12_flag g_X12_flag h_X12_enters g_X12_enters j28 j57 j89 j102 j214 j229 hq) (fun j28 j57 j89 j102 j214 j229 => kX12_offer_214 C hd1 h_X12_isGuest g_X12_isGuest h_X12_fitsBy g_X12_fitsBy h_X12_flag g_X12_flag h_X12_enters g_X12_enters j28 j57 j89 j102 j214 j229 hq) (fun j28 j57 j89 j102 j214 j229 => kX12_offer_229 C hd1 h_X12_isGuest g_X12_isGuest h_X12_fitsBy g_X12_fitsBy h_X12_flag g_X12_flag h_X12_enters g_X12_enters j28 j57 j89 j102 j214 j229 hq) (v28 Q) (v57 Q) (v89 Q) (v102 Q) (v214 Q) (v229 Q)
  exact kX12_offer_0 C hd1 h_X12_isGuest g_X12_isGuest h_X12_fitsBy g_X12_fitsBy h_X12_flag g_X12_flag h_X12_enters g_X12_enters hl.1 hl.2.1 hl.2.2.1 hl.2.2.2.1 hl.2.2.2.2.1 hl.2.2.2.2.2 hq
/-! ToOneCrumbModel.meets(II)V -/
theorem dX12_meets_0 : decode cX12_meets 0 = .ok (.iload_n 1, 1) := by decide +kernel
theorem dX12_meets_1 : decode cX12_meets 1 = .ok (.ifCond .ne 16, 3) := by decide +kernel
theorem dX12_meets_4 : decode cX12_meets 4 = .ok (.aload_n 0, 1) := by decide +kernel
theorem dX12_meets_5 : decode cX12_meets 5 = .ok (.aload_n 0, 1) := by decide +kernel
theorem dX12_meets_6 : decode cX12_meets 6 = .ok (.getfield 377, 3) := by decide +kernel
theorem dX12_meets_9 : decode cX12_meets 9 = .ok (.iload_n 2, 1) := by decide +kernel
theorem dX12_meets_10 : decode cX12_meets 10 = .ok (.invokestatic 181, 3) := by decide +kernel
theorem dX12_meets_13 : decode cX12_meets 13 = .ok (.putfield 377, 3) := by decide +kernel
theorem dX12_meets_16 : decode cX12_meets 16 = .ok (.return_, 1) := by decide +kernel
theorem dX12_meets_17 : decode cX12_meets 17 = .ok (.iconst 0, 1) := by decide +kernel
theorem dX12_meets_18 : decode cX12_meets 18 = .ok (.istore_n 3, 1) := by decide +kernel
theorem dX12_meets_19 : decode cX12_meets 19 = .ok (.iload_n 3, 1) := by decide +kernel
theorem dX12_meets_20 : decode cX12_meets 20 = .ok (.bipush 6, 2) := by decide +kernel
theorem dX12_meets_22 : decode cX12_meets 22 = .ok (.if_icmp .ge 95, 3) := by decide +kernel
theorem dX12_meets_25 : decode cX12_meets 25 = .ok (.iload_n 1, 1) := by decide +kernel
theorem dX12_meets_26 : decode cX12_meets 26 = .ok (.iload_n 3, 1) := by decide +kernel
theorem dX12_meets_27 : decode cX12_meets 27 = .ok (.invokestatic 383, 3) := by decide +kernel
theorem dX12_meets_30 : decode cX12_meets 30 = .ok (.ifCond .eq 81, 3) := by decide +kernel
theorem dX12_meets_33 : decode cX12_meets 33 = .ok (.iconst 0, 1) := by decide +kernel
theorem dX12_meets_34 : decode cX12_meets 34 = .ok (.istore 4, 2) := by decide +kernel
theorem dX12_meets_36 : decode cX12_meets 36 = .ok (.iload_n 2, 1) := by decide +kernel
theorem dX12_meets_37 : decode cX12_meets 37 = .ok (.istore 5, 2) := by decide +kernel
theorem dX12_meets_39 : decode cX12_meets 39 = .ok (.iload 4, 2) := by decide +kernel
theorem dX12_meets_41 : decode cX12_meets 41 = .ok (.aload_n 0, 1) := by decide +kernel
theorem dX12_meets_42 : decode cX12_meets 42 = .ok (.getfield 132, 3) := by decide +kernel
theorem dX12_meets_45 : decode cX12_meets 45 = .ok (.iload_n 3, 1) := by decide +kernel
theorem dX12_meets_46 : decode cX12_meets 46 = .ok (.iaload, 1) := by decide +kernel
theorem dX12_meets_47 : decode cX12_meets 47 = .ok (.if_icmp .ge 40, 3) := by decide +kernel
theorem dX12_meets_50 : decode cX12_meets 50 = .ok (.iload 5, 2) := by decide +kernel
theorem dX12_meets_52 : decode cX12_meets 52 = .ok (.aload_n 0, 1) := by decide +kernel
theorem dX12_meets_53 : decode cX12_meets 53 = .ok (.getfield 158, 3) := by decide +kernel
theorem dX12_meets_56 : decode cX12_meets 56 = .ok (.if_icmp .ge 31, 3) := by decide +kernel
theorem dX12_meets_59 : decode cX12_meets 59 = .ok (.iload 4, 2) := by decide +kernel
theorem dX12_meets_61 : decode cX12_meets 61 = .ok (.aload_n 0, 1) := by decide +kernel
theorem dX12_meets_62 : decode cX12_meets 62 = .ok (.getfield 63, 3) := by decide +kernel
theorem dX12_meets_65 : decode cX12_meets 65 = .ok (.bipush 16, 2) := by decide +kernel
theorem dX12_meets_67 : decode cX12_meets 67 = .ok (.aload_n 0, 1) := by decide +kernel
theorem dX12_meets_68 : decode cX12_meets 68 = .ok (.getfield 129, 3) := by decide +kernel
theorem dX12_meets_71 : decode cX12_meets 71 = .ok (.iload_n 3, 1) := by decide +kernel
theorem dX12_meets_72 : decode cX12_meets 72 = .ok (.iaload, 1) := by decide +kernel
theorem dX12_meets_73 : decode cX12_meets 73 = .ok (.imul, 1) := by decide +kernel
theorem dX12_meets_74 : decode cX12_meets 74 = .ok (.iload 5, 2) := by decide +kernel
theorem dX12_meets_76 : decode cX12_meets 76 = .ok (.iadd, 1) := by decide +kernel
theorem dX12_meets_77 : decode cX12_meets 77 = .ok (.iaload, 1) := by decide +kernel
theorem dX12_meets_78 : decode cX12_meets 78 = .ok (.iadd, 1) := by decide +kernel
theorem dX12_meets_79 : decode cX12_meets 79 = .ok (.istore 4, 2) := by decide +kernel
theorem dX12_meets_81 : decode cX12_meets 81 = .ok (.iinc 5 1, 3) := by decide +kernel
theorem dX12_meets_84 : decode cX12_meets 84 = .ok (.goto (-45), 3) := by decide +kernel
theorem dX12_meets_87 : decode cX12_meets 87 = .ok (.iload 4, 2) := by decide +kernel
theorem dX12_meets_89 : decode cX12_meets 89 = .ok (.aload_n 0, 1) := by decide +kernel
theorem dX12_meets_90 : decode cX12_meets 90 = .ok (.getfield 132, 3) := by decide +kernel
theorem dX12_meets_93 : decode cX12_meets 93 = .ok (.iload_n 3, 1) := by decide +kernel
theorem dX12_meets_94 : decode cX12_meets 94 = .ok (.iaload, 1) := by decide +kernel
theorem dX12_meets_95 : decode cX12_meets 95 = .ok (.if_icmp .lt 16, 3) := by decide +kernel
theorem dX12_meets_98 : decode cX12_meets 98 = .ok (.aload_n 0, 1) := by decide +kernel
theorem dX12_meets_99 : decode cX12_meets 99 = .ok (.iload_n 1, 1) := by decide +kernel
theorem dX12_meets_100 : decode cX12_meets 100 = .ok (.iconst 1, 1) := by decide +kernel
theorem dX12_meets_101 : decode cX12_meets 101 = .ok (.iload_n 3, 1) := by decide +kernel
theorem dX12_meets_102 : decode cX12_meets 102 = .ok (.ishl, 1) := by decide +kernel
theorem dX12_meets_103 : decode cX12_meets 103 = .ok (.iconst (-1), 1) := by decide +kernel
theorem dX12_meets_104 : decode cX12_meets 104 = .ok (.ixor, 1) := by decide +kernel
theorem dX12_meets_105 : decode cX12_meets 105 = .ok (.iand, 1) := by decide +kernel
theorem dX12_meets_106 : decode cX12_meets 106 = .ok (.iload 5, 2) := by decide +kernel
theorem dX12_meets_108 : decode cX12_meets 108 = .ok (.invokevirtual 447, 3) := by decide +kernel
theorem dX12_meets_111 : decode cX12_meets 111 = .ok (.iinc 3 1, 3) := by decide +kernel
theorem dX12_meets_114 : decode cX12_meets 114 = .ok (.goto (-95), 3) := by decide +kernel
theorem dX12_meets_117 : decode cX12_meets 117 = .ok (.return_, 1) := by decide +kernel
def xX12_meets_117 (s_X12_has : zq_Sp) (s_X12_meets : zq_Sp) (J19 : zq_P) (J39 : zq_P) (Q : zq_Q) (ls : zq_L) (st : List Value) (h : zq_H) : Prop := (zi_vret Q) ls st h
theorem kX12_meets_117 {X : zq_X} {d : Nat} (C : zq_C X cX12_meets 6 RX12 d) (hd1 : 1 ≤ d) {d_X12_has : Nat} {s_X12_has : zq_Sp} (h_X12_has : zq_M yX12_has cX12_has 2 (some .boolean) 1 d_X12_has s_X12_has) (g_X12_has : d_X12_has + 1 ≤ d) {d_X12_meets : Nat} {s_X12_meets : zq_Sp} (h_X12_meets : zq_M yX12_meets cX12_meets 6 none 0 d_X12_meets s_X12_meets) (g_X12_meets : d_X12_meets + 1 ≤ d) {J19 : zq_P} (j19 : zq_ok X 6 19 J19) {J39 : zq_P} (j39 : zq_ok X 6 39 J39) {Q : zq_Q} (hq : zq_R X none 0 Q) : zq_ok X 6 117 (xX12_meets_117 s_X12_has s_X12_meets J19 J39 Q) := by
  exact zs_vret C hq dX12_meets_117
def xX12_meets_111 (s_X12_has : zq_Sp) (s_X12_meets : zq_Sp) (J19 : zq_P) (J39 : zq_P) (Q : zq_Q) (ls : zq_L) (st : List Value) (h : zq_H) : Prop := (zi_iinc 3 1 (J19)) ls st h
theorem kX12_meets_111 {X : zq_X} {d : Nat} (C : zq_C X cX12_meets 6 RX12 d) (hd1 : 1 ≤ d) {d_X12_has : Nat} {s_X12_has : zq_Sp} (h_X12_has : zq_M yX12_has cX12_has 2 (some .boolean) 1 d_X12_has s_X12_has) (g_X12_has : d_X12_has + 1 ≤ d) {d_X12_meets : Nat} {s_X12_meets : zq_Sp} (h_X12_meets : zq_M yX12_meets cX12_meets 6 none 0 d_X12_meets s_X12_meets) (g_X12_meets : d_X12_meets + 1 ≤ d) {J19 : zq_P} (j19 : zq_ok X 6 19 J19) {J39 : zq_P} (j39 : zq_ok X 6 39 J39) {Q : zq_Q} (hq : zq_R X none 0 Q) : zq_ok X 6 111 (xX12_meets_111 s_X12_has s_X12_meets J19 J39 Q) := by
  refine zs_iinc C dX12_meets_111 (by decide) (by decide) ?_
  exact zs_goto C dX12_meets_114 (by decide) (j19)
def xX12_meets_98 (s_X12_has : zq_Sp) (s_X12_meets : zq_Sp) (J19 : zq_P) (J39 : zq_P) (Q : zq_Q) (ls : zq_L) (st : List Value) (h : zq_H) : Prop := (zi_aload 0 (zi_iload 1 (zi_push (.int 1) (zi_iload 3 (zi_i2 zf_shl (zi_push (.int (-1)) (zi_i2 (fun x y => x ^^^ y) (zi_i2 (fun x y => x &&& y) (zi_iload 5 (zi_callV 2 56 s_X12_meets ((xX12_meets_111 s_X12_has s_X12_meets J19 J39 Q)))))))))))) ls st h
theorem kX12_meets_98 {X : zq_X} {d : Nat} (C : zq_C X cX12_meets 6 RX12 d) (hd1 : 1 ≤ d) {d_X12_has : Nat} {s_X12_has : zq_Sp} (h_X12_has : zq_M yX12_has cX12_has 2 (some .boolean) 1 d_X12_has s_X12_has) (g_X12_has : d_X12_has + 1 ≤ d) {d_X12_meets : Nat} {s_X12_meets : zq_Sp} (h_X12_meets : zq_M yX12_meets cX12_meets 6 none 0 d_X12_meets s_X12_meets) (g_X12_meets : d_X12_meets + 1 ≤ d) {J19 : zq_P} (j19 : zq_ok X 6 19 J19) {J39 : zq_P} (j39 : zq_ok X 6 39 J39) {Q : zq_Q} (hq : zq_R X none 0 Q) : zq_ok X 6 98 (xX12_meets_98 s_X12_has s_X12_meets J19 J39 Q) := by
  refine zs_aload_n C dX12_meets_98 rfl ?_
  refine zs_iload_n C dX12_meets_99 rfl ?_
  refine zs_iconst C dX12_meets_100 (by decide) ?_
  refine zs_iload_n C dX12_meets_101 rfl ?_
  refine zs_ishl C dX12_meets_102 ?_
  refine zs_iconst C dX12_meets_103 (by decide) ?_
  refine zs_ixor C dX12_meets_104 ?_
  refine zs_iand C dX12_meets_105 ?_
  refine zs_iload C dX12_meets_106 ?_
  refine zs_callV C h_X12_meets g_X12_meets zy_X12_meets zp_56 (show vwCl[12]? = some (RX12, TX12, 67) from rfl) zw_1724 zw_1726 zs9_X12_meets dX12_meets_108 ?_
  exact kX12_meets_111 C hd1 h_X12_has g_X12_has h_X12_meets g_X12_meets j19 j39 hq
def xX12_meets_87 (s_X12_has : zq_Sp) (s_X12_meets : zq_Sp) (J19 : zq_P) (J39 : zq_P) (Q : zq_Q) (ls : zq_L) (st : List Value) (h : zq_H) : Prop := (zi_iload 4 (zi_aload 0 (zi_getR 56 97 (zi_iload 3 (zi_aldI 97 6 (zi_if2 (fun x y => x < y) (xX12_meets_111 s_X12_has s_X12_meets J19 J39 Q) (xX12_meets_98 s_X12_has s_X12_meets J19 J39 Q))))))) ls st h
theorem kX12_meets_87 {X : zq_X} {d : Nat} (C : zq_C X cX12_meets 6 RX12 d) (hd1 : 1 ≤ d) {d_X12_has : Nat} {s_X12_has : zq_Sp} (h_X12_has : zq_M yX12_has cX12_has 2 (some .boolean) 1 d_X12_has s_X12_has) (g_X12_has : d_X12_has + 1 ≤ d) {d_X12_meets : Nat} {s_X12_meets : zq_Sp} (h_X12_meets : zq_M yX12_meets cX12_meets 6 none 0 d_X12_meets s_X12_meets) (g_X12_meets : d_X12_meets + 1 ≤ d) {J19 : zq_P} (j19 : zq_ok X 6 19 J19) {J39 : zq_P} (j39 : zq_ok X 6 39 J39) {Q : zq_Q} (hq : zq_R X none 0 Q) : zq_ok X 6 87 (xX12_meets_87 s_X12_has s_X12_meets J19 J39 Q) := by
  refine zs_iload C dX12_meets_87 ?_
  refine zs_aload_n C dX12_meets_89 rfl ?_
  refine zs_getR C zp_56 zF12 (j := 60) ⟨by decide, rfl⟩ zw_1156 dX12_meets_90 ?_
  refine zs_iload_n C dX12_meets_93 rfl ?_
  refine zs_iaload C zp_97 dX12_meets_94 ?_
  exact zs_icmp_lt C dX12_meets_95 (by decide) (kX12_meets_111 C hd1 h_X12_has g_X12_has h_X12_meets g_X12_meets j19 j39 hq) (kX12_meets_98 C hd1 h_X12_has g_X12_has h_X12_meets g_X12_meets j19 j39 hq)
def xX12_meets_59 (s_X12_has : zq_Sp) (s_X12_meets : zq_Sp) (J19 : zq_P) (J39 : zq_P) (Q : zq_Q) (ls : zq_L) (st : List Value) (h : zq_H) : Prop := (zi_iload 4 (zi_aload 0 (zi_getR 56 74 (zi_push (.int 16) (zi_aload 0 (zi_getR 56 96 (zi_iload 3 (zi_aldI 96 6 (zi_i2 (fun x y => x * y) (zi_iload 5 (zi_i2 (fun x y => x + y) (zi_aldI 74 96 (zi_i2 (fun x y => x + y) (zi_istore 4 (zi_iinc 5 1 (J39)))))))))))))))) ls st h
theorem kX12_meets_59 {X : zq_X} {d : Nat} (C : zq_C X cX12_meets 6 RX12 d) (hd1 : 1 ≤ d) {d_X12_has : Nat} {s_X12_has : zq_Sp} (h_X12_has : zq_M yX12_has cX12_has 2 (some .boolean) 1 d_X12_has s_X12_has) (g_X12_has : d_X12_has + 1 ≤ d) {d_X12_meets : Nat} {s_X12_meets : zq_Sp} (h_X12_meets : zq_M yX12_meets cX12_meets 6 none 0 d_X12_meets s_X12_meets) (g_X12_meets : d_X12_meets + 1 ≤ d) {J19 : zq_P} (j19 : zq_ok X 6 19 J19) {J39 : zq_P} (j39 : zq_ok X 6 39 J39) {Q : zq_Q} (hq : zq_R X none 0 Q) : zq_ok X 6 59 (xX12_meets_59 s_X12_has s_X12_meets J19 J39 Q) := by
  refine zs_iload C dX12_meets_59 ?_
  refine zs_aload_n C dX12_meets_61 rfl ?_
  refine zs_getR C zp_56 zF12 (j := 29) ⟨by decide, rfl⟩ zw_1125 dX12_meets_62 ?_
  refine zs_bipush C dX12_meets_65 (by decide) ?_
  refine zs_aload_n C dX12_meets_67 rfl ?_
  refine zs_getR C zp_56 zF12 (j := 59) ⟨by decide, rfl⟩ zw_1155 dX12_meets_68 ?_
  refine zs_iload_n C dX12_meets_71 rfl ?_
  refine zs_iaload C zp_96 dX12_meets_72 ?_
  refine zs_imul C dX12_meets_73 ?_
  refine zs_iload C dX12_meets_74 ?_
  refine zs_iadd C dX12_meets_76 ?_
  refine zs_iaload C zp_74 dX12_meets_77 ?_
  refine zs_iadd C dX12_meets_78 ?_
  refine zs_istore C dX12_meets_79 (by decide) ?_
  refine zs_iinc C dX12_meets_81 (by decide) (by decide) ?_
  exact zs_goto C dX12_meets_84 (by decide) (j39)
def xX12_meets_50 (s_X12_has : zq_Sp) (s_X12_meets : zq_Sp) (J19 : zq_P) (J39 : zq_P) (Q : zq_Q) (ls : zq_L) (st : List Value) (h : zq_H) : Prop := (zi_iload 5 (zi_aload 0 (zi_getI 56 3 (zi_if2 (fun x y => y ≤ x) (xX12_meets_87 s_X12_has s_X12_meets J19 J39 Q) (xX12_meets_59 s_X12_has s_X12_meets J19 J39 Q))))) ls st h
theorem kX12_meets_50 {X : zq_X} {d : Nat} (C : zq_C X cX12_meets 6 RX12 d) (hd1 : 1 ≤ d) {d_X12_has : Nat} {s_X12_has : zq_Sp} (h_X12_has : zq_M yX12_has cX12_has 2 (some .boolean) 1 d_X12_has s_X12_has) (g_X12_has : d_X12_has + 1 ≤ d) {d_X12_meets : Nat} {s_X12_meets : zq_Sp} (h_X12_meets : zq_M yX12_meets cX12_meets 6 none 0 d_X12_meets s_X12_meets) (g_X12_meets : d_X12_meets + 1 ≤ d) {J19 : zq_P} (j19 : zq_ok X 6 19 J19) {J39 : zq_P} (j39 : zq_ok X 6 39 J39) {Q : zq_Q} (hq : zq_R X none 0 Q) : zq_ok X 6 50 (xX12_meets_50 s_X12_has s_X12_meets J19 J39 Q) := by
  refine zs_iload C dX12_meets_50 ?_
  refine zs_aload_n C dX12_meets_52 rfl ?_
  refine zs_getI C zp_56 zF12 (j := 3) ⟨by decide, rfl⟩ zw_1099 dX12_meets_53 ?_
  exact zs_icmp_ge C dX12_meets_56 (by decide) (kX12_meets_87 C hd1 h_X12_has g_X12_has h_X12_meets g_X12_meets j19 j39 hq) (kX12_meets_59 C hd1 h_X12_has g_X12_has h_X12_meets g_X12_meets j19 j39 hq)
def xX12_meets_39 (s_X12_has : zq_Sp) (s_X12_meets : zq_Sp) (J19 : zq_P) (J39 : zq_P) (Q : zq_Q) (ls : zq_L) (st : List Value) (h : zq_H) : Prop := (zi_iload 4 (zi_aload 0 (zi_getR 56 97 (zi_iload 3 (zi_aldI 97 6 (zi_if2 (fun x y => y ≤ x) (xX12_meets_87 s_X12_has s_X12_meets J19 J39 Q) (xX12_meets_50 s_X12_has s_X12_meets J19 J39 Q))))))) ls st h
theorem kX12_meets_39 {X : zq_X} {d : Nat} (C : zq_C X cX12_meets 6 RX12 d) (hd1 : 1 ≤ d) {d_X12_has : Nat} {s_X12_has : zq_Sp} (h_X12_has : zq_M yX12_has cX12_has 2 (some .boolean) 1 d_X12_has s_X12_has) (g_X12_has : d_X12_has + 1 ≤ d) {d_X12_meets : Nat} {s_X12_meets : zq_Sp} (h_X12_meets : zq_M yX12_meets cX12_meets 6 none 0 d_X12_meets s_X12_meets) (g_X12_meets : d_X12_meets + 1 ≤ d) {J19 : zq_P} (j19 : zq_ok X 6 19 J19) {J39 : zq_P} (j39 : zq_ok X 6 39 J39) {Q : zq_Q} (hq : zq_R X none 0 Q) : zq_ok X 6 39 (xX12_meets_39 s_X12_has s_X12_meets J19 J39 Q) := by
  refine zs_iload C dX12_meets_39 ?_
  refine zs_aload_n C dX12_meets_41 rfl ?_
  refine zs_getR C zp_56 zF12 (j := 60) ⟨by decide, rfl⟩ zw_1156 dX12_meets_42 ?_
  refine zs_iload_n C dX12_meets_45 rfl ?_
  refine zs_iaload C zp_97 dX12_meets_46 ?_
  exact zs_icmp_ge C dX12_meets_47 (by decide) (kX12_meets_87 C hd1 h_X12_has g_X12_has h_X12_meets g_X12_meets j19 j39 hq) (kX12_meets_50 C hd1 h_X12_has g_X12_has h_X12_meets g_X12_meets j19 j39 hq)
def xX12_meets_33 (s_X12_has : zq_Sp) (s_X12_meets : zq_Sp) (J19 : zq_P) (J39 : zq_P) (Q : zq_Q) (ls : zq_L) (st : List Value) (h : zq_H) : Prop := (zi_push (.int 0) (zi_istore 4 (zi_iload 2 (zi_istore 5 (J39))))) ls st h
theorem kX12_meets_33 {X : zq_X} {d : Nat} (C : zq_C X cX12_meets 6 RX12 d) (hd1 : 1 ≤ d) {d_X12_has : Nat} {s_X12_has : zq_Sp} (h_X12_has : zq_M yX12_has cX12_has 2 (some .boolean) 1 d_X12_has s_X12_has) (g_X12_has : d_X12_has + 1 ≤ d) {d_X12_meets : Nat} {s_X12_meets : zq_Sp} (h_X12_meets : zq_M yX12_meets cX12_meets 6 none 0 d_X12_meets s_X12_meets) (g_X12_meets : d_X12_meets + 1 ≤ d) {J19 : zq_P} (j19 : zq_ok X 6 19 J19) {J39 : zq_P} (j39 : zq_ok X 6 39 J39) {Q : zq_Q} (hq : zq_R X none 0 Q) : zq_ok X 6 33 (xX12_meets_33 s_X12_has s_X12_meets J19 J39 Q) := by
  refine zs_iconst C dX12_meets_33 (by decide) ?_
  refine zs_istore C dX12_meets_34 (by decide) ?_
  refine zs_iload_n C dX12_meets_36 rfl ?_
  refine zs_istore C dX12_meets_37 (by decide) ?_
  exact j39
def xX12_meets_25 (s_X12_has : zq_Sp) (s_X12_meets : zq_Sp) (J19 : zq_P) (J39 : zq_P) (Q : zq_Q) (ls : zq_L) (st : List Value) (h : zq_H) : Prop := (zi_iload 1 (zi_iload 3 (zi_callS 2 s_X12_has (zi_if1 (fun x => x = 0) (xX12_meets_111 s_X12_has s_X12_meets J19 J39 Q) (xX12_meets_33 s_X12_has s_X12_meets J19 J39 Q))))) ls st h
theorem kX12_meets_25 {X : zq_X} {d : Nat} (C : zq_C X cX12_meets 6 RX12 d) (hd1 : 1 ≤ d) {d_X12_has : Nat} {s_X12_has : zq_Sp} (h_X12_has : zq_M yX12_has cX12_has 2 (some .boolean) 1 d_X12_has s_X12_has) (g_X12_has : d_X12_has + 1 ≤ d) {d_X12_meets : Nat} {s_X12_meets : zq_Sp} (h_X12_meets : zq_M yX12_meets cX12_meets 6 none 0 d_X12_meets s_X12_meets) (g_X12_meets : d_X12_meets + 1 ≤ d) {J19 : zq_P} (j19 : zq_ok X 6 19 J19) {J39 : zq_P} (j39 : zq_ok X 6 39 J39) {Q : zq_Q} (hq : zq_R X none 0 Q) : zq_ok X 6 25 (xX12_meets_25 s_X12_has s_X12_meets J19 J39 Q) := by
  refine zs_iload_n C dX12_meets_25 rfl ?_
  refine zs_iload_n C dX12_meets_26 rfl ?_
  refine zs_callS C h_X12_has g_X12_has zy_X12_has zw_1626 zw_1627 dX12_meets_27 ?_
  exact zs_if_eq C dX12_meets_30 (by decide) (kX12_meets_111 C hd1 h_X12_has g_X12_has h_X12_meets g_X12_meets j19 j39 hq) (kX12_meets_33 C hd1 h_X12_has g_X12_has h_X12_meets g_X12_meets j19 j39 hq)
def xX12_meets_19 (s_X12_has : zq_Sp) (s_X12_meets : zq_Sp) (J19 : zq_P) (J39 : zq_P) (Q : zq_Q) (ls : zq_L) (st : List Value) (h : zq_H) : Prop := (zi_iload 3 (zi_push (.int 6) (zi_if2 (fun x y => y ≤ x) (xX12_meets_117 s_X12_has s_X12_meets J19 J39 Q) (xX12_meets_25 s_X12_has s_X12_meets J19 J39 Q)))) ls st h
theorem kX12_meets_19 {X : zq_X} {d : Nat} (C : zq_C X cX12_meets 6 RX12 d) (hd1 : 1 ≤ d) {d_X12_has : Nat} {s_X12_has : zq_Sp} (h_X12_has : zq_M yX12_has cX12_has 2 (some .boolean) 1 d_X12_has s_X12_has) (g_X12_has : d_X12_has + 1 ≤ d) {d_X12_meets : Nat} {s_X12_meets : zq_Sp} (h_X12_meets : zq_M yX12_meets cX12_meets 6 none 0 d_X12_meets s_X12_meets) (g_X12_meets : d_X12_meets + 1 ≤ d) {J19 : zq_P} (j19 : zq_ok X 6 19 J19) {J39 : zq_P} (j39 : zq_ok X 6 39 J39) {Q : zq_Q} (hq : zq_R X none 0 Q) : zq_ok X 6 19 (xX12_meets_19 s_X12_has s_X12_meets J19 J39 Q) := by
  refine zs_iload_n C dX12_meets_19 rfl ?_
  refine zs_bipush C dX12_meets_20 (by decide) ?_
  exact zs_icmp_ge C dX12_meets_22 (by decide) (kX12_meets_117 C hd1 h_X12_has g_X12_has h_X12_meets g_X12_meets j19 j39 hq) (kX12_meets_25 C hd1 h_X12_has g_X12_has h_X12_meets g_X12_meets j19 j39 hq)
def xX12_meets_17 (s_X12_has : zq_Sp) (s_X12_meets : zq_Sp) (J19 : zq_P) (J39 : zq_P) (Q : zq_Q) (ls : zq_L) (st : List Value) (h : zq_H) : Prop := (zi_push (.int 0) (zi_istore 3 (J19))) ls st h
theorem kX12_meets_17 {X : zq_X} {d : Nat} (C : zq_C X cX12_meets 6 RX12 d) (hd1 : 1 ≤ d) {d_X12_has : Nat} {s_X12_has : zq_Sp} (h_X12_has : zq_M yX12_has cX12_has 2 (some .boolean) 1 d_X12_has s_X12_has) (g_X12_has : d_X12_has + 1 ≤ d) {d_X12_meets : Nat} {s_X12_meets : zq_Sp} (h_X12_meets : zq_M yX12_meets cX12_meets 6 none 0 d_X12_meets s_X12_meets) (g_X12_meets : d_X12_meets + 1 ≤ d) {J19 : zq_P} (j19 : zq_ok X 6 19 J19) {J39 : zq_P} (j39 : zq_ok X 6 39 J39) {Q : zq_Q} (hq : zq_R X none 0 Q) : zq_ok X 6 17 (xX12_meets_17 s_X12_has s_X12_meets J19 J39 Q) := by
  refine zs_iconst C dX12_meets_17 (by decide) ?_
  refine zs_istore_n C dX12_meets_18 rfl (by decide) ?_
  exact j19
def xX12_meets_4 (s_X12_has : zq_Sp) (s_X12_meets : zq_Sp) (J19 : zq_P) (J39 : zq_P) (Q : zq_Q) (ls : zq_L) (st : List Value) (h : zq_H) : Prop := (zi_aload 0 (zi_aload 0 (zi_getI 56 40 (zi_iload 2 (zi_m2 zf_min (zi_putI 56 40 (zi_vret Q))))))) ls st h
theorem kX12_meets_4 {X : zq_X} {d : Nat} (C : zq_C X cX12_meets 6 RX12 d) (hd1 : 1 ≤ d) {d_X12_has : Nat} {s_X12_has : zq_Sp} (h_X12_has : zq_M yX12_has cX12_has 2 (some .boolean) 1 d_X12_has s_X12_has) (g_X12_has : d_X12_has + 1 ≤ d) {d_X12_meets : Nat} {s_X12_meets : zq_Sp} (h_X12_meets : zq_M yX12_meets cX12_meets 6 none 0 d_X12_meets s_X12_meets) (g_X12_meets : d_X12_meets + 1 ≤ d) {J19 : zq_P} (j19 : zq_ok X 6 19 J19) {J39 : zq_P} (j39 : zq_ok X 6 39 J39) {Q : zq_Q} (hq : zq_R X none 0 Q) : zq_ok X 6 4 (xX12_meets_4 s_X12_has s_X12_meets J19 J39 Q) := by
  refine zs_aload_n C dX12_meets_4 rfl ?_
  refine zs_aload_n C dX12_meets_5 rfl ?_
  refine zs_getI C zp_56 zF12 (j := 40) ⟨by decide, rfl⟩ zw_1136 dX12_meets_6 ?_
  refine zs_iload_n C dX12_meets_9 rfl ?_
  refine zs_mmin C hd1 zw_1322 zw_393 zw_14 zw_394 dX12_meets_10 ?_
  refine zs_putI C zp_56 zF12 (j := 40) ⟨by decide, rfl⟩ ⟨rfl, by decide +kernel⟩ zw_1136 dX12_meets_13 ?_
  exact zs_vret C hq dX12_meets_16
def xX12_meets_0 (s_X12_has : zq_Sp) (s_X12_meets : zq_Sp) (J19 : zq_P) (J39 : zq_P) (Q : zq_Q) (ls : zq_L) (st : List Value) (h : zq_H) : Prop := (zi_iload 1 (zi_if1 (fun x => x = 0) (xX12_meets_4 s_X12_has s_X12_meets J19 J39 Q) (xX12_meets_17 s_X12_has s_X12_meets J19 J39 Q))) ls st h
theorem kX12_meets_0 {X : zq_X} {d : Nat} (C : zq_C X cX12_meets 6 RX12 d) (hd1 : 1 ≤ d) {d_X12_has : Nat} {s_X12_has : zq_Sp} (h_X12_has : zq_M yX12_has cX12_has 2 (some .boolean) 1 d_X12_has s_X12_has) (g_X12_has : d_X12_has + 1 ≤ d) {d_X12_meets : Nat} {s_X12_meets : zq_Sp} (h_X12_meets : zq_M yX12_meets cX12_meets 6 none 0 d_X12_meets s_X12_meets) (g_X12_meets : d_X12_meets + 1 ≤ d) {J19 : zq_P} (j19 : zq_ok X 6 19 J19) {J39 : zq_P} (j39 : zq_ok X 6 39 J39) {Q : zq_Q} (hq : zq_R X none 0 Q) : zq_ok X 6 0 (xX12_meets_0 s_X12_has s_X12_meets J19 J39 Q) := by
  refine zs_iload_n C dX12_meets_0 rfl ?_
  exact zs_if_ne C dX12_meets_1 (by decide) (kX12_meets_17 C hd1 h_X12_has g_X12_has h_X12_meets g_X12_meets j19 j39 hq) (kX12_meets_4 C hd1 h_X12_has g_X12_has h_X12_meets g_X12_meets j19 j39 hq)
theorem mX12_meets {d : Nat} {spec : zq_Sp} {σ19 : Type} {σ39 : Type} {d_X12_has : Nat} {s_X12_has : zq_Sp} (h_X12_has : zq_M yX12_has cX12_has 2 (some .boolean) 1 d_X12_has s_X12_has) (g_X12_has : d_X12_has + 1 ≤ d) {d_X12_meets : Nat} {s_X12_meets : zq_Sp} (h_X12_meets : zq_M yX12_meets cX12_meets 6 none 0 d_X12_meets s_X12_meets) (g_X12_meets : d_X12_meets + 1 ≤ d) (hd1 : 1 ≤ d) (μ19 : σ19 → Nat) (I19 : zq_Q → σ19 → zq_P) (μ39 : σ39 → Nat) (I39 : zq_Q → σ39 → zq_P) (v : ∀ args h Q, spec args h Q → (zq_a args).length ≤ 6 ∧ xX12_meets_0 s_X12_has s_X12_meets (fun ls st h => ∃ b, I19 Q b ls st h) (fun ls st h => ∃ b, I39 Q b ls st h) Q (zq_l0 6 args) [] h) (v19 : ∀ Q a ls st h, I19 Q a ls st h → xX12_meets_19 s_X12_has s_X12_meets (fun ls st h => ∃ b, μ19 b < μ19 a ∧ I19 Q b ls st h) (fun ls st h => ∃ b, μ39 b < μ19 a ∧ I39 Q b ls st h) Q ls st h) (v39 : ∀ Q a ls st h, I39 Q a ls st h → xX12_meets_39 s_X12_has s_X12_meets (fun ls st h => ∃ b, μ19 b < μ39 a ∧ I19 Q b ls st h) (fun ls st h => ∃ b, μ39 b < μ39 a ∧ I39 Q b ls st h) Q ls st h) : zq_M yX12_meets cX12_meets 6 none 0 d spec := by
  refine zq_met (by decide +kernel) (by decide) (fun X Q args h C hq hs => ⟨(v args h Q hs).1, _, ?_, (v args h Q hs).2⟩)
  have hl := zq_loop2 (X := X) (nL := 6) (pc1 := 19) (pc2 := 39) μ19 μ39 (I19 Q) (I39 Q) (fun J19 J39 => xX12_meets_19 s_X12_has s_X12_meets J19 J39 Q) (fun J19 J39 => xX12_meets_39 s_X12_has s_X12_meets J19 J39 Q) (fun j19 j39 => kX12_meets_19 C hd1 h_X12_has g_X12_has h_X12_meets g_X12_meets j19 j39 hq) (fun j19 j39 => kX12_meets_39 C hd1 h_X12_has g_X12_has h_X12_meets g_X12_meets j19 j39 hq) (v19 Q) (v39 Q)
  exact kX12_meets_0 C hd1 h_X12_has g_X12_has h_X12_meets g_X12_meets hl.1 hl.2 hq
/-! ToOneCrumbModel.claims()I -/
theorem dX12_claims_0 : decode cX12_claims 0 = .ok (.aload_n 0, 1) := by decide +kernel
theorem dX12_claims_1 : decode cX12_claims 1 = .ok (.iconst 0, 1) := by decide +kernel
theorem dX12_claims_2 : decode cX12_claims 2 = .ok (.putfield 147, 3) := by decide +kernel
theorem dX12_claims_5 : decode cX12_claims 5 = .ok (.aload_n 0, 1) := by decide +kernel
theorem dX12_claims_6 : decode cX12_claims 6 = .ok (.bipush 80, 2) := by decide +kernel
theorem dX12_claims_8 : decode cX12_claims 8 = .ok (.invokevirtual 218, 3) := by decide +kernel
theorem dX12_claims_11 : decode cX12_claims 11 = .ok (.pop, 1) := by decide +kernel
theorem dX12_claims_12 : decode cX12_claims 12 = .ok (.iconst 0, 1) := by decide +kernel
theorem dX12_claims_13 : decode cX12_claims 13 = .ok (.istore_n 1, 1) := by decide +kernel
theorem dX12_claims_14 : decode cX12_claims 14 = .ok (.iconst 1, 1) := by decide +kernel
theorem dX12_claims_15 : decode cX12_claims 15 = .ok (.istore_n 2, 1) := by decide +kernel
theorem dX12_claims_16 : decode cX12_claims 16 = .ok (.iload_n 2, 1) := by decide +kernel
theorem dX12_claims_17 : decode cX12_claims 17 = .ok (.ifCond .eq 98, 3) := by decide +kernel
theorem dX12_claims_20 : decode cX12_claims 20 = .ok (.aload_n 0, 1) := by decide +kernel
theorem dX12_claims_21 : decode cX12_claims 21 = .ok (.getfield 129, 3) := by decide +kernel
theorem dX12_claims_24 : decode cX12_claims 24 = .ok (.iload_n 1, 1) := by decide +kernel
theorem dX12_claims_25 : decode cX12_claims 25 = .ok (.iconst 5, 1) := by decide +kernel
theorem dX12_claims_26 : decode cX12_claims 26 = .ok (.invokestatic 181, 3) := by decide +kernel
theorem dX12_claims_29 : decode cX12_claims 29 = .ok (.iload_n 1, 1) := by decide +kernel
theorem dX12_claims_30 : decode cX12_claims 30 = .ok (.bipush 6, 2) := by decide +kernel
theorem dX12_claims_32 : decode cX12_claims 32 = .ok (.if_icmp .ge 14, 3) := by decide +kernel
theorem dX12_claims_35 : decode cX12_claims 35 = .ok (.aload_n 0, 1) := by decide +kernel
theorem dX12_claims_36 : decode cX12_claims 36 = .ok (.aload_n 0, 1) := by decide +kernel
theorem dX12_claims_37 : decode cX12_claims 37 = .ok (.getfield 165, 3) := by decide +kernel
theorem dX12_claims_40 : decode cX12_claims 40 = .ok (.invokevirtual 256, 3) := by decide +kernel
theorem dX12_claims_43 : decode cX12_claims 43 = .ok (.goto 9, 3) := by decide +kernel
theorem dX12_claims_46 : decode cX12_claims 46 = .ok (.aload_n 0, 1) := by decide +kernel
theorem dX12_claims_47 : decode cX12_claims 47 = .ok (.getfield 129, 3) := by decide +kernel
theorem dX12_claims_50 : decode cX12_claims 50 = .ok (.iconst 5, 1) := by decide +kernel
theorem dX12_claims_51 : decode cX12_claims 51 = .ok (.iaload, 1) := by decide +kernel
theorem dX12_claims_52 : decode cX12_claims 52 = .ok (.iastore, 1) := by decide +kernel
theorem dX12_claims_53 : decode cX12_claims 53 = .ok (.iload_n 1, 1) := by decide +kernel
theorem dX12_claims_54 : decode cX12_claims 54 = .ok (.bipush 6, 2) := by decide +kernel
theorem dX12_claims_56 : decode cX12_claims 56 = .ok (.if_icmp .eq 12, 3) := by decide +kernel
theorem dX12_claims_59 : decode cX12_claims 59 = .ok (.aload_n 0, 1) := by decide +kernel
theorem dX12_claims_60 : decode cX12_claims 60 = .ok (.getfield 129, 3) := by decide +kernel
theorem dX12_claims_63 : decode cX12_claims 63 = .ok (.iload_n 1, 1) := by decide +kernel
theorem dX12_claims_64 : decode cX12_claims 64 = .ok (.iaload, 1) := by decide +kernel
theorem dX12_claims_65 : decode cX12_claims 65 = .ok (.ifCond .ge 10, 3) := by decide +kernel
theorem dX12_claims_68 : decode cX12_claims 68 = .ok (.iconst (-1), 1) := by decide +kernel
theorem dX12_claims_69 : decode cX12_claims 69 = .ok (.aload_n 0, 1) := by decide +kernel
theorem dX12_claims_70 : decode cX12_claims 70 = .ok (.getfield 175, 3) := by decide +kernel
theorem dX12_claims_73 : decode cX12_claims 73 = .ok (.isub, 1) := by decide +kernel
theorem dX12_claims_74 : decode cX12_claims 74 = .ok (.ireturn, 1) := by decide +kernel
theorem dX12_claims_75 : decode cX12_claims 75 = .ok (.aload_n 0, 1) := by decide +kernel
theorem dX12_claims_76 : decode cX12_claims 76 = .ok (.getfield 132, 3) := by decide +kernel
theorem dX12_claims_79 : decode cX12_claims 79 = .ok (.iload_n 1, 1) := by decide +kernel
theorem dX12_claims_80 : decode cX12_claims 80 = .ok (.aload_n 0, 1) := by decide +kernel
theorem dX12_claims_81 : decode cX12_claims 81 = .ok (.iconst 3, 1) := by decide +kernel
theorem dX12_claims_82 : decode cX12_claims 82 = .ok (.invokevirtual 248, 3) := by decide +kernel
theorem dX12_claims_85 : decode cX12_claims 85 = .ok (.iastore, 1) := by decide +kernel
theorem dX12_claims_86 : decode cX12_claims 86 = .ok (.aload_n 0, 1) := by decide +kernel
theorem dX12_claims_87 : decode cX12_claims 87 = .ok (.getfield 132, 3) := by decide +kernel
theorem dX12_claims_90 : decode cX12_claims 90 = .ok (.iload_n 1, 1) := by decide +kernel
theorem dX12_claims_91 : decode cX12_claims 91 = .ok (.iaload, 1) := by decide +kernel
theorem dX12_claims_92 : decode cX12_claims 92 = .ok (.ifCond .ge 10, 3) := by decide +kernel
theorem dX12_claims_95 : decode cX12_claims 95 = .ok (.iconst (-1), 1) := by decide +kernel
theorem dX12_claims_96 : decode cX12_claims 96 = .ok (.aload_n 0, 1) := by decide +kernel
theorem dX12_claims_97 : decode cX12_claims 97 = .ok (.getfield 175, 3) := by decide +kernel
theorem dX12_claims_100 : decode cX12_claims 100 = .ok (.isub, 1) := by decide +kernel
theorem dX12_claims_101 : decode cX12_claims 101 = .ok (.ireturn, 1) := by decide +kernel
theorem dX12_claims_102 : decode cX12_claims 102 = .ok (.iinc 1 1, 3) := by decide +kernel
theorem dX12_claims_105 : decode cX12_claims 105 = .ok (.aload_n 0, 1) := by decide +kernel
theorem dX12_claims_106 : decode cX12_claims 106 = .ok (.bipush 44, 2) := by decide +kernel
theorem dX12_claims_108 : decode cX12_claims 108 = .ok (.invokevirtual 229, 3) := by decide +kernel
theorem dX12_claims_111 : decode cX12_claims 111 = .ok (.istore_n 2, 1) := by decide +kernel
theorem dX12_claims_112 : decode cX12_claims 112 = .ok (.goto (-96), 3) := by decide +kernel
theorem dX12_claims_115 : decode cX12_claims 115 = .ok (.aload_n 0, 1) := by decide +kernel
theorem dX12_claims_116 : decode cX12_claims 116 = .ok (.getfield 175, 3) := by decide +kernel
theorem dX12_claims_119 : decode cX12_claims 119 = .ok (.aload_n 0, 1) := by decide +kernel
theorem dX12_claims_120 : decode cX12_claims 120 = .ok (.getfield 187, 3) := by decide +kernel
theorem dX12_claims_123 : decode cX12_claims 123 = .ok (.if_icmp .ge 10, 3) := by decide +kernel
theorem dX12_claims_126 : decode cX12_claims 126 = .ok (.iconst (-1), 1) := by decide +kernel
theorem dX12_claims_127 : decode cX12_claims 127 = .ok (.aload_n 0, 1) := by decide +kernel
theorem dX12_claims_128 : decode cX12_claims 128 = .ok (.getfield 175, 3) := by decide +kernel
theorem dX12_claims_131 : decode cX12_claims 131 = .ok (.isub, 1) := by decide +kernel
theorem dX12_claims_132 : decode cX12_claims 132 = .ok (.ireturn, 1) := by decide +kernel
theorem dX12_claims_133 : decode cX12_claims 133 = .ok (.aload_n 0, 1) := by decide +kernel
theorem dX12_claims_134 : decode cX12_claims 134 = .ok (.invokevirtual 318, 3) := by decide +kernel
theorem dX12_claims_137 : decode cX12_claims 137 = .ok (.iconst 0, 1) := by decide +kernel
theorem dX12_claims_138 : decode cX12_claims 138 = .ok (.istore_n 3, 1) := by decide +kernel
theorem dX12_claims_139 : decode cX12_claims 139 = .ok (.iconst 0, 1) := by decide +kernel
theorem dX12_claims_140 : decode cX12_claims 140 = .ok (.istore 4, 2) := by decide +kernel
theorem dX12_claims_142 : decode cX12_claims 142 = .ok (.iconst 1, 1) := by decide +kernel
theorem dX12_claims_143 : decode cX12_claims 143 = .ok (.istore 5, 2) := by decide +kernel
theorem dX12_claims_145 : decode cX12_claims 145 = .ok (.iload 5, 2) := by decide +kernel
theorem dX12_claims_147 : decode cX12_claims 147 = .ok (.iconst 1, 1) := by decide +kernel
theorem dX12_claims_148 : decode cX12_claims 148 = .ok (.iload_n 1, 1) := by decide +kernel
theorem dX12_claims_149 : decode cX12_claims 149 = .ok (.ishl, 1) := by decide +kernel
theorem dX12_claims_150 : decode cX12_claims 150 = .ok (.if_icmp .ge 73, 3) := by decide +kernel
theorem dX12_claims_153 : decode cX12_claims 153 = .ok (.iload 5, 2) := by decide +kernel
theorem dX12_claims_155 : decode cX12_claims 155 = .ok (.invokestatic 372, 3) := by decide +kernel
theorem dX12_claims_158 : decode cX12_claims 158 = .ok (.iload_n 3, 1) := by decide +kernel
theorem dX12_claims_159 : decode cX12_claims 159 = .ok (.invokestatic 372, 3) := by decide +kernel
theorem dX12_claims_162 : decode cX12_claims 162 = .ok (.if_icmp .le 55, 3) := by decide +kernel
theorem dX12_claims_165 : decode cX12_claims 165 = .ok (.aload_n 0, 1) := by decide +kernel
theorem dX12_claims_166 : decode cX12_claims 166 = .ok (.sipush 1000, 3) := by decide +kernel
theorem dX12_claims_169 : decode cX12_claims 169 = .ok (.putfield 377, 3) := by decide +kernel
theorem dX12_claims_172 : decode cX12_claims 172 = .ok (.aload_n 0, 1) := by decide +kernel
theorem dX12_claims_173 : decode cX12_claims 173 = .ok (.iload 5, 2) := by decide +kernel
theorem dX12_claims_175 : decode cX12_claims 175 = .ok (.iconst 0, 1) := by decide +kernel
theorem dX12_claims_176 : decode cX12_claims 176 = .ok (.invokevirtual 447, 3) := by decide +kernel
theorem dX12_claims_179 : decode cX12_claims 179 = .ok (.aload_n 0, 1) := by decide +kernel
theorem dX12_claims_180 : decode cX12_claims 180 = .ok (.getfield 377, 3) := by decide +kernel
theorem dX12_claims_183 : decode cX12_claims 183 = .ok (.sipush 1000, 3) := by decide +kernel
theorem dX12_claims_186 : decode cX12_claims 186 = .ok (.if_icmp .ge 10, 3) := by decide +kernel
theorem dX12_claims_189 : decode cX12_claims 189 = .ok (.aload_n 0, 1) := by decide +kernel
theorem dX12_claims_190 : decode cX12_claims 190 = .ok (.getfield 377, 3) := by decide +kernel
theorem dX12_claims_193 : decode cX12_claims 193 = .ok (.goto 5, 3) := by decide +kernel
theorem dX12_claims_196 : decode cX12_claims 196 = .ok (.iload 4, 2) := by decide +kernel
theorem dX12_claims_198 : decode cX12_claims 198 = .ok (.istore 4, 2) := by decide +kernel
theorem dX12_claims_200 : decode cX12_claims 200 = .ok (.aload_n 0, 1) := by decide +kernel
theorem dX12_claims_201 : decode cX12_claims 201 = .ok (.getfield 377, 3) := by decide +kernel
theorem dX12_claims_204 : decode cX12_claims 204 = .ok (.sipush 1000, 3) := by decide +kernel
theorem dX12_claims_207 : decode cX12_claims 207 = .ok (.if_icmp .ge 8, 3) := by decide +kernel
theorem dX12_claims_210 : decode cX12_claims 210 = .ok (.iload 5, 2) := by decide +kernel
theorem dX12_claims_212 : decode cX12_claims 212 = .ok (.goto 4, 3) := by decide +kernel
theorem dX12_claims_215 : decode cX12_claims 215 = .ok (.iload_n 3, 1) := by decide +kernel
theorem dX12_claims_216 : decode cX12_claims 216 = .ok (.istore_n 3, 1) := by decide +kernel
theorem dX12_claims_217 : decode cX12_claims 217 = .ok (.iinc 5 1, 3) := by decide +kernel
theorem dX12_claims_220 : decode cX12_claims 220 = .ok (.goto (-75), 3) := by decide +kernel
theorem dX12_claims_223 : decode cX12_claims 223 = .ok (.aload_n 0, 1) := by decide +kernel
theorem dX12_claims_224 : decode cX12_claims 224 = .ok (.iconst 0, 1) := by decide +kernel
theorem dX12_claims_225 : decode cX12_claims 225 = .ok (.putfield 155, 3) := by decide +kernel
theorem dX12_claims_228 : decode cX12_claims 228 = .ok (.aload_n 0, 1) := by decide +kernel
theorem dX12_claims_229 : decode cX12_claims 229 = .ok (.iload_n 3, 1) := by decide +kernel
theorem dX12_claims_230 : decode cX12_claims 230 = .ok (.invokestatic 372, 3) := by decide +kernel
theorem dX12_claims_233 : decode cX12_claims 233 = .ok (.i2l, 1) := by decide +kernel
theorem dX12_claims_234 : decode cX12_claims 234 = .ok (.invokevirtual 368, 3) := by decide +kernel
theorem dX12_claims_237 : decode cX12_claims 237 = .ok (.aload_n 0, 1) := by decide +kernel
theorem dX12_claims_238 : decode cX12_claims 238 = .ok (.iload 4, 2) := by decide +kernel
theorem dX12_claims_240 : decode cX12_claims 240 = .ok (.i2l, 1) := by decide +kernel
theorem dX12_claims_241 : decode cX12_claims 241 = .ok (.invokevirtual 368, 3) := by decide +kernel
theorem dX12_claims_244 : decode cX12_claims 244 = .ok (.iload_n 3, 1) := by decide +kernel
theorem dX12_claims_245 : decode cX12_claims 245 = .ok (.ireturn, 1) := by decide +kernel
def xX12_claims_223 (s_X12_begins : zq_Sp) (s_X12_letter : zq_Sp) (s_X12_number : zq_Sp) (s_X12_takes : zq_Sp) (s_X12_laysTable : zq_Sp) (s_J6_bitCount_0f7a4 : zq_Sp) (s_X12_meets : zq_Sp) (s_X12_enters : zq_Sp) (J16 : zq_P) (J145 : zq_P) (Q : zq_Q) (ls : zq_L) (st : List Value) (h : zq_H) : Prop := (zi_aload 0 (zi_push (.int 0) (zi_putI 56 1 (zi_aload 0 (zi_iload 3 (zi_callS 1 s_J6_bitCount_0f7a4 (zi_i2l (zi_callV 1 56 s_X12_enters (zi_aload 0 (zi_iload 4 (zi_i2l (zi_callV 1 56 s_X12_enters (zi_iload 3 (zi_iret Q)))))))))))))) ls st h
theorem kX12_claims_223 {X : zq_X} {d : Nat} (C : zq_C X cX12_claims 6 RX12 d) (hd1 : 1 ≤ d) {d_X12_begins : Nat} {s_X12_begins : zq_Sp} (h_X12_begins : zq_M yX12_begins cX12_begins 3 (some .int) 1 d_X12_begins s_X12_begins) (g_X12_begins : d_X12_begins + 1 ≤ d) {d_X12_letter : Nat} {s_X12_letter : zq_Sp} (h_X12_letter : zq_M yX12_letter cX12_letter 2 (some .int) 1 d_X12_letter s_X12_letter) (g_X12_letter : d_X12_letter + 1 ≤ d) {d_X12_number : Nat} {s_X12_number : zq_Sp} (h_X12_number : zq_M yX12_number cX12_number 4 (some .int) 1 d_X12_number s_X12_number) (g_X12_number : d_X12_number + 1 ≤ d) {d_X12_takes : Nat} {s_X12_takes : zq_Sp} (h_X12_takes : zq_M yX12_takes cX12_takes 3 (some .boolean) 1 d_X12_takes s_X12_takes) (g_X12_takes : d_X12_takes + 1 ≤ d) {d_X12_laysTable : Nat} {s_X12_laysTable : zq_Sp} (h_X12_laysTable : zq_M yX12_laysTable cX12_laysTable 3 none 0 d_X12_laysTable s_X12_laysTable) (g_X12_laysTable : d_X12_laysTable + 1 ≤ d) {d_J6_bitCount_0f7a4 : Nat} {s_J6_bitCount_0f7a4 : zq_Sp} (h_J6_bitCount_0f7a4 : zq_M yJ6_bitCount_0f7a4 cJ6_bitCount_0f7a4 1 (some .int) 1 d_J6_bitCount_0f7a4 s_J6_bitCount_0f7a4) (g_J6_bitCount_0f7a4 : d_J6_bitCount_0f7a4 + 1 ≤ d) {d_X12_meets : Nat} {s_X12_meets : zq_Sp} (h_X12_meets : zq_M yX12_meets cX12_meets 6 none 0 d_X12_meets s_X12_meets) (g_X12_meets : d_X12_meets + 1 ≤ d) {d_X12_enters : Nat} {s_X12_enters : zq_Sp} (h_X12_enters : zq_M yX12_enters cX12_enters 3 none 0 d_X12_enters s_X12_enters) (g_X12_enters : d_X12_enters + 1 ≤ d) {J16 : zq_P} (j16 : zq_ok X 6 16 J16) {J145 : zq_P} (j145 : zq_ok X 6 145 J145) {Q : zq_Q} (hq : zq_R X (some .int) 1 Q) : zq_ok X 6 223 (xX12_claims_223 s_X12_begins s_X12_letter s_X12_number s_X12_takes s_X12_laysTable s_J6_bitCount_0f7a4 s_X12_meets s_X12_enters J16 J145 Q) := by
  refine zs_aload_n C dX12_claims_223 rfl ?_
  refine zs_iconst C dX12_claims_224 (by decide) ?_
  refine zs_putI C zp_56 zF12 (j := 1) ⟨by decide, rfl⟩ ⟨rfl, by decide +kernel⟩ zw_1097 dX12_claims_225 ?_
  refine zs_aload_n C dX12_claims_228 rfl ?_
  refine zs_iload_n C dX12_claims_229 rfl ?_
  refine zs_callS C h_J6_bitCount_0f7a4 g_J6_bitCount_0f7a4 zy_J6_bitCount_0f7a4 zw_1590 zw_696 dX12_claims_230 ?_
  refine zs_i2l C dX12_claims_233 ?_
  refine zs_callV C h_X12_enters g_X12_enters zy_X12_enters zp_56 (show vwCl[12]? = some (RX12, TX12, 67) from rfl) zw_1574 zw_1576 zs9_X12_enters dX12_claims_234 ?_
  refine zs_aload_n C dX12_claims_237 rfl ?_
  refine zs_iload C dX12_claims_238 ?_
  refine zs_i2l C dX12_claims_240 ?_
  refine zs_callV C h_X12_enters g_X12_enters zy_X12_enters zp_56 (show vwCl[12]? = some (RX12, TX12, 67) from rfl) zw_1574 zw_1576 zs9_X12_enters dX12_claims_241 ?_
  refine zs_iload_n C dX12_claims_244 rfl ?_
  exact zs_iret C hq dX12_claims_245
def xX12_claims_217 (s_X12_begins : zq_Sp) (s_X12_letter : zq_Sp) (s_X12_number : zq_Sp) (s_X12_takes : zq_Sp) (s_X12_laysTable : zq_Sp) (s_J6_bitCount_0f7a4 : zq_Sp) (s_X12_meets : zq_Sp) (s_X12_enters : zq_Sp) (J16 : zq_P) (J145 : zq_P) (Q : zq_Q) (ls : zq_L) (st : List Value) (h : zq_H) : Prop := (zi_iinc 5 1 (J145)) ls st h
theorem kX12_claims_217 {X : zq_X} {d : Nat} (C : zq_C X cX12_claims 6 RX12 d) (hd1 : 1 ≤ d) {d_X12_begins : Nat} {s_X12_begins : zq_Sp} (h_X12_begins : zq_M yX12_begins cX12_begins 3 (some .int) 1 d_X12_begins s_X12_begins) (g_X12_begins : d_X12_begins + 1 ≤ d) {d_X12_letter : Nat} {s_X12_letter : zq_Sp} (h_X12_letter : zq_M yX12_letter cX12_letter 2 (some .int) 1 d_X12_letter s_X12_letter) (g_X12_letter : d_X12_letter + 1 ≤ d) {d_X12_number : Nat} {s_X12_number : zq_Sp} (h_X12_number : zq_M yX12_number cX12_number 4 (some .int) 1 d_X12_number s_X12_number) (g_X12_number : d_X12_number + 1 ≤ d) {d_X12_takes : Nat} {s_X12_takes : zq_Sp} (h_X12_takes : zq_M yX12_takes cX12_takes 3 (some .boolean) 1 d_X12_takes s_X12_takes) (g_X12_takes : d_X12_takes + 1 ≤ d) {d_X12_laysTable : Nat} {s_X12_laysTable : zq_Sp} (h_X12_laysTable : zq_M yX12_laysTable cX12_laysTable 3 none 0 d_X12_laysTable s_X12_laysTable) (g_X12_laysTable : d_X12_laysTable + 1 ≤ d) {d_J6_bitCount_0f7a4 : Nat} {s_J6_bitCount_0f7a4 : zq_Sp} (h_J6_bitCount_0f7a4 : zq_M yJ6_bitCount_0f7a4 cJ6_bitCount_0f7a4 1 (some .int) 1 d_J6_bitCount_0f7a4 s_J6_bitCount_0f7a4) (g_J6_bitCount_0f7a4 : d_J6_bitCount_0f7a4 + 1 ≤ d) {d_X12_meets : Nat} {s_X12_meets : zq_Sp} (h_X12_meets : zq_M yX12_meets cX12_meets 6 none 0 d_X12_meets s_X12_meets) (g_X12_meets : d_X12_meets + 1 ≤ d) {d_X12_enters : Nat} {s_X12_enters : zq_Sp} (h_X12_enters : zq_M yX12_enters cX12_enters 3 none 0 d_X12_enters s_X12_enters) (g_X12_enters : d_X12_enters + 1 ≤ d) {J16 : zq_P} (j16 : zq_ok X 6 16 J16) {J145 : zq_P} (j145 : zq_ok X 6 145 J145) {Q : zq_Q} (hq : zq_R X (some .int) 1 Q) : zq_ok X 6 217 (xX12_claims_217 s_X12_begins s_X12_letter s_X12_number s_X12_takes s_X12_laysTable s_J6_bitCount_0f7a4 s_X12_meets s_X12_enters J16 J145 Q) := by
  refine zs_iinc C dX12_claims_217 (by decide) (by decide) ?_
  exact zs_goto C dX12_claims_220 (by decide) (j145)
def xX12_claims_216 (s_X12_begins : zq_Sp) (s_X12_letter : zq_Sp) (s_X12_number : zq_Sp) (s_X12_takes : zq_Sp) (s_X12_laysTable : zq_Sp) (s_J6_bitCount_0f7a4 : zq_Sp) (s_X12_meets : zq_Sp) (s_X12_enters : zq_Sp) (J16 : zq_P) (J145 : zq_P) (Q : zq_Q) (ls : zq_L) (st : List Value) (h : zq_H) : Prop := (zi_istore 3 ((xX12_claims_217 s_X12_begins s_X12_letter s_X12_number s_X12_takes s_X12_laysTable s_J6_bitCount_0f7a4 s_X12_meets s_X12_enters J16 J145 Q))) ls st h
theorem kX12_claims_216 {X : zq_X} {d : Nat} (C : zq_C X cX12_claims 6 RX12 d) (hd1 : 1 ≤ d) {d_X12_begins : Nat} {s_X12_begins : zq_Sp} (h_X12_begins : zq_M yX12_begins cX12_begins 3 (some .int) 1 d_X12_begins s_X12_begins) (g_X12_begins : d_X12_begins + 1 ≤ d) {d_X12_letter : Nat} {s_X12_letter : zq_Sp} (h_X12_letter : zq_M yX12_letter cX12_letter 2 (some .int) 1 d_X12_letter s_X12_letter) (g_X12_letter : d_X12_letter + 1 ≤ d) {d_X12_number : Nat} {s_X12_number : zq_Sp} (h_X12_number : zq_M yX12_number cX12_number 4 (some .int) 1 d_X12_number s_X12_number) (g_X12_number : d_X12_number + 1 ≤ d) {d_X12_takes : Nat} {s_X12_takes : zq_Sp} (h_X12_takes : zq_M yX12_takes cX12_takes 3 (some .boolean) 1 d_X12_takes s_X12_takes) (g_X12_takes : d_X12_takes + 1 ≤ d) {d_X12_laysTable : Nat} {s_X12_laysTable : zq_Sp} (h_X12_laysTable : zq_M yX12_laysTable cX12_laysTable 3 none 0 d_X12_laysTable s_X12_laysTable) (g_X12_laysTable : d_X12_laysTable + 1 ≤ d) {d_J6_bitCount_0f7a4 : Nat} {s_J6_bitCount_0f7a4 : zq_Sp} (h_J6_bitCount_0f7a4 : zq_M yJ6_bitCount_0f7a4 cJ6_bitCount_0f7a4 1 (some .int) 1 d_J6_bitCount_0f7a4 s_J6_bitCount_0f7a4) (g_J6_bitCount_0f7a4 : d_J6_bitCount_0f7a4 + 1 ≤ d) {d_X12_meets : Nat} {s_X12_meets : zq_Sp} (h_X12_meets : zq_M yX12_meets cX12_meets 6 none 0 d_X12_meets s_X12_meets) (g_X12_meets : d_X12_meets + 1 ≤ d) {d_X12_enters : Nat} {s_X12_enters : zq_Sp} (h_X12_enters : zq_M yX12_enters cX12_enters 3 none 0 d_X12_enters s_X12_enters) (g_X12_enters : d_X12_enters + 1 ≤ d) {J16 : zq_P} (j16 : zq_ok X 6 16 J16) {J145 : zq_P} (j145 : zq_ok X 6 145 J145) {Q : zq_Q} (hq : zq_R X (some .int) 1 Q) : zq_ok X 6 216 (xX12_claims_216 s_X12_begins s_X12_letter s_X12_number s_X12_takes s_X12_laysTable s_J6_bitCount_0f7a4 s_X12_meets s_X12_enters J16 J145 Q) := by
  refine zs_istore_n C dX12_claims_216 rfl (by decide) ?_
  exact kX12_claims_217 C hd1 h_X12_begins g_X12_begins h_X12_letter g_X12_letter h_X12_number g_X12_number h_X12_takes g_X12_takes h_X12_laysTable g_X12_laysTable h_J6_bitCount_0f7a4 g_J6_bitCount_0f7a4 h_X12_meets g_X12_meets h_X12_enters g_X12_enters j16 j145 hq
def xX12_claims_215 (s_X12_begins : zq_Sp) (s_X12_letter : zq_Sp) (s_X12_number : zq_Sp) (s_X12_takes : zq_Sp) (s_X12_laysTable : zq_Sp) (s_J6_bitCount_0f7a4 : zq_Sp) (s_X12_meets : zq_Sp) (s_X12_enters : zq_Sp) (J16 : zq_P) (J145 : zq_P) (Q : zq_Q) (ls : zq_L) (st : List Value) (h : zq_H) : Prop := (zi_iload 3 ((xX12_claims_216 s_X12_begins s_X12_letter s_X12_number s_X12_takes s_X12_laysTable s_J6_bitCount_0f7a4 s_X12_meets s_X12_enters J16 J145 Q))) ls st h
theorem kX12_claims_215 {X : zq_X} {d : Nat} (C : zq_C X cX12_claims 6 RX12 d) (hd1 : 1 ≤ d) {d_X12_begins : Nat} {s_X12_begins : zq_Sp} (h_X12_begins : zq_M yX12_begins cX12_begins 3 (some .int) 1 d_X12_begins s_X12_begins) (g_X12_begins : d_X12_begins + 1 ≤ d) {d_X12_letter : Nat} {s_X12_letter : zq_Sp} (h_X12_letter : zq_M yX12_letter cX12_letter 2 (some .int) 1 d_X12_letter s_X12_letter) (g_X12_letter : d_X12_letter + 1 ≤ d) {d_X12_number : Nat} {s_X12_number : zq_Sp} (h_X12_number : zq_M yX12_number cX12_number 4 (some .int) 1 d_X12_number s_X12_number) (g_X12_number : d_X12_number + 1 ≤ d) {d_X12_takes : Nat} {s_X12_takes : zq_Sp} (h_X12_takes : zq_M yX12_takes cX12_takes 3 (some .boolean) 1 d_X12_takes s_X12_takes) (g_X12_takes : d_X12_takes + 1 ≤ d) {d_X12_laysTable : Nat} {s_X12_laysTable : zq_Sp} (h_X12_laysTable : zq_M yX12_laysTable cX12_laysTable 3 none 0 d_X12_laysTable s_X12_laysTable) (g_X12_laysTable : d_X12_laysTable + 1 ≤ d) {d_J6_bitCount_0f7a4 : Nat} {s_J6_bitCount_0f7a4 : zq_Sp} (h_J6_bitCount_0f7a4 : zq_M yJ6_bitCount_0f7a4 cJ6_bitCount_0f7a4 1 (some .int) 1 d_J6_bitCount_0f7a4 s_J6_bitCount_0f7a4) (g_J6_bitCount_0f7a4 : d_J6_bitCount_0f7a4 + 1 ≤ d) {d_X12_meets : Nat} {s_X12_meets : zq_Sp} (h_X12_meets : zq_M yX12_meets cX12_meets 6 none 0 d_X12_meets s_X12_meets) (g_X12_meets : d_X12_meets + 1 ≤ d) {d_X12_enters : Nat} {s_X12_enters : zq_Sp} (h_X12_enters : zq_M yX12_enters cX12_enters 3 none 0 d_X12_enters s_X12_enters) (g_X12_enters : d_X12_enters + 1 ≤ d) {J16 : zq_P} (j16 : zq_ok X 6 16 J16) {J145 : zq_P} (j145 : zq_ok X 6 145 J145) {Q : zq_Q} (hq : zq_R X (some .int) 1 Q) : zq_ok X 6 215 (xX12_claims_215 s_X12_begins s_X12_letter s_X12_number s_X12_takes s_X12_laysTable s_J6_bitCount_0f7a4 s_X12_meets s_X12_enters J16 J145 Q) := by
  refine zs_iload_n C dX12_claims_215 rfl ?_
  exact kX12_claims_216 C hd1 h_X12_begins g_X12_begins h_X12_letter g_X12_letter h_X12_number g_X12_number h_X12_takes g_X12_takes h_X12_laysTable g_X12_laysTable h_J6_bitCount_0f7a4 g_J6_bitCount_0f7a4 h_X12_meets g_X12_meets h_X12_enters g_X12_enters j16 j145 hq
def xX12_claims_210 (s_X12_begins : zq_Sp) (s_X12_letter : zq_Sp) (s_X12_number : zq_Sp) (s_X12_takes : zq_Sp) (s_X12_laysTable : zq_Sp) (s_J6_bitCount_0f7a4 : zq_Sp) (s_X12_meets : zq_Sp) (s_X12_enters : zq_Sp) (J16 : zq_P) (J145 : zq_P) (Q : zq_Q) (ls : zq_L) (st : List Value) (h : zq_H) : Prop := (zi_iload 5 ((xX12_claims_216 s_X12_begins s_X12_letter s_X12_number s_X12_takes s_X12_laysTable s_J6_bitCount_0f7a4 s_X12_meets s_X12_enters J16 J145 Q))) ls st h
theorem kX12_claims_210 {X : zq_X} {d : Nat} (C : zq_C X cX12_claims 6 RX12 d) (hd1 : 1 ≤ d) {d_X12_begins : Nat} {s_X12_begins : zq_Sp} (h_X12_begins : zq_M yX12_begins cX12_begins 3 (some .int) 1 d_X12_begins s_X12_begins) (g_X12_begins : d_X12_begins + 1 ≤ d) {d_X12_letter : Nat} {s_X12_letter : zq_Sp} (h_X12_letter : zq_M yX12_letter cX12_letter 2 (some .int) 1 d_X12_letter s_X12_letter) (g_X12_letter : d_X12_letter + 1 ≤ d) {d_X12_number : Nat} {s_X12_number : zq_Sp} (h_X12_number : zq_M yX12_number cX12_number 4 (some .int) 1 d_X12_number s_X12_number) (g_X12_number : d_X12_number + 1 ≤ d) {d_X12_takes : Nat} {s_X12_takes : zq_Sp} (h_X12_takes : zq_M yX12_takes cX12_takes 3 (some .boolean) 1 d_X12_takes s_X12_takes) (g_X12_takes : d_X12_takes + 1 ≤ d) {d_X12_laysTable : Nat} {s_X12_laysTable : zq_Sp} (h_X12_laysTable : zq_M yX12_laysTable cX12_laysTable 3 none 0 d_X12_laysTable s_X12_laysTable) (g_X12_laysTable : d_X12_laysTable + 1 ≤ d) {d_J6_bitCount_0f7a4 : Nat} {s_J6_bitCount_0f7a4 : zq_Sp} (h_J6_bitCount_0f7a4 : zq_M yJ6_bitCount_0f7a4 cJ6_bitCount_0f7a4 1 (some .int) 1 d_J6_bitCount_0f7a4 s_J6_bitCount_0f7a4) (g_J6_bitCount_0f7a4 : d_J6_bitCount_0f7a4 + 1 ≤ d) {d_X12_meets : Nat} {s_X12_meets : zq_Sp} (h_X12_meets : zq_M yX12_meets cX12_meets 6 none 0 d_X12_meets s_X12_meets) (g_X12_meets : d_X12_meets + 1 ≤ d) {d_X12_enters : Nat} {s_X12_enters : zq_Sp} (h_X12_enters : zq_M yX12_enters cX12_enters 3 none 0 d_X12_enters s_X12_enters) (g_X12_enters : d_X12_enters + 1 ≤ d) {J16 : zq_P} (j16 : zq_ok X 6 16 J16) {J145 : zq_P} (j145 : zq_ok X 6 145 J145) {Q : zq_Q} (hq : zq_R X (some .int) 1 Q) : zq_ok X 6 210 (xX12_claims_210 s_X12_begins s_X12_letter s_X12_number s_X12_takes s_X12_laysTable s_J6_bitCount_0f7a4 s_X12_meets s_X12_enters J16 J145 Q) := by
  refine zs_iload C dX12_claims_210 ?_
  exact zs_goto C dX12_claims_212 (by decide) (kX12_claims_216 C hd1 h_X12_begins g_X12_begins h_X12_letter g_X12_letter h_X12_number g_X12_number h_X12_takes g_X12_takes h_X12_laysTable g_X12_laysTable h_J6_bitCount_0f7a4 g_J6_bitCount_0f7a4 h_X12_meets g_X12_meets h_X12_enters g_X12_enters j16 j145 hq)
def xX12_claims_198 (s_X12_begins : zq_Sp) (s_X12_letter : zq_Sp) (s_X12_number : zq_Sp) (s_X12_takes : zq_Sp) (s_X12_laysTable : zq_Sp) (s_J6_bitCount_0f7a4 : zq_Sp) (s_X12_meets : zq_Sp) (s_X12_enters : zq_Sp) (J16 : zq_P) (J145 : zq_P) (Q : zq_Q) (ls : zq_L) (st : List Value) (h : zq_H) : Prop := (zi_istore 4 (zi_aload 0 (zi_getI 56 40 (zi_push (.int 1000) (zi_if2 (fun x y => y ≤ x) (xX12_claims_215 s_X12_begins s_X12_letter s_X12_number s_X12_takes s_X12_laysTable s_J6_bitCount_0f7a4 s_X12_meets s_X12_enters J16 J145 Q) (xX12_claims_210 s_X12_begins s_X12_letter s_X12_number s_X12_takes s_X12_laysTable s_J6_bitCount_0f7a4 s_X12_meets s_X12_enters J16 J145 Q)))))) ls st h
theorem kX12_claims_198 {X : zq_X} {d : Nat} (C : zq_C X cX12_claims 6 RX12 d) (hd1 : 1 ≤ d) {d_X12_begins : Nat} {s_X12_begins : zq_Sp} (h_X12_begins : zq_M yX12_begins cX12_begins 3 (some .int) 1 d_X12_begins s_X12_begins) (g_X12_begins : d_X12_begins + 1 ≤ d) {d_X12_letter : Nat} {s_X12_letter : zq_Sp} (h_X12_letter : zq_M yX12_letter cX12_letter 2 (some .int) 1 d_X12_letter s_X12_letter) (g_X12_letter : d_X12_letter + 1 ≤ d) {d_X12_number : Nat} {s_X12_number : zq_Sp} (h_X12_number : zq_M yX12_number cX12_number 4 (some .int) 1 d_X12_number s_X12_number) (g_X12_number : d_X12_number + 1 ≤ d) {d_X12_takes : Nat} {s_X12_takes : zq_Sp} (h_X12_takes : zq_M yX12_takes cX12_takes 3 (some .boolean) 1 d_X12_takes s_X12_takes) (g_X12_takes : d_X12_takes + 1 ≤ d) {d_X12_laysTable : Nat} {s_X12_laysTable : zq_Sp} (h_X12_laysTable : zq_M yX12_laysTable cX12_laysTable 3 none 0 d_X12_laysTable s_X12_laysTable) (g_X12_laysTable : d_X12_laysTable + 1 ≤ d) {d_J6_bitCount_0f7a4 : Nat} {s_J6_bitCount_0f7a4 : zq_Sp} (h_J6_bitCount_0f7a4 : zq_M yJ6_bitCount_0f7a4 cJ6_bitCount_0f7a4 1 (some .int) 1 d_J6_bitCount_0f7a4 s_J6_bitCount_0f7a4) (g_J6_bitCount_0f7a4 : d_J6_bitCount_0f7a4 + 1 ≤ d) {d_X12_meets : Nat} {s_X12_meets : zq_Sp} (h_X12_meets : zq_M yX12_meets cX12_meets 6 none 0 d_X12_meets s_X12_meets) (g_X12_meets : d_X12_meets + 1 ≤ d) {d_X12_enters : Nat} {s_X12_enters : zq_Sp} (h_X12_enters : zq_M yX12_enters cX12_enters 3 none 0 d_X12_enters s_X12_enters) (g_X12_enters : d_X12_enters + 1 ≤ d) {J16 : zq_P} (j16 : zq_ok X 6 16 J16) {J145 : zq_P} (j145 : zq_ok X 6 145 J145) {Q : zq_Q} (hq : zq_R X (some .int) 1 Q) : zq_ok X 6 198 (xX12_claims_198 s_X12_begins s_X12_letter s_X12_number s_X12_takes s_X12_laysTable s_J6_bitCount_0f7a4 s_X12_meets s_X12_enters J16 J145 Q) := by
  refine zs_istore C dX12_claims_198 (by decide) ?_
  refine zs_aload_n C dX12_claims_200 rfl ?_
  refine zs_getI C zp_56 zF12 (j := 40) ⟨by decide, rfl⟩ zw_1136 dX12_claims_201 ?_
  refine zs_sipush C dX12_claims_204 (by decide) ?_
  exact zs_icmp_ge C dX12_claims_207 (by decide) (kX12_claims_215 C hd1 h_X12_begins g_X12_begins h_X12_letter g_X12_letter h_X12_number g_X12_number h_X12_takes g_X12_takes h_X12_laysTable g_X12_laysTable h_J6_bitCount_0f7a4 g_J6_bitCount_0f7a4 h_X12_meets g_X12_meets h_X12_enters g_X12_enters j16 j145 hq) (kX12_claims_210 C hd1 h_X12_begins g_X12_begins h_X12_letter g_X12_letter h_X12_number g_X12_number h_X12_takes g_X12_takes h_X12_laysTable g_X12_laysTable h_J6_bitCount_0f7a4 g_J6_bitCount_0f7a4 h_X12_meets g_X12_meets h_X12_enters g_X12_enters j16 j145 hq)
def xX12_claims_196 (s_X12_begins : zq_Sp) (s_X12_letter : zq_Sp) (s_X12_number : zq_Sp) (s_X12_takes : zq_Sp) (s_X12_laysTable : zq_Sp) (s_J6_bitCount_0f7a4 : zq_Sp) (s_X12_meets : zq_Sp) (s_X12_enters : zq_Sp) (J16 : zq_P) (J145 : zq_P) (Q : zq_Q) (ls : zq_L) (st : List Value) (h : zq_H) : Prop := (zi_iload 4 ((xX12_claims_198 s_X12_begins s_X12_letter s_X12_number s_X12_takes s_X12_laysTable s_J6_bitCount_0f7a4 s_X12_meets s_X12_enters J16 J145 Q))) ls st h
theorem kX12_claims_196 {X : zq_X} {d : Nat} (C : zq_C X cX12_claims 6 RX12 d) (hd1 : 1 ≤ d) {d_X12_begins : Nat} {s_X12_begins : zq_Sp} (h_X12_begins : zq_M yX12_begins cX12_begins 3 (some .int) 1 d_X12_begins s_X12_begins) (g_X12_begins : d_X12_begins + 1 ≤ d) {d_X12_letter : Nat} {s_X12_letter : zq_Sp} (h_X12_letter : zq_M yX12_letter cX12_letter 2 (some .int) 1 d_X12_letter s_X12_letter) (g_X12_letter : d_X12_letter + 1 ≤ d) {d_X12_number : Nat} {s_X12_number : zq_Sp} (h_X12_number : zq_M yX12_number cX12_number 4 (some .int) 1 d_X12_number s_X12_number) (g_X12_number : d_X12_number + 1 ≤ d) {d_X12_takes : Nat} {s_X12_takes : zq_Sp} (h_X12_takes : zq_M yX12_takes cX12_takes 3 (some .boolean) 1 d_X12_takes s_X12_takes) (g_X12_takes : d_X12_takes + 1 ≤ d) {d_X12_laysTable : Nat} {s_X12_laysTable : zq_Sp} (h_X12_laysTable : zq_M yX12_laysTable cX12_laysTable 3 none 0 d_X12_laysTable s_X12_laysTable) (g_X12_laysTable : d_X12_laysTable + 1 ≤ d) {d_J6_bitCount_0f7a4 : Nat} {s_J6_bitCount_0f7a4 : zq_Sp} (h_J6_bitCount_0f7a4 : zq_M yJ6_bitCount_0f7a4 cJ6_bitCount_0f7a4 1 (some .int) 1 d_J6_bitCount_0f7a4 s_J6_bitCount_0f7a4) (g_J6_bitCount_0f7a4 : d_J6_bitCount_0f7a4 + 1 ≤ d) {d_X12_meets : Nat} {s_X12_meets : zq_Sp} (h_X12_meets : zq_M yX12_meets cX12_meets 6 none 0 d_X12_meets s_X12_meets) (g_X12_meets : d_X12_meets + 1 ≤ d) {d_X12_enters : Nat} {s_X12_enters : zq_Sp} (h_X12_enters : zq_M yX12_enters cX12_enters 3 none 0 d_X12_enters s_X12_enters) (g_X12_enters : d_X12_enters + 1 ≤ d) {J16 : zq_P} (j16 : zq_ok X 6 16 J16) {J145 : zq_P} (j145 : zq_ok X 6 145 J145) {Q : zq_Q} (hq : zq_R X (some .int) 1 Q) : zq_ok X 6 196 (xX12_claims_196 s_X12_begins s_X12_letter s_X12_number s_X12_takes s_X12_laysTable s_J6_bitCount_0f7a4 s_X12_meets s_X12_enters J16 J145 Q) := by
  refine zs_iload C dX12_claims_196 ?_
  exact kX12_claims_198 C hd1 h_X12_begins g_X12_begins h_X12_letter g_X12_letter h_X12_number g_X12_number h_X12_takes g_X12_takes h_X12_laysTable g_X12_laysTable h_J6_bitCount_0f7a4 g_J6_bitCount_0f7a4 h_X12_meets g_X12_meets h_X12_enters g_X12_enters j16 j145 hq
def xX12_claims_189 (s_X12_begins : zq_Sp) (s_X12_letter : zq_Sp) (s_X12_number : zq_Sp) (s_X12_takes : zq_Sp) (s_X12_laysTable : zq_Sp) (s_J6_bitCount_0f7a4 : zq_Sp) (s_X12_meets : zq_Sp) (s_X12_enters : zq_Sp) (J16 : zq_P) (J145 : zq_P) (Q : zq_Q) (ls : zq_L) (st : List Value) (h : zq_H) : Prop := (zi_aload 0 (zi_getI 56 40 ((xX12_claims_198 s_X12_begins s_X12_letter s_X12_number s_X12_takes s_X12_laysTable s_J6_bitCount_0f7a4 s_X12_meets s_X12_enters J16 J145 Q)))) ls st h
theorem kX12_claims_189 {X : zq_X} {d : Nat} (C : zq_C X cX12_claims 6 RX12 d) (hd1 : 1 ≤ d) {d_X12_begins : Nat} {s_X12_begins : zq_Sp} (h_X12_begins : zq_M yX12_begins cX12_begins 3 (some .int) 1 d_X12_begins s_X12_begins) (g_X12_begins : d_X12_begins + 1 ≤ d) {d_X12_letter : Nat} {s_X12_letter : zq_Sp} (h_X12_letter : zq_M yX12_letter cX12_letter 2 (some .int) 1 d_X12_letter s_X12_letter) (g_X12_letter : d_X12_letter + 1 ≤ d) {d_X12_number : Nat} {s_X12_number : zq_Sp} (h_X12_number : zq_M yX12_number cX12_number 4 (some .int) 1 d_X12_number s_X12_number) (g_X12_number : d_X12_number + 1 ≤ d) {d_X12_takes : Nat} {s_X12_takes : zq_Sp} (h_X12_takes : zq_M yX12_takes cX12_takes 3 (some .boolean) 1 d_X12_takes s_X12_takes) (g_X12_takes : d_X12_takes + 1 ≤ d) {d_X12_laysTable : Nat} {s_X12_laysTable : zq_Sp} (h_X12_laysTable : zq_M yX12_laysTable cX12_laysTable 3 none 0 d_X12_laysTable s_X12_laysTable) (g_X12_laysTable : d_X12_laysTable + 1 ≤ d) {d_J6_bitCount_0f7a4 : Nat} {s_J6_bitCount_0f7a4 : zq_Sp} (h_J6_bitCount_0f7a4 : zq_M yJ6_bitCount_0f7a4 cJ6_bitCount_0f7a4 1 (some .int) 1 d_J6_bitCount_0f7a4 s_J6_bitCount_0f7a4) (g_J6_bitCount_0f7a4 : d_J6_bitCount_0f7a4 + 1 ≤ d) {d_X12_meets : Nat} {s_X12_meets : zq_Sp} (h_X12_meets : zq_M yX12_meets cX12_meets 6 none 0 d_X12_meets s_X12_meets) (g_X12_meets : d_X12_meets + 1 ≤ d) {d_X12_enters : Nat} {s_X12_enters : zq_Sp} (h_X12_enters : zq_M yX12_enters cX12_enters 3 none 0 d_X12_enters s_X12_enters) (g_X12_enters : d_X12_enters + 1 ≤ d) {J16 : zq_P} (j16 : zq_ok X 6 16 J16) {J145 : zq_P} (j145 : zq_ok X 6 145 J145) {Q : zq_Q} (hq : zq_R X (some .int) 1 Q) : zq_ok X 6 189 (xX12_claims_189 s_X12_begins s_X12_letter s_X12_number s_X12_takes s_X12_laysTable s_J6_bitCount_0f7a4 s_X12_meets s_X12_enters J16 J145 Q) := by
  refine zs_aload_n C dX12_claims_189 rfl ?_
  refine zs_getI C zp_56 zF12 (j := 40) ⟨by decide, rfl⟩ zw_1136 dX12_claims_190 ?_
  exact zs_goto C dX12_claims_193 (by decide) (kX12_claims_198 C hd1 h_X12_begins g_X12_begins h_X12_letter g_X12_letter h_X12_number g_X12_number h_X12_takes g_X12_takes h_X12_laysTable g_X12_laysTable h_J6_bitCount_0f7a4 g_J6_bitCount_0f7a4 h_X12_meets g_X12_meets h_X12_enters g_X12_enters j16 j145 hq)
def xX12_claims_165 (s_X12_begins : zq_Sp) (s_X12_letter : zq_Sp) (s_X12_number : zq_Sp) (s_X12_takes : zq_Sp) (s_X12_laysTable : zq_Sp) (s_J6_bitCount_0f7a4 : zq_Sp) (s_X12_meets : zq_Sp) (s_X12_enters : zq_Sp) (J16 : zq_P) (J145 : zq_P) (Q : zq_Q) (ls : zq_L) (st : List Value) (h : zq_H) : Prop := (zi_aload 0 (zi_push (.int 1000) (zi_putI 56 40 (zi_aload 0 (zi_iload 5 (zi_push (.int 0) (zi_callV 2 56 s_X12_meets (zi_aload 0 (zi_getI 56 40 (zi_push (.int 1000) (zi_if2 (fun x y => y ≤ x) (xX12_claims_196 s_X12_begins s_X12_letter s_X12_number s_X12_takes s_X12_laysTable s_J6_bitCount_0f7a4 s_X12_meets s_X12_enters J16 J145 Q) (xX12_claims_189 s_X12_begins s_X12_letter s_X12_number s_X12_takes s_X12_laysTable s_J6_bitCount_0f7a4 s_X12_meets s_X12_enters J16 J145 Q)))))))))))) ls st h
theorem kX12_claims_165 {X : zq_X} {d : Nat} (C : zq_C X cX12_claims 6 RX12 d) (hd1 : 1 ≤ d) {d_X12_begins : Nat} {s_X12_begins : zq_Sp} (h_X12_begins : zq_M yX12_begins cX12_begins 3 (some .int) 1 d_X12_begins s_X12_begins) (g_X12_begins : d_X12_begins + 1 ≤ d) {d_X12_letter : Nat} {s_X12_letter : zq_Sp} (h_X12_letter : zq_M yX12_letter cX12_letter 2 (some .int) 1 d_X12_letter s_X12_letter) (g_X12_letter : d_X12_letter + 1 ≤ d) {d_X12_number : Nat} {s_X12_number : zq_Sp} (h_X12_number : zq_M yX12_number cX12_number 4 (some .int) 1 d_X12_number s_X12_number) (g_X12_number : d_X12_number + 1 ≤ d) {d_X12_takes : Nat} {s_X12_takes : zq_Sp} (h_X12_takes : zq_M yX12_takes cX12_takes 3 (some .boolean) 1 d_X12_takes s_X12_takes) (g_X12_takes : d_X12_takes + 1 ≤ d) {d_X12_laysTable : Nat} {s_X12_laysTable : zq_Sp} (h_X12_laysTable : zq_M yX12_laysTable cX12_laysTable 3 none 0 d_X12_laysTable s_X12_laysTable) (g_X12_laysTable : d_X12_laysTable + 1 ≤ d) {d_J6_bitCount_0f7a4 : Nat} {s_J6_bitCount_0f7a4 : zq_Sp} (h_J6_bitCount_0f7a4 : zq_M yJ6_bitCount_0f7a4 cJ6_bitCount_0f7a4 1 (some .int) 1 d_J6_bitCount_0f7a4 s_J6_bitCount_0f7a4) (g_J6_bitCount_0f7a4 : d_J6_bitCount_0f7a4 + 1 ≤ d) {d_X12_meets : Nat} {s_X12_meets : zq_Sp} (h_X12_meets : zq_M yX12_meets cX12_meets 6 none 0 d_X12_meets s_X12_meets) (g_X12_meets : d_X12_meets + 1 ≤ d) {d_X12_enters : Nat} {s_X12_enters : zq_Sp} (h_X12_enters : zq_M yX12_enters cX12_enters 3 none 0 d_X12_enters s_X12_enters) (g_X12_enters : d_X12_enters + 1 ≤ d) {J16 : zq_P} (j16 : zq_ok X 6 16 J16) {J145 : zq_P} (j145 : zq_ok X 6 145 J145) {Q : zq_Q} (hq : zq_R X (some .int) 1 Q) : zq_ok X 6 165 (xX12_claims_165 s_X12_begins s_X12_letter s_X12_number s_X12_takes s_X12_laysTable s_J6_bitCount_0f7a4 s_X12_meets s_X12_enters J16 J145 Q) := by
  refine zs_aload_n C dX12_claims_165 rfl ?_
  refine zs_sipush C dX12_claims_166 (by decide) ?_
  refine zs_putI C zp_56 zF12 (j := 40) ⟨by decide, rfl⟩ ⟨rfl, by decide +kernel⟩ zw_1136 dX12_claims_169 ?_
  refine zs_aload_n C dX12_claims_172 rfl ?_
  refine zs_iload C dX12_claims_173 ?_
  refine zs_iconst C dX12_claims_175 (by decide) ?_
  refine zs_callV C h_X12_meets g_X12_meets zy_X12_meets zp_56 (show vwCl[12]? = some (RX12, TX12, 67) from rfl) zw_1724 zw_1726 zs9_X12_meets dX12_claims_176 ?_
  refine zs_aload_n C dX12_claims_179 rfl ?_
  refine zs_getI C zp_56 zF12 (j := 40) ⟨by decide, rfl⟩ zw_1136 dX12_claims_180 ?_
  refine zs_sipush C dX12_claims_183 (by decide) ?_
  exact zs_icmp_ge C dX12_claims_186 (by decide) (kX12_claims_196 C hd1 h_X12_begins g_X12_begins h_X12_letter g_X12_letter h_X12_number g_X12_number h_X12_takes g_X12_takes h_X12_laysTable g_X12_laysTable h_J6_bitCount_0f7a4 g_J6_bitCount_0f7a4 h_X12_meets g_X12_meets h_X12_enters g_X12_enters j16 j145 hq) (kX12_claims_189 C hd1 h_X12_begins g_X12_begins h_X12_letter g_X12_letter h_X12_number g_X12_number h_X12_takes g_X12_takes h_X12_laysTable g_X12_laysTable h_J6_bitCount_0f7a4 g_J6_bitCount_0f7a4 h_X12_meets g_X12_meets h_X12_enters g_X12_enters j16 j145 hq)
def xX12_claims_153 (s_X12_begins : zq_Sp) (s_X12_letter : zq_Sp) (s_X12_number : zq_Sp) (s_X12_takes : zq_Sp) (s_X12_laysTable : zq_Sp) (s_J6_bitCount_0f7a4 : zq_Sp) (s_X12_meets : zq_Sp) (s_X12_enters : zq_Sp) (J16 : zq_P) (J145 : zq_P) (Q : zq_Q) (ls : zq_L) (st : List Value) (h : zq_H) : Prop := (zi_iload 5 (zi_callS 1 s_J6_bitCount_0f7a4 (zi_iload 3 (zi_callS 1 s_J6_bitCount_0f7a4 (zi_if2 (fun x y => x ≤ y) (xX12_claims_217 s_X12_begins s_X12_letter s_X12_number s_X12_takes s_X12_laysTable s_J6_bitCount_0f7a4 s_X12_meets s_X12_enters J16 J145 Q) (xX12_claims_165 s_X12_begins s_X12_letter s_X12_number s_X12_takes s_X12_laysTable s_J6_bitCount_0f7a4 s_X12_meets s_X12_enters J16 J145 Q)))))) ls st h
theorem kX12_claims_153 {X : zq_X} {d : Nat} (C : zq_C X cX12_claims 6 RX12 d) (hd1 : 1 ≤ d) {d_X12_begins : Nat} {s_X12_begins : zq_Sp} (h_X12_begins : zq_M yX12_begins cX12_begins 3 (some .int) 1 d_X12_begins s_X12_begins) (g_X12_begins : d_X12_begins + 1 ≤ d) {d_X12_letter : Nat} {s_X12_letter : zq_Sp} (h_X12_letter : zq_M yX12_letter cX12_letter 2 (some .int) 1 d_X12_letter s_X12_letter) (g_X12_letter : d_X12_letter + 1 ≤ d) {d_X12_number : Nat} {s_X12_number : zq_Sp} (h_X12_number : zq_M yX12_number cX12_number 4 (some .int) 1 d_X12_number s_X12_number) (g_X12_number : d_X12_number + 1 ≤ d) {d_X12_takes : Nat} {s_X12_takes : zq_Sp} (h_X12_takes : zq_M yX12_takes cX12_takes 3 (some .boolean) 1 d_X12_takes s_X12_takes) (g_X12_takes : d_X12_takes + 1 ≤ d) {d_X12_laysTable : Nat} {s_X12_laysTable : zq_Sp} (h_X12_laysTable : zq_M yX12_laysTable cX12_laysTable 3 none 0 d_X12_laysTable s_X12_laysTable) (g_X12_laysTable : d_X12_laysTable + 1 ≤ d) {d_J6_bitCount_0f7a4 : Nat} {s_J6_bitCount_0f7a4 : zq_Sp} (h_J6_bitCount_0f7a4 : zq_M yJ6_bitCount_0f7a4 cJ6_bitCount_0f7a4 1 (some .int) 1 d_J6_bitCount_0f7a4 s_J6_bitCount_0f7a4) (g_J6_bitCount_0f7a4 : d_J6_bitCount_0f7a4 + 1 ≤ d) {d_X12_meets : Nat} {s_X12_meets : zq_Sp} (h_X12_meets : zq_M yX12_meets cX12_meets 6 none 0 d_X12_meets s_X12_meets) (g_X12_meets : d_X12_meets + 1 ≤ d) {d_X12_enters : Nat} {s_X12_enters : zq_Sp} (h_X12_enters : zq_M yX12_enters cX12_enters 3 none 0 d_X12_enters s_X12_enters) (g_X12_enters : d_X12_enters + 1 ≤ d) {J16 : zq_P} (j16 : zq_ok X 6 16 J16) {J145 : zq_P} (j145 : zq_ok X 6 145 J145) {Q : zq_Q} (hq : zq_R X (some .int) 1 Q) : zq_ok X 6 153 (xX12_claims_153 s_X12_begins s_X12_letter s_X12_number s_X12_takes s_X12_laysTable s_J6_bitCount_0f7a4 s_X12_meets s_X12_enters J16 J145 Q) := by
  refine zs_iload C dX12_claims_153 ?_
  refine zs_callS C h_J6_bitCount_0f7a4 g_J6_bitCount_0f7a4 zy_J6_bitCount_0f7a4 zw_1590 zw_696 dX12_claims_155 ?_
  refine zs_iload_n C dX12_claims_158 rfl ?_
  refine zs_callS C h_J6_bitCount_0f7a4 g_J6_bitCount_0f7a4 zy_J6_bitCount_0f7a4 zw_1590 zw_696 dX12_claims_159 ?_
  exact zs_icmp_le C dX12_claims_162 (by decide) (kX12_claims_217 C hd1 h_X12_begins g_X12_begins h_X12_letter g_X12_letter h_X12_number g_X12_number h_X12_takes g_X12_takes h_X12_laysTable g_X12_laysTable h_J6_bitCount_0f7a4 g_J6_bitCount_0f7a4 h_X12_meets g_X12_meets h_X12_enters g_X12_enters j16 j145 hq) (kX12_claims_165 C hd1 h_X12_begins g_X12_begins h_X12_letter g_X12_letter h_X12_number g_X12_number h_X12_takes g_X12_takes h_X12_laysTable g_X12_laysTable h_J6_bitCount_0f7a4 g_J6_bitCount_0f7a4 h_X12_meets g_X12_meets h_X12_enters g_X12_enters j16 j145 hq)
def xX12_claims_145 (s_X12_begins : zq_Sp) (s_X12_letter : zq_Sp) (s_X12_number : zq_Sp) (s_X12_takes : zq_Sp) (s_X12_laysTable : zq_Sp) (s_J6_bitCount_0f7a4 : zq_Sp) (s_X12_meets : zq_Sp) (s_X12_enters : zq_Sp) (J16 : zq_P) (J145 : zq_P) (Q : zq_Q) (ls : zq_L) (st : List Value) (h : zq_H) : Prop := (zi_iload 5 (zi_push (.int 1) (zi_iload 1 (zi_i2 zf_shl (zi_if2 (fun x y => y ≤ x) (xX12_claims_223 s_X12_begins s_X12_letter s_X12_number s_X12_takes s_X12_laysTable s_J6_bitCount_0f7a4 s_X12_meets s_X12_enters J16 J145 Q) (xX12_claims_153 s_X12_begins s_X12_letter s_X12_number s_X12_takes s_X12_laysTable s_J6_bitCount_0f7a4 s_X12_meets s_X12_enters J16 J145 Q)))))) ls st h
theorem kX12_claims_145 {X : zq_X} {d : Nat} (C : zq_C X cX12_claims 6 RX12 d) (hd1 : 1 ≤ d) {d_X12_begins : Nat} {s_X12_begins : zq_Sp} (h_X12_begins : zq_M yX12_begins cX12_begins 3 (some .int) 1 d_X12_begins s_X12_begins) (g_X12_begins : d_X12_begins + 1 ≤ d) {d_X12_letter : Nat} {s_X12_letter : zq_Sp} (h_X12_letter : zq_M yX12_letter cX12_letter 2 (some .int) 1 d_X12_letter s_X12_letter) (g_X12_letter : d_X12_letter + 1 ≤ d) {d_X12_number : Nat} {s_X12_number : zq_Sp} (h_X12_number : zq_M yX12_number cX12_number 4 (some .int) 1 d_X12_number s_X12_number) (g_X12_number : d_X12_number + 1 ≤ d) {d_X12_takes : Nat} {s_X12_takes : zq_Sp} (h_X12_takes : zq_M yX12_takes cX12_takes 3 (some .boolean) 1 d_X12_takes s_X12_takes) (g_X12_takes : d_X12_takes + 1 ≤ d) {d_X12_laysTable : Nat} {s_X12_laysTable : zq_Sp} (h_X12_laysTable : zq_M yX12_laysTable cX12_laysTable 3 none 0 d_X12_laysTable s_X12_laysTable) (g_X12_laysTable : d_X12_laysTable + 1 ≤ d) {d_J6_bitCount_0f7a4 : Nat} {s_J6_bitCount_0f7a4 : zq_Sp} (h_J6_bitCount_0f7a4 : zq_M yJ6_bitCount_0f7a4 cJ6_bitCount_0f7a4 1 (some .int) 1 d_J6_bitCount_0f7a4 s_J6_bitCount_0f7a4) (g_J6_bitCount_0f7a4 : d_J6_bitCount_0f7a4 + 1 ≤ d) {d_X12_meets : Nat} {s_X12_meets : zq_Sp} (h_X12_meets : zq_M yX12_meets cX12_meets 6 none 0 d_X12_meets s_X12_meets) (g_X12_meets : d_X12_meets + 1 ≤ d) {d_X12_enters : Nat} {s_X12_enters : zq_Sp} (h_X12_enters : zq_M yX12_enters cX12_enters 3 none 0 d_X12_enters s_X12_enters) (g_X12_enters : d_X12_enters + 1 ≤ d) {J16 : zq_P} (j16 : zq_ok X 6 16 J16) {J145 : zq_P} (j145 : zq_ok X 6 145 J145) {Q : zq_Q} (hq : zq_R X (some .int) 1 Q) : zq_ok X 6 145 (xX12_claims_145 s_X12_begins s_X12_letter s_X12_number s_X12_takes s_X12_laysTable s_J6_bitCount_0f7a4 s_X12_meets s_X12_enters J16 J145 Q) := by
  refine zs_iload C dX12_claims_145 ?_
  refine zs_iconst C dX12_claims_147 (by decide) ?_
  refine zs_iload_n C dX12_claims_148 rfl ?_
  refine zs_ishl C dX12_claims_149 ?_
  exact zs_icmp_ge C dX12_claims_150 (by decide) (kX12_claims_223 C hd1 h_X12_begins g_X12_begins h_X12_letter g_X12_letter h_X12_number g_X12_number h_X12_takes g_X12_takes h_X12_laysTable g_X12_laysTable h_J6_bitCount_0f7a4 g_J6_bitCount_0f7a4 h_X12_meets g_X12_meets h_X12_enters g_X12_enters j16 j145 hq) (kX12_claims_153 C hd1 h_X12_begins g_X12_begins h_X12_letter g_X12_letter h_X12_number g_X12_number h_X12_takes g_X12_takes h_X12_laysTable g_X12_laysTable h_J6_bitCount_0f7a4 g_J6_bitCount_0f7a4 h_X12_meets g_X12_meets h_X12_enters g_X12_enters j16 j145 hq)
def xX12_claims_133 (s_X12_begins : zq_Sp) (s_X12_letter : zq_Sp) (s_X12_number : zq_Sp) (s_X12_takes : zq_Sp) (s_X12_laysTable : zq_Sp) (s_J6_bitCount_0f7a4 : zq_Sp) (s_X12_meets : zq_Sp) (s_X12_enters : zq_Sp) (J16 : zq_P) (J145 : zq_P) (Q : zq_Q) (ls : zq_L) (st : List Value) (h : zq_H) : Prop := (zi_aload 0 (zi_callV 0 56 s_X12_laysTable (zi_push (.int 0) (zi_istore 3 (zi_push (.int 0) (zi_istore 4 (zi_push (.int 1) (zi_istore 5 (J145))))))))) ls st h
theorem kX12_claims_133 {X : zq_X} {d : Nat} (C : zq_C X cX12_claims 6 RX12 d) (hd1 : 1 ≤ d) {d_X12_begins : Nat} {s_X12_begins : zq_Sp} (h_X12_begins : zq_M yX12_begins cX12_begins 3 (some .int) 1 d_X12_begins s_X12_begins) (g_X12_begins : d_X12_begins + 1 ≤ d) {d_X12_letter : Nat} {s_X12_letter : zq_Sp} (h_X12_letter : zq_M yX12_letter cX12_letter 2 (some .int) 1 d_X12_letter s_X12_letter) (g_X12_letter : d_X12_letter + 1 ≤ d) {d_X12_number : Nat} {s_X12_number : zq_Sp} (h_X12_number : zq_M yX12_number cX12_number 4 (some .int) 1 d_X12_number s_X12_number) (g_X12_number : d_X12_number + 1 ≤ d) {d_X12_takes : Nat} {s_X12_takes : zq_Sp} (h_X12_takes : zq_M yX12_takes cX12_takes 3 (some .boolean) 1 d_X12_takes s_X12_takes) (g_X12_takes : d_X12_takes + 1 ≤ d) {d_X12_laysTable : Nat} {s_X12_laysTable : zq_Sp} (h_X12_laysTable : zq_M yX12_laysTable cX12_laysTable 3 none 0 d_X12_laysTable s_X12_laysTable) (g_X12_laysTable : d_X12_laysTable + 1 ≤ d) {d_J6_bitCount_0f7a4 : Nat} {s_J6_bitCount_0f7a4 : zq_Sp} (h_J6_bitCount_0f7a4 : zq_M yJ6_bitCount_0f7a4 cJ6_bitCount_0f7a4 1 (some .int) 1 d_J6_bitCount_0f7a4 s_J6_bitCount_0f7a4) (g_J6_bitCount_0f7a4 : d_J6_bitCount_0f7a4 + 1 ≤ d) {d_X12_meets : Nat} {s_X12_meets : zq_Sp} (h_X12_meets : zq_M yX12_meets cX12_meets 6 none 0 d_X12_meets s_X12_meets) (g_X12_meets : d_X12_meets + 1 ≤ d) {d_X12_enters : Nat} {s_X12_enters : zq_Sp} (h_X12_enters : zq_M yX12_enters cX12_enters 3 none 0 d_X12_enters s_X12_enters) (g_X12_enters : d_X12_enters + 1 ≤ d) {J16 : zq_P} (j16 : zq_ok X 6 16 J16) {J145 : zq_P} (j145 : zq_ok X 6 145 J145) {Q : zq_Q} (hq : zq_R X (some .int) 1 Q) : zq_ok X 6 133 (xX12_claims_133 s_X12_begins s_X12_letter s_X12_number s_X12_takes s_X12_laysTable s_J6_bitCount_0f7a4 s_X12_meets s_X12_enters J16 J145 Q) := by
  refine zs_aload_n C dX12_claims_133 rfl ?_
  refine zs_callV C h_X12_laysTable g_X12_laysTable zy_X12_laysTable zp_56 (show vwCl[12]? = some (RX12, TX12, 67) from rfl) zw_1471 zw_1473 zs9_X12_laysTable dX12_claims_134 ?_
  refine zs_iconst C dX12_claims_137 (by decide) ?_
  refine zs_istore_n C dX12_claims_138 rfl (by decide) ?_
  refine zs_iconst C dX12_claims_139 (by decide) ?_
  refine zs_istore C dX12_claims_140 (by decide) ?_
  refine zs_iconst C dX12_claims_142 (by decide) ?_
  refine zs_istore C dX12_claims_143 (by decide) ?_
  exact j145
def xX12_claims_126 (s_X12_begins : zq_Sp) (s_X12_letter : zq_Sp) (s_X12_number : zq_Sp) (s_X12_takes : zq_Sp) (s_X12_laysTable : zq_Sp) (s_J6_bitCount_0f7a4 : zq_Sp) (s_X12_meets : zq_Sp) (s_X12_enters : zq_Sp) (J16 : zq_P) (J145 : zq_P) (Q : zq_Q) (ls : zq_L) (st : List Value) (h : zq_H) : Prop := (zi_push (.int (-1)) (zi_aload 0 (zi_getI 56 14 (zi_i2 (fun x y => x - y) (zi_iret Q))))) ls st h
theorem kX12_claims_126 {X : zq_X} {d : Nat} (C : zq_C X cX12_claims 6 RX12 d) (hd1 : 1 ≤ d) {d_X12_begins : Nat} {s_X12_begins : zq_Sp} (h_X12_begins : zq_M yX12_begins cX12_begins 3 (some .int) 1 d_X12_begins s_X12_begins) (g_X12_begins : d_X12_begins + 1 ≤ d) {d_X12_letter : Nat} {s_X12_letter : zq_Sp} (h_X12_letter : zq_M yX12_letter cX12_letter 2 (some .int) 1 d_X12_letter s_X12_letter) (g_X12_letter : d_X12_letter + 1 ≤ d) {d_X12_number : Nat} {s_X12_number : zq_Sp} (h_X12_number : zq_M yX12_number cX12_number 4 (some .int) 1 d_X12_number s_X12_number) (g_X12_number : d_X12_number + 1 ≤ d) {d_X12_takes : Nat} {s_X12_takes : zq_Sp} (h_X12_takes : zq_M yX12_takes cX12_takes 3 (some .boolean) 1 d_X12_takes s_X12_takes) (g_X12_takes : d_X12_takes + 1 ≤ d) {d_X12_laysTable : Nat} {s_X12_laysTable : zq_Sp} (h_X12_laysTable : zq_M yX12_laysTable cX12_laysTable 3 none 0 d_X12_laysTable s_X12_laysTable) (g_X12_laysTable : d_X12_laysTable + 1 ≤ d) {d_J6_bitCount_0f7a4 : Nat} {s_J6_bitCount_0f7a4 : zq_Sp} (h_J6_bitCount_0f7a4 : zq_M yJ6_bitCount_0f7a4 cJ6_bitCount_0f7a4 1 (some .int) 1 d_J6_bitCount_0f7a4 s_J6_bitCount_0f7a4) (g_J6_bitCount_0f7a4 : d_J6_bitCount_0f7a4 + 1 ≤ d) {d_X12_meets : Nat} {s_X12_meets : zq_Sp} (h_X12_meets : zq_M yX12_meets cX12_meets 6 none 0 d_X12_meets s_X12_meets) (g_X12_meets : d_X12_meets + 1 ≤ d) {d_X12_enters : Nat} {s_X12_enters : zq_Sp} (h_X12_enters : zq_M yX12_enters cX12_enters 3 none 0 d_X12_enters s_X12_enters) (g_X12_enters : d_X12_enters + 1 ≤ d) {J16 : zq_P} (j16 : zq_ok X 6 16 J16) {J145 : zq_P} (j145 : zq_ok X 6 145 J145) {Q : zq_Q} (hq : zq_R X (some .int) 1 Q) : zq_ok X 6 126 (xX12_claims_126 s_X12_begins s_X12_letter s_X12_number s_X12_takes s_X12_laysTable s_J6_bitCount_0f7a4 s_X12_meets s_X12_enters J16 J145 Q) := by
  refine zs_iconst C dX12_claims_126 (by decide) ?_
  refine zs_aload_n C dX12_claims_127 rfl ?_
  refine zs_getI C zp_56 zF12 (j := 14) ⟨by decide, rfl⟩ zw_1110 dX12_claims_128 ?_
  refine zs_isub C dX12_claims_131 ?_
  exact zs_iret C hq dX12_claims_132
def xX12_claims_115 (s_X12_begins : zq_Sp) (s_X12_letter : zq_Sp) (s_X12_number : zq_Sp) (s_X12_takes : zq_Sp) (s_X12_laysTable : zq_Sp) (s_J6_bitCount_0f7a4 : zq_Sp) (s_X12_meets : zq_Sp) (s_X12_enters : zq_Sp) (J16 : zq_P) (J145 : zq_P) (Q : zq_Q) (ls : zq_L) (st : List Value) (h : zq_H) : Prop := (zi_aload 0 (zi_getI 56 14 (zi_aload 0 (zi_getI 56 15 (zi_if2 (fun x y => y ≤ x) (xX12_claims_133 s_X12_begins s_X12_letter s_X12_number s_X12_takes s_X12_laysTable s_J6_bitCount_0f7a4 s_X12_meets s_X12_enters J16 J145 Q) (xX12_claims_126 s_X12_begins s_X12_letter s_X12_number s_X12_takes s_X12_laysTable s_J6_bitCount_0f7a4 s_X12_meets s_X12_enters J16 J145 Q)))))) ls st h
theorem kX12_claims_115 {X : zq_X} {d : Nat} (C : zq_C X cX12_claims 6 RX12 d) (hd1 : 1 ≤ d) {d_X12_begins : Nat} {s_X12_begins : zq_Sp} (h_X12_begins : zq_M yX12_begins cX12_begins 3 (some .int) 1 d_X12_begins s_X12_begins) (g_X12_begins : d_X12_begins + 1 ≤ d) {d_X12_letter : Nat} {s_X12_letter : zq_Sp} (h_X12_letter : zq_M yX12_letter cX12_letter 2 (some .int) 1 d_X12_letter s_X12_letter) (g_X12_letter : d_X12_letter + 1 ≤ d) {d_X12_number : Nat} {s_X12_number : zq_Sp} (h_X12_number : zq_M yX12_number cX12_number 4 (some .int) 1 d_X12_number s_X12_number) (g_X12_number : d_X12_number + 1 ≤ d) {d_X12_takes : Nat} {s_X12_takes : zq_Sp} (h_X12_takes : zq_M yX12_takes cX12_takes 3 (some .boolean) 1 d_X12_takes s_X12_takes) (g_X12_takes : d_X12_takes + 1 ≤ d) {d_X12_laysTable : Nat} {s_X12_laysTable : zq_Sp} (h_X12_laysTable : zq_M yX12_laysTable cX12_laysTable 3 none 0 d_X12_laysTable s_X12_laysTable) (g_X12_laysTable : d_X12_laysTable + 1 ≤ d) {d_J6_bitCount_0f7a4 : Nat} {s_J6_bitCount_0f7a4 : zq_Sp} (h_J6_bitCount_0f7a4 : zq_M yJ6_bitCount_0f7a4 cJ6_bitCount_0f7a4 1 (some .int) 1 d_J6_bitCount_0f7a4 s_J6_bitCount_0f7a4) (g_J6_bitCount_0f7a4 : d_J6_bitCount_0f7a4 + 1 ≤ d) {d_X12_meets : Nat} {s_X12_meets : zq_Sp} (h_X12_meets : zq_M yX12_meets cX12_meets 6 none 0 d_X12_meets s_X12_meets) (g_X12_meets : d_X12_meets + 1 ≤ d) {d_X12_enters : Nat} {s_X12_enters : zq_Sp} (h_X12_enters : zq_M yX12_enters cX12_enters 3 none 0 d_X12_enters s_X12_enters) (g_X12_enters : d_X12_enters + 1 ≤ d) {J16 : zq_P} (j16 : zq_ok X 6 16 J16) {J145 : zq_P} (j145 : zq_ok X 6 145 J145) {Q : zq_Q} (hq : zq_R X (some .int) 1 Q) : zq_ok X 6 115 (xX12_claims_115 s_X12_begins s_X12_letter s_X12_number s_X12_takes s_X12_laysTable s_J6_bitCount_0f7a4 s_X12_meets s_X12_enters J16 J145 Q) := by
  refine zs_aload_n C dX12_claims_115 rfl ?_
  refine zs_getI C zp_56 zF12 (j := 14) ⟨by decide, rfl⟩ zw_1110 dX12_claims_116 ?_
  refine zs_aload_n C dX12_claims_119 rfl ?_
  refine zs_getI C zp_56 zF12 (j := 15) ⟨by decide, rfl⟩ zw_1111 dX12_claims_120 ?_
  exact zs_icmp_ge C dX12_claims_123 (by decide) (kX12_claims_133 C hd1 h_X12_begins g_X12_begins h_X12_letter g_X12_letter h_X12_number g_X12_number h_X12_takes g_X12_takes h_X12_laysTable g_X12_laysTable h_J6_bitCount_0f7a4 g_J6_bitCount_0f7a4 h_X12_meets g_X12_meets h_X12_enters g_X12_enters j16 j145 hq) (kX12_claims_126 C hd1 h_X12_begins g_X12_begins h_X12_letter g_X12_letter h_X12_number g_X12_number h_X12_takes g_X12_takes h_X12_laysTable g_X12_laysTable h_J6_bitCount_0f7a4 g_J6_bitCount_0f7a4 h_X12_meets g_X12_meets h_X12_enters g_X12_enters j16 j145 hq)
def xX12_claims_102 (s_X12_begins : zq_Sp) (s_X12_letter : zq_Sp) (s_X12_number : zq_Sp) (s_X12_takes : zq_Sp) (s_X12_laysTable : zq_Sp) (s_J6_bitCount_0f7a4 : zq_Sp) (s_X12_meets : zq_Sp) (s_X12_enters : zq_Sp) (J16 : zq_P) (J145 : zq_P) (Q : zq_Q) (ls : zq_L) (st : List Value) (h : zq_H) : Prop := (zi_iinc 1 1 (zi_aload 0 (zi_push (.int 44) (zi_callV 1 56 s_X12_takes (zi_istore 2 (J16)))))) ls st h
theorem kX12_claims_102 {X : zq_X} {d : Nat} (C : zq_C X cX12_claims 6 RX12 d) (hd1 : 1 ≤ d) {d_X12_begins : Nat} {s_X12_begins : zq_Sp} (h_X12_begins : zq_M yX12_begins cX12_begins 3 (some .int) 1 d_X12_begins s_X12_begins) (g_X12_begins : d_X12_begins + 1 ≤ d) {d_X12_letter : Nat} {s_X12_letter : zq_Sp} (h_X12_letter : zq_M yX12_letter cX12_letter 2 (some .int) 1 d_X12_letter s_X12_letter) (g_X12_letter : d_X12_letter + 1 ≤ d) {d_X12_number : Nat} {s_X12_number : zq_Sp} (h_X12_number : zq_M yX12_number cX12_number 4 (some .int) 1 d_X12_number s_X12_number) (g_X12_number : d_X12_number + 1 ≤ d) {d_X12_takes : Nat} {s_X12_takes : zq_Sp} (h_X12_takes : zq_M yX12_takes cX12_takes 3 (some .boolean) 1 d_X12_takes s_X12_takes) (g_X12_takes : d_X12_takes + 1 ≤ d) {d_X12_laysTable : Nat} {s_X12_laysTable : zq_Sp} (h_X12_laysTable : zq_M yX12_laysTable cX12_laysTable 3 none 0 d_X12_laysTable s_X12_laysTable) (g_X12_laysTable : d_X12_laysTable + 1 ≤ d) {d_J6_bitCount_0f7a4 : Nat} {s_J6_bitCount_0f7a4 : zq_Sp} (h_J6_bitCount_0f7a4 : zq_M yJ6_bitCount_0f7a4 cJ6_bitCount_0f7a4 1 (some .int) 1 d_J6_bitCount_0f7a4 s_J6_bitCount_0f7a4) (g_J6_bitCount_0f7a4 : d_J6_bitCount_0f7a4 + 1 ≤ d) {d_X12_meets : Nat} {s_X12_meets : zq_Sp} (h_X12_meets : zq_M yX12_meets cX12_meets 6 none 0 d_X12_meets s_X12_meets) (g_X12_meets : d_X12_meets + 1 ≤ d) {d_X12_enters : Nat} {s_X12_enters : zq_Sp} (h_X12_enters : zq_M yX12_enters cX12_enters 3 none 0 d_X12_enters s_X12_enters) (g_X12_enters : d_X12_enters + 1 ≤ d) {J16 : zq_P} (j16 : zq_ok X 6 16 J16) {J145 : zq_P} (j145 : zq_ok X 6 145 J145) {Q : zq_Q} (hq : zq_R X (some .int) 1 Q) : zq_ok X 6 102 (xX12_claims_102 s_X12_begins s_X12_letter s_X12_number s_X12_takes s_X12_laysTable s_J6_bitCount_0f7a4 s_X12_meets s_X12_enters J16 J145 Q) := by
  refine zs_iinc C dX12_claims_102 (by decide) (by decide) ?_
  refine zs_aload_n C dX12_claims_105 rfl ?_
  refine zs_bipush C dX12_claims_106 (by decide) ?_
  refine zs_callV C h_X12_takes g_X12_takes zy_X12_takes zp_56 (show vwCl[12]? = some (RX12, TX12, 67) from rfl) zw_1384 zw_1386 zs9_X12_takes dX12_claims_108 ?_
  refine zs_istore_n C dX12_claims_111 rfl (by decide) ?_
  exact zs_goto C dX12_claims_112 (by decide) (j16)
def xX12_claims_95 (s_X12_begins : zq_Sp) (s_X12_letter : zq_Sp) (s_X12_number : zq_Sp) (s_X12_takes : zq_Sp) (s_X12_laysTable : zq_Sp) (s_J6_bitCount_0f7a4 : zq_Sp) (s_X12_meets : zq_Sp) (s_X12_enters : zq_Sp) (J16 : zq_P) (J145 : zq_P) (Q : zq_Q) (ls : zq_L) (st : List Value) (h : zq_H) : Prop := (zi_push (.int (-1)) (zi_aload 0 (zi_getI 56 14 (zi_i2 (fun x y => x - y) (zi_iret Q))))) ls st h
theorem kX12_claims_95 {X : zq_X} {d : Nat} (C : zq_C X cX12_claims 6 RX12 d) (hd1 : 1 ≤ d) {d_X12_begins : Nat} {s_X12_begins : zq_Sp} (h_X12_begins : zq_M yX12_begins cX12_begins 3 (some .int) 1 d_X12_begins s_X12_begins) (g_X12_begins : d_X12_begins + 1 ≤ d) {d_X12_letter : Nat} {s_X12_letter : zq_Sp} (h_X12_letter : zq_M yX12_letter cX12_letter 2 (some .int) 1 d_X12_letter s_X12_letter) (g_X12_letter : d_X12_letter + 1 ≤ d) {d_X12_number : Nat} {s_X12_number : zq_Sp} (h_X12_number : zq_M yX12_number cX12_number 4 (some .int) 1 d_X12_number s_X12_number) (g_X12_number : d_X12_number + 1 ≤ d) {d_X12_takes : Nat} {s_X12_takes : zq_Sp} (h_X12_takes : zq_M yX12_takes cX12_takes 3 (some .boolean) 1 d_X12_takes s_X12_takes) (g_X12_takes : d_X12_takes + 1 ≤ d) {d_X12_laysTable : Nat} {s_X12_laysTable : zq_Sp} (h_X12_laysTable : zq_M yX12_laysTable cX12_laysTable 3 none 0 d_X12_laysTable s_X12_laysTable) (g_X12_laysTable : d_X12_laysTable + 1 ≤ d) {d_J6_bitCount_0f7a4 : Nat} {s_J6_bitCount_0f7a4 : zq_Sp} (h_J6_bitCount_0f7a4 : zq_M yJ6_bitCount_0f7a4 cJ6_bitCount_0f7a4 1 (some .int) 1 d_J6_bitCount_0f7a4 s_J6_bitCount_0f7a4) (g_J6_bitCount_0f7a4 : d_J6_bitCount_0f7a4 + 1 ≤ d) {d_X12_meets : Nat} {s_X12_meets : zq_Sp} (h_X12_meets : zq_M yX12_meets cX12_meets 6 none 0 d_X12_meets s_X12_meets) (g_X12_meets : d_X12_meets + 1 ≤ d) {d_X12_enters : Nat} {s_X12_enters : zq_Sp} (h_X12_enters : zq_M yX12_enters cX12_enters 3 none 0 d_X12_enters s_X12_enters) (g_X12_enters : d_X12_enters + 1 ≤ d) {J16 : zq_P} (j16 : zq_ok X 6 16 J16) {J145 : zq_P} (j145 : zq_ok X 6 145 J145) {Q : zq_Q} (hq : zq_R X (some .int) 1 Q) : zq_ok X 6 95 (xX12_claims_95 s_X12_begins s_X12_letter s_X12_number s_X12_takes s_X12_laysTable s_J6_bitCount_0f7a4 s_X12_meets s_X12_enters J16 J145 Q) := by
  refine zs_iconst C dX12_claims_95 (by decide) ?_
  refine zs_aload_n C dX12_claims_96 rfl ?_
  refine zs_getI C zp_56 zF12 (j := 14) ⟨by decide, rfl⟩ zw_1110 dX12_claims_97 ?_
  refine zs_isub C dX12_claims_100 ?_
  exact zs_iret C hq dX12_claims_101
def xX12_claims_75 (s_X12_begins : zq_Sp) (s_X12_letter : zq_Sp) (s_X12_number : zq_Sp) (s_X12_takes : zq_Sp) (s_X12_laysTable : zq_Sp) (s_J6_bitCount_0f7a4 : zq_Sp) (s_X12_meets : zq_Sp) (s_X12_enters : zq_Sp) (J16 : zq_P) (J145 : zq_P) (Q : zq_Q) (ls : zq_L) (st : List Value) (h : zq_H) : Prop := (zi_aload 0 (zi_getR 56 97 (zi_iload 1 (zi_aload 0 (zi_push (.int 3) (zi_callV 1 56 s_X12_number (zi_astI 97 6 (zi_aload 0 (zi_getR 56 97 (zi_iload 1 (zi_aldI 97 6 (zi_if1 (fun x => 0 ≤ x) (xX12_claims_102 s_X12_begins s_X12_letter s_X12_number s_X12_takes s_X12_laysTable s_J6_bitCount_0f7a4 s_X12_meets s_X12_enters J16 J145 Q) (xX12_claims_95 s_X12_begins s_X12_letter s_X12_number s_X12_takes s_X12_laysTable s_J6_bitCount_0f7a4 s_X12_meets s_X12_enters J16 J145 Q))))))))))))) ls st h
theorem kX12_claims_75 {X : zq_X} {d : Nat} (C : zq_C X cX12_claims 6 RX12 d) (hd1 : 1 ≤ d) {d_X12_begins : Nat} {s_X12_begins : zq_Sp} (h_X12_begins : zq_M yX12_begins cX12_begins 3 (some .int) 1 d_X12_begins s_X12_begins) (g_X12_begins : d_X12_begins + 1 ≤ d) {d_X12_letter : Nat} {s_X12_letter : zq_Sp} (h_X12_letter : zq_M yX12_letter cX12_letter 2 (some .int) 1 d_X12_letter s_X12_letter) (g_X12_letter : d_X12_letter + 1 ≤ d) {d_X12_number : Nat} {s_X12_number : zq_Sp} (h_X12_number : zq_M yX12_number cX12_number 4 (some .int) 1 d_X12_number s_X12_number) (g_X12_number : d_X12_number + 1 ≤ d) {d_X12_takes : Nat} {s_X12_takes : zq_Sp} (h_X12_takes : zq_M yX12_takes cX12_takes 3 (some .boolean) 1 d_X12_takes s_X12_takes) (g_X12_takes : d_X12_takes + 1 ≤ d) {d_X12_laysTable : Nat} {s_X12_laysTable : zq_Sp} (h_X12_laysTable : zq_M yX12_laysTable cX12_laysTable 3 none 0 d_X12_laysTable s_X12_laysTable) (g_X12_laysTable : d_X12_laysTable + 1 ≤ d) {d_J6_bitCount_0f7a4 : Nat} {s_J6_bitCount_0f7a4 : zq_Sp} (h_J6_bitCount_0f7a4 : zq_M yJ6_bitCount_0f7a4 cJ6_bitCount_0f7a4 1 (some .int) 1 d_J6_bitCount_0f7a4 s_J6_bitCount_0f7a4) (g_J6_bitCount_0f7a4 : d_J6_bitCount_0f7a4 + 1 ≤ d) {d_X12_meets : Nat} {s_X12_meets : zq_Sp} (h_X12_meets : zq_M yX12_meets cX12_meets 6 none 0 d_X12_meets s_X12_meets) (g_X12_meets : d_X12_meets + 1 ≤ d) {d_X12_enters : Nat} {s_X12_enters : zq_Sp} (h_X12_enters : zq_M yX12_enters cX12_enters 3 none 0 d_X12_enters s_X12_enters) (g_X12_enters : d_X12_enters + 1 ≤ d) {J16 : zq_P} (j16 : zq_ok X 6 16 J16) {J145 : zq_P} (j145 : zq_ok X 6 145 J145) {Q : zq_Q} (hq : zq_R X (some .int) 1 Q) : zq_ok X 6 75 (xX12_claims_75 s_X12_begins s_X12_letter s_X12_number s_X12_takes s_X12_laysTable s_J6_bitCount_0f7a4 s_X12_meets s_X12_enters J16 J145 Q) := by
  refine zs_aload_n C dX12_claims_75 rfl ?_
  refine zs_getR C zp_56 zF12 (j := 60) ⟨by decide, rfl⟩ zw_1156 dX12_claims_76 ?_
  refine zs_iload_n C dX12_claims_79 rfl ?_
  refine zs_aload_n C dX12_claims_80 rfl ?_
  refine zs_iconst C dX12_claims_81 (by decide) ?_
  refine zs_callV C h_X12_number g_X12_number zy_X12_number zp_56 (show vwCl[12]? = some (RX12, TX12, 67) from rfl) zw_1400 zw_1402 zs9_X12_number dX12_claims_82 ?_
  refine zs_iastore C zp_97 dX12_claims_85 ?_
  refine zs_aload_n C dX12_claims_86 rfl ?_
  refine zs_getR C zp_56 zF12 (j := 60) ⟨by decide, rfl⟩ zw_1156 dX12_claims_87 ?_
  refine zs_iload_n C dX12_claims_90 rfl ?_
  refine zs_iaload C zp_97 dX12_claims_91 ?_
  exact zs_if_ge C dX12_claims_92 (by decide) (kX12_claims_102 C hd1 h_X12_begins g_X12_begins h_X12_letter g_X12_letter h_X12_number g_X12_number h_X12_takes g_X12_takes h_X12_laysTable g_X12_laysTable h_J6_bitCount_0f7a4 g_J6_bitCount_0f7a4 h_X12_meets g_X12_meets h_X12_enters g_X12_enters j16 j145 hq) (kX12_claims_95 C hd1 h_X12_begins g_X12_begins h_X12_letter g_X12_letter h_X12_number g_X12_number h_X12_takes g_X12_takes h_X12_laysTable g_X12_laysTable h_J6_bitCount_0f7a4 g_J6_bitCount_0f7a4 h_X12_meets g_X12_meets h_X12_enters g_X12_enters j16 j145 hq)
def xX12_claims_68 (s_X12_begins : zq_Sp) (s_X12_letter : zq_Sp) (s_X12_number : zq_Sp) (s_X12_takes : zq_Sp) (s_X12_laysTable : zq_Sp) (s_J6_bitCount_0f7a4 : zq_Sp) (s_X12_meets : zq_Sp) (s_X12_enters : zq_Sp) (J16 : zq_P) (J145 : zq_P) (Q : zq_Q) (ls : zq_L) (st : List Value) (h : zq_H) : Prop := (zi_push (.int (-1)) (zi_aload 0 (zi_getI 56 14 (zi_i2 (fun x y => x - y) (zi_iret Q))))) ls st h
theorem kX12_claims_68 {X : zq_X} {d : Nat} (C : zq_C X cX12_claims 6 RX12 d) (hd1 : 1 ≤ d) {d_X12_begins : Nat} {s_X12_begins : zq_Sp} (h_X12_begins : zq_M yX12_begins cX12_begins 3 (some .int) 1 d_X12_begins s_X12_begins) (g_X12_begins : d_X12_begins + 1 ≤ d) {d_X12_letter : Nat} {s_X12_letter : zq_Sp} (h_X12_letter : zq_M yX12_letter cX12_letter 2 (some .int) 1 d_X12_letter s_X12_letter) (g_X12_letter : d_X12_letter + 1 ≤ d) {d_X12_number : Nat} {s_X12_number : zq_Sp} (h_X12_number : zq_M yX12_number cX12_number 4 (some .int) 1 d_X12_number s_X12_number) (g_X12_number : d_X12_number + 1 ≤ d) {d_X12_takes : Nat} {s_X12_takes : zq_Sp} (h_X12_takes : zq_M yX12_takes cX12_takes 3 (some .boolean) 1 d_X12_takes s_X12_takes) (g_X12_takes : d_X12_takes + 1 ≤ d) {d_X12_laysTable : Nat} {s_X12_laysTable : zq_Sp} (h_X12_laysTable : zq_M yX12_laysTable cX12_laysTable 3 none 0 d_X12_laysTable s_X12_laysTable) (g_X12_laysTable : d_X12_laysTable + 1 ≤ d) {d_J6_bitCount_0f7a4 : Nat} {s_J6_bitCount_0f7a4 : zq_Sp} (h_J6_bitCount_0f7a4 : zq_M yJ6_bitCount_0f7a4 cJ6_bitCount_0f7a4 1 (some .int) 1 d_J6_bitCount_0f7a4 s_J6_bitCount_0f7a4) (g_J6_bitCount_0f7a4 : d_J6_bitCount_0f7a4 + 1 ≤ d) {d_X12_meets : Nat} {s_X12_meets : zq_Sp} (h_X12_meets : zq_M yX12_meets cX12_meets 6 none 0 d_X12_meets s_X12_meets) (g_X12_meets : d_X12_meets + 1 ≤ d) {d_X12_enters : Nat} {s_X12_enters : zq_Sp} (h_X12_enters : zq_M yX12_enters cX12_enters 3 none 0 d_X12_enters s_X12_enters) (g_X12_enters : d_X12_enters + 1 ≤ d) {J16 : zq_P} (j16 : zq_ok X 6 16 J16) {J145 : zq_P} (j145 : zq_ok X 6 145 J145) {Q : zq_Q} (hq : zq_R X (some .int) 1 Q) : zq_ok X 6 68 (xX12_claims_68 s_X12_begins s_X12_letter s_X12_number s_X12_takes s_X12_laysTable s_J6_bitCount_0f7a4 s_X12_meets s_X12_enters J16 J145 Q) := by
  refine zs_iconst C dX12_claims_68 (by decide) ?_
  refine zs_aload_n C dX12_claims_69 rfl ?_
  refine zs_getI C zp_56 zF12 (j := 14) ⟨by decide, rfl⟩ zw_1110 dX12_claims_70 ?_
  refine zs_isub C dX12_claims_73 ?_
  exact zs_iret C hq dX12_claims_74
def xX12_claims_59 (s_X12_begins : zq_Sp) (s_X12_letter : zq_Sp) (s_X12_number : zq_Sp) (s_X12_takes : zq_Sp) (s_X12_laysTable : zq_Sp) (s_J6_bitCount_0f7a4 : zq_Sp) (s_X12_meets : zq_Sp) (s_X12_enters : zq_Sp) (J16 : zq_P) (J145 : zq_P) (Q : zq_Q) (ls : zq_L) (st : List Value) (h : zq_H) : Prop := (zi_aload 0 (zi_getR 56 96 (zi_iload 1 (zi_aldI 96 6 (zi_if1 (fun x => 0 ≤ x) (xX12_claims_75 s_X12_begins s_X12_letter s_X12_number s_X12_takes s_X12_laysTable s_J6_bitCount_0f7a4 s_X12_meets s_X12_enters J16 J145 Q) (xX12_claims_68 s_X12_begins s_X12_letter s_X12_number s_X12_takes s_X12_laysTable s_J6_bitCount_0f7a4 s_X12_meets s_X12_enters J16 J145 Q)))))) ls st h
theorem kX12_claims_59 {X : zq_X} {d : Nat} (C : zq_C X cX12_claims 6 RX12 d) (hd1 : 1 ≤ d) {d_X12_begins : Nat} {s_X12_begins : zq_Sp} (h_X12_begins : zq_M yX12_begins cX12_begins 3 (some .int) 1 d_X12_begins s_X12_begins) (g_X12_begins : d_X12_begins + 1 ≤ d) {d_X12_letter : Nat} {s_X12_letter : zq_Sp} (h_X12_letter : zq_M yX12_letter cX12_letter 2 (some .int) 1 d_X12_letter s_X12_letter) (g_X12_letter : d_X12_letter + 1 ≤ d) {d_X12_number : Nat} {s_X12_number : zq_Sp} (h_X12_number : zq_M yX12_number cX12_number 4 (some .int) 1 d_X12_number s_X12_number) (g_X12_number : d_X12_number + 1 ≤ d) {d_X12_takes : Nat} {s_X12_takes : zq_Sp} (h_X12_takes : zq_M yX12_takes cX12_takes 3 (some .boolean) 1 d_X12_takes s_X12_takes) (g_X12_takes : d_X12_takes + 1 ≤ d) {d_X12_laysTable : Nat} {s_X12_laysTable : zq_Sp} (h_X12_laysTable : zq_M yX12_laysTable cX12_laysTable 3 none 0 d_X12_laysTable s_X12_laysTable) (g_X12_laysTable : d_X12_laysTable + 1 ≤ d) {d_J6_bitCount_0f7a4 : Nat} {s_J6_bitCount_0f7a4 : zq_Sp} (h_J6_bitCount_0f7a4 : zq_M yJ6_bitCount_0f7a4 cJ6_bitCount_0f7a4 1 (some .int) 1 d_J6_bitCount_0f7a4 s_J6_bitCount_0f7a4) (g_J6_bitCount_0f7a4 : d_J6_bitCount_0f7a4 + 1 ≤ d) {d_X12_meets : Nat} {s_X12_meets : zq_Sp} (h_X12_meets : zq_M yX12_meets cX12_meets 6 none 0 d_X12_meets s_X12_meets) (g_X12_meets : d_X12_meets + 1 ≤ d) {d_X12_enters : Nat} {s_X12_enters : zq_Sp} (h_X12_enters : zq_M yX12_enters cX12_enters 3 none 0 d_X12_enters s_X12_enters) (g_X12_enters : d_X12_enters + 1 ≤ d) {J16 : zq_P} (j16 : zq_ok X 6 16 J16) {J145 : zq_P} (j145 : zq_ok X 6 145 J145) {Q : zq_Q} (hq : zq_R X (some .int) 1 Q) : zq_ok X 6 59 (xX12_claims_59 s_X12_begins s_X12_letter s_X12_number s_X12_takes s_X12_laysTable s_J6_bitCount_0f7a4 s_X12_meets s_X12_enters J16 J145 Q) := by
  refine zs_aload_n C dX12_claims_59 rfl ?_
  refine zs_getR C zp_56 zF12 (j := 59) ⟨by decide, rfl⟩ zw_1155 dX12_claims_60 ?_
  refine zs_iload_n C dX12_claims_63 rfl ?_
  refine zs_iaload C zp_96 dX12_claims_64 ?_
  exact zs_if_ge C dX12_claims_65 (by decide) (kX12_claims_75 C hd1 h_X12_begins g_X12_begins h_X12_letter g_X12_letter h_X12_number g_X12_number h_X12_takes g_X12_takes h_X12_laysTable g_X12_laysTable h_J6_bitCount_0f7a4 g_J6_bitCount_0f7a4 h_X12_meets g_X12_meets h_X12_enters g_X12_enters j16 j145 hq) (kX12_claims_68 C hd1 h_X12_begins g_X12_begins h_X12_letter g_X12_letter h_X12_number g_X12_number h_X12_takes g_X12_takes h_X12_laysTable g_X12_laysTable h_J6_bitCount_0f7a4 g_J6_bitCount_0f7a4 h_X12_meets g_X12_meets h_X12_enters g_X12_enters j16 j145 hq)
def xX12_claims_52 (s_X12_begins : zq_Sp) (s_X12_letter : zq_Sp) (s_X12_number : zq_Sp) (s_X12_takes : zq_Sp) (s_X12_laysTable : zq_Sp) (s_J6_bitCount_0f7a4 : zq_Sp) (s_X12_meets : zq_Sp) (s_X12_enters : zq_Sp) (J16 : zq_P) (J145 : zq_P) (Q : zq_Q) (ls : zq_L) (st : List Value) (h : zq_H) : Prop := (zi_astI 96 6 (zi_iload 1 (zi_push (.int 6) (zi_if2 (fun x y => x = y) (xX12_claims_68 s_X12_begins s_X12_letter s_X12_number s_X12_takes s_X12_laysTable s_J6_bitCount_0f7a4 s_X12_meets s_X12_enters J16 J145 Q) (xX12_claims_59 s_X12_begins s_X12_letter s_X12_number s_X12_takes s_X12_laysTable s_J6_bitCount_0f7a4 s_X12_meets s_X12_enters J16 J145 Q))))) ls st h
theorem kX12_claims_52 {X : zq_X} {d : Nat} (C : zq_C X cX12_claims 6 RX12 d) (hd1 : 1 ≤ d) {d_X12_begins : Nat} {s_X12_begins : zq_Sp} (h_X12_begins : zq_M yX12_begins cX12_begins 3 (some .int) 1 d_X12_begins s_X12_begins) (g_X12_begins : d_X12_begins + 1 ≤ d) {d_X12_letter : Nat} {s_X12_letter : zq_Sp} (h_X12_letter : zq_M yX12_letter cX12_letter 2 (some .int) 1 d_X12_letter s_X12_letter) (g_X12_letter : d_X12_letter + 1 ≤ d) {d_X12_number : Nat} {s_X12_number : zq_Sp} (h_X12_number : zq_M yX12_number cX12_number 4 (some .int) 1 d_X12_number s_X12_number) (g_X12_number : d_X12_number + 1 ≤ d) {d_X12_takes : Nat} {s_X12_takes : zq_Sp} (h_X12_takes : zq_M yX12_takes cX12_takes 3 (some .boolean) 1 d_X12_takes s_X12_takes) (g_X12_takes : d_X12_takes + 1 ≤ d) {d_X12_laysTable : Nat} {s_X12_laysTable : zq_Sp} (h_X12_laysTable : zq_M yX12_laysTable cX12_laysTable 3 none 0 d_X12_laysTable s_X12_laysTable) (g_X12_laysTable : d_X12_laysTable + 1 ≤ d) {d_J6_bitCount_0f7a4 : Nat} {s_J6_bitCount_0f7a4 : zq_Sp} (h_J6_bitCount_0f7a4 : zq_M yJ6_bitCount_0f7a4 cJ6_bitCount_0f7a4 1 (some .int) 1 d_J6_bitCount_0f7a4 s_J6_bitCount_0f7a4) (g_J6_bitCount_0f7a4 : d_J6_bitCount_0f7a4 + 1 ≤ d) {d_X12_meets : Nat} {s_X12_meets : zq_Sp} (h_X12_meets : zq_M yX12_meets cX12_meets 6 none 0 d_X12_meets s_X12_meets) (g_X12_meets : d_X12_meets + 1 ≤ d) {d_X12_enters : Nat} {s_X12_enters : zq_Sp} (h_X12_enters : zq_M yX12_enters cX12_enters 3 none 0 d_X12_enters s_X12_enters) (g_X12_enters : d_X12_enters + 1 ≤ d) {J16 : zq_P} (j16 : zq_ok X 6 16 J16) {J145 : zq_P} (j145 : zq_ok X 6 145 J145) {Q : zq_Q} (hq : zq_R X (some .int) 1 Q) : zq_ok X 6 52 (xX12_claims_52 s_X12_begins s_X12_letter s_X12_number s_X12_takes s_X12_laysTable s_J6_bitCount_0f7a4 s_X12_meets s_X12_enters J16 J145 Q) := by
  refine zs_iastore C zp_96 dX12_claims_52 ?_
  refine zs_iload_n C dX12_claims_53 rfl ?_
  refine zs_bipush C dX12_claims_54 (by decide) ?_
  exact zs_icmp_eq C dX12_claims_56 (by decide) (kX12_claims_68 C hd1 h_X12_begins g_X12_begins h_X12_letter g_X12_letter h_X12_number g_X12_number h_X12_takes g_X12_takes h_X12_laysTable g_X12_laysTable h_J6_bitCount_0f7a4 g_J6_bitCount_0f7a4 h_X12_meets g_X12_meets h_X12_enters g_X12_enters j16 j145 hq) (kX12_claims_59 C hd1 h_X12_begins g_X12_begins h_X12_letter g_X12_letter h_X12_number g_X12_number h_X12_takes g_X12_takes h_X12_laysTable g_X12_laysTable h_J6_bitCount_0f7a4 g_J6_bitCount_0f7a4 h_X12_meets g_X12_meets h_X12_enters g_X12_enters j16 j145 hq)
def xX12_claims_46 (s_X12_begins : zq_Sp) (s_X12_letter : zq_Sp) (s_X12_number : zq_Sp) (s_X12_takes : zq_Sp) (s_X12_laysTable : zq_Sp) (s_J6_bitCount_0f7a4 : zq_Sp) (s_X12_meets : zq_Sp) (s_X12_enters : zq_Sp) (J16 : zq_P) (J145 : zq_P) (Q : zq_Q) (ls : zq_L) (st : List Value) (h : zq_H) : Prop := (zi_aload 0 (zi_getR 56 96 (zi_push (.int 5) (zi_aldI 96 6 ((xX12_claims_52 s_X12_begins s_X12_letter s_X12_number s_X12_takes s_X12_laysTable s_J6_bitCount_0f7a4 s_X12_meets s_X12_enters J16 J145 Q)))))) ls st h
theorem kX12_claims_46 {X : zq_X} {d : Nat} (C : zq_C X cX12_claims 6 RX12 d) (hd1 : 1 ≤ d) {d_X12_begins : Nat} {s_X12_begins : zq_Sp} (h_X12_begins : zq_M yX12_begins cX12_begins 3 (some .int) 1 d_X12_begins s_X12_begins) (g_X12_begins : d_X12_begins + 1 ≤ d) {d_X12_letter : Nat} {s_X12_letter : zq_Sp} (h_X12_letter : zq_M yX12_letter cX12_letter 2 (some .int) 1 d_X12_letter s_X12_letter) (g_X12_letter : d_X12_letter + 1 ≤ d) {d_X12_number : Nat} {s_X12_number : zq_Sp} (h_X12_number : zq_M yX12_number cX12_number 4 (some .int) 1 d_X12_number s_X12_number) (g_X12_number : d_X12_number + 1 ≤ d) {d_X12_takes : Nat} {s_X12_takes : zq_Sp} (h_X12_takes : zq_M yX12_takes cX12_takes 3 (some .boolean) 1 d_X12_takes s_X12_takes) (g_X12_takes : d_X12_takes + 1 ≤ d) {d_X12_laysTable : Nat} {s_X12_laysTable : zq_Sp} (h_X12_laysTable : zq_M yX12_laysTable cX12_laysTable 3 none 0 d_X12_laysTable s_X12_laysTable) (g_X12_laysTable : d_X12_laysTable + 1 ≤ d) {d_J6_bitCount_0f7a4 : Nat} {s_J6_bitCount_0f7a4 : zq_Sp} (h_J6_bitCount_0f7a4 : zq_M yJ6_bitCount_0f7a4 cJ6_bitCount_0f7a4 1 (some .int) 1 d_J6_bitCount_0f7a4 s_J6_bitCount_0f7a4) (g_J6_bitCount_0f7a4 : d_J6_bitCount_0f7a4 + 1 ≤ d) {d_X12_meets : Nat} {s_X12_meets : zq_Sp} (h_X12_meets : zq_M yX12_meets cX12_meets 6 none 0 d_X12_meets s_X12_meets) (g_X12_meets : d_X12_meets + 1 ≤ d) {d_X12_enters : Nat} {s_X12_enters : zq_Sp} (h_X12_enters : zq_M yX12_enters cX12_enters 3 none 0 d_X12_enters s_X12_enters) (g_X12_enters : d_X12_enters + 1 ≤ d) {J16 : zq_P} (j16 : zq_ok X 6 16 J16) {J145 : zq_P} (j145 : zq_ok X 6 145 J145) {Q : zq_Q} (hq : zq_R X (some .int) 1 Q) : zq_ok X 6 46 (xX12_claims_46 s_X12_begins s_X12_letter s_X12_number s_X12_takes s_X12_laysTable s_J6_bitCount_0f7a4 s_X12_meets s_X12_enters J16 J145 Q) := by
  refine zs_aload_n C dX12_claims_46 rfl ?_
  refine zs_getR C zp_56 zF12 (j := 59) ⟨by decide, rfl⟩ zw_1155 dX12_claims_47 ?_
  refine zs_iconst C dX12_claims_50 (by decide) ?_
  refine zs_iaload C zp_96 dX12_claims_51 ?_
  exact kX12_claims_52 C hd1 h_X12_begins g_X12_begins h_X12_letter g_X12_letter h_X12_number g_X12_number h_X12_takes g_X12_takes h_X12_laysTable g_X12_laysTable h_J6_bitCount_0f7a4 g_J6_bitCount_0f7a4 h_X12_meets g_X12_meets h_X12_enters g_X12_enters j16 j145 hq
def xX12_claims_35 (s_X12_begins : zq_Sp) (s_X12_letter : zq_Sp) (s_X12_number : zq_Sp) (s_X12_takes : zq_Sp) (s_X12_laysTable : zq_Sp) (s_J6_bitCount_0f7a4 : zq_Sp) (s_X12_meets : zq_Sp) (s_X12_enters : zq_Sp) (J16 : zq_P) (J145 : zq_P) (Q : zq_Q) (ls : zq_L) (st : List Value) (h : zq_H) : Prop := (zi_aload 0 (zi_aload 0 (zi_getI 56 4 (zi_callV 1 56 s_X12_letter ((xX12_claims_52 s_X12_begins s_X12_letter s_X12_number s_X12_takes s_X12_laysTable s_J6_bitCount_0f7a4 s_X12_meets s_X12_enters J16 J145 Q)))))) ls st h
theorem kX12_claims_35 {X : zq_X} {d : Nat} (C : zq_C X cX12_claims 6 RX12 d) (hd1 : 1 ≤ d) {d_X12_begins : Nat} {s_X12_begins : zq_Sp} (h_X12_begins : zq_M yX12_begins cX12_begins 3 (some .int) 1 d_X12_begins s_X12_begins) (g_X12_begins : d_X12_begins + 1 ≤ d) {d_X12_letter : Nat} {s_X12_letter : zq_Sp} (h_X12_letter : zq_M yX12_letter cX12_letter 2 (some .int) 1 d_X12_letter s_X12_letter) (g_X12_letter : d_X12_letter + 1 ≤ d) {d_X12_number : Nat} {s_X12_number : zq_Sp} (h_X12_number : zq_M yX12_number cX12_number 4 (some .int) 1 d_X12_number s_X12_number) (g_X12_number : d_X12_number + 1 ≤ d) {d_X12_takes : Nat} {s_X12_takes : zq_Sp} (h_X12_takes : zq_M yX12_takes cX12_takes 3 (some .boolean) 1 d_X12_takes s_X12_takes) (g_X12_takes : d_X12_takes + 1 ≤ d) {d_X12_laysTable : Nat} {s_X12_laysTable : zq_Sp} (h_X12_laysTable : zq_M yX12_laysTable cX12_laysTable 3 none 0 d_X12_laysTable s_X12_laysTable) (g_X12_laysTable : d_X12_laysTable + 1 ≤ d) {d_J6_bitCount_0f7a4 : Nat} {s_J6_bitCount_0f7a4 : zq_Sp} (h_J6_bitCount_0f7a4 : zq_M yJ6_bitCount_0f7a4 cJ6_bitCount_0f7a4 1 (some .int) 1 d_J6_bitCount_0f7a4 s_J6_bitCount_0f7a4) (g_J6_bitCount_0f7a4 : d_J6_bitCount_0f7a4 + 1 ≤ d) {d_X12_meets : Nat} {s_X12_meets : zq_Sp} (h_X12_meets : zq_M yX12_meets cX12_meets 6 none 0 d_X12_meets s_X12_meets) (g_X12_meets : d_X12_meets + 1 ≤ d) {d_X12_enters : Nat} {s_X12_enters : zq_Sp} (h_X12_enters : zq_M yX12_enters cX12_enters 3 none 0 d_X12_enters s_X12_enters) (g_X12_enters : d_X12_enters + 1 ≤ d) {J16 : zq_P} (j16 : zq_ok X 6 16 J16) {J145 : zq_P} (j145 : zq_ok X 6 145 J145) {Q : zq_Q} (hq : zq_R X (some .int) 1 Q) : zq_ok X 6 35 (xX12_claims_35 s_X12_begins s_X12_letter s_X12_number s_X12_takes s_X12_laysTable s_J6_bitCount_0f7a4 s_X12_meets s_X12_enters J16 J145 Q) := by
  refine zs_aload_n C dX12_claims_35 rfl ?_
  refine zs_aload_n C dX12_claims_36 rfl ?_
  refine zs_getI C zp_56 zF12 (j := 4) ⟨by decide, rfl⟩ zw_1100 dX12_claims_37 ?_
  refine zs_callV C h_X12_letter g_X12_letter zy_X12_letter zp_56 (show vwCl[12]? = some (RX12, TX12, 67) from rfl) zw_1419 zw_1421 zs9_X12_letter dX12_claims_40 ?_
  exact zs_goto C dX12_claims_43 (by decide) (kX12_claims_52 C hd1 h_X12_begins g_X12_begins h_X12_letter g_X12_letter h_X12_number g_X12_number h_X12_takes g_X12_takes h_X12_laysTable g_X12_laysTable h_J6_bitCount_0f7a4 g_J6_bitCount_0f7a4 h_X12_meets g_X12_meets h_X12_enters g_X12_enters j16 j145 hq)
def xX12_claims_20 (s_X12_begins : zq_Sp) (s_X12_letter : zq_Sp) (s_X12_number : zq_Sp) (s_X12_takes : zq_Sp) (s_X12_laysTable : zq_Sp) (s_J6_bitCount_0f7a4 : zq_Sp) (s_X12_meets : zq_Sp) (s_X12_enters : zq_Sp) (J16 : zq_P) (J145 : zq_P) (Q : zq_Q) (ls : zq_L) (st : List Value) (h : zq_H) : Prop := (zi_aload 0 (zi_getR 56 96 (zi_iload 1 (zi_push (.int 5) (zi_m2 zf_min (zi_iload 1 (zi_push (.int 6) (zi_if2 (fun x y => y ≤ x) (xX12_claims_46 s_X12_begins s_X12_letter s_X12_number s_X12_takes s_X12_laysTable s_J6_bitCount_0f7a4 s_X12_meets s_X12_enters J16 J145 Q) (xX12_claims_35 s_X12_begins s_X12_letter s_X12_number s_X12_takes s_X12_laysTable s_J6_bitCount_0f7a4 s_X12_meets s_X12_enters J16 J145 Q))))))))) ls st h
theorem kX12_claims_20 {X : zq_X} {d : Nat} (C : zq_C X cX12_claims 6 RX12 d) (hd1 : 1 ≤ d) {d_X12_begins : Nat} {s_X12_begins : zq_Sp} (h_X12_begins : zq_M yX12_begins cX12_begins 3 (some .int) 1 d_X12_begins s_X12_begins) (g_X12_begins : d_X12_begins + 1 ≤ d) {d_X12_letter : Nat} {s_X12_letter : zq_Sp} (h_X12_letter : zq_M yX12_letter cX12_letter 2 (some .int) 1 d_X12_letter s_X12_letter) (g_X12_letter : d_X12_letter + 1 ≤ d) {d_X12_number : Nat} {s_X12_number : zq_Sp} (h_X12_number : zq_M yX12_number cX12_number 4 (some .int) 1 d_X12_number s_X12_number) (g_X12_number : d_X12_number + 1 ≤ d) {d_X12_takes : Nat} {s_X12_takes : zq_Sp} (h_X12_takes : zq_M yX12_takes cX12_takes 3 (some .boolean) 1 d_X12_takes s_X12_takes) (g_X12_takes : d_X12_takes + 1 ≤ d) {d_X12_laysTable : Nat} {s_X12_laysTable : zq_Sp} (h_X12_laysTable : zq_M yX12_laysTable cX12_laysTable 3 none 0 d_X12_laysTable s_X12_laysTable) (g_X12_laysTable : d_X12_laysTable + 1 ≤ d) {d_J6_bitCount_0f7a4 : Nat} {s_J6_bitCount_0f7a4 : zq_Sp} (h_J6_bitCount_0f7a4 : zq_M yJ6_bitCount_0f7a4 cJ6_bitCount_0f7a4 1 (some .int) 1 d_J6_bitCount_0f7a4 s_J6_bitCount_0f7a4) (g_J6_bitCount_0f7a4 : d_J6_bitCount_0f7a4 + 1 ≤ d) {d_X12_meets : Nat} {s_X12_meets : zq_Sp} (h_X12_meets : zq_M yX12_meets cX12_meets 6 none 0 d_X12_meets s_X12_meets) (g_X12_meets : d_X12_meets + 1 ≤ d) {d_X12_enters : Nat} {s_X12_enters : zq_Sp} (h_X12_enters : zq_M yX12_enters cX12_enters 3 none 0 d_X12_enters s_X12_enters) (g_X12_enters : d_X12_enters + 1 ≤ d) {J16 : zq_P} (j16 : zq_ok X 6 16 J16) {J145 : zq_P} (j145 : zq_ok X 6 145 J145) {Q : zq_Q} (hq : zq_R X (some .int) 1 Q) : zq_ok X 6 20 (xX12_claims_20 s_X12_begins s_X12_letter s_X12_number s_X12_takes s_X12_laysTable s_J6_bitCount_0f7a4 s_X12_meets s_X12_enters J16 J145 Q) := by
  refine zs_aload_n C dX12_claims_20 rfl ?_
  refine zs_getR C zp_56 zF12 (j := 59) ⟨by decide, rfl⟩ zw_1155 dX12_claims_21 ?_
  refine zs_iload_n C dX12_claims_24 rfl ?_
  refine zs_iconst C dX12_claims_25 (by decide) ?_
  refine zs_mmin C hd1 zw_1322 zw_393 zw_14 zw_394 dX12_claims_26 ?_
  refine zs_iload_n C dX12_claims_29 rfl ?_
  refine zs_bipush C dX12_claims_30 (by decide) ?_
  exact zs_icmp_ge C dX12_claims_32 (by decide) (kX12_claims_46 C hd1 h_X12_begins g_X12_begins h_X12_letter g_X12_letter h_X12_number g_X12_number h_X12_takes g_X12_takes h_X12_laysTable g_X12_laysTable h_J6_bitCount_0f7a4 g_J6_bitCount_0f7a4 h_X12_meets g_X12_meets h_X12_enters g_X12_enters j16 j145 hq) (kX12_claims_35 C hd1 h_X12_begins g_X12_begins h_X12_letter g_X12_letter h_X12_number g_X12_number h_X12_takes g_X12_takes h_X12_laysTable g_X12_laysTable h_J6_bitCount_0f7a4 g_J6_bitCount_0f7a4 h_X12_meets g_X12_meets h_X12_enters g_X12_enters j16 j145 hq)
def xX12_claims_16 (s_X12_begins : zq_Sp) (s_X12_letter : zq_Sp) (s_X12_number : zq_Sp) (s_X12_takes : zq_Sp) (s_X12_laysTable : zq_Sp) (s_J6_bitCount_0f7a4 : zq_Sp) (s_X12_meets : zq_Sp) (s_X12_enters : zq_Sp) (J16 : zq_P) (J145 : zq_P) (Q : zq_Q) (ls : zq_L) (st : List Value) (h : zq_H) : Prop := (zi_iload 2 (zi_if1 (fun x => x = 0) (xX12_claims_115 s_X12_begins s_X12_letter s_X12_number s_X12_takes s_X12_laysTable s_J6_bitCount_0f7a4 s_X12_meets s_X12_enters J16 J145 Q) (xX12_claims_20 s_X12_begins s_X12_letter s_X12_number s_X12_takes s_X12_laysTable s_J6_bitCount_0f7a4 s_X12_meets s_X12_enters J16 J145 Q))) ls st h
theorem kX12_claims_16 {X : zq_X} {d : Nat} (C : zq_C X cX12_claims 6 RX12 d) (hd1 : 1 ≤ d) {d_X12_begins : Nat} {s_X12_begins : zq_Sp} (h_X12_begins : zq_M yX12_begins cX12_begins 3 (some .int) 1 d_X12_begins s_X12_begins) (g_X12_begins : d_X12_begins + 1 ≤ d) {d_X12_letter : Nat} {s_X12_letter : zq_Sp} (h_X12_letter : zq_M yX12_letter cX12_letter 2 (some .int) 1 d_X12_letter s_X12_letter) (g_X12_letter : d_X12_letter + 1 ≤ d) {d_X12_number : Nat} {s_X12_number : zq_Sp} (h_X12_number : zq_M yX12_number cX12_number 4 (some .int) 1 d_X12_number s_X12_number) (g_X12_number : d_X12_number + 1 ≤ d) {d_X12_takes : Nat} {s_X12_takes : zq_Sp} (h_X12_takes : zq_M yX12_takes cX12_takes 3 (some .boolean) 1 d_X12_takes s_X12_takes) (g_X12_takes : d_X12_takes + 1 ≤ d) {d_X12_laysTable : Nat} {s_X12_laysTable : zq_Sp} (h_X12_laysTable : zq_M yX12_laysTable cX12_laysTable 3 none 0 d_X12_laysTable s_X12_laysTable) (g_X12_laysTable : d_X12_laysTable + 1 ≤ d) {d_J6_bitCount_0f7a4 : Nat} {s_J6_bitCount_0f7a4 : zq_Sp} (h_J6_bitCount_0f7a4 : zq_M yJ6_bitCount_0f7a4 cJ6_bitCount_0f7a4 1 (some .int) 1 d_J6_bitCount_0f7a4 s_J6_bitCount_0f7a4) (g_J6_bitCount_0f7a4 : d_J6_bitCount_0f7a4 + 1 ≤ d) {d_X12_meets : Nat} {s_X12_meets : zq_Sp} (h_X12_meets : zq_M yX12_meets cX12_meets 6 none 0 d_X12_meets s_X12_meets) (g_X12_meets : d_X12_meets + 1 ≤ d) {d_X12_enters : Nat} {s_X12_enters : zq_Sp} (h_X12_enters : zq_M yX12_enters cX12_enters 3 none 0 d_X12_enters s_X12_enters) (g_X12_enters : d_X12_enters + 1 ≤ d) {J16 : zq_P} (j16 : zq_ok X 6 16 J16) {J145 : zq_P} (j145 : zq_ok X 6 145 J145) {Q : zq_Q} (hq : zq_R X (some .int) 1 Q) : zq_ok X 6 16 (xX12_claims_16 s_X12_begins s_X12_letter s_X12_number s_X12_takes s_X12_laysTable s_J6_bitCount_0f7a4 s_X12_meets s_X12_enters J16 J145 Q) := by
  refine zs_iload_n C dX12_claims_16 rfl ?_
  exact zs_if_eq C dX12_claims_17 (by decide) (kX12_claims_115 C hd1 h_X12_begins g_X12_begins h_X12_letter g_X12_letter h_X12_number g_X12_number h_X12_takes g_X12_takes h_X12_laysTable g_X12_laysTable h_J6_bitCount_0f7a4 g_J6_bitCount_0f7a4 h_X12_meets g_X12_meets h_X12_enters g_X12_enters j16 j145 hq) (kX12_claims_20 C hd1 h_X12_begins g_X12_begins h_X12_letter g_X12_letter h_X12_number g_X12_number h_X12_takes g_X12_takes h_X12_laysTable g_X12_laysTable h_J6_bitCount_0f7a4 g_J6_bitCount_0f7a4 h_X12_meets g_X12_meets h_X12_enters g_X12_enters j16 j145 hq)
def xX12_claims_0 (s_X12_begins : zq_Sp) (s_X12_letter : zq_Sp) (s_X12_number : zq_Sp) (s_X12_takes : zq_Sp) (s_X12_laysTable : zq_Sp) (s_J6_bitCount_0f7a4 : zq_Sp) (s_X12_meets : zq_Sp) (s_X12_enters : zq_Sp) (J16 : zq_P) (J145 : zq_P) (Q : zq_Q) (ls : zq_L) (st : List Value) (h : zq_H) : Prop := (zi_aload 0 (zi_push (.int 0) (zi_putI 56 0 (zi_aload 0 (zi_push (.int 80) (zi_callV 1 56 s_X12_begins (zi_pop (zi_push (.int 0) (zi_istore 1 (zi_push (.int 1) (zi_istore 2 (J16)))))))))))) ls st h
theorem kX12_claims_0 {X : zq_X} {d : Nat} (C : zq_C X cX12_claims 6 RX12 d) (hd1 : 1 ≤ d) {d_X12_begins : Nat} {s_X12_begins : zq_Sp} (h_X12_begins : zq_M yX12_begins cX12_begins 3 (some .int) 1 d_X12_begins s_X12_begins) (g_X12_begins : d_X12_begins + 1 ≤ d) {d_X12_letter : Nat} {s_X12_letter : zq_Sp} (h_X12_letter : zq_M yX12_letter cX12_letter 2 (some .int) 1 d_X12_letter s_X12_letter) (g_X12_letter : d_X12_letter + 1 ≤ d) {d_X12_number : Nat} {s_X12_number : zq_Sp} (h_X12_number : zq_M yX12_number cX12_number 4 (some .int) 1 d_X12_number s_X12_number) (g_X12_number : d_X12_number + 1 ≤ d) {d_X12_takes : Nat} {s_X12_takes : zq_Sp} (h_X12_takes : zq_M yX12_takes cX12_takes 3 (some .boolean) 1 d_X12_takes s_X12_takes) (g_X12_takes : d_X12_takes + 1 ≤ d) {d_X12_laysTable : Nat} {s_X12_laysTable : zq_Sp} (h_X12_laysTable : zq_M yX12_laysTable cX12_laysTable 3 none 0 d_X12_laysTable s_X12_laysTable) (g_X12_laysTable : d_X12_laysTable + 1 ≤ d) {d_J6_bitCount_0f7a4 : Nat} {s_J6_bitCount_0f7a4 : zq_Sp} (h_J6_bitCount_0f7a4 : zq_M yJ6_bitCount_0f7a4 cJ6_bitCount_0f7a4 1 (some .int) 1 d_J6_bitCount_0f7a4 s_J6_bitCount_0f7a4) (g_J6_bitCount_0f7a4 : d_J6_bitCount_0f7a4 + 1 ≤ d) {d_X12_meets : Nat} {s_X12_meets : zq_Sp} (h_X12_meets : zq_M yX12_meets cX12_meets 6 none 0 d_X12_meets s_X12_meets) (g_X12_meets : d_X12_meets + 1 ≤ d) {d_X12_enters : Nat} {s_X12_enters : zq_Sp} (h_X12_enters : zq_M yX12_enters cX12_enters 3 none 0 d_X12_enters s_X12_enters) (g_X12_enters : d_X12_enters + 1 ≤ d) {J16 : zq_P} (j16 : zq_ok X 6 16 J16) {J145 : zq_P} (j145 : zq_ok X 6 145 J145) {Q : zq_Q} (hq : zq_R X (some .int) 1 Q) : zq_ok X 6 0 (xX12_claims_0 s_X12_begins s_X12_letter s_X12_number s_X12_takes s_X12_laysTable s_J6_bitCount_0f7a4 s_X12_meets s_X12_enters J16 J145 Q) := by
  refine zs_aload_n C dX12_claims_0 rfl ?_
  refine zs_iconst C dX12_claims_1 (by decide) ?_
  refine zs_putI C zp_56 zF12 (j := 0) ⟨by decide, rfl⟩ ⟨rfl, by decide +kernel⟩ zw_1096 dX12_claims_2 ?_
  refine zs_aload_n C dX12_claims_5 rfl ?_
  refine zs_bipush C dX12_claims_6 (by decide) ?_
  refine zs_callV C h_X12_begins g_X12_begins zy_X12_begins zp_56 (show vwCl[12]? = some (RX12, TX12, 67) from rfl) zw_1318 zw_1320 zs9_X12_begins dX12_claims_8 ?_
  refine zs_pop C dX12_claims_11 ?_
  refine zs_iconst C dX12_claims_12 (by decide) ?_
  refine zs_istore_n C dX12_claims_13 rfl (by decide) ?_
  refine zs_iconst C dX12_claims_14 (by decide) ?_
  refine zs_istore_n C dX12_claims_15 rfl (by decide) ?_
  exact j16
theorem mX12_claims {d : Nat} {spec : zq_Sp} {σ16 : Type} {σ145 : Type} {d_X12_begins : Nat} {s_X12_begins : zq_Sp} (h_X12_begins : zq_M yX12_begins cX12_begins 3 (some .int) 1 d_X12_begins s_X12_begins) (g_X12_begins : d_X12_begins + 1 ≤ d) {d_X12_letter : Nat} {s_X12_letter : zq_Sp} (h_X12_letter : zq_M yX12_letter cX12_letter 2 (some .int) 1 d_X12_letter s_X12_letter) (g_X12_letter : d_X12_letter + 1 ≤ d) {d_X12_number : Nat} {s_X12_number : zq_Sp} (h_X12_number : zq_M yX12_number cX12_number 4 (some .int) 1 d_X12_number s_X12_number) (g_X12_number : d_X12_number + 1 ≤ d) {d_X12_takes : Nat} {s_X12_takes : zq_Sp} (h_X12_takes : zq_M yX12_takes cX12_takes 3 (some .boolean) 1 d_X12_takes s_X12_takes) (g_X12_takes : d_X12_takes + 1 ≤ d) {d_X12_laysTable : Nat} {s_X12_laysTable : zq_Sp} (h_X12_laysTable : zq_M yX12_laysTable cX12_laysTable 3 none 0 d_X12_laysTable s_X12_laysTable) (g_X12_laysTable : d_X12_laysTable + 1 ≤ d) {d_J6_bitCount_0f7a4 : Nat} {s_J6_bitCount_0f7a4 : zq_Sp} (h_J6_bitCount_0f7a4 : zq_M yJ6_bitCount_0f7a4 cJ6_bitCount_0f7a4 1 (some .int) 1 d_J6_bitCount_0f7a4 s_J6_bitCount_0f7a4) (g_J6_bitCount_0f7a4 : d_J6_bitCount_0f7a4 + 1 ≤ d) {d_X12_meets : Nat} {s_X12_meets : zq_Sp} (h_X12_meets : zq_M yX12_meets cX12_meets 6 none 0 d_X12_meets s_X12_meets) (g_X12_meets : d_X12_meets + 1 ≤ d) {d_X12_enters : Nat} {s_X12_enters : zq_Sp} (h_X12_enters : zq_M yX12_enters cX12_enters 3 none 0 d_X12_enters s_X12_enters) (g_X12_enters : d_X12_enters + 1 ≤ d) (hd1 : 1 ≤ d) (μ16 : σ16 → Nat) (I16 : zq_Q → σ16 → zq_P) (μ145 : σ145 → Nat) (I145 : zq_Q → σ145 → zq_P) (v : ∀ args h Q, spec args h Q → (zq_a args).length ≤ 6 ∧ xX12_claims_0 s_X12_begins s_X12_letter s_X12_number s_X12_takes s_X12_laysTable s_J6_bitCount_0f7a4 s_X12_meets s_X12_enters (fun ls st h => ∃ b, I16 Q b ls st h) (fun ls st h => ∃ b, I145 Q b ls st h) Q (zq_l0 6 args) [] h) (v16 : ∀ Q a ls st h, I16 Q a ls st h → xX12_claims_16 s_X12_begins s_X12_letter s_X12_number s_X12_takes s_X12_laysTable s_J6_bitCount_0f7a4 s_X12_meets s_X12_enters (fun ls st h => ∃ b, μ16 b < μ16 a ∧ I16 Q b ls st h) (fun ls st h => ∃ b, μ145 b < μ16 a ∧ I145 Q b ls st h) Q ls st h) (v145 : ∀ Q a ls st h, I145 Q a ls st h → xX12_claims_145 s_X12_begins s_X12_letter s_X12_number s_X12_takes s_X12_laysTable s_J6_bitCount_0f7a4 s_X12_meets s_X12_enters (fun ls st h => ∃ b, μ16 b < μ145 a ∧ I16 Q b ls st h) (fun ls st h => ∃ b, μ145 b < μ145 a ∧ I145 Q b ls st h) Q ls st h) : zq_M yX12_claims cX12_claims 6 (some .int) 1 d spec := by
  refine zq_met (by decide +kernel) (by decide) (fun X Q args h C hq hs => ⟨(v args h Q hs).1, _, ?_, (v args h Q hs).2⟩)
  have hl := zq_loop2 (X := X) (nL := 6) (pc1 := 16) (pc2 := 145) μ16 μ145 (I16 Q) (I145 Q) (fun J16 J145 => xX12_claims_16 s_X12_begins s_X12_letter s_X12_number s_X12_takes s_X12_laysTable s_J6_bitCount_0f7a4 s_X12_meets s_X12_enters J16 J145 Q) (fun J16 J145 => xX12_claims_145 s_X12_begins s_X12_letter s_X12_number s_X12_takes s_X12_laysTable s_J6_bitCount_0f7a4 s_X12_meets s_X12_enters J16 J145 Q) (fun j16 j145 => kX12_claims_16 C hd1 h_X12_begins g_X12_begins h_X12_letter g_X12_letter h_X12_number g_X12_number h_X12_takes g_X12_takes h_X12_laysTable g_X12_laysTable h_J6_bitCount_0f7a4 g_J6_bitCount_0f7a4 h_X12_meets g_X12_meets h_X12_enters g_X12_enters j16 j145 hq) (fun j16 j145 => kX12_claims_145 C hd1 h_X12_begins g_X12_begins h_X12_letter g_X12_letter h_X12_number g_X12_number h_X12_takes g_X12_takes h_X12_laysTable g_X12_laysTable h_J6_bitCount_0f7a4 g_J6_bitCount_0f7a4 h_X12_meets g_X12_meets h_X12_enters g_X12_enters j16 j145 hq) (v16 Q) (v145 Q)
  exact kX12_claims_0 C hd1 h_X12_begins g_X12_begins h_X12_letter g_X12_letter h_X12_number g_X12_number h_X12_takes g_X12_takes h_X12_laysTable g_X12_laysTable h_J6_bitCount_0f7a4 g_J6_bitCount_0f7a4 h_X12_meets g_X12_meets h_X12_enters g_X12_enters hl.1 hl.2 hq
/-! ToOneCrumbModel.settle(II)I -/
theorem dX12_settle_0 : decode cX12_settle 0 = .ok (.aload_n 0, 1) := by decide +kernel
theorem dX12_settle_1 : decode cX12_settle 1 = .ok (.iconst 0, 1) := by decide +kernel
theorem dX12_settle_2 : decode cX12_settle 2 = .ok (.putfield 147, 3) := by decide +kernel
theorem dX12_settle_5 : decode cX12_settle 5 = .ok (.iload_n 1, 1) := by decide +kernel
theorem dX12_settle_6 : decode cX12_settle 6 = .ok (.i2l, 1) := by decide +kernel
theorem dX12_settle_7 : decode cX12_settle 7 = .ok (.lconst 0, 1) := by decide +kernel
theorem dX12_settle_8 : decode cX12_settle 8 = .ok (.ldc2_w 450, 3) := by decide +kernel
theorem dX12_settle_11 : decode cX12_settle 11 = .ok (.invokestatic 161, 3) := by decide +kernel
theorem dX12_settle_14 : decode cX12_settle 14 = .ok (.ifCond .eq 15, 3) := by decide +kernel
theorem dX12_settle_17 : decode cX12_settle 17 = .ok (.iload_n 2, 1) := by decide +kernel
theorem dX12_settle_18 : decode cX12_settle 18 = .ok (.i2l, 1) := by decide +kernel
theorem dX12_settle_19 : decode cX12_settle 19 = .ok (.lconst 0, 1) := by decide +kernel
theorem dX12_settle_20 : decode cX12_settle 20 = .ok (.ldc2_w 450, 3) := by decide +kernel
theorem dX12_settle_23 : decode cX12_settle 23 = .ok (.invokestatic 161, 3) := by decide +kernel
theorem dX12_settle_26 : decode cX12_settle 26 = .ok (.ifCond .ne 5, 3) := by decide +kernel
theorem dX12_settle_29 : decode cX12_settle 29 = .ok (.iconst (-1), 1) := by decide +kernel
theorem dX12_settle_30 : decode cX12_settle 30 = .ok (.ireturn, 1) := by decide +kernel
theorem dX12_settle_31 : decode cX12_settle 31 = .ok (.iload_n 1, 1) := by decide +kernel
theorem dX12_settle_32 : decode cX12_settle 32 = .ok (.istore_n 3, 1) := by decide +kernel
theorem dX12_settle_33 : decode cX12_settle 33 = .ok (.iload_n 2, 1) := by decide +kernel
theorem dX12_settle_34 : decode cX12_settle 34 = .ok (.istore 4, 2) := by decide +kernel
theorem dX12_settle_36 : decode cX12_settle 36 = .ok (.iconst 0, 1) := by decide +kernel
theorem dX12_settle_37 : decode cX12_settle 37 = .ok (.istore 5, 2) := by decide +kernel
theorem dX12_settle_39 : decode cX12_settle 39 = .ok (.iload_n 3, 1) := by decide +kernel
theorem dX12_settle_40 : decode cX12_settle 40 = .ok (.iload 4, 2) := by decide +kernel
theorem dX12_settle_42 : decode cX12_settle 42 = .ok (.isub, 1) := by decide +kernel
theorem dX12_settle_43 : decode cX12_settle 43 = .ok (.invokestatic 425, 3) := by decide +kernel
theorem dX12_settle_46 : decode cX12_settle 46 = .ok (.iconst 1, 1) := by decide +kernel
theorem dX12_settle_47 : decode cX12_settle 47 = .ok (.if_icmp .le 108, 3) := by decide +kernel
theorem dX12_settle_50 : decode cX12_settle 50 = .ok (.iload_n 3, 1) := by decide +kernel
theorem dX12_settle_51 : decode cX12_settle 51 = .ok (.iload 4, 2) := by decide +kernel
theorem dX12_settle_53 : decode cX12_settle 53 = .ok (.if_icmp .ge 7, 3) := by decide +kernel
theorem dX12_settle_56 : decode cX12_settle 56 = .ok (.iconst 1, 1) := by decide +kernel
theorem dX12_settle_57 : decode cX12_settle 57 = .ok (.goto 4, 3) := by decide +kernel
theorem dX12_settle_60 : decode cX12_settle 60 = .ok (.iconst 0, 1) := by decide +kernel
theorem dX12_settle_61 : decode cX12_settle 61 = .ok (.istore 6, 2) := by decide +kernel
theorem dX12_settle_63 : decode cX12_settle 63 = .ok (.iload_n 3, 1) := by decide +kernel
theorem dX12_settle_64 : decode cX12_settle 64 = .ok (.iload 4, 2) := by decide +kernel
theorem dX12_settle_66 : decode cX12_settle 66 = .ok (.isub, 1) := by decide +kernel
theorem dX12_settle_67 : decode cX12_settle 67 = .ok (.invokestatic 425, 3) := by decide +kernel
theorem dX12_settle_70 : decode cX12_settle 70 = .ok (.iconst 3, 1) := by decide +kernel
theorem dX12_settle_71 : decode cX12_settle 71 = .ok (.idiv, 1) := by decide +kernel
theorem dX12_settle_72 : decode cX12_settle 72 = .ok (.iconst 1, 1) := by decide +kernel
theorem dX12_settle_73 : decode cX12_settle 73 = .ok (.iadd, 1) := by decide +kernel
theorem dX12_settle_74 : decode cX12_settle 74 = .ok (.istore 7, 2) := by decide +kernel
theorem dX12_settle_76 : decode cX12_settle 76 = .ok (.iload_n 3, 1) := by decide +kernel
theorem dX12_settle_77 : decode cX12_settle 77 = .ok (.iload 6, 2) := by decide +kernel
theorem dX12_settle_79 : decode cX12_settle 79 = .ok (.ifCond .eq 8, 3) := by decide +kernel
theorem dX12_settle_82 : decode cX12_settle 82 = .ok (.iload 7, 2) := by decide +kernel
theorem dX12_settle_84 : decode cX12_settle 84 = .ok (.goto 4, 3) := by decide +kernel
theorem dX12_settle_87 : decode cX12_settle 87 = .ok (.iconst 0, 1) := by decide +kernel
theorem dX12_settle_88 : decode cX12_settle 88 = .ok (.iadd, 1) := by decide +kernel
theorem dX12_settle_89 : decode cX12_settle 89 = .ok (.istore_n 3, 1) := by decide +kernel
theorem dX12_settle_90 : decode cX12_settle 90 = .ok (.iload 4, 2) := by decide +kernel
theorem dX12_settle_92 : decode cX12_settle 92 = .ok (.iload 6, 2) := by decide +kernel
theorem dX12_settle_94 : decode cX12_settle 94 = .ok (.ifCond .eq 7, 3) := by decide +kernel
theorem dX12_settle_97 : decode cX12_settle 97 = .ok (.iconst 0, 1) := by decide +kernel
theorem dX12_settle_98 : decode cX12_settle 98 = .ok (.goto 5, 3) := by decide +kernel
theorem dX12_settle_101 : decode cX12_settle 101 = .ok (.iload 7, 2) := by decide +kernel
theorem dX12_settle_103 : decode cX12_settle 103 = .ok (.iadd, 1) := by decide +kernel
theorem dX12_settle_104 : decode cX12_settle 104 = .ok (.istore 4, 2) := by decide +kernel
theorem dX12_settle_106 : decode cX12_settle 106 = .ok (.iload_n 3, 1) := by decide +kernel
theorem dX12_settle_107 : decode cX12_settle 107 = .ok (.iload 4, 2) := by decide +kernel
theorem dX12_settle_109 : decode cX12_settle 109 = .ok (.isub, 1) := by decide +kernel
theorem dX12_settle_110 : decode cX12_settle 110 = .ok (.invokestatic 425, 3) := by decide +kernel
theorem dX12_settle_113 : decode cX12_settle 113 = .ok (.iconst 3, 1) := by decide +kernel
theorem dX12_settle_114 : decode cX12_settle 114 = .ok (.idiv, 1) := by decide +kernel
theorem dX12_settle_115 : decode cX12_settle 115 = .ok (.iconst 1, 1) := by decide +kernel
theorem dX12_settle_116 : decode cX12_settle 116 = .ok (.iadd, 1) := by decide +kernel
theorem dX12_settle_117 : decode cX12_settle 117 = .ok (.istore 7, 2) := by decide +kernel
theorem dX12_settle_119 : decode cX12_settle 119 = .ok (.iload_n 3, 1) := by decide +kernel
theorem dX12_settle_120 : decode cX12_settle 120 = .ok (.iload 6, 2) := by decide +kernel
theorem dX12_settle_122 : decode cX12_settle 122 = .ok (.ifCond .eq 7, 3) := by decide +kernel
theorem dX12_settle_125 : decode cX12_settle 125 = .ok (.iconst 0, 1) := by decide +kernel
theorem dX12_settle_126 : decode cX12_settle 126 = .ok (.goto 5, 3) := by decide +kernel
theorem dX12_settle_129 : decode cX12_settle 129 = .ok (.iload 7, 2) := by decide +kernel
theorem dX12_settle_131 : decode cX12_settle 131 = .ok (.isub, 1) := by decide +kernel
theorem dX12_settle_132 : decode cX12_settle 132 = .ok (.istore_n 3, 1) := by decide +kernel
theorem dX12_settle_133 : decode cX12_settle 133 = .ok (.iload 4, 2) := by decide +kernel
theorem dX12_settle_135 : decode cX12_settle 135 = .ok (.iload 6, 2) := by decide +kernel
theorem dX12_settle_137 : decode cX12_settle 137 = .ok (.ifCond .eq 8, 3) := by decide +kernel
theorem dX12_settle_140 : decode cX12_settle 140 = .ok (.iload 7, 2) := by decide +kernel
theorem dX12_settle_142 : decode cX12_settle 142 = .ok (.goto 4, 3) := by decide +kernel
theorem dX12_settle_145 : decode cX12_settle 145 = .ok (.iconst 0, 1) := by decide +kernel
theorem dX12_settle_146 : decode cX12_settle 146 = .ok (.isub, 1) := by decide +kernel
theorem dX12_settle_147 : decode cX12_settle 147 = .ok (.istore 4, 2) := by decide +kernel
theorem dX12_settle_149 : decode cX12_settle 149 = .ok (.iinc 5 1, 3) := by decide +kernel
theorem dX12_settle_152 : decode cX12_settle 152 = .ok (.goto (-113), 3) := by decide +kernel
theorem dX12_settle_155 : decode cX12_settle 155 = .ok (.aload_n 0, 1) := by decide +kernel
theorem dX12_settle_156 : decode cX12_settle 156 = .ok (.iconst 0, 1) := by decide +kernel
theorem dX12_settle_157 : decode cX12_settle 157 = .ok (.putfield 155, 3) := by decide +kernel
theorem dX12_settle_160 : decode cX12_settle 160 = .ok (.aload_n 0, 1) := by decide +kernel
theorem dX12_settle_161 : decode cX12_settle 161 = .ok (.iload 4, 2) := by decide +kernel
theorem dX12_settle_163 : decode cX12_settle 163 = .ok (.i2l, 1) := by decide +kernel
theorem dX12_settle_164 : decode cX12_settle 164 = .ok (.invokevirtual 368, 3) := by decide +kernel
theorem dX12_settle_167 : decode cX12_settle 167 = .ok (.aload_n 0, 1) := by decide +kernel
theorem dX12_settle_168 : decode cX12_settle 168 = .ok (.iload 5, 2) := by decide +kernel
theorem dX12_settle_170 : decode cX12_settle 170 = .ok (.i2l, 1) := by decide +kernel
theorem dX12_settle_171 : decode cX12_settle 171 = .ok (.invokevirtual 368, 3) := by decide +kernel
theorem dX12_settle_174 : decode cX12_settle 174 = .ok (.iload_n 3, 1) := by decide +kernel
theorem dX12_settle_175 : decode cX12_settle 175 = .ok (.ireturn, 1) := by decide +kernel
def xX12_settle_155 (s_X12_in : zq_Sp) (s_X12_enters : zq_Sp) (J39 : zq_P) (Q : zq_Q) (ls : zq_L) (st : List Value) (h : zq_H) : Prop := (zi_aload 0 (zi_push (.int 0) (zi_putI 56 1 (zi_aload 0 (zi_iload 4 (zi_i2l (zi_callV 1 56 s_X12_enters (zi_aload 0 (zi_iload 5 (zi_i2l (zi_callV 1 56 s_X12_enters (zi_iload 3 (zi_iret Q))))))))))))) ls st h
theorem kX12_settle_155 {X : zq_X} {d : Nat} (C : zq_C X cX12_settle 8 RX12 d) (hd1 : 1 ≤ d) {d_X12_in : Nat} {s_X12_in : zq_Sp} (h_X12_in : zq_M yX12_in cX12_in 6 (some .boolean) 1 d_X12_in s_X12_in) (g_X12_in : d_X12_in + 1 ≤ d) {d_X12_enters : Nat} {s_X12_enters : zq_Sp} (h_X12_enters : zq_M yX12_enters cX12_enters 3 none 0 d_X12_enters s_X12_enters) (g_X12_enters : d_X12_enters + 1 ≤ d) {J39 : zq_P} (j39 : zq_ok X 8 39 J39) {Q : zq_Q} (hq : zq_R X (some .int) 1 Q) : zq_ok X 8 155 (xX12_settle_155 s_X12_in s_X12_enters J39 Q) := by
  refine zs_aload_n C dX12_settle_155 rfl ?_
  refine zs_iconst C dX12_settle_156 (by decide) ?_
  refine zs_putI C zp_56 zF12 (j := 1) ⟨by decide, rfl⟩ ⟨rfl, by decide +kernel⟩ zw_1097 dX12_settle_157 ?_
  refine zs_aload_n C dX12_settle_160 rfl ?_
  refine zs_iload C dX12_settle_161 ?_
  refine zs_i2l C dX12_settle_163 ?_
  refine zs_callV C h_X12_enters g_X12_enters zy_X12_enters zp_56 (show vwCl[12]? = some (RX12, TX12, 67) from rfl) zw_1574 zw_1576 zs9_X12_enters dX12_settle_164 ?_
  refine zs_aload_n C dX12_settle_167 rfl ?_
  refine zs_iload C dX12_settle_168 ?_
  refine zs_i2l C dX12_settle_170 ?_
  refine zs_callV C h_X12_enters g_X12_enters zy_X12_enters zp_56 (show vwCl[12]? = some (RX12, TX12, 67) from rfl) zw_1574 zw_1576 zs9_X12_enters dX12_settle_171 ?_
  refine zs_iload_n C dX12_settle_174 rfl ?_
  exact zs_iret C hq dX12_settle_175
def xX12_settle_146 (s_X12_in : zq_Sp) (s_X12_enters : zq_Sp) (J39 : zq_P) (Q : zq_Q) (ls : zq_L) (st : List Value) (h : zq_H) : Prop := (zi_i2 (fun x y => x - y) (zi_istore 4 (zi_iinc 5 1 (J39)))) ls st h
theorem kX12_settle_146 {X : zq_X} {d : Nat} (C : zq_C X cX12_settle 8 RX12 d) (hd1 : 1 ≤ d) {d_X12_in : Nat} {s_X12_in : zq_Sp} (h_X12_in : zq_M yX12_in cX12_in 6 (some .boolean) 1 d_X12_in s_X12_in) (g_X12_in : d_X12_in + 1 ≤ d) {d_X12_enters : Nat} {s_X12_enters : zq_Sp} (h_X12_enters : zq_M yX12_enters cX12_enters 3 none 0 d_X12_enters s_X12_enters) (g_X12_enters : d_X12_enters + 1 ≤ d) {J39 : zq_P} (j39 : zq_ok X 8 39 J39) {Q : zq_Q} (hq : zq_R X (some .int) 1 Q) : zq_ok X 8 146 (xX12_settle_146 s_X12_in s_X12_enters J39 Q) := by
  refine zs_isub C dX12_settle_146 ?_
  refine zs_istore C dX12_settle_147 (by decide) ?_
  refine zs_iinc C dX12_settle_149 (by decide) (by decide) ?_
  exact zs_goto C dX12_settle_152 (by decide) (j39)
def xX12_settle_145 (s_X12_in : zq_Sp) (s_X12_enters : zq_Sp) (J39 : zq_P) (Q : zq_Q) (ls : zq_L) (st : List Value) (h : zq_H) : Prop := (zi_push (.int 0) ((xX12_settle_146 s_X12_in s_X12_enters J39 Q))) ls st h
theorem kX12_settle_145 {X : zq_X} {d : Nat} (C : zq_C X cX12_settle 8 RX12 d) (hd1 : 1 ≤ d) {d_X12_in : Nat} {s_X12_in : zq_Sp} (h_X12_in : zq_M yX12_in cX12_in 6 (some .boolean) 1 d_X12_in s_X12_in) (g_X12_in : d_X12_in + 1 ≤ d) {d_X12_enters : Nat} {s_X12_enters : zq_Sp} (h_X12_enters : zq_M yX12_enters cX12_enters 3 none 0 d_X12_enters s_X12_enters) (g_X12_enters : d_X12_enters + 1 ≤ d) {J39 : zq_P} (j39 : zq_ok X 8 39 J39) {Q : zq_Q} (hq : zq_R X (some .int) 1 Q) : zq_ok X 8 145 (xX12_settle_145 s_X12_in s_X12_enters J39 Q) := by
  refine zs_iconst C dX12_settle_145 (by decide) ?_
  exact kX12_settle_146 C hd1 h_X12_in g_X12_in h_X12_enters g_X12_enters j39 hq
def xX12_settle_140 (s_X12_in : zq_Sp) (s_X12_enters : zq_Sp) (J39 : zq_P) (Q : zq_Q) (ls : zq_L) (st : List Value) (h : zq_H) : Prop := (zi_iload 7 ((xX12_settle_146 s_X12_in s_X12_enters J39 Q))) ls st h
theorem kX12_settle_140 {X : zq_X} {d : Nat} (C : zq_C X cX12_settle 8 RX12 d) (hd1 : 1 ≤ d) {d_X12_in : Nat} {s_X12_in : zq_Sp} (h_X12_in : zq_M yX12_in cX12_in 6 (some .boolean) 1 d_X12_in s_X12_in) (g_X12_in : d_X12_in + 1 ≤ d) {d_X12_enters : Nat} {s_X12_enters : zq_Sp} (h_X12_enters : zq_M yX12_enters cX12_enters 3 none 0 d_X12_enters s_X12_enters) (g_X12_enters : d_X12_enters + 1 ≤ d) {J39 : zq_P} (j39 : zq_ok X 8 39 J39) {Q : zq_Q} (hq : zq_R X (some .int) 1 Q) : zq_ok X 8 140 (xX12_settle_140 s_X12_in s_X12_enters J39 Q) := by
  refine zs_iload C dX12_settle_140 ?_
  exact zs_goto C dX12_settle_142 (by decide) (kX12_settle_146 C hd1 h_X12_in g_X12_in h_X12_enters g_X12_enters j39 hq)
def xX12_settle_131 (s_X12_in : zq_Sp) (s_X12_enters : zq_Sp) (J39 : zq_P) (Q : zq_Q) (ls : zq_L) (st : List Value) (h : zq_H) : Prop := (zi_i2 (fun x y => x - y) (zi_istore 3 (zi_iload 4 (zi_iload 6 (zi_if1 (fun x => x = 0) (xX12_settle_145 s_X12_in s_X12_enters J39 Q) (xX12_settle_140 s_X12_in s_X12_enters J39 Q)))))) ls st h
theorem kX12_settle_131 {X : zq_X} {d : Nat} (C : zq_C X cX12_settle 8 RX12 d) (hd1 : 1 ≤ d) {d_X12_in : Nat} {s_X12_in : zq_Sp} (h_X12_in : zq_M yX12_in cX12_in 6 (some .boolean) 1 d_X12_in s_X12_in) (g_X12_in : d_X12_in + 1 ≤ d) {d_X12_enters : Nat} {s_X12_enters : zq_Sp} (h_X12_enters : zq_M yX12_enters cX12_enters 3 none 0 d_X12_enters s_X12_enters) (g_X12_enters : d_X12_enters + 1 ≤ d) {J39 : zq_P} (j39 : zq_ok X 8 39 J39) {Q : zq_Q} (hq : zq_R X (some .int) 1 Q) : zq_ok X 8 131 (xX12_settle_131 s_X12_in s_X12_enters J39 Q) := by
  refine zs_isub C dX12_settle_131 ?_
  refine zs_istore_n C dX12_settle_132 rfl (by decide) ?_
  refine zs_iload C dX12_settle_133 ?_
  refine zs_iload C dX12_settle_135 ?_
  exact zs_if_eq C dX12_settle_137 (by decide) (kX12_settle_145 C hd1 h_X12_in g_X12_in h_X12_enters g_X12_enters j39 hq) (kX12_settle_140 C hd1 h_X12_in g_X12_in h_X12_enters g_X12_enters j39 hq)
def xX12_settle_129 (s_X12_in : zq_Sp) (s_X12_enters : zq_Sp) (J39 : zq_P) (Q : zq_Q) (ls : zq_L) (st : List Value) (h : zq_H) : Prop := (zi_iload 7 ((xX12_settle_131 s_X12_in s_X12_enters J39 Q))) ls st h
theorem kX12_settle_129 {X : zq_X} {d : Nat} (C : zq_C X cX12_settle 8 RX12 d) (hd1 : 1 ≤ d) {d_X12_in : Nat} {s_X12_in : zq_Sp} (h_X12_in : zq_M yX12_in cX12_in 6 (some .boolean) 1 d_X12_in s_X12_in) (g_X12_in : d_X12_in + 1 ≤ d) {d_X12_enters : Nat} {s_X12_enters : zq_Sp} (h_X12_enters : zq_M yX12_enters cX12_enters 3 none 0 d_X12_enters s_X12_enters) (g_X12_enters : d_X12_enters + 1 ≤ d) {J39 : zq_P} (j39 : zq_ok X 8 39 J39) {Q : zq_Q} (hq : zq_R X (some .int) 1 Q) : zq_ok X 8 129 (xX12_settle_129 s_X12_in s_X12_enters J39 Q) := by
  refine zs_iload C dX12_settle_129 ?_
  exact kX12_settle_131 C hd1 h_X12_in g_X12_in h_X12_enters g_X12_enters j39 hq
def xX12_settle_125 (s_X12_in : zq_Sp) (s_X12_enters : zq_Sp) (J39 : zq_P) (Q : zq_Q) (ls : zq_L) (st : List Value) (h : zq_H) : Prop := (zi_push (.int 0) ((xX12_settle_131 s_X12_in s_X12_enters J39 Q))) ls st h
theorem kX12_settle_125 {X : zq_X} {d : Nat} (C : zq_C X cX12_settle 8 RX12 d) (hd1 : 1 ≤ d) {d_X12_in : Nat} {s_X12_in : zq_Sp} (h_X12_in : zq_M yX12_in cX12_in 6 (some .boolean) 1 d_X12_in s_X12_in) (g_X12_in : d_X12_in + 1 ≤ d) {d_X12_enters : Nat} {s_X12_enters : zq_Sp} (h_X12_enters : zq_M yX12_enters cX12_enters 3 none 0 d_X12_enters s_X12_enters) (g_X12_enters : d_X12_enters + 1 ≤ d) {J39 : zq_P} (j39 : zq_ok X 8 39 J39) {Q : zq_Q} (hq : zq_R X (some .int) 1 Q) : zq_ok X 8 125 (xX12_settle_125 s_X12_in s_X12_enters J39 Q) := by
  refine zs_iconst C dX12_settle_125 (by decide) ?_
  exact zs_goto C dX12_settle_126 (by decide) (kX12_settle_131 C hd1 h_X12_in g_X12_in h_X12_enters g_X12_enters j39 hq)
def xX12_settle_103 (s_X12_in : zq_Sp) (s_X12_enters : zq_Sp) (J39 : zq_P) (Q : zq_Q) (ls : zq_L) (st : List Value) (h : zq_H) : Prop := (zi_i2 (fun x y => x + y) (zi_istore 4 (zi_iload 3 (zi_iload 4 (zi_i2 (fun x y => x - y) (zi_m1 zf_abs (zi_push (.int 3) (zi_idv (fun x y => x / y) (zi_push (.int 1) (zi_i2 (fun x y => x + y) (zi_istore 7 (zi_iload 3 (zi_iload 6 (zi_if1 (fun x => x = 0) (xX12_settle_129 s_X12_in s_X12_enters J39 Q) (xX12_settle_125 s_X12_in s_X12_enters J39 Q))))))))))))))) ls st h
theorem kX12_settle_103 {X : zq_X} {d : Nat} (C : zq_C X cX12_settle 8 RX12 d) (hd1 : 1 ≤ d) {d_X12_in : Nat} {s_X12_in : zq_Sp} (h_X12_in : zq_M yX12_in cX12_in 6 (some .boolean) 1 d_X12_in s_X12_in) (g_X12_in : d_X12_in + 1 ≤ d) {d_X12_enters : Nat} {s_X12_enters : zq_Sp} (h_X12_enters : zq_M yX12_enters cX12_enters 3 none 0 d_X12_enters s_X12_enters) (g_X12_enters : d_X12_enters + 1 ≤ d) {J39 : zq_P} (j39 : zq_ok X 8 39 J39) {Q : zq_Q} (hq : zq_R X (some .int) 1 Q) : zq_ok X 8 103 (xX12_settle_103 s_X12_in s_X12_enters J39 Q) := by
  refine zs_iadd C dX12_settle_103 ?_
  refine zs_istore C dX12_settle_104 (by decide) ?_
  refine zs_iload_n C dX12_settle_106 rfl ?_
  refine zs_iload C dX12_settle_107 ?_
  refine zs_isub C dX12_settle_109 ?_
  refine zs_mabs C hd1 zw_1679 zw_838 zw_14 zw_839 dX12_settle_110 ?_
  refine zs_iconst C dX12_settle_113 (by decide) ?_
  refine zs_idiv C dX12_settle_114 ?_
  refine zs_iconst C dX12_settle_115 (by decide) ?_
  refine zs_iadd C dX12_settle_116 ?_
  refine zs_istore C dX12_settle_117 (by decide) ?_
  refine zs_iload_n C dX12_settle_119 rfl ?_
  refine zs_iload C dX12_settle_120 ?_
  exact zs_if_eq C dX12_settle_122 (by decide) (kX12_settle_129 C hd1 h_X12_in g_X12_in h_X12_enters g_X12_enters j39 hq) (kX12_settle_125 C hd1 h_X12_in g_X12_in h_X12_enters g_X12_enters j39 hq)
def xX12_settle_101 (s_X12_in : zq_Sp) (s_X12_enters : zq_Sp) (J39 : zq_P) (Q : zq_Q) (ls : zq_L) (st : List Value) (h : zq_H) : Prop := (zi_iload 7 ((xX12_settle_103 s_X12_in s_X12_enters J39 Q))) ls st h
theorem kX12_settle_101 {X : zq_X} {d : Nat} (C : zq_C X cX12_settle 8 RX12 d) (hd1 : 1 ≤ d) {d_X12_in : Nat} {s_X12_in : zq_Sp} (h_X12_in : zq_M yX12_in cX12_in 6 (some .boolean) 1 d_X12_in s_X12_in) (g_X12_in : d_X12_in + 1 ≤ d) {d_X12_enters : Nat} {s_X12_enters : zq_Sp} (h_X12_enters : zq_M yX12_enters cX12_enters 3 none 0 d_X12_enters s_X12_enters) (g_X12_enters : d_X12_enters + 1 ≤ d) {J39 : zq_P} (j39 : zq_ok X 8 39 J39) {Q : zq_Q} (hq : zq_R X (some .int) 1 Q) : zq_ok X 8 101 (xX12_settle_101 s_X12_in s_X12_enters J39 Q) := by
  refine zs_iload C dX12_settle_101 ?_
  exact kX12_settle_103 C hd1 h_X12_in g_X12_in h_X12_enters g_X12_enters j39 hq
def xX12_settle_97 (s_X12_in : zq_Sp) (s_X12_enters : zq_Sp) (J39 : zq_P) (Q : zq_Q) (ls : zq_L) (st : List Value) (h : zq_H) : Prop := (zi_push (.int 0) ((xX12_settle_103 s_X12_in s_X12_enters J39 Q))) ls st h
theorem kX12_settle_97 {X : zq_X} {d : Nat} (C : zq_C X cX12_settle 8 RX12 d) (hd1 : 1 ≤ d) {d_X12_in : Nat} {s_X12_in : zq_Sp} (h_X12_in : zq_M yX12_in cX12_in 6 (some .boolean) 1 d_X12_in s_X12_in) (g_X12_in : d_X12_in + 1 ≤ d) {d_X12_enters : Nat} {s_X12_enters : zq_Sp} (h_X12_enters : zq_M yX12_enters cX12_enters 3 none 0 d_X12_enters s_X12_enters) (g_X12_enters : d_X12_enters + 1 ≤ d) {J39 : zq_P} (j39 : zq_ok X 8 39 J39) {Q : zq_Q} (hq : zq_R X (some .int) 1 Q) : zq_ok X 8 97 (xX12_settle_97 s_X12_in s_X12_enters J39 Q) := by
  refine zs_iconst C dX12_settle_97 (by decide) ?_
  exact zs_goto C dX12_settle_98 (by decide) (kX12_settle_103 C hd1 h_X12_in g_X12_in h_X12_enters g_X12_enters j39 hq)
def xX12_settle_88 (s_X12_in : zq_Sp) (s_X12_enters : zq_Sp) (J39 : zq_P) (Q : zq_Q) (ls : zq_L) (st : List Value) (h : zq_H) : Prop := (zi_i2 (fun x y => x + y) (zi_istore 3 (zi_iload 4 (zi_iload 6 (zi_if1 (fun x => x = 0) (xX12_settle_101 s_X12_in s_X12_enters J39 Q) (xX12_settle_97 s_X12_in s_X12_enters J39 Q)))))) ls st h
theorem kX12_settle_88 {X : zq_X} {d : Nat} (C : zq_C X cX12_settle 8 RX12 d) (hd1 : 1 ≤ d) {d_X12_in : Nat} {s_X12_in : zq_Sp} (h_X12_in : zq_M yX12_in cX12_in 6 (some .boolean) 1 d_X12_in s_X12_in) (g_X12_in : d_X12_in + 1 ≤ d) {d_X12_enters : Nat} {s_X12_enters : zq_Sp} (h_X12_enters : zq_M yX12_enters cX12_enters 3 none 0 d_X12_enters s_X12_enters) (g_X12_enters : d_X12_enters + 1 ≤ d) {J39 : zq_P} (j39 : zq_ok X 8 39 J39) {Q : zq_Q} (hq : zq_R X (some .int) 1 Q) : zq_ok X 8 88 (xX12_settle_88 s_X12_in s_X12_enters J39 Q) := by
  refine zs_iadd C dX12_settle_88 ?_
  refine zs_istore_n C dX12_settle_89 rfl (by decide) ?_
  refine zs_iload C dX12_settle_90 ?_
  refine zs_iload C dX12_settle_92 ?_
  exact zs_if_eq C dX12_settle_94 (by decide) (kX12_settle_101 C hd1 h_X12_in g_X12_in h_X12_enters g_X12_enters j39 hq) (kX12_settle_97 C hd1 h_X12_in g_X12_in h_X12_enters g_X12_enters j39 hq)
def xX12_settle_87 (s_X12_in : zq_Sp) (s_X12_enters : zq_Sp) (J39 : zq_P) (Q : zq_Q) (ls : zq_L) (st : List Value) (h : zq_H) : Prop := (zi_push (.int 0) ((xX12_settle_88 s_X12_in s_X12_enters J39 Q))) ls st h
theorem kX12_settle_87 {X : zq_X} {d : Nat} (C : zq_C X cX12_settle 8 RX12 d) (hd1 : 1 ≤ d) {d_X12_in : Nat} {s_X12_in : zq_Sp} (h_X12_in : zq_M yX12_in cX12_in 6 (some .boolean) 1 d_X12_in s_X12_in) (g_X12_in : d_X12_in + 1 ≤ d) {d_X12_enters : Nat} {s_X12_enters : zq_Sp} (h_X12_enters : zq_M yX12_enters cX12_enters 3 none 0 d_X12_enters s_X12_enters) (g_X12_enters : d_X12_enters + 1 ≤ d) {J39 : zq_P} (j39 : zq_ok X 8 39 J39) {Q : zq_Q} (hq : zq_R X (some .int) 1 Q) : zq_ok X 8 87 (xX12_settle_87 s_X12_in s_X12_enters J39 Q) := by
  refine zs_iconst C dX12_settle_87 (by decide) ?_
  exact kX12_settle_88 C hd1 h_X12_in g_X12_in h_X12_enters g_X12_enters j39 hq
def xX12_settle_82 (s_X12_in : zq_Sp) (s_X12_enters : zq_Sp) (J39 : zq_P) (Q : zq_Q) (ls : zq_L) (st : List Value) (h : zq_H) : Prop := (zi_iload 7 ((xX12_settle_88 s_X12_in s_X12_enters J39 Q))) ls st h
theorem kX12_settle_82 {X : zq_X} {d : Nat} (C : zq_C X cX12_settle 8 RX12 d) (hd1 : 1 ≤ d) {d_X12_in : Nat} {s_X12_in : zq_Sp} (h_X12_in : zq_M yX12_in cX12_in 6 (some .boolean) 1 d_X12_in s_X12_in) (g_X12_in : d_X12_in + 1 ≤ d) {d_X12_enters : Nat} {s_X12_enters : zq_Sp} (h_X12_enters : zq_M yX12_enters cX12_enters 3 none 0 d_X12_enters s_X12_enters) (g_X12_enters : d_X12_enters + 1 ≤ d) {J39 : zq_P} (j39 : zq_ok X 8 39 J39) {Q : zq_Q} (hq : zq_R X (some .int) 1 Q) : zq_ok X 8 82 (xX12_settle_82 s_X12_in s_X12_enters J39 Q) := by
  refine zs_iload C dX12_settle_82 ?_
  exact zs_goto C dX12_settle_84 (by decide) (kX12_settle_88 C hd1 h_X12_in g_X12_in h_X12_enters g_X12_enters j39 hq)
def xX12_settle_61 (s_X12_in : zq_Sp) (s_X12_enters : zq_Sp) (J39 : zq_P) (Q : zq_Q) (ls : zq_L) (st : List Value) (h : zq_H) : Prop := (zi_istore 6 (zi_iload 3 (zi_iload 4 (zi_i2 (fun x y => x - y) (zi_m1 zf_abs (zi_push (.int 3) (zi_idv (fun x y => x / y) (zi_push (.int 1) (zi_i2 (fun x y => x + y) (zi_istore 7 (zi_iload 3 (zi_iload 6 (zi_if1 (fun x => x = 0) (xX12_settle_87 s_X12_in s_X12_enters J39 Q) (xX12_settle_82 s_X12_in s_X12_enters J39 Q)))))))))))))) ls st h
theorem kX12_settle_61 {X : zq_X} {d : Nat} (C : zq_C X cX12_settle 8 RX12 d) (hd1 : 1 ≤ d) {d_X12_in : Nat} {s_X12_in : zq_Sp} (h_X12_in : zq_M yX12_in cX12_in 6 (some .boolean) 1 d_X12_in s_X12_in) (g_X12_in : d_X12_in + 1 ≤ d) {d_X12_enters : Nat} {s_X12_enters : zq_Sp} (h_X12_enters : zq_M yX12_enters cX12_enters 3 none 0 d_X12_enters s_X12_enters) (g_X12_enters : d_X12_enters + 1 ≤ d) {J39 : zq_P} (j39 : zq_ok X 8 39 J39) {Q : zq_Q} (hq : zq_R X (some .int) 1 Q) : zq_ok X 8 61 (xX12_settle_61 s_X12_in s_X12_enters J39 Q) := by
  refine zs_istore C dX12_settle_61 (by decide) ?_
  refine zs_iload_n C dX12_settle_63 rfl ?_
  refine zs_iload C dX12_settle_64 ?_
  refine zs_isub C dX12_settle_66 ?_
  refine zs_mabs C hd1 zw_1679 zw_838 zw_14 zw_839 dX12_settle_67 ?_
  refine zs_iconst C dX12_settle_70 (by decide) ?_
  refine zs_idiv C dX12_settle_71 ?_
  refine zs_iconst C dX12_settle_72 (by decide) ?_
  refine zs_iadd C dX12_settle_73 ?_
  refine zs_istore C dX12_settle_74 (by decide) ?_
  refine zs_iload_n C dX12_settle_76 rfl ?_
  refine zs_iload C dX12_settle_77 ?_
  exact zs_if_eq C dX12_settle_79 (by decide) (kX12_settle_87 C hd1 h_X12_in g_X12_in h_X12_enters g_X12_enters j39 hq) (kX12_settle_82 C hd1 h_X12_in g_X12_in h_X12_enters g_X12_enters j39 hq)
def xX12_settle_60 (s_X12_in : zq_Sp) (s_X12_enters : zq_Sp) (J39 : zq_P) (Q : zq_Q) (ls : zq_L) (st : List Value) (h : zq_H) : Prop := (zi_push (.int 0) ((xX12_settle_61 s_X12_in s_X12_enters J39 Q))) ls st h
theorem kX12_settle_60 {X : zq_X} {d : Nat} (C : zq_C X cX12_settle 8 RX12 d) (hd1 : 1 ≤ d) {d_X12_in : Nat} {s_X12_in : zq_Sp} (h_X12_in : zq_M yX12_in cX12_in 6 (some .boolean) 1 d_X12_in s_X12_in) (g_X12_in : d_X12_in + 1 ≤ d) {d_X12_enters : Nat} {s_X12_enters : zq_Sp} (h_X12_enters : zq_M yX12_enters cX12_enters 3 none 0 d_X12_enters s_X12_enters) (g_X12_enters : d_X12_enters + 1 ≤ d) {J39 : zq_P} (j39 : zq_ok X 8 39 J39) {Q : zq_Q} (hq : zq_R X (some .int) 1 Q) : zq_ok X 8 60 (xX12_settle_60 s_X12_in s_X12_enters J39 Q) := by
  refine zs_iconst C dX12_settle_60 (by decide) ?_
  exact kX12_settle_61 C hd1 h_X12_in g_X12_in h_X12_enters g_X12_enters j39 hq
def xX12_settle_56 (s_X12_in : zq_Sp) (s_X12_enters : zq_Sp) (J39 : zq_P) (Q : zq_Q) (ls : zq_L) (st : List Value) (h : zq_H) : Prop := (zi_push (.int 1) ((xX12_settle_61 s_X12_in s_X12_enters J39 Q))) ls st h
theorem kX12_settle_56 {X : zq_X} {d : Nat} (C : zq_C X cX12_settle 8 RX12 d) (hd1 : 1 ≤ d) {d_X12_in : Nat} {s_X12_in : zq_Sp} (h_X12_in : zq_M yX12_in cX12_in 6 (some .boolean) 1 d_X12_in s_X12_in) (g_X12_in : d_X12_in + 1 ≤ d) {d_X12_enters : Nat} {s_X12_enters : zq_Sp} (h_X12_enters : zq_M yX12_enters cX12_enters 3 none 0 d_X12_enters s_X12_enters) (g_X12_enters : d_X12_enters + 1 ≤ d) {J39 : zq_P} (j39 : zq_ok X 8 39 J39) {Q : zq_Q} (hq : zq_R X (some .int) 1 Q) : zq_ok X 8 56 (xX12_settle_56 s_X12_in s_X12_enters J39 Q) := by
  refine zs_iconst C dX12_settle_56 (by decide) ?_
  exact zs_goto C dX12_settle_57 (by decide) (kX12_settle_61 C hd1 h_X12_in g_X12_in h_X12_enters g_X12_enters j39 hq)
def xX12_settle_50 (s_X12_in : zq_Sp) (s_X12_enters : zq_Sp) (J39 : zq_P) (Q : zq_Q) (ls : zq_L) (st : List Value) (h : zq_H) : Prop := (zi_iload 3 (zi_iload 4 (zi_if2 (fun x y => y ≤ x) (xX12_settle_60 s_X12_in s_X12_enters J39 Q) (xX12_settle_56 s_X12_in s_X12_enters J39 Q)))) ls st h
theorem kX12_settle_50 {X : zq_X} {d : Nat} (C : zq_C X cX12_settle 8 RX12 d) (hd1 : 1 ≤ d) {d_X12_in : Nat} {s_X12_in : zq_Sp} (h_X12_in : zq_M yX12_in cX12_in 6 (some .boolean) 1 d_X12_in s_X12_in) (g_X12_in : d_X12_in + 1 ≤ d) {d_X12_enters : Nat} {s_X12_enters : zq_Sp} (h_X12_enters : zq_M yX12_enters cX12_enters 3 none 0 d_X12_enters s_X12_enters) (g_X12_enters : d_X12_enters + 1 ≤ d) {J39 : zq_P} (j39 : zq_ok X 8 39 J39) {Q : zq_Q} (hq : zq_R X (some .int) 1 Q) : zq_ok X 8 50 (xX12_settle_50 s_X12_in s_X12_enters J39 Q) := by
  refine zs_iload_n C dX12_settle_50 rfl ?_
  refine zs_iload C dX12_settle_51 ?_
  exact zs_icmp_ge C dX12_settle_53 (by decide) (kX12_settle_60 C hd1 h_X12_in g_X12_in h_X12_enters g_X12_enters j39 hq) (kX12_settle_56 C hd1 h_X12_in g_X12_in h_X12_enters g_X12_enters j39 hq)
def xX12_settle_39 (s_X12_in : zq_Sp) (s_X12_enters : zq_Sp) (J39 : zq_P) (Q : zq_Q) (ls : zq_L) (st : List Value) (h : zq_H) : Prop := (zi_iload 3 (zi_iload 4 (zi_i2 (fun x y => x - y) (zi_m1 zf_abs (zi_push (.int 1) (zi_if2 (fun x y => x ≤ y) (xX12_settle_155 s_X12_in s_X12_enters J39 Q) (xX12_settle_50 s_X12_in s_X12_enters J39 Q))))))) ls st h
theorem kX12_settle_39 {X : zq_X} {d : Nat} (C : zq_C X cX12_settle 8 RX12 d) (hd1 : 1 ≤ d) {d_X12_in : Nat} {s_X12_in : zq_Sp} (h_X12_in : zq_M yX12_in cX12_in 6 (some .boolean) 1 d_X12_in s_X12_in) (g_X12_in : d_X12_in + 1 ≤ d) {d_X12_enters : Nat} {s_X12_enters : zq_Sp} (h_X12_enters : zq_M yX12_enters cX12_enters 3 none 0 d_X12_enters s_X12_enters) (g_X12_enters : d_X12_enters + 1 ≤ d) {J39 : zq_P} (j39 : zq_ok X 8 39 J39) {Q : zq_Q} (hq : zq_R X (some .int) 1 Q) : zq_ok X 8 39 (xX12_settle_39 s_X12_in s_X12_enters J39 Q) := by
  refine zs_iload_n C dX12_settle_39 rfl ?_
  refine zs_iload C dX12_settle_40 ?_
  refine zs_isub C dX12_settle_42 ?_
  refine zs_mabs C hd1 zw_1679 zw_838 zw_14 zw_839 dX12_settle_43 ?_
  refine zs_iconst C dX12_settle_46 (by decide) ?_
  exact zs_icmp_le C dX12_settle_47 (by decide) (kX12_settle_155 C hd1 h_X12_in g_X12_in h_X12_enters g_X12_enters j39 hq) (kX12_settle_50 C hd1 h_X12_in g_X12_in h_X12_enters g_X12_enters j39 hq)
def xX12_settle_31 (s_X12_in : zq_Sp) (s_X12_enters : zq_Sp) (J39 : zq_P) (Q : zq_Q) (ls : zq_L) (st : List Value) (h : zq_H) : Prop := (zi_iload 1 (zi_istore 3 (zi_iload 2 (zi_istore 4 (zi_push (.int 0) (zi_istore 5 (J39))))))) ls st h
theorem kX12_settle_31 {X : zq_X} {d : Nat} (C : zq_C X cX12_settle 8 RX12 d) (hd1 : 1 ≤ d) {d_X12_in : Nat} {s_X12_in : zq_Sp} (h_X12_in : zq_M yX12_in cX12_in 6 (some .boolean) 1 d_X12_in s_X12_in) (g_X12_in : d_X12_in + 1 ≤ d) {d_X12_enters : Nat} {s_X12_enters : zq_Sp} (h_X12_enters : zq_M yX12_enters cX12_enters 3 none 0 d_X12_enters s_X12_enters) (g_X12_enters : d_X12_enters + 1 ≤ d) {J39 : zq_P} (j39 : zq_ok X 8 39 J39) {Q : zq_Q} (hq : zq_R X (some .int) 1 Q) : zq_ok X 8 31 (xX12_settle_31 s_X12_in s_X12_enters J39 Q) := by
  refine zs_iload_n C dX12_settle_31 rfl ?_
  refine zs_istore_n C dX12_settle_32 rfl (by decide) ?_
  refine zs_iload_n C dX12_settle_33 rfl ?_
  refine zs_istore C dX12_settle_34 (by decide) ?_
  refine zs_iconst C dX12_settle_36 (by decide) ?_
  refine zs_istore C dX12_settle_37 (by decide) ?_
  exact j39
def xX12_settle_29 (s_X12_in : zq_Sp) (s_X12_enters : zq_Sp) (J39 : zq_P) (Q : zq_Q) (ls : zq_L) (st : List Value) (h : zq_H) : Prop := (zi_push (.int (-1)) (zi_iret Q)) ls st h
theorem kX12_settle_29 {X : zq_X} {d : Nat} (C : zq_C X cX12_settle 8 RX12 d) (hd1 : 1 ≤ d) {d_X12_in : Nat} {s_X12_in : zq_Sp} (h_X12_in : zq_M yX12_in cX12_in 6 (some .boolean) 1 d_X12_in s_X12_in) (g_X12_in : d_X12_in + 1 ≤ d) {d_X12_enters : Nat} {s_X12_enters : zq_Sp} (h_X12_enters : zq_M yX12_enters cX12_enters 3 none 0 d_X12_enters s_X12_enters) (g_X12_enters : d_X12_enters + 1 ≤ d) {J39 : zq_P} (j39 : zq_ok X 8 39 J39) {Q : zq_Q} (hq : zq_R X (some .int) 1 Q) : zq_ok X 8 29 (xX12_settle_29 s_X12_in s_X12_enters J39 Q) := by
  refine zs_iconst C dX12_settle_29 (by decide) ?_
  exact zs_iret C hq dX12_settle_30
def xX12_settle_17 (s_X12_in : zq_Sp) (s_X12_enters : zq_Sp) (J39 : zq_P) (Q : zq_Q) (ls : zq_L) (st : List Value) (h : zq_H) : Prop := (zi_iload 2 (zi_i2l (zi_push (.long 0) (zi_push (.long 999) (zi_callS 3 s_X12_in (zi_if1 (fun x => x = 0) (xX12_settle_29 s_X12_in s_X12_enters J39 Q) (xX12_settle_31 s_X12_in s_X12_enters J39 Q))))))) ls st h
theorem kX12_settle_17 {X : zq_X} {d : Nat} (C : zq_C X cX12_settle 8 RX12 d) (hd1 : 1 ≤ d) {d_X12_in : Nat} {s_X12_in : zq_Sp} (h_X12_in : zq_M yX12_in cX12_in 6 (some .boolean) 1 d_X12_in s_X12_in) (g_X12_in : d_X12_in + 1 ≤ d) {d_X12_enters : Nat} {s_X12_enters : zq_Sp} (h_X12_enters : zq_M yX12_enters cX12_enters 3 none 0 d_X12_enters s_X12_enters) (g_X12_enters : d_X12_enters + 1 ≤ d) {J39 : zq_P} (j39 : zq_ok X 8 39 J39) {Q : zq_Q} (hq : zq_R X (some .int) 1 Q) : zq_ok X 8 17 (xX12_settle_17 s_X12_in s_X12_enters J39 Q) := by
  refine zs_iload_n C dX12_settle_17 rfl ?_
  refine zs_i2l C dX12_settle_18 ?_
  refine zs_lconst C dX12_settle_19 (by decide) ?_
  refine zs_ldc2 C dX12_settle_20 zw_1732 ?_
  refine zs_callS C h_X12_in g_X12_in zy_X12_in zw_1311 zw_1312 dX12_settle_23 ?_
  exact zs_if_ne C dX12_settle_26 (by decide) (kX12_settle_31 C hd1 h_X12_in g_X12_in h_X12_enters g_X12_enters j39 hq) (kX12_settle_29 C hd1 h_X12_in g_X12_in h_X12_enters g_X12_enters j39 hq)
def xX12_settle_0 (s_X12_in : zq_Sp) (s_X12_enters : zq_Sp) (J39 : zq_P) (Q : zq_Q) (ls : zq_L) (st : List Value) (h : zq_H) : Prop := (zi_aload 0 (zi_push (.int 0) (zi_putI 56 0 (zi_iload 1 (zi_i2l (zi_push (.long 0) (zi_push (.long 999) (zi_callS 3 s_X12_in (zi_if1 (fun x => x = 0) (xX12_settle_29 s_X12_in s_X12_enters J39 Q) (xX12_settle_17 s_X12_in s_X12_enters J39 Q)))))))))) ls st h
theorem kX12_settle_0 {X : zq_X} {d : Nat} (C : zq_C X cX12_settle 8 RX12 d) (hd1 : 1 ≤ d) {d_X12_in : Nat} {s_X12_in : zq_Sp} (h_X12_in : zq_M yX12_in cX12_in 6 (some .boolean) 1 d_X12_in s_X12_in) (g_X12_in : d_X12_in + 1 ≤ d) {d_X12_enters : Nat} {s_X12_enters : zq_Sp} (h_X12_enters : zq_M yX12_enters cX12_enters 3 none 0 d_X12_enters s_X12_enters) (g_X12_enters : d_X12_enters + 1 ≤ d) {J39 : zq_P} (j39 : zq_ok X 8 39 J39) {Q : zq_Q} (hq : zq_R X (some .int) 1 Q) : zq_ok X 8 0 (xX12_settle_0 s_X12_in s_X12_enters J39 Q) := by
  refine zs_aload_n C dX12_settle_0 rfl ?_
  refine zs_iconst C dX12_settle_1 (by decide) ?_
  refine zs_putI C zp_56 zF12 (j := 0) ⟨by decide, rfl⟩ ⟨rfl, by decide +kernel⟩ zw_1096 dX12_settle_2 ?_
  refine zs_iload_n C dX12_settle_5 rfl ?_
  refine zs_i2l C dX12_settle_6 ?_
  refine zs_lconst C dX12_settle_7 (by decide) ?_
  refine zs_ldc2 C dX12_settle_8 zw_1732 ?_
  refine zs_callS C h_X12_in g_X12_in zy_X12_in zw_1311 zw_1312 dX12_settle_11 ?_
  exact zs_if_eq C dX12_settle_14 (by decide) (kX12_settle_29 C hd1 h_X12_in g_X12_in h_X12_enters g_X12_enters j39 hq) (kX12_settle_17 C hd1 h_X12_in g_X12_in h_X12_enters g_X12_enters j39 hq)
theorem mX12_settle {d : Nat} {spec : zq_Sp} {σ39 : Type} {d_X12_in : Nat} {s_X12_in : zq_Sp} (h_X12_in : zq_M yX12_in cX12_in 6 (some .boolean) 1 d_X12_in s_X12_in) (g_X12_in : d_X12_in + 1 ≤ d) {d_X12_enters : Nat} {s_X12_enters : zq_Sp} (h_X12_enters : zq_M yX12_enters cX12_enters 3 none 0 d_X12_enters s_X12_enters) (g_X12_enters : d_X12_enters + 1 ≤ d) (hd1 : 1 ≤ d) (μ39 : σ39 → Nat) (I39 : zq_Q → σ39 → zq_P) (v : ∀ args h Q, spec args h Q → (zq_a args).length ≤ 8 ∧ xX12_settle_0 s_X12_in s_X12_enters (fun ls st h => ∃ b, I39 Q b ls st h) Q (zq_l0 8 args) [] h) (v39 : ∀ Q a ls st h, I39 Q a ls st h → xX12_settle_39 s_X12_in s_X12_enters (fun ls st h => ∃ b, μ39 b < μ39 a ∧ I39 Q b ls st h) Q ls st h) : zq_M yX12_settle cX12_settle 8 (some .int) 1 d spec := by
  refine zq_met (by decide +kernel) (by decide) (fun X Q args h C hq hs => ⟨(v args h Q hs).1, _, ?_, (v args h Q hs).2⟩)
  have hl := zq_loop1 (X := X) (nL := 8) (pc1 := 39) μ39 (I39 Q) (fun J39 => xX12_settle_39 s_X12_in s_X12_enters J39 Q) (fun j39 => kX12_settle_39 C hd1 h_X12_in g_X12_in h_X12_enters g_X12_enters j39 hq) (v39 Q)
  exact kX12_settle_0 C hd1 h_X12_in g_X12_in h_X12_enters g_X12_enters hl hq
/-! ToOneCrumbModel.crumbsAll()I -/
theorem dX12_crumbsAll_0 : decode cX12_crumbsAll 0 = .ok (.iconst 0, 1) := by decide +kernel
theorem dX12_crumbsAll_1 : decode cX12_crumbsAll 1 = .ok (.istore_n 1, 1) := by decide +kernel
theorem dX12_crumbsAll_2 : decode cX12_crumbsAll 2 = .ok (.iconst 0, 1) := by decide +kernel
theorem dX12_crumbsAll_3 : decode cX12_crumbsAll 3 = .ok (.istore_n 2, 1) := by decide +kernel
theorem dX12_crumbsAll_4 : decode cX12_crumbsAll 4 = .ok (.iload_n 2, 1) := by decide +kernel
theorem dX12_crumbsAll_5 : decode cX12_crumbsAll 5 = .ok (.aload_n 0, 1) := by decide +kernel
theorem dX12_crumbsAll_6 : decode cX12_crumbsAll 6 = .ok (.getfield 158, 3) := by decide +kernel
theorem dX12_crumbsAll_9 : decode cX12_crumbsAll 9 = .ok (.if_icmp .ge 18, 3) := by decide +kernel
theorem dX12_crumbsAll_12 : decode cX12_crumbsAll 12 = .ok (.iload_n 1, 1) := by decide +kernel
theorem dX12_crumbsAll_13 : decode cX12_crumbsAll 13 = .ok (.aload_n 0, 1) := by decide +kernel
theorem dX12_crumbsAll_14 : decode cX12_crumbsAll 14 = .ok (.getfield 13, 3) := by decide +kernel
theorem dX12_crumbsAll_17 : decode cX12_crumbsAll 17 = .ok (.iload_n 2, 1) := by decide +kernel
theorem dX12_crumbsAll_18 : decode cX12_crumbsAll 18 = .ok (.iaload, 1) := by decide +kernel
theorem dX12_crumbsAll_19 : decode cX12_crumbsAll 19 = .ok (.iadd, 1) := by decide +kernel
theorem dX12_crumbsAll_20 : decode cX12_crumbsAll 20 = .ok (.istore_n 1, 1) := by decide +kernel
theorem dX12_crumbsAll_21 : decode cX12_crumbsAll 21 = .ok (.iinc 2 1, 3) := by decide +kernel
theorem dX12_crumbsAll_24 : decode cX12_crumbsAll 24 = .ok (.goto (-20), 3) := by decide +kernel
theorem dX12_crumbsAll_27 : decode cX12_crumbsAll 27 = .ok (.iload_n 1, 1) := by decide +kernel
theorem dX12_crumbsAll_28 : decode cX12_crumbsAll 28 = .ok (.ireturn, 1) := by decide +kernel
def xX12_crumbsAll_27 (J4 : zq_P) (Q : zq_Q) (ls : zq_L) (st : List Value) (h : zq_H) : Prop := (zi_iload 1 (zi_iret Q)) ls st h
theorem kX12_crumbsAll_27 {X : zq_X} {d : Nat} (C : zq_C X cX12_crumbsAll 3 RX12 d) {J4 : zq_P} (j4 : zq_ok X 3 4 J4) {Q : zq_Q} (hq : zq_R X (some .int) 1 Q) : zq_ok X 3 27 (xX12_crumbsAll_27 J4 Q) := by
  refine zs_iload_n C dX12_crumbsAll_27 rfl ?_
  exact zs_iret C hq dX12_crumbsAll_28
def xX12_crumbsAll_12 (J4 : zq_P) (Q : zq_Q) (ls : zq_L) (st : List Value) (h : zq_H) : Prop := (zi_iload 1 (zi_aload 0 (zi_getR 56 58 (zi_iload 2 (zi_aldI 58 16 (zi_i2 (fun x y => x + y) (zi_istore 1 (zi_iinc 2 1 (J4))))))))) ls st h
theorem kX12_crumbsAll_12 {X : zq_X} {d : Nat} (C : zq_C X cX12_crumbsAll 3 RX12 d) {J4 : zq_P} (j4 : zq_ok X 3 4 J4) {Q : zq_Q} (hq : zq_R X (some .int) 1 Q) : zq_ok X 3 12 (xX12_crumbsAll_12 J4 Q) := by
  refine zs_iload_n C dX12_crumbsAll_12 rfl ?_
  refine zs_aload_n C dX12_crumbsAll_13 rfl ?_
  refine zs_getR C zp_56 zF12 (j := 6) ⟨by decide, rfl⟩ zw_1102 dX12_crumbsAll_14 ?_
  refine zs_iload_n C dX12_crumbsAll_17 rfl ?_
  refine zs_iaload C zp_58 dX12_crumbsAll_18 ?_
  refine zs_iadd C dX12_crumbsAll_19 ?_
  refine zs_istore_n C dX12_crumbsAll_20 rfl (by decide) ?_
  refine zs_iinc C dX12_crumbsAll_21 (by decide) (by decide) ?_
  exact zs_goto C dX12_crumbsAll_24 (by decide) (j4)
def xX12_crumbsAll_4 (J4 : zq_P) (Q : zq_Q) (ls : zq_L) (st : List Value) (h : zq_H) : Prop := (zi_iload 2 (zi_aload 0 (zi_getI 56 3 (zi_if2 (fun x y => y ≤ x) (xX12_crumbsAll_27 J4 Q) (xX12_crumbsAll_12 J4 Q))))) ls st h
theorem kX12_crumbsAll_4 {X : zq_X} {d : Nat} (C : zq_C X cX12_crumbsAll 3 RX12 d) {J4 : zq_P} (j4 : zq_ok X 3 4 J4) {Q : zq_Q} (hq : zq_R X (some .int) 1 Q) : zq_ok X 3 4 (xX12_crumbsAll_4 J4 Q) := by
  refine zs_iload_n C dX12_crumbsAll_4 rfl ?_
  refine zs_aload_n C dX12_crumbsAll_5 rfl ?_
  refine zs_getI C zp_56 zF12 (j := 3) ⟨by decide, rfl⟩ zw_1099 dX12_crumbsAll_6 ?_
  exact zs_icmp_ge C dX12_crumbsAll_9 (by decide) (kX12_crumbsAll_27 C j4 hq) (kX12_crumbsAll_12 C j4 hq)
def xX12_crumbsAll_0 (J4 : zq_P) (Q : zq_Q) (ls : zq_L) (st : List Value) (h : zq_H) : Prop := (zi_push (.int 0) (zi_istore 1 (zi_push (.int 0) (zi_istore 2 (J4))))) ls st h
theorem kX12_crumbsAll_0 {X : zq_X} {d : Nat} (C : zq_C X cX12_crumbsAll 3 RX12 d) {J4 : zq_P} (j4 : zq_ok X 3 4 J4) {Q : zq_Q} (hq : zq_R X (some .int) 1 Q) : zq_ok X 3 0 (xX12_crumbsAll_0 J4 Q) := by
  refine zs_iconst C dX12_crumbsAll_0 (by decide) ?_
  refine zs_istore_n C dX12_crumbsAll_1 rfl (by decide) ?_
  refine zs_iconst C dX12_crumbsAll_2 (by decide) ?_
  refine zs_istore_n C dX12_crumbsAll_3 rfl (by decide) ?_
  exact j4
theorem mX12_crumbsAll {d : Nat} {spec : zq_Sp} {σ4 : Type} (μ4 : σ4 → Nat) (I4 : zq_Q → σ4 → zq_P) (v : ∀ args h Q, spec args h Q → (zq_a args).length ≤ 3 ∧ xX12_crumbsAll_0 (fun ls st h => ∃ b, I4 Q b ls st h) Q (zq_l0 3 args) [] h) (v4 : ∀ Q a ls st h, I4 Q a ls st h → xX12_crumbsAll_4 (fun ls st h => ∃ b, μ4 b < μ4 a ∧ I4 Q b ls st h) Q ls st h) : zq_M yX12_crumbsAll cX12_crumbsAll 3 (some .int) 1 d spec := by
  refine zq_met (by decide +kernel) (by decide) (fun X Q args h C hq hs => ⟨(v args h Q hs).1, _, ?_, (v args h Q hs).2⟩)
  have hl := zq_loop1 (X := X) (nL := 3) (pc1 := 4) μ4 (I4 Q) (fun J4 => xX12_crumbsAll_4 J4 Q) (fun j4 => kX12_crumbsAll_4 C j4 hq) (v4 Q)
  exact kX12_crumbsAll_0 C hl hq
/-! ToOneCrumbModel.nothing()I -/
theorem dX12_nothing_0 : decode cX12_nothing 0 = .ok (.aload_n 0, 1) := by decide +kernel
theorem dX12_nothing_1 : decode cX12_nothing 1 = .ok (.iconst 0, 1) := by decide +kernel
theorem dX12_nothing_2 : decode cX12_nothing 2 = .ok (.putfield 147, 3) := by decide +kernel
theorem dX12_nothing_5 : decode cX12_nothing 5 = .ok (.aload_n 0, 1) := by decide +kernel
theorem dX12_nothing_6 : decode cX12_nothing 6 = .ok (.invokevirtual 265, 3) := by decide +kernel
theorem dX12_nothing_9 : decode cX12_nothing 9 = .ok (.istore_n 1, 1) := by decide +kernel
theorem dX12_nothing_10 : decode cX12_nothing 10 = .ok (.iload_n 1, 1) := by decide +kernel
theorem dX12_nothing_11 : decode cX12_nothing 11 = .ok (.ifCond .ne 6, 3) := by decide +kernel
theorem dX12_nothing_14 : decode cX12_nothing 14 = .ok (.bipush (-2), 2) := by decide +kernel
theorem dX12_nothing_16 : decode cX12_nothing 16 = .ok (.ireturn, 1) := by decide +kernel
theorem dX12_nothing_17 : decode cX12_nothing 17 = .ok (.lconst 0, 1) := by decide +kernel
theorem dX12_nothing_18 : decode cX12_nothing 18 = .ok (.lstore_n 2, 1) := by decide +kernel
theorem dX12_nothing_19 : decode cX12_nothing 19 = .ok (.iconst 0, 1) := by decide +kernel
theorem dX12_nothing_20 : decode cX12_nothing 20 = .ok (.istore 4, 2) := by decide +kernel
theorem dX12_nothing_22 : decode cX12_nothing 22 = .ok (.iload 4, 2) := by decide +kernel
theorem dX12_nothing_24 : decode cX12_nothing 24 = .ok (.aload_n 0, 1) := by decide +kernel
theorem dX12_nothing_25 : decode cX12_nothing 25 = .ok (.getfield 165, 3) := by decide +kernel
theorem dX12_nothing_28 : decode cX12_nothing 28 = .ok (.if_icmp .ge 22, 3) := by decide +kernel
theorem dX12_nothing_31 : decode cX12_nothing 31 = .ok (.lload_n 2, 1) := by decide +kernel
theorem dX12_nothing_32 : decode cX12_nothing 32 = .ok (.aload_n 0, 1) := by decide +kernel
theorem dX12_nothing_33 : decode cX12_nothing 33 = .ok (.getfield 27, 3) := by decide +kernel
theorem dX12_nothing_36 : decode cX12_nothing 36 = .ok (.iload 4, 2) := by decide +kernel
theorem dX12_nothing_38 : decode cX12_nothing 38 = .ok (.iaload, 1) := by decide +kernel
theorem dX12_nothing_39 : decode cX12_nothing 39 = .ok (.i2l, 1) := by decide +kernel
theorem dX12_nothing_40 : decode cX12_nothing 40 = .ok (.invokestatic 151, 3) := by decide +kernel
theorem dX12_nothing_43 : decode cX12_nothing 43 = .ok (.lstore_n 2, 1) := by decide +kernel
theorem dX12_nothing_44 : decode cX12_nothing 44 = .ok (.iinc 4 1, 3) := by decide +kernel
theorem dX12_nothing_47 : decode cX12_nothing 47 = .ok (.goto (-25), 3) := by decide +kernel
theorem dX12_nothing_50 : decode cX12_nothing 50 = .ok (.iload_n 1, 1) := by decide +kernel
theorem dX12_nothing_51 : decode cX12_nothing 51 = .ok (.i2l, 1) := by decide +kernel
theorem dX12_nothing_52 : decode cX12_nothing 52 = .ok (.lload_n 2, 1) := by decide +kernel
theorem dX12_nothing_53 : decode cX12_nothing 53 = .ok (.ldiv, 1) := by decide +kernel
theorem dX12_nothing_54 : decode cX12_nothing 54 = .ok (.l2i, 1) := by decide +kernel
theorem dX12_nothing_55 : decode cX12_nothing 55 = .ok (.istore 4, 2) := by decide +kernel
theorem dX12_nothing_57 : decode cX12_nothing 57 = .ok (.iload 4, 2) := by decide +kernel
theorem dX12_nothing_59 : decode cX12_nothing 59 = .ok (.aload_n 0, 1) := by decide +kernel
theorem dX12_nothing_60 : decode cX12_nothing 60 = .ok (.invokevirtual 452, 3) := by decide +kernel
theorem dX12_nothing_63 : decode cX12_nothing 63 = .ok (.iload 4, 2) := by decide +kernel
theorem dX12_nothing_65 : decode cX12_nothing 65 = .ok (.irem, 1) := by decide +kernel
theorem dX12_nothing_66 : decode cX12_nothing 66 = .ok (.isub, 1) := by decide +kernel
theorem dX12_nothing_67 : decode cX12_nothing 67 = .ok (.iload 4, 2) := by decide +kernel
theorem dX12_nothing_69 : decode cX12_nothing 69 = .ok (.irem, 1) := by decide +kernel
theorem dX12_nothing_70 : decode cX12_nothing 70 = .ok (.istore 5, 2) := by decide +kernel
theorem dX12_nothing_72 : decode cX12_nothing 72 = .ok (.iload 5, 2) := by decide +kernel
theorem dX12_nothing_74 : decode cX12_nothing 74 = .ok (.sipush 999, 3) := by decide +kernel
theorem dX12_nothing_77 : decode cX12_nothing 77 = .ok (.if_icmp .le 6, 3) := by decide +kernel
theorem dX12_nothing_80 : decode cX12_nothing 80 = .ok (.bipush (-2), 2) := by decide +kernel
theorem dX12_nothing_82 : decode cX12_nothing 82 = .ok (.ireturn, 1) := by decide +kernel
theorem dX12_nothing_83 : decode cX12_nothing 83 = .ok (.aload_n 0, 1) := by decide +kernel
theorem dX12_nothing_84 : decode cX12_nothing 84 = .ok (.invokevirtual 452, 3) := by decide +kernel
theorem dX12_nothing_87 : decode cX12_nothing 87 = .ok (.iload 5, 2) := by decide +kernel
theorem dX12_nothing_89 : decode cX12_nothing 89 = .ok (.iadd, 1) := by decide +kernel
theorem dX12_nothing_90 : decode cX12_nothing 90 = .ok (.iload 4, 2) := by decide +kernel
theorem dX12_nothing_92 : decode cX12_nothing 92 = .ok (.idiv, 1) := by decide +kernel
theorem dX12_nothing_93 : decode cX12_nothing 93 = .ok (.istore 6, 2) := by decide +kernel
theorem dX12_nothing_95 : decode cX12_nothing 95 = .ok (.aload_n 0, 1) := by decide +kernel
theorem dX12_nothing_96 : decode cX12_nothing 96 = .ok (.iconst 0, 1) := by decide +kernel
theorem dX12_nothing_97 : decode cX12_nothing 97 = .ok (.putfield 155, 3) := by decide +kernel
theorem dX12_nothing_100 : decode cX12_nothing 100 = .ok (.iconst 0, 1) := by decide +kernel
theorem dX12_nothing_101 : decode cX12_nothing 101 = .ok (.istore 7, 2) := by decide +kernel
theorem dX12_nothing_103 : decode cX12_nothing 103 = .ok (.iload 7, 2) := by decide +kernel
theorem dX12_nothing_105 : decode cX12_nothing 105 = .ok (.aload_n 0, 1) := by decide +kernel
theorem dX12_nothing_106 : decode cX12_nothing 106 = .ok (.getfield 165, 3) := by decide +kernel
theorem dX12_nothing_109 : decode cX12_nothing 109 = .ok (.if_icmp .ge 27, 3) := by decide +kernel
theorem dX12_nothing_112 : decode cX12_nothing 112 = .ok (.aload_n 0, 1) := by decide +kernel
theorem dX12_nothing_113 : decode cX12_nothing 113 = .ok (.aload_n 0, 1) := by decide +kernel
theorem dX12_nothing_114 : decode cX12_nothing 114 = .ok (.getfield 27, 3) := by decide +kernel
theorem dX12_nothing_117 : decode cX12_nothing 117 = .ok (.iload 7, 2) := by decide +kernel
theorem dX12_nothing_119 : decode cX12_nothing 119 = .ok (.iaload, 1) := by decide +kernel
theorem dX12_nothing_120 : decode cX12_nothing 120 = .ok (.i2l, 1) := by decide +kernel
theorem dX12_nothing_121 : decode cX12_nothing 121 = .ok (.lload_n 2, 1) := by decide +kernel
theorem dX12_nothing_122 : decode cX12_nothing 122 = .ok (.ldiv, 1) := by decide +kernel
theorem dX12_nothing_123 : decode cX12_nothing 123 = .ok (.iload 6, 2) := by decide +kernel
theorem dX12_nothing_125 : decode cX12_nothing 125 = .ok (.i2l, 1) := by decide +kernel
theorem dX12_nothing_126 : decode cX12_nothing 126 = .ok (.lmul, 1) := by decide +kernel
theorem dX12_nothing_127 : decode cX12_nothing 127 = .ok (.invokevirtual 368, 3) := by decide +kernel
theorem dX12_nothing_130 : decode cX12_nothing 130 = .ok (.iinc 7 1, 3) := by decide +kernel
theorem dX12_nothing_133 : decode cX12_nothing 133 = .ok (.goto (-30), 3) := by decide +kernel
theorem dX12_nothing_136 : decode cX12_nothing 136 = .ok (.iload 5, 2) := by decide +kernel
theorem dX12_nothing_138 : decode cX12_nothing 138 = .ok (.ireturn, 1) := by decide +kernel
def xX12_nothing_136 (s_X12_allDeserts : zq_Sp) (s_X12_common : zq_Sp) (s_X12_crumbsAll : zq_Sp) (s_X12_enters : zq_Sp) (J22 : zq_P) (J103 : zq_P) (Q : zq_Q) (ls : zq_L) (st : List Value) (h : zq_H) : Prop := (zi_iload 5 (zi_iret Q)) ls st h
theorem kX12_nothing_136 {X : zq_X} {d : Nat} (C : zq_C X cX12_nothing 8 RX12 d) {d_X12_allDeserts : Nat} {s_X12_allDeserts : zq_Sp} (h_X12_allDeserts : zq_M yX12_allDeserts cX12_allDeserts 3 (some .int) 1 d_X12_allDeserts s_X12_allDeserts) (g_X12_allDeserts : d_X12_allDeserts + 1 ≤ d) {d_X12_common : Nat} {s_X12_common : zq_Sp} (h_X12_common : zq_M yX12_common cX12_common 4 (some .long) 2 d_X12_common s_X12_common) (g_X12_common : d_X12_common + 1 ≤ d) {d_X12_crumbsAll : Nat} {s_X12_crumbsAll : zq_Sp} (h_X12_crumbsAll : zq_M yX12_crumbsAll cX12_crumbsAll 3 (some .int) 1 d_X12_crumbsAll s_X12_crumbsAll) (g_X12_crumbsAll : d_X12_crumbsAll + 1 ≤ d) {d_X12_enters : Nat} {s_X12_enters : zq_Sp} (h_X12_enters : zq_M yX12_enters cX12_enters 3 none 0 d_X12_enters s_X12_enters) (g_X12_enters : d_X12_enters + 1 ≤ d) {J22 : zq_P} (j22 : zq_ok X 8 22 J22) {J103 : zq_P} (j103 : zq_ok X 8 103 J103) {Q : zq_Q} (hq : zq_R X (some .int) 1 Q) : zq_ok X 8 136 (xX12_nothing_136 s_X12_allDeserts s_X12_common s_X12_crumbsAll s_X12_enters J22 J103 Q) := by
  refine zs_iload C dX12_nothing_136 ?_
  exact zs_iret C hq dX12_nothing_138
def xX12_nothing_112 (s_X12_allDeserts : zq_Sp) (s_X12_common : zq_Sp) (s_X12_crumbsAll : zq_Sp) (s_X12_enters : zq_Sp) (J22 : zq_P) (J103 : zq_P) (Q : zq_Q) (ls : zq_L) (st : List Value) (h : zq_H) : Prop := (zi_aload 0 (zi_aload 0 (zi_getR 56 62 (zi_iload 7 (zi_aldI 62 6 (zi_i2l (zi_lload 2 (zi_ldv (fun x y => x / y) (zi_iload 6 (zi_i2l (zi_l2 (fun x y => x * y) (zi_callV 1 56 s_X12_enters (zi_iinc 7 1 (J103)))))))))))))) ls st h
theorem kX12_nothing_112 {X : zq_X} {d : Nat} (C : zq_C X cX12_nothing 8 RX12 d) {d_X12_allDeserts : Nat} {s_X12_allDeserts : zq_Sp} (h_X12_allDeserts : zq_M yX12_allDeserts cX12_allDeserts 3 (some .int) 1 d_X12_allDeserts s_X12_allDeserts) (g_X12_allDeserts : d_X12_allDeserts + 1 ≤ d) {d_X12_common : Nat} {s_X12_common : zq_Sp} (h_X12_common : zq_M yX12_common cX12_common 4 (some .long) 2 d_X12_common s_X12_common) (g_X12_common : d_X12_common + 1 ≤ d) {d_X12_crumbsAll : Nat} {s_X12_crumbsAll : zq_Sp} (h_X12_crumbsAll : zq_M yX12_crumbsAll cX12_crumbsAll 3 (some .int) 1 d_X12_crumbsAll s_X12_crumbsAll) (g_X12_crumbsAll : d_X12_crumbsAll + 1 ≤ d) {d_X12_enters : Nat} {s_X12_enters : zq_Sp} (h_X12_enters : zq_M yX12_enters cX12_enters 3 none 0 d_X12_enters s_X12_enters) (g_X12_enters : d_X12_enters + 1 ≤ d) {J22 : zq_P} (j22 : zq_ok X 8 22 J22) {J103 : zq_P} (j103 : zq_ok X 8 103 J103) {Q : zq_Q} (hq : zq_R X (some .int) 1 Q) : zq_ok X 8 112 (xX12_nothing_112 s_X12_allDeserts s_X12_common s_X12_crumbsAll s_X12_enters J22 J103 Q) := by
  refine zs_aload_n C dX12_nothing_112 rfl ?_
  refine zs_aload_n C dX12_nothing_113 rfl ?_
  refine zs_getR C zp_56 zF12 (j := 10) ⟨by decide, rfl⟩ zw_1106 dX12_nothing_114 ?_
  refine zs_iload C dX12_nothing_117 ?_
  refine zs_iaload C zp_62 dX12_nothing_119 ?_
  refine zs_i2l C dX12_nothing_120 ?_
  refine zs_lload_n C dX12_nothing_121 rfl ?_
  refine zs_ldiv C dX12_nothing_122 ?_
  refine zs_iload C dX12_nothing_123 ?_
  refine zs_i2l C dX12_nothing_125 ?_
  refine zs_lmul C dX12_nothing_126 ?_
  refine zs_callV C h_X12_enters g_X12_enters zy_X12_enters zp_56 (show vwCl[12]? = some (RX12, TX12, 67) from rfl) zw_1574 zw_1576 zs9_X12_enters dX12_nothing_127 ?_
  refine zs_iinc C dX12_nothing_130 (by decide) (by decide) ?_
  exact zs_goto C dX12_nothing_133 (by decide) (j103)
def xX12_nothing_103 (s_X12_allDeserts : zq_Sp) (s_X12_common : zq_Sp) (s_X12_crumbsAll : zq_Sp) (s_X12_enters : zq_Sp) (J22 : zq_P) (J103 : zq_P) (Q : zq_Q) (ls : zq_L) (st : List Value) (h : zq_H) : Prop := (zi_iload 7 (zi_aload 0 (zi_getI 56 4 (zi_if2 (fun x y => y ≤ x) (xX12_nothing_136 s_X12_allDeserts s_X12_common s_X12_crumbsAll s_X12_enters J22 J103 Q) (xX12_nothing_112 s_X12_allDeserts s_X12_common s_X12_crumbsAll s_X12_enters J22 J103 Q))))) ls st h
theorem kX12_nothing_103 {X : zq_X} {d : Nat} (C : zq_C X cX12_nothing 8 RX12 d) {d_X12_allDeserts : Nat} {s_X12_allDeserts : zq_Sp} (h_X12_allDeserts : zq_M yX12_allDeserts cX12_allDeserts 3 (some .int) 1 d_X12_allDeserts s_X12_allDeserts) (g_X12_allDeserts : d_X12_allDeserts + 1 ≤ d) {d_X12_common : Nat} {s_X12_common : zq_Sp} (h_X12_common : zq_M yX12_common cX12_common 4 (some .long) 2 d_X12_common s_X12_common) (g_X12_common : d_X12_common + 1 ≤ d) {d_X12_crumbsAll : Nat} {s_X12_crumbsAll : zq_Sp} (h_X12_crumbsAll : zq_M yX12_crumbsAll cX12_crumbsAll 3 (some .int) 1 d_X12_crumbsAll s_X12_crumbsAll) (g_X12_crumbsAll : d_X12_crumbsAll + 1 ≤ d) {d_X12_enters : Nat} {s_X12_enters : zq_Sp} (h_X12_enters : zq_M yX12_enters cX12_enters 3 none 0 d_X12_enters s_X12_enters) (g_X12_enters : d_X12_enters + 1 ≤ d) {J22 : zq_P} (j22 : zq_ok X 8 22 J22) {J103 : zq_P} (j103 : zq_ok X 8 103 J103) {Q : zq_Q} (hq : zq_R X (some .int) 1 Q) : zq_ok X 8 103 (xX12_nothing_103 s_X12_allDeserts s_X12_common s_X12_crumbsAll s_X12_enters J22 J103 Q) := by
  refine zs_iload C dX12_nothing_103 ?_
  refine zs_aload_n C dX12_nothing_105 rfl ?_
  refine zs_getI C zp_56 zF12 (j := 4) ⟨by decide, rfl⟩ zw_1100 dX12_nothing_106 ?_
  exact zs_icmp_ge C dX12_nothing_109 (by decide) (kX12_nothing_136 C h_X12_allDeserts g_X12_allDeserts h_X12_common g_X12_common h_X12_crumbsAll g_X12_crumbsAll h_X12_enters g_X12_enters j22 j103 hq) (kX12_nothing_112 C h_X12_allDeserts g_X12_allDeserts h_X12_common g_X12_common h_X12_crumbsAll g_X12_crumbsAll h_X12_enters g_X12_enters j22 j103 hq)
def xX12_nothing_83 (s_X12_allDeserts : zq_Sp) (s_X12_common : zq_Sp) (s_X12_crumbsAll : zq_Sp) (s_X12_enters : zq_Sp) (J22 : zq_P) (J103 : zq_P) (Q : zq_Q) (ls : zq_L) (st : List Value) (h : zq_H) : Prop := (zi_aload 0 (zi_callV 0 56 s_X12_crumbsAll (zi_iload 5 (zi_i2 (fun x y => x + y) (zi_iload 4 (zi_idv (fun x y => x / y) (zi_istore 6 (zi_aload 0 (zi_push (.int 0) (zi_putI 56 1 (zi_push (.int 0) (zi_istore 7 (J103))))))))))))) ls st h
theorem kX12_nothing_83 {X : zq_X} {d : Nat} (C : zq_C X cX12_nothing 8 RX12 d) {d_X12_allDeserts : Nat} {s_X12_allDeserts : zq_Sp} (h_X12_allDeserts : zq_M yX12_allDeserts cX12_allDeserts 3 (some .int) 1 d_X12_allDeserts s_X12_allDeserts) (g_X12_allDeserts : d_X12_allDeserts + 1 ≤ d) {d_X12_common : Nat} {s_X12_common : zq_Sp} (h_X12_common : zq_M yX12_common cX12_common 4 (some .long) 2 d_X12_common s_X12_common) (g_X12_common : d_X12_common + 1 ≤ d) {d_X12_crumbsAll : Nat} {s_X12_crumbsAll : zq_Sp} (h_X12_crumbsAll : zq_M yX12_crumbsAll cX12_crumbsAll 3 (some .int) 1 d_X12_crumbsAll s_X12_crumbsAll) (g_X12_crumbsAll : d_X12_crumbsAll + 1 ≤ d) {d_X12_enters : Nat} {s_X12_enters : zq_Sp} (h_X12_enters : zq_M yX12_enters cX12_enters 3 none 0 d_X12_enters s_X12_enters) (g_X12_enters : d_X12_enters + 1 ≤ d) {J22 : zq_P} (j22 : zq_ok X 8 22 J22) {J103 : zq_P} (j103 : zq_ok X 8 103 J103) {Q : zq_Q} (hq : zq_R X (some .int) 1 Q) : zq_ok X 8 83 (xX12_nothing_83 s_X12_allDeserts s_X12_common s_X12_crumbsAll s_X12_enters J22 J103 Q) := by
  refine zs_aload_n C dX12_nothing_83 rfl ?_
  refine zs_callV C h_X12_crumbsAll g_X12_crumbsAll zy_X12_crumbsAll zp_56 (show vwCl[12]? = some (RX12, TX12, 67) from rfl) zw_1737 zw_1739 zs9_X12_crumbsAll dX12_nothing_84 ?_
  refine zs_iload C dX12_nothing_87 ?_
  refine zs_iadd C dX12_nothing_89 ?_
  refine zs_iload C dX12_nothing_90 ?_
  refine zs_idiv C dX12_nothing_92 ?_
  refine zs_istore C dX12_nothing_93 (by decide) ?_
  refine zs_aload_n C dX12_nothing_95 rfl ?_
  refine zs_iconst C dX12_nothing_96 (by decide) ?_
  refine zs_putI C zp_56 zF12 (j := 1) ⟨by decide, rfl⟩ ⟨rfl, by decide +kernel⟩ zw_1097 dX12_nothing_97 ?_
  refine zs_iconst C dX12_nothing_100 (by decide) ?_
  refine zs_istore C dX12_nothing_101 (by decide) ?_
  exact j103
def xX12_nothing_80 (s_X12_allDeserts : zq_Sp) (s_X12_common : zq_Sp) (s_X12_crumbsAll : zq_Sp) (s_X12_enters : zq_Sp) (J22 : zq_P) (J103 : zq_P) (Q : zq_Q) (ls : zq_L) (st : List Value) (h : zq_H) : Prop := (zi_push (.int (-2)) (zi_iret Q)) ls st h
theorem kX12_nothing_80 {X : zq_X} {d : Nat} (C : zq_C X cX12_nothing 8 RX12 d) {d_X12_allDeserts : Nat} {s_X12_allDeserts : zq_Sp} (h_X12_allDeserts : zq_M yX12_allDeserts cX12_allDeserts 3 (some .int) 1 d_X12_allDeserts s_X12_allDeserts) (g_X12_allDeserts : d_X12_allDeserts + 1 ≤ d) {d_X12_common : Nat} {s_X12_common : zq_Sp} (h_X12_common : zq_M yX12_common cX12_common 4 (some .long) 2 d_X12_common s_X12_common) (g_X12_common : d_X12_common + 1 ≤ d) {d_X12_crumbsAll : Nat} {s_X12_crumbsAll : zq_Sp} (h_X12_crumbsAll : zq_M yX12_crumbsAll cX12_crumbsAll 3 (some .int) 1 d_X12_crumbsAll s_X12_crumbsAll) (g_X12_crumbsAll : d_X12_crumbsAll + 1 ≤ d) {d_X12_enters : Nat} {s_X12_enters : zq_Sp} (h_X12_enters : zq_M yX12_enters cX12_enters 3 none 0 d_X12_enters s_X12_enters) (g_X12_enters : d_X12_enters + 1 ≤ d) {J22 : zq_P} (j22 : zq_ok X 8 22 J22) {J103 : zq_P} (j103 : zq_ok X 8 103 J103) {Q : zq_Q} (hq : zq_R X (some .int) 1 Q) : zq_ok X 8 80 (xX12_nothing_80 s_X12_allDeserts s_X12_common s_X12_crumbsAll s_X12_enters J22 J103 Q) := by
  refine zs_bipush C dX12_nothing_80 (by decide) ?_
  exact zs_iret C hq dX12_nothing_82
def xX12_nothing_50 (s_X12_allDeserts : zq_Sp) (s_X12_common : zq_Sp) (s_X12_crumbsAll : zq_Sp) (s_X12_enters : zq_Sp) (J22 : zq_P) (J103 : zq_P) (Q : zq_Q) (ls : zq_L) (st : List Value) (h : zq_H) : Prop := (zi_iload 1 (zi_i2l (zi_lload 2 (zi_ldv (fun x y => x / y) (zi_l2i (zi_istore 4 (zi_iload 4 (zi_aload 0 (zi_callV 0 56 s_X12_crumbsAll (zi_iload 4 (zi_idv zf_rem (zi_i2 (fun x y => x - y) (zi_iload 4 (zi_idv zf_rem (zi_istore 5 (zi_iload 5 (zi_push (.int 999) (zi_if2 (fun x y => x ≤ y) (xX12_nothing_83 s_X12_allDeserts s_X12_common s_X12_crumbsAll s_X12_enters J22 J103 Q) (xX12_nothing_80 s_X12_allDeserts s_X12_common s_X12_crumbsAll s_X12_enters J22 J103 Q))))))))))))))))))) ls st h
theorem kX12_nothing_50 {X : zq_X} {d : Nat} (C : zq_C X cX12_nothing 8 RX12 d) {d_X12_allDeserts : Nat} {s_X12_allDeserts : zq_Sp} (h_X12_allDeserts : zq_M yX12_allDeserts cX12_allDeserts 3 (some .int) 1 d_X12_allDeserts s_X12_allDeserts) (g_X12_allDeserts : d_X12_allDeserts + 1 ≤ d) {d_X12_common : Nat} {s_X12_common : zq_Sp} (h_X12_common : zq_M yX12_common cX12_common 4 (some .long) 2 d_X12_common s_X12_common) (g_X12_common : d_X12_common + 1 ≤ d) {d_X12_crumbsAll : Nat} {s_X12_crumbsAll : zq_Sp} (h_X12_crumbsAll : zq_M yX12_crumbsAll cX12_crumbsAll 3 (some .int) 1 d_X12_crumbsAll s_X12_crumbsAll) (g_X12_crumbsAll : d_X12_crumbsAll + 1 ≤ d) {d_X12_enters : Nat} {s_X12_enters : zq_Sp} (h_X12_enters : zq_M yX12_enters cX12_enters 3 none 0 d_X12_enters s_X12_enters) (g_X12_enters : d_X12_enters + 1 ≤ d) {J22 : zq_P} (j22 : zq_ok X 8 22 J22) {J103 : zq_P} (j103 : zq_ok X 8 103 J103) {Q : zq_Q} (hq : zq_R X (some .int) 1 Q) : zq_ok X 8 50 (xX12_nothing_50 s_X12_allDeserts s_X12_common s_X12_crumbsAll s_X12_enters J22 J103 Q) := by
  refine zs_iload_n C dX12_nothing_50 rfl ?_
  refine zs_i2l C dX12_nothing_51 ?_
  refine zs_lload_n C dX12_nothing_52 rfl ?_
  refine zs_ldiv C dX12_nothing_53 ?_
  refine zs_l2i C dX12_nothing_54 ?_
  refine zs_istore C dX12_nothing_55 (by decide) ?_
  refine zs_iload C dX12_nothing_57 ?_
  refine zs_aload_n C dX12_nothing_59 rfl ?_
  refine zs_callV C h_X12_crumbsAll g_X12_crumbsAll zy_X12_crumbsAll zp_56 (show vwCl[12]? = some (RX12, TX12, 67) from rfl) zw_1737 zw_1739 zs9_X12_crumbsAll dX12_nothing_60 ?_
  refine zs_iload C dX12_nothing_63 ?_
  refine zs_irem C dX12_nothing_65 ?_
  refine zs_isub C dX12_nothing_66 ?_
  refine zs_iload C dX12_nothing_67 ?_
  refine zs_irem C dX12_nothing_69 ?_
  refine zs_istore C dX12_nothing_70 (by decide) ?_
  refine zs_iload C dX12_nothing_72 ?_
  refine zs_sipush C dX12_nothing_74 (by decide) ?_
  exact zs_icmp_le C dX12_nothing_77 (by decide) (kX12_nothing_83 C h_X12_allDeserts g_X12_allDeserts h_X12_common g_X12_common h_X12_crumbsAll g_X12_crumbsAll h_X12_enters g_X12_enters j22 j103 hq) (kX12_nothing_80 C h_X12_allDeserts g_X12_allDeserts h_X12_common g_X12_common h_X12_crumbsAll g_X12_crumbsAll h_X12_enters g_X12_enters j22 j103 hq)
def xX12_nothing_31 (s_X12_allDeserts : zq_Sp) (s_X12_common : zq_Sp) (s_X12_crumbsAll : zq_Sp) (s_X12_enters : zq_Sp) (J22 : zq_P) (J103 : zq_P) (Q : zq_Q) (ls : zq_L) (st : List Value) (h : zq_H) : Prop := (zi_lload 2 (zi_aload 0 (zi_getR 56 62 (zi_iload 4 (zi_aldI 62 6 (zi_i2l (zi_callS 2 s_X12_common (zi_lstore 2 (zi_iinc 4 1 (J22)))))))))) ls st h
theorem kX12_nothing_31 {X : zq_X} {d : Nat} (C : zq_C X cX12_nothing 8 RX12 d) {d_X12_allDeserts : Nat} {s_X12_allDeserts : zq_Sp} (h_X12_allDeserts : zq_M yX12_allDeserts cX12_allDeserts 3 (some .int) 1 d_X12_allDeserts s_X12_allDeserts) (g_X12_allDeserts : d_X12_allDeserts + 1 ≤ d) {d_X12_common : Nat} {s_X12_common : zq_Sp} (h_X12_common : zq_M yX12_common cX12_common 4 (some .long) 2 d_X12_common s_X12_common) (g_X12_common : d_X12_common + 1 ≤ d) {d_X12_crumbsAll : Nat} {s_X12_crumbsAll : zq_Sp} (h_X12_crumbsAll : zq_M yX12_crumbsAll cX12_crumbsAll 3 (some .int) 1 d_X12_crumbsAll s_X12_crumbsAll) (g_X12_crumbsAll : d_X12_crumbsAll + 1 ≤ d) {d_X12_enters : Nat} {s_X12_enters : zq_Sp} (h_X12_enters : zq_M yX12_enters cX12_enters 3 none 0 d_X12_enters s_X12_enters) (g_X12_enters : d_X12_enters + 1 ≤ d) {J22 : zq_P} (j22 : zq_ok X 8 22 J22) {J103 : zq_P} (j103 : zq_ok X 8 103 J103) {Q : zq_Q} (hq : zq_R X (some .int) 1 Q) : zq_ok X 8 31 (xX12_nothing_31 s_X12_allDeserts s_X12_common s_X12_crumbsAll s_X12_enters J22 J103 Q) := by
  refine zs_lload_n C dX12_nothing_31 rfl ?_
  refine zs_aload_n C dX12_nothing_32 rfl ?_
  refine zs_getR C zp_56 zF12 (j := 10) ⟨by decide, rfl⟩ zw_1106 dX12_nothing_33 ?_
  refine zs_iload C dX12_nothing_36 ?_
  refine zs_iaload C zp_62 dX12_nothing_38 ?_
  refine zs_i2l C dX12_nothing_39 ?_
  refine zs_callS C h_X12_common g_X12_common zy_X12_common zw_1595 zw_1596 dX12_nothing_40 ?_
  refine zs_lstore_n C dX12_nothing_43 rfl (by decide) ?_
  refine zs_iinc C dX12_nothing_44 (by decide) (by decide) ?_
  exact zs_goto C dX12_nothing_47 (by decide) (j22)
def xX12_nothing_22 (s_X12_allDeserts : zq_Sp) (s_X12_common : zq_Sp) (s_X12_crumbsAll : zq_Sp) (s_X12_enters : zq_Sp) (J22 : zq_P) (J103 : zq_P) (Q : zq_Q) (ls : zq_L) (st : List Value) (h : zq_H) : Prop := (zi_iload 4 (zi_aload 0 (zi_getI 56 4 (zi_if2 (fun x y => y ≤ x) (xX12_nothing_50 s_X12_allDeserts s_X12_common s_X12_crumbsAll s_X12_enters J22 J103 Q) (xX12_nothing_31 s_X12_allDeserts s_X12_common s_X12_crumbsAll s_X12_enters J22 J103 Q))))) ls st h
theorem kX12_nothing_22 {X : zq_X} {d : Nat} (C : zq_C X cX12_nothing 8 RX12 d) {d_X12_allDeserts : Nat} {s_X12_allDeserts : zq_Sp} (h_X12_allDeserts : zq_M yX12_allDeserts cX12_allDeserts 3 (some .int) 1 d_X12_allDeserts s_X12_allDeserts) (g_X12_allDeserts : d_X12_allDeserts + 1 ≤ d) {d_X12_common : Nat} {s_X12_common : zq_Sp} (h_X12_common : zq_M yX12_common cX12_common 4 (some .long) 2 d_X12_common s_X12_common) (g_X12_common : d_X12_common + 1 ≤ d) {d_X12_crumbsAll : Nat} {s_X12_crumbsAll : zq_Sp} (h_X12_crumbsAll : zq_M yX12_crumbsAll cX12_crumbsAll 3 (some .int) 1 d_X12_crumbsAll s_X12_crumbsAll) (g_X12_crumbsAll : d_X12_crumbsAll + 1 ≤ d) {d_X12_enters : Nat} {s_X12_enters : zq_Sp} (h_X12_enters : zq_M yX12_enters cX12_enters 3 none 0 d_X12_enters s_X12_enters) (g_X12_enters : d_X12_enters + 1 ≤ d) {J22 : zq_P} (j22 : zq_ok X 8 22 J22) {J103 : zq_P} (j103 : zq_ok X 8 103 J103) {Q : zq_Q} (hq : zq_R X (some .int) 1 Q) : zq_ok X 8 22 (xX12_nothing_22 s_X12_allDeserts s_X12_common s_X12_crumbsAll s_X12_enters J22 J103 Q) := by
  refine zs_iload C dX12_nothing_22 ?_
  refine zs_aload_n C dX12_nothing_24 rfl ?_
  refine zs_getI C zp_56 zF12 (j := 4) ⟨by decide, rfl⟩ zw_1100 dX12_nothing_25 ?_
  exact zs_icmp_ge C dX12_nothing_28 (by decide) (kX12_nothing_50 C h_X12_allDeserts g_X12_allDeserts h_X12_common g_X12_common h_X12_crumbsAll g_X12_crumbsAll h_X12_enters g_X12_enters j22 j103 hq) (kX12_nothing_31 C h_X12_allDeserts g_X12_allDeserts h_X12_common g_X12_common h_X12_crumbsAll g_X12_crumbsAll h_X12_enters g_X12_enters j22 j103 hq)
def xX12_nothing_17 (s_X12_allDeserts : zq_Sp) (s_X12_common : zq_Sp) (s_X12_crumbsAll : zq_Sp) (s_X12_enters : zq_Sp) (J22 : zq_P) (J103 : zq_P) (Q : zq_Q) (ls : zq_L) (st : List Value) (h : zq_H) : Prop := (zi_push (.long 0) (zi_lstore 2 (zi_push (.int 0) (zi_istore 4 (J22))))) ls st h
theorem kX12_nothing_17 {X : zq_X} {d : Nat} (C : zq_C X cX12_nothing 8 RX12 d) {d_X12_allDeserts : Nat} {s_X12_allDeserts : zq_Sp} (h_X12_allDeserts : zq_M yX12_allDeserts cX12_allDeserts 3 (some .int) 1 d_X12_allDeserts s_X12_allDeserts) (g_X12_allDeserts : d_X12_allDeserts + 1 ≤ d) {d_X12_common : Nat} {s_X12_common : zq_Sp} (h_X12_common : zq_M yX12_common cX12_common 4 (some .long) 2 d_X12_common s_X12_common) (g_X12_common : d_X12_common + 1 ≤ d) {d_X12_crumbsAll : Nat} {s_X12_crumbsAll : zq_Sp} (h_X12_crumbsAll : zq_M yX12_crumbsAll cX12_crumbsAll 3 (some .int) 1 d_X12_crumbsAll s_X12_crumbsAll) (g_X12_crumbsAll : d_X12_crumbsAll + 1 ≤ d) {d_X12_enters : Nat} {s_X12_enters : zq_Sp} (h_X12_enters : zq_M yX12_enters cX12_enters 3 none 0 d_X12_enters s_X12_enters) (g_X12_enters : d_X12_enters + 1 ≤ d) {J22 : zq_P} (j22 : zq_ok X 8 22 J22) {J103 : zq_P} (j103 : zq_ok X 8 103 J103) {Q : zq_Q} (hq : zq_R X (some .int) 1 Q) : zq_ok X 8 17 (xX12_nothing_17 s_X12_allDeserts s_X12_common s_X12_crumbsAll s_X12_enters J22 J103 Q) := by
  refine zs_lconst C dX12_nothing_17 (by decide) ?_
  refine zs_lstore_n C dX12_nothing_18 rfl (by decide) ?_
  refine zs_iconst C dX12_nothing_19 (by decide) ?_
  refine zs_istore C dX12_nothing_20 (by decide) ?_
  exact j22
def xX12_nothing_14 (s_X12_allDeserts : zq_Sp) (s_X12_common : zq_Sp) (s_X12_crumbsAll : zq_Sp) (s_X12_enters : zq_Sp) (J22 : zq_P) (J103 : zq_P) (Q : zq_Q) (ls : zq_L) (st : List Value) (h : zq_H) : Prop := (zi_push (.int (-2)) (zi_iret Q)) ls st h
theorem kX12_nothing_14 {X : zq_X} {d : Nat} (C : zq_C X cX12_nothing 8 RX12 d) {d_X12_allDeserts : Nat} {s_X12_allDeserts : zq_Sp} (h_X12_allDeserts : zq_M yX12_allDeserts cX12_allDeserts 3 (some .int) 1 d_X12_allDeserts s_X12_allDeserts) (g_X12_allDeserts : d_X12_allDeserts + 1 ≤ d) {d_X12_common : Nat} {s_X12_common : zq_Sp} (h_X12_common : zq_M yX12_common cX12_common 4 (some .long) 2 d_X12_common s_X12_common) (g_X12_common : d_X12_common + 1 ≤ d) {d_X12_crumbsAll : Nat} {s_X12_crumbsAll : zq_Sp} (h_X12_crumbsAll : zq_M yX12_crumbsAll cX12_crumbsAll 3 (some .int) 1 d_X12_crumbsAll s_X12_crumbsAll) (g_X12_crumbsAll : d_X12_crumbsAll + 1 ≤ d) {d_X12_enters : Nat} {s_X12_enters : zq_Sp} (h_X12_enters : zq_M yX12_enters cX12_enters 3 none 0 d_X12_enters s_X12_enters) (g_X12_enters : d_X12_enters + 1 ≤ d) {J22 : zq_P} (j22 : zq_ok X 8 22 J22) {J103 : zq_P} (j103 : zq_ok X 8 103 J103) {Q : zq_Q} (hq : zq_R X (some .int) 1 Q) : zq_ok X 8 14 (xX12_nothing_14 s_X12_allDeserts s_X12_common s_X12_crumbsAll s_X12_enters J22 J103 Q) := by
  refine zs_bipush C dX12_nothing_14 (by decide) ?_
  exact zs_iret C hq dX12_nothing_16
def xX12_nothing_0 (s_X12_allDeserts : zq_Sp) (s_X12_common : zq_Sp) (s_X12_crumbsAll : zq_Sp) (s_X12_enters : zq_Sp) (J22 : zq_P) (J103 : zq_P) (Q : zq_Q) (ls : zq_L) (st : List Value) (h : zq_H) : Prop := (zi_aload 0 (zi_push (.int 0) (zi_putI 56 0 (zi_aload 0 (zi_callV 0 56 s_X12_allDeserts (zi_istore 1 (zi_iload 1 (zi_if1 (fun x => x = 0) (xX12_nothing_14 s_X12_allDeserts s_X12_common s_X12_crumbsAll s_X12_enters J22 J103 Q) (xX12_nothing_17 s_X12_allDeserts s_X12_common s_X12_crumbsAll s_X12_enters J22 J103 Q))))))))) ls st h
theorem kX12_nothing_0 {X : zq_X} {d : Nat} (C : zq_C X cX12_nothing 8 RX12 d) {d_X12_allDeserts : Nat} {s_X12_allDeserts : zq_Sp} (h_X12_allDeserts : zq_M yX12_allDeserts cX12_allDeserts 3 (some .int) 1 d_X12_allDeserts s_X12_allDeserts) (g_X12_allDeserts : d_X12_allDeserts + 1 ≤ d) {d_X12_common : Nat} {s_X12_common : zq_Sp} (h_X12_common : zq_M yX12_common cX12_common 4 (some .long) 2 d_X12_common s_X12_common) (g_X12_common : d_X12_common + 1 ≤ d) {d_X12_crumbsAll : Nat} {s_X12_crumbsAll : zq_Sp} (h_X12_crumbsAll : zq_M yX12_crumbsAll cX12_crumbsAll 3 (some .int) 1 d_X12_crumbsAll s_X12_crumbsAll) (g_X12_crumbsAll : d_X12_crumbsAll + 1 ≤ d) {d_X12_enters : Nat} {s_X12_enters : zq_Sp} (h_X12_enters : zq_M yX12_enters cX12_enters 3 none 0 d_X12_enters s_X12_enters) (g_X12_enters : d_X12_enters + 1 ≤ d) {J22 : zq_P} (j22 : zq_ok X 8 22 J22) {J103 : zq_P} (j103 : zq_ok X 8 103 J103) {Q : zq_Q} (hq : zq_R X (some .int) 1 Q) : zq_ok X 8 0 (xX12_nothing_0 s_X12_allDeserts s_X12_common s_X12_crumbsAll s_X12_enters J22 J103 Q) := by
  refine zs_aload_n C dX12_nothing_0 rfl ?_
  refine zs_iconst C dX12_nothing_1 (by decide) ?_
  refine zs_putI C zp_56 zF12 (j := 0) ⟨by decide, rfl⟩ ⟨rfl, by decide +kernel⟩ zw_1096 dX12_nothing_2 ?_
  refine zs_aload_n C dX12_nothing_5 rfl ?_
  refine zs_callV C h_X12_allDeserts g_X12_allDeserts zy_X12_allDeserts zp_56 (show vwCl[12]? = some (RX12, TX12, 67) from rfl) zw_1425 zw_1427 zs9_X12_allDeserts dX12_nothing_6 ?_
  refine zs_istore_n C dX12_nothing_9 rfl (by decide) ?_
  refine zs_iload_n C dX12_nothing_10 rfl ?_
  exact zs_if_ne C dX12_nothing_11 (by decide) (kX12_nothing_17 C h_X12_allDeserts g_X12_allDeserts h_X12_common g_X12_common h_X12_crumbsAll g_X12_crumbsAll h_X12_enters g_X12_enters j22 j103 hq) (kX12_nothing_14 C h_X12_allDeserts g_X12_allDeserts h_X12_common g_X12_common h_X12_crumbsAll g_X12_crumbsAll h_X12_enters g_X12_enters j22 j103 hq)
theorem mX12_nothing {d : Nat} {spec : zq_Sp} {σ22 : Type} {σ103 : Type} {d_X12_allDeserts : Nat} {s_X12_allDeserts : zq_Sp} (h_X12_allDeserts : zq_M yX12_allDeserts cX12_allDeserts 3 (some .int) 1 d_X12_allDeserts s_X12_allDeserts) (g_X12_allDeserts : d_X12_allDeserts + 1 ≤ d) {d_X12_common : Nat} {s_X12_common : zq_Sp} (h_X12_common : zq_M yX12_common cX12_common 4 (some .long) 2 d_X12_common s_X12_common) (g_X12_common : d_X12_common + 1 ≤ d) {d_X12_crumbsAll : Nat} {s_X12_crumbsAll : zq_Sp} (h_X12_crumbsAll : zq_M yX12_crumbsAll cX12_crumbsAll 3 (some .int) 1 d_X12_crumbsAll s_X12_crumbsAll) (g_X12_crumbsAll : d_X12_crumbsAll + 1 ≤ d) {d_X12_enters : Nat} {s_X12_enters : zq_Sp} (h_X12_enters : zq_M yX12_enters cX12_enters 3 none 0 d_X12_enters s_X12_enters) (g_X12_enters : d_X12_enters + 1 ≤ d) (μ22 : σ22 → Nat) (I22 : zq_Q → σ22 → zq_P) (μ103 : σ103 → Nat) (I103 : zq_Q → σ103 → zq_P) (v : ∀ args h Q, spec args h Q → (zq_a args).length ≤ 8 ∧ xX12_nothing_0 s_X12_allDeserts s_X12_common s_X12_crumbsAll s_X12_enters (fun ls st h => ∃ b, I22 Q b ls st h) (fun ls st h => ∃ b, I103 Q b ls st h) Q (zq_l0 8 args) [] h) (v22 : ∀ Q a ls st h, I22 Q a ls st h → xX12_nothing_22 s_X12_allDeserts s_X12_common s_X12_crumbsAll s_X12_enters (fun ls st h => ∃ b, μ22 b < μ22 a ∧ I22 Q b ls st h) (fun ls st h => ∃ b, μ103 b < μ22 a ∧ I103 Q b ls st h) Q ls st h) (v103 : ∀ Q a ls st h, I103 Q a ls st h → xX12_nothing_103 s_X12_allDeserts s_X12_common s_X12_crumbsAll s_X12_enters (fun ls st h => ∃ b, μ22 b < μ103 a ∧ I22 Q b ls st h) (fun ls st h => ∃ b, μ103 b < μ103 a ∧ I103 Q b ls st h) Q ls st h) : zq_M yX12_nothing cX12_nothing 8 (some .int) 1 d spec := by
  refine zq_met (by decide +kernel) (by decide) (fun X Q args h C hq hs => ⟨(v args h Q hs).1, _, ?_, (v args h Q hs).2⟩)
  have hl := zq_loop2 (X := X) (nL := 8) (pc1 := 22) (pc2 := 103) μ22 μ103 (I22 Q) (I103 Q) (fun J22 J103 => xX12_nothing_22 s_X12_allDeserts s_X12_common s_X12_crumbsAll s_X12_enters J22 J103 Q) (fun J22 J103 => xX12_nothing_103 s_X12_allDeserts s_X12_common s_X12_crumbsAll s_X12_enters J22 J103 Q) (fun j22 j103 => kX12_nothing_22 C h_X12_allDeserts g_X12_allDeserts h_X12_common g_X12_common h_X12_crumbsAll g_X12_crumbsAll h_X12_enters g_X12_enters j22 j103 hq) (fun j22 j103 => kX12_nothing_103 C h_X12_allDeserts g_X12_allDeserts h_X12_common g_X12_common h_X12_crumbsAll g_X12_crumbsAll h_X12_enters g_X12_enters j22 j103 hq) (v22 Q) (v103 Q)
  exact kX12_nothing_0 C h_X12_allDeserts g_X12_allDeserts h_X12_common g_X12_common h_X12_crumbsAll g_X12_crumbsAll h_X12_enters g_X12_enters hl.1 hl.2 hq
/-! ToOneCrumbModel.desertsOf(I)I -/
theorem dX12_desertsOf_0 : decode cX12_desertsOf 0 = .ok (.iconst 0, 1) := by decide +kernel
theorem dX12_desertsOf_1 : decode cX12_desertsOf 1 = .ok (.istore_n 2, 1) := by decide +kernel
theorem dX12_desertsOf_2 : decode cX12_desertsOf 2 = .ok (.iconst 0, 1) := by decide +kernel
theorem dX12_desertsOf_3 : decode cX12_desertsOf 3 = .ok (.istore_n 3, 1) := by decide +kernel
theorem dX12_desertsOf_4 : decode cX12_desertsOf 4 = .ok (.iload_n 3, 1) := by decide +kernel
theorem dX12_desertsOf_5 : decode cX12_desertsOf 5 = .ok (.aload_n 0, 1) := by decide +kernel
theorem dX12_desertsOf_6 : decode cX12_desertsOf 6 = .ok (.getfield 165, 3) := by decide +kernel
theorem dX12_desertsOf_9 : decode cX12_desertsOf 9 = .ok (.if_icmp .ge 30, 3) := by decide +kernel
theorem dX12_desertsOf_12 : decode cX12_desertsOf 12 = .ok (.iload_n 2, 1) := by decide +kernel
theorem dX12_desertsOf_13 : decode cX12_desertsOf 13 = .ok (.iload_n 1, 1) := by decide +kernel
theorem dX12_desertsOf_14 : decode cX12_desertsOf 14 = .ok (.iload_n 3, 1) := by decide +kernel
theorem dX12_desertsOf_15 : decode cX12_desertsOf 15 = .ok (.invokestatic 383, 3) := by decide +kernel
theorem dX12_desertsOf_18 : decode cX12_desertsOf 18 = .ok (.ifCond .eq 12, 3) := by decide +kernel
theorem dX12_desertsOf_21 : decode cX12_desertsOf 21 = .ok (.aload_n 0, 1) := by decide +kernel
theorem dX12_desertsOf_22 : decode cX12_desertsOf 22 = .ok (.getfield 27, 3) := by decide +kernel
theorem dX12_desertsOf_25 : decode cX12_desertsOf 25 = .ok (.iload_n 3, 1) := by decide +kernel
theorem dX12_desertsOf_26 : decode cX12_desertsOf 26 = .ok (.iaload, 1) := by decide +kernel
theorem dX12_desertsOf_27 : decode cX12_desertsOf 27 = .ok (.goto 4, 3) := by decide +kernel
theorem dX12_desertsOf_30 : decode cX12_desertsOf 30 = .ok (.iconst 0, 1) := by decide +kernel
theorem dX12_desertsOf_31 : decode cX12_desertsOf 31 = .ok (.iadd, 1) := by decide +kernel
theorem dX12_desertsOf_32 : decode cX12_desertsOf 32 = .ok (.istore_n 2, 1) := by decide +kernel
theorem dX12_desertsOf_33 : decode cX12_desertsOf 33 = .ok (.iinc 3 1, 3) := by decide +kernel
theorem dX12_desertsOf_36 : decode cX12_desertsOf 36 = .ok (.goto (-32), 3) := by decide +kernel
theorem dX12_desertsOf_39 : decode cX12_desertsOf 39 = .ok (.iload_n 2, 1) := by decide +kernel
theorem dX12_desertsOf_40 : decode cX12_desertsOf 40 = .ok (.ireturn, 1) := by decide +kernel
def xX12_desertsOf_39 (s_X12_has : zq_Sp) (J4 : zq_P) (Q : zq_Q) (ls : zq_L) (st : List Value) (h : zq_H) : Prop := (zi_iload 2 (zi_iret Q)) ls st h
theorem kX12_desertsOf_39 {X : zq_X} {d : Nat} (C : zq_C X cX12_desertsOf 4 RX12 d) {d_X12_has : Nat} {s_X12_has : zq_Sp} (h_X12_has : zq_M yX12_has cX12_has 2 (some .boolean) 1 d_X12_has s_X12_has) (g_X12_has : d_X12_has + 1 ≤ d) {J4 : zq_P} (j4 : zq_ok X 4 4 J4) {Q : zq_Q} (hq : zq_R X (some .int) 1 Q) : zq_ok X 4 39 (xX12_desertsOf_39 s_X12_has J4 Q) := by
  refine zs_iload_n C dX12_desertsOf_39 rfl ?_
  exact zs_iret C hq dX12_desertsOf_40
def xX12_desertsOf_31 (s_X12_has : zq_Sp) (J4 : zq_P) (Q : zq_Q) (ls : zq_L) (st : List Value) (h : zq_H) : Prop := (zi_i2 (fun x y => x + y) (zi_istore 2 (zi_iinc 3 1 (J4)))) ls st h
theorem kX12_desertsOf_31 {X : zq_X} {d : Nat} (C : zq_C X cX12_desertsOf 4 RX12 d) {d_X12_has : Nat} {s_X12_has : zq_Sp} (h_X12_has : zq_M yX12_has cX12_has 2 (some .boolean) 1 d_X12_has s_X12_has) (g_X12_has : d_X12_has + 1 ≤ d) {J4 : zq_P} (j4 : zq_ok X 4 4 J4) {Q : zq_Q} (hq : zq_R X (some .int) 1 Q) : zq_ok X 4 31 (xX12_desertsOf_31 s_X12_has J4 Q) := by
  refine zs_iadd C dX12_desertsOf_31 ?_
  refine zs_istore_n C dX12_desertsOf_32 rfl (by decide) ?_
  refine zs_iinc C dX12_desertsOf_33 (by decide) (by decide) ?_
  exact zs_goto C dX12_desertsOf_36 (by decide) (j4)
def xX12_desertsOf_30 (s_X12_has : zq_Sp) (J4 : zq_P) (Q : zq_Q) (ls : zq_L) (st : List Value) (h : zq_H) : Prop := (zi_push (.int 0) ((xX12_desertsOf_31 s_X12_has J4 Q))) ls st h
theorem kX12_desertsOf_30 {X : zq_X} {d : Nat} (C : zq_C X cX12_desertsOf 4 RX12 d) {d_X12_has : Nat} {s_X12_has : zq_Sp} (h_X12_has : zq_M yX12_has cX12_has 2 (some .boolean) 1 d_X12_has s_X12_has) (g_X12_has : d_X12_has + 1 ≤ d) {J4 : zq_P} (j4 : zq_ok X 4 4 J4) {Q : zq_Q} (hq : zq_R X (some .int) 1 Q) : zq_ok X 4 30 (xX12_desertsOf_30 s_X12_has J4 Q) := by
  refine zs_iconst C dX12_desertsOf_30 (by decide) ?_
  exact kX12_desertsOf_31 C h_X12_has g_X12_has j4 hq
def xX12_desertsOf_21 (s_X12_has : zq_Sp) (J4 : zq_P) (Q : zq_Q) (ls : zq_L) (st : List Value) (h : zq_H) : Prop := (zi_aload 0 (zi_getR 56 62 (zi_iload 3 (zi_aldI 62 6 ((xX12_desertsOf_31 s_X12_has J4 Q)))))) ls st h
theorem kX12_desertsOf_21 {X : zq_X} {d : Nat} (C : zq_C X cX12_desertsOf 4 RX12 d) {d_X12_has : Nat} {s_X12_has : zq_Sp} (h_X12_has : zq_M yX12_has cX12_has 2 (some .boolean) 1 d_X12_has s_X12_has) (g_X12_has : d_X12_has + 1 ≤ d) {J4 : zq_P} (j4 : zq_ok X 4 4 J4) {Q : zq_Q} (hq : zq_R X (some .int) 1 Q) : zq_ok X 4 21 (xX12_desertsOf_21 s_X12_has J4 Q) := by
  refine zs_aload_n C dX12_desertsOf_21 rfl ?_
  refine zs_getR C zp_56 zF12 (j := 10) ⟨by decide, rfl⟩ zw_1106 dX12_desertsOf_22 ?_
  refine zs_iload_n C dX12_desertsOf_25 rfl ?_
  refine zs_iaload C zp_62 dX12_desertsOf_26 ?_
  exact zs_goto C dX12_desertsOf_27 (by decide) (kX12_desertsOf_31 C h_X12_has g_X12_has j4 hq)
def xX12_desertsOf_12 (s_X12_has : zq_Sp) (J4 : zq_P) (Q : zq_Q) (ls : zq_L) (st : List Value) (h : zq_H) : Prop := (zi_iload 2 (zi_iload 1 (zi_iload 3 (zi_callS 2 s_X12_has (zi_if1 (fun x => x = 0) (xX12_desertsOf_30 s_X12_has J4 Q) (xX12_desertsOf_21 s_X12_has J4 Q)))))) ls st h
theorem kX12_desertsOf_12 {X : zq_X} {d : Nat} (C : zq_C X cX12_desertsOf 4 RX12 d) {d_X12_has : Nat} {s_X12_has : zq_Sp} (h_X12_has : zq_M yX12_has cX12_has 2 (some .boolean) 1 d_X12_has s_X12_has) (g_X12_has : d_X12_has + 1 ≤ d) {J4 : zq_P} (j4 : zq_ok X 4 4 J4) {Q : zq_Q} (hq : zq_R X (some .int) 1 Q) : zq_ok X 4 12 (xX12_desertsOf_12 s_X12_has J4 Q) := by
  refine zs_iload_n C dX12_desertsOf_12 rfl ?_
  refine zs_iload_n C dX12_desertsOf_13 rfl ?_
  refine zs_iload_n C dX12_desertsOf_14 rfl ?_
  refine zs_callS C h_X12_has g_X12_has zy_X12_has zw_1626 zw_1627 dX12_desertsOf_15 ?_
  exact zs_if_eq C dX12_desertsOf_18 (by decide) (kX12_desertsOf_30 C h_X12_has g_X12_has j4 hq) (kX12_desertsOf_21 C h_X12_has g_X12_has j4 hq)
def xX12_desertsOf_4 (s_X12_has : zq_Sp) (J4 : zq_P) (Q : zq_Q) (ls : zq_L) (st : List Value) (h : zq_H) : Prop := (zi_iload 3 (zi_aload 0 (zi_getI 56 4 (zi_if2 (fun x y => y ≤ x) (xX12_desertsOf_39 s_X12_has J4 Q) (xX12_desertsOf_12 s_X12_has J4 Q))))) ls st h
theorem kX12_desertsOf_4 {X : zq_X} {d : Nat} (C : zq_C X cX12_desertsOf 4 RX12 d) {d_X12_has : Nat} {s_X12_has : zq_Sp} (h_X12_has : zq_M yX12_has cX12_has 2 (some .boolean) 1 d_X12_has s_X12_has) (g_X12_has : d_X12_has + 1 ≤ d) {J4 : zq_P} (j4 : zq_ok X 4 4 J4) {Q : zq_Q} (hq : zq_R X (some .int) 1 Q) : zq_ok X 4 4 (xX12_desertsOf_4 s_X12_has J4 Q) := by
  refine zs_iload_n C dX12_desertsOf_4 rfl ?_
  refine zs_aload_n C dX12_desertsOf_5 rfl ?_
  refine zs_getI C zp_56 zF12 (j := 4) ⟨by decide, rfl⟩ zw_1100 dX12_desertsOf_6 ?_
  exact zs_icmp_ge C dX12_desertsOf_9 (by decide) (kX12_desertsOf_39 C h_X12_has g_X12_has j4 hq) (kX12_desertsOf_12 C h_X12_has g_X12_has j4 hq)
def xX12_desertsOf_0 (s_X12_has : zq_Sp) (J4 : zq_P) (Q : zq_Q) (ls : zq_L) (st : List Value) (h : zq_H) : Prop := (zi_push (.int 0) (zi_istore 2 (zi_push (.int 0) (zi_istore 3 (J4))))) ls st h
theorem kX12_desertsOf_0 {X : zq_X} {d : Nat} (C : zq_C X cX12_desertsOf 4 RX12 d) {d_X12_has : Nat} {s_X12_has : zq_Sp} (h_X12_has : zq_M yX12_has cX12_has 2 (some .boolean) 1 d_X12_has s_X12_has) (g_X12_has : d_X12_has + 1 ≤ d) {J4 : zq_P} (j4 : zq_ok X 4 4 J4) {Q : zq_Q} (hq : zq_R X (some .int) 1 Q) : zq_ok X 4 0 (xX12_desertsOf_0 s_X12_has J4 Q) := by
  refine zs_iconst C dX12_desertsOf_0 (by decide) ?_
  refine zs_istore_n C dX12_desertsOf_1 rfl (by decide) ?_
  refine zs_iconst C dX12_desertsOf_2 (by decide) ?_
  refine zs_istore_n C dX12_desertsOf_3 rfl (by decide) ?_
  exact j4
theorem mX12_desertsOf {d : Nat} {spec : zq_Sp} {σ4 : Type} {d_X12_has : Nat} {s_X12_has : zq_Sp} (h_X12_has : zq_M yX12_has cX12_has 2 (some .boolean) 1 d_X12_has s_X12_has) (g_X12_has : d_X12_has + 1 ≤ d) (μ4 : σ4 → Nat) (I4 : zq_Q → σ4 → zq_P) (v : ∀ args h Q, spec args h Q → (zq_a args).length ≤ 4 ∧ xX12_desertsOf_0 s_X12_has (fun ls st h => ∃ b, I4 Q b ls st h) Q (zq_l0 4 args) [] h) (v4 : ∀ Q a ls st h, I4 Q a ls st h → xX12_desertsOf_4 s_X12_has (fun ls st h => ∃ b, μ4 b < μ4 a ∧ I4 Q b ls st h) Q ls st h) : zq_M yX12_desertsOf cX12_desertsOf 4 (some .int) 1 d spec := by
  refine zq_met (by decide +kernel) (by decide) (fun X Q args h C hq hs => ⟨(v args h Q hs).1, _, ?_, (v args h Q hs).2⟩)
  have hl := zq_loop1 (X := X) (nL := 4) (pc1 := 4) μ4 (I4 Q) (fun J4 => xX12_desertsOf_4 s_X12_has J4 Q) (fun j4 => kX12_desertsOf_4 C h_X12_has g_X12_has j4 hq) (v4 Q)
  exact kX12_desertsOf_0 C h_X12_has g_X12_has hl hq
/-! ToOneCrumbModel.ate(I)I -/
theorem dX12_ate_0 : decode cX12_ate 0 = .ok (.aload_n 0, 1) := by decide +kernel
theorem dX12_ate_1 : decode cX12_ate 1 = .ok (.iconst 0, 1) := by decide +kernel
theorem dX12_ate_2 : decode cX12_ate 2 = .ok (.putfield 147, 3) := by decide +kernel
theorem dX12_ate_5 : decode cX12_ate 5 = .ok (.iload_n 1, 1) := by decide +kernel
theorem dX12_ate_6 : decode cX12_ate 6 = .ok (.i2l, 1) := by decide +kernel
theorem dX12_ate_7 : decode cX12_ate 7 = .ok (.lconst 0, 1) := by decide +kernel
theorem dX12_ate_8 : decode cX12_ate 8 = .ok (.ldc2_w 455, 3) := by decide +kernel
theorem dX12_ate_11 : decode cX12_ate 11 = .ok (.invokestatic 161, 3) := by decide +kernel
theorem dX12_ate_14 : decode cX12_ate 14 = .ok (.ifCond .ne 5, 3) := by decide +kernel
theorem dX12_ate_17 : decode cX12_ate 17 = .ok (.iconst (-1), 1) := by decide +kernel
theorem dX12_ate_18 : decode cX12_ate 18 = .ok (.ireturn, 1) := by decide +kernel
theorem dX12_ate_19 : decode cX12_ate 19 = .ok (.iconst 0, 1) := by decide +kernel
theorem dX12_ate_20 : decode cX12_ate 20 = .ok (.istore_n 2, 1) := by decide +kernel
theorem dX12_ate_21 : decode cX12_ate 21 = .ok (.iconst (-1), 1) := by decide +kernel
theorem dX12_ate_22 : decode cX12_ate 22 = .ok (.istore_n 3, 1) := by decide +kernel
theorem dX12_ate_23 : decode cX12_ate 23 = .ok (.aload_n 0, 1) := by decide +kernel
theorem dX12_ate_24 : decode cX12_ate 24 = .ok (.invokevirtual 392, 3) := by decide +kernel
theorem dX12_ate_27 : decode cX12_ate 27 = .ok (.istore 4, 2) := by decide +kernel
theorem dX12_ate_29 : decode cX12_ate 29 = .ok (.iconst 0, 1) := by decide +kernel
theorem dX12_ate_30 : decode cX12_ate 30 = .ok (.istore 5, 2) := by decide +kernel
theorem dX12_ate_32 : decode cX12_ate 32 = .ok (.iload 5, 2) := by decide +kernel
theorem dX12_ate_34 : decode cX12_ate 34 = .ok (.aload_n 0, 1) := by decide +kernel
theorem dX12_ate_35 : decode cX12_ate 35 = .ok (.invokevirtual 392, 3) := by decide +kernel
theorem dX12_ate_38 : decode cX12_ate 38 = .ok (.if_icmp .gt 52, 3) := by decide +kernel
theorem dX12_ate_41 : decode cX12_ate 41 = .ok (.aload_n 0, 1) := by decide +kernel
theorem dX12_ate_42 : decode cX12_ate 42 = .ok (.iload 5, 2) := by decide +kernel
theorem dX12_ate_44 : decode cX12_ate 44 = .ok (.invokevirtual 457, 3) := by decide +kernel
theorem dX12_ate_47 : decode cX12_ate 47 = .ok (.iload_n 1, 1) := by decide +kernel
theorem dX12_ate_48 : decode cX12_ate 48 = .ok (.if_icmp .ne 36, 3) := by decide +kernel
theorem dX12_ate_51 : decode cX12_ate 51 = .ok (.iload_n 3, 1) := by decide +kernel
theorem dX12_ate_52 : decode cX12_ate 52 = .ok (.ifCond .lt 15, 3) := by decide +kernel
theorem dX12_ate_55 : decode cX12_ate 55 = .ok (.iload 5, 2) := by decide +kernel
theorem dX12_ate_57 : decode cX12_ate 57 = .ok (.invokestatic 372, 3) := by decide +kernel
theorem dX12_ate_60 : decode cX12_ate 60 = .ok (.iload_n 3, 1) := by decide +kernel
theorem dX12_ate_61 : decode cX12_ate 61 = .ok (.invokestatic 372, 3) := by decide +kernel
theorem dX12_ate_64 : decode cX12_ate 64 = .ok (.if_icmp .ge 8, 3) := by decide +kernel
theorem dX12_ate_67 : decode cX12_ate 67 = .ok (.iload 5, 2) := by decide +kernel
theorem dX12_ate_69 : decode cX12_ate 69 = .ok (.goto 4, 3) := by decide +kernel
theorem dX12_ate_72 : decode cX12_ate 72 = .ok (.iload_n 3, 1) := by decide +kernel
theorem dX12_ate_73 : decode cX12_ate 73 = .ok (.istore_n 3, 1) := by decide +kernel
theorem dX12_ate_74 : decode cX12_ate 74 = .ok (.iload 4, 2) := by decide +kernel
theorem dX12_ate_76 : decode cX12_ate 76 = .ok (.iload 5, 2) := by decide +kernel
theorem dX12_ate_78 : decode cX12_ate 78 = .ok (.iand, 1) := by decide +kernel
theorem dX12_ate_79 : decode cX12_ate 79 = .ok (.istore 4, 2) := by decide +kernel
theorem dX12_ate_81 : decode cX12_ate 81 = .ok (.iinc 2 1, 3) := by decide +kernel
theorem dX12_ate_84 : decode cX12_ate 84 = .ok (.iinc 5 1, 3) := by decide +kernel
theorem dX12_ate_87 : decode cX12_ate 87 = .ok (.goto (-55), 3) := by decide +kernel
theorem dX12_ate_90 : decode cX12_ate 90 = .ok (.aload_n 0, 1) := by decide +kernel
theorem dX12_ate_91 : decode cX12_ate 91 = .ok (.iconst 0, 1) := by decide +kernel
theorem dX12_ate_92 : decode cX12_ate 92 = .ok (.putfield 155, 3) := by decide +kernel
theorem dX12_ate_95 : decode cX12_ate 95 = .ok (.aload_n 0, 1) := by decide +kernel
theorem dX12_ate_96 : decode cX12_ate 96 = .ok (.iload_n 3, 1) := by decide +kernel
theorem dX12_ate_97 : decode cX12_ate 97 = .ok (.i2l, 1) := by decide +kernel
theorem dX12_ate_98 : decode cX12_ate 98 = .ok (.invokevirtual 368, 3) := by decide +kernel
theorem dX12_ate_101 : decode cX12_ate 101 = .ok (.aload_n 0, 1) := by decide +kernel
theorem dX12_ate_102 : decode cX12_ate 102 = .ok (.iload_n 2, 1) := by decide +kernel
theorem dX12_ate_103 : decode cX12_ate 103 = .ok (.ifCond .ne 7, 3) := by decide +kernel
theorem dX12_ate_106 : decode cX12_ate 106 = .ok (.lconst 0, 1) := by decide +kernel
theorem dX12_ate_107 : decode cX12_ate 107 = .ok (.goto 6, 3) := by decide +kernel
theorem dX12_ate_110 : decode cX12_ate 110 = .ok (.iload 4, 2) := by decide +kernel
theorem dX12_ate_112 : decode cX12_ate 112 = .ok (.i2l, 1) := by decide +kernel
theorem dX12_ate_113 : decode cX12_ate 113 = .ok (.invokevirtual 368, 3) := by decide +kernel
theorem dX12_ate_116 : decode cX12_ate 116 = .ok (.iload_n 2, 1) := by decide +kernel
theorem dX12_ate_117 : decode cX12_ate 117 = .ok (.ireturn, 1) := by decide +kernel
def xX12_ate_113 (s_X12_in : zq_Sp) (s_X12_all : zq_Sp) (s_X12_desertsOf : zq_Sp) (s_J6_bitCount_0f7a4 : zq_Sp) (s_X12_enters : zq_Sp) (J32 : zq_P) (Q : zq_Q) (ls : zq_L) (st : List Value) (h : zq_H) : Prop := (zi_callV 1 56 s_X12_enters (zi_iload 2 (zi_iret Q))) ls st h
theorem kX12_ate_113 {X : zq_X} {d : Nat} (C : zq_C X cX12_ate 6 RX12 d) {d_X12_in : Nat} {s_X12_in : zq_Sp} (h_X12_in : zq_M yX12_in cX12_in 6 (some .boolean) 1 d_X12_in s_X12_in) (g_X12_in : d_X12_in + 1 ≤ d) {d_X12_all : Nat} {s_X12_all : zq_Sp} (h_X12_all : zq_M yX12_all cX12_all 1 (some .int) 1 d_X12_all s_X12_all) (g_X12_all : d_X12_all + 1 ≤ d) {d_X12_desertsOf : Nat} {s_X12_desertsOf : zq_Sp} (h_X12_desertsOf : zq_M yX12_desertsOf cX12_desertsOf 4 (some .int) 1 d_X12_desertsOf s_X12_desertsOf) (g_X12_desertsOf : d_X12_desertsOf + 1 ≤ d) {d_J6_bitCount_0f7a4 : Nat} {s_J6_bitCount_0f7a4 : zq_Sp} (h_J6_bitCount_0f7a4 : zq_M yJ6_bitCount_0f7a4 cJ6_bitCount_0f7a4 1 (some .int) 1 d_J6_bitCount_0f7a4 s_J6_bitCount_0f7a4) (g_J6_bitCount_0f7a4 : d_J6_bitCount_0f7a4 + 1 ≤ d) {d_X12_enters : Nat} {s_X12_enters : zq_Sp} (h_X12_enters : zq_M yX12_enters cX12_enters 3 none 0 d_X12_enters s_X12_enters) (g_X12_enters : d_X12_enters + 1 ≤ d) {J32 : zq_P} (j32 : zq_ok X 6 32 J32) {Q : zq_Q} (hq : zq_R X (some .int) 1 Q) : zq_ok X 6 113 (xX12_ate_113 s_X12_in s_X12_all s_X12_desertsOf s_J6_bitCount_0f7a4 s_X12_enters J32 Q) := by
  refine zs_callV C h_X12_enters g_X12_enters zy_X12_enters zp_56 (show vwCl[12]? = some (RX12, TX12, 67) from rfl) zw_1574 zw_1576 zs9_X12_enters dX12_ate_113 ?_
  refine zs_iload_n C dX12_ate_116 rfl ?_
  exact zs_iret C hq dX12_ate_117
def xX12_ate_110 (s_X12_in : zq_Sp) (s_X12_all : zq_Sp) (s_X12_desertsOf : zq_Sp) (s_J6_bitCount_0f7a4 : zq_Sp) (s_X12_enters : zq_Sp) (J32 : zq_P) (Q : zq_Q) (ls : zq_L) (st : List Value) (h : zq_H) : Prop := (zi_iload 4 (zi_i2l ((xX12_ate_113 s_X12_in s_X12_all s_X12_desertsOf s_J6_bitCount_0f7a4 s_X12_enters J32 Q)))) ls st h
theorem kX12_ate_110 {X : zq_X} {d : Nat} (C : zq_C X cX12_ate 6 RX12 d) {d_X12_in : Nat} {s_X12_in : zq_Sp} (h_X12_in : zq_M yX12_in cX12_in 6 (some .boolean) 1 d_X12_in s_X12_in) (g_X12_in : d_X12_in + 1 ≤ d) {d_X12_all : Nat} {s_X12_all : zq_Sp} (h_X12_all : zq_M yX12_all cX12_all 1 (some .int) 1 d_X12_all s_X12_all) (g_X12_all : d_X12_all + 1 ≤ d) {d_X12_desertsOf : Nat} {s_X12_desertsOf : zq_Sp} (h_X12_desertsOf : zq_M yX12_desertsOf cX12_desertsOf 4 (some .int) 1 d_X12_desertsOf s_X12_desertsOf) (g_X12_desertsOf : d_X12_desertsOf + 1 ≤ d) {d_J6_bitCount_0f7a4 : Nat} {s_J6_bitCount_0f7a4 : zq_Sp} (h_J6_bitCount_0f7a4 : zq_M yJ6_bitCount_0f7a4 cJ6_bitCount_0f7a4 1 (some .int) 1 d_J6_bitCount_0f7a4 s_J6_bitCount_0f7a4) (g_J6_bitCount_0f7a4 : d_J6_bitCount_0f7a4 + 1 ≤ d) {d_X12_enters : Nat} {s_X12_enters : zq_Sp} (h_X12_enters : zq_M yX12_enters cX12_enters 3 none 0 d_X12_enters s_X12_enters) (g_X12_enters : d_X12_enters + 1 ≤ d) {J32 : zq_P} (j32 : zq_ok X 6 32 J32) {Q : zq_Q} (hq : zq_R X (some .int) 1 Q) : zq_ok X 6 110 (xX12_ate_110 s_X12_in s_X12_all s_X12_desertsOf s_J6_bitCount_0f7a4 s_X12_enters J32 Q) := by
  refine zs_iload C dX12_ate_110 ?_
  refine zs_i2l C dX12_ate_112 ?_
  exact kX12_ate_113 C h_X12_in g_X12_in h_X12_all g_X12_all h_X12_desertsOf g_X12_desertsOf h_J6_bitCount_0f7a4 g_J6_bitCount_0f7a4 h_X12_enters g_X12_enters j32 hq
def xX12_ate_106 (s_X12_in : zq_Sp) (s_X12_all : zq_Sp) (s_X12_desertsOf : zq_Sp) (s_J6_bitCount_0f7a4 : zq_Sp) (s_X12_enters : zq_Sp) (J32 : zq_P) (Q : zq_Q) (ls : zq_L) (st : List Value) (h : zq_H) : Prop := (zi_push (.long 0) ((xX12_ate_113 s_X12_in s_X12_all s_X12_desertsOf s_J6_bitCount_0f7a4 s_X12_enters J32 Q))) ls st h
theorem kX12_ate_106 {X : zq_X} {d : Nat} (C : zq_C X cX12_ate 6 RX12 d) {d_X12_in : Nat} {s_X12_in : zq_Sp} (h_X12_in : zq_M yX12_in cX12_in 6 (some .boolean) 1 d_X12_in s_X12_in) (g_X12_in : d_X12_in + 1 ≤ d) {d_X12_all : Nat} {s_X12_all : zq_Sp} (h_X12_all : zq_M yX12_all cX12_all 1 (some .int) 1 d_X12_all s_X12_all) (g_X12_all : d_X12_all + 1 ≤ d) {d_X12_desertsOf : Nat} {s_X12_desertsOf : zq_Sp} (h_X12_desertsOf : zq_M yX12_desertsOf cX12_desertsOf 4 (some .int) 1 d_X12_desertsOf s_X12_desertsOf) (g_X12_desertsOf : d_X12_desertsOf + 1 ≤ d) {d_J6_bitCount_0f7a4 : Nat} {s_J6_bitCount_0f7a4 : zq_Sp} (h_J6_bitCount_0f7a4 : zq_M yJ6_bitCount_0f7a4 cJ6_bitCount_0f7a4 1 (some .int) 1 d_J6_bitCount_0f7a4 s_J6_bitCount_0f7a4) (g_J6_bitCount_0f7a4 : d_J6_bitCount_0f7a4 + 1 ≤ d) {d_X12_enters : Nat} {s_X12_enters : zq_Sp} (h_X12_enters : zq_M yX12_enters cX12_enters 3 none 0 d_X12_enters s_X12_enters) (g_X12_enters : d_X12_enters + 1 ≤ d) {J32 : zq_P} (j32 : zq_ok X 6 32 J32) {Q : zq_Q} (hq : zq_R X (some .int) 1 Q) : zq_ok X 6 106 (xX12_ate_106 s_X12_in s_X12_all s_X12_desertsOf s_J6_bitCount_0f7a4 s_X12_enters J32 Q) := by
  refine zs_lconst C dX12_ate_106 (by decide) ?_
  exact zs_goto C dX12_ate_107 (by decide) (kX12_ate_113 C h_X12_in g_X12_in h_X12_all g_X12_all h_X12_desertsOf g_X12_desertsOf h_J6_bitCount_0f7a4 g_J6_bitCount_0f7a4 h_X12_enters g_X12_enters j32 hq)
def xX12_ate_90 (s_X12_in : zq_Sp) (s_X12_all : zq_Sp) (s_X12_desertsOf : zq_Sp) (s_J6_bitCount_0f7a4 : zq_Sp) (s_X12_enters : zq_Sp) (J32 : zq_P) (Q : zq_Q) (ls : zq_L) (st : List Value) (h : zq_H) : Prop := (zi_aload 0 (zi_push (.int 0) (zi_putI 56 1 (zi_aload 0 (zi_iload 3 (zi_i2l (zi_callV 1 56 s_X12_enters (zi_aload 0 (zi_iload 2 (zi_if1 (fun x => x = 0) (xX12_ate_106 s_X12_in s_X12_all s_X12_desertsOf s_J6_bitCount_0f7a4 s_X12_enters J32 Q) (xX12_ate_110 s_X12_in s_X12_all s_X12_desertsOf s_J6_bitCount_0f7a4 s_X12_enters J32 Q))))))))))) ls st h
theorem kX12_ate_90 {X : zq_X} {d : Nat} (C : zq_C X cX12_ate 6 RX12 d) {d_X12_in : Nat} {s_X12_in : zq_Sp} (h_X12_in : zq_M yX12_in cX12_in 6 (some .boolean) 1 d_X12_in s_X12_in) (g_X12_in : d_X12_in + 1 ≤ d) {d_X12_all : Nat} {s_X12_all : zq_Sp} (h_X12_all : zq_M yX12_all cX12_all 1 (some .int) 1 d_X12_all s_X12_all) (g_X12_all : d_X12_all + 1 ≤ d) {d_X12_desertsOf : Nat} {s_X12_desertsOf : zq_Sp} (h_X12_desertsOf : zq_M yX12_desertsOf cX12_desertsOf 4 (some .int) 1 d_X12_desertsOf s_X12_desertsOf) (g_X12_desertsOf : d_X12_desertsOf + 1 ≤ d) {d_J6_bitCount_0f7a4 : Nat} {s_J6_bitCount_0f7a4 : zq_Sp} (h_J6_bitCount_0f7a4 : zq_M yJ6_bitCount_0f7a4 cJ6_bitCount_0f7a4 1 (some .int) 1 d_J6_bitCount_0f7a4 s_J6_bitCount_0f7a4) (g_J6_bitCount_0f7a4 : d_J6_bitCount_0f7a4 + 1 ≤ d) {d_X12_enters : Nat} {s_X12_enters : zq_Sp} (h_X12_enters : zq_M yX12_enters cX12_enters 3 none 0 d_X12_enters s_X12_enters) (g_X12_enters : d_X12_enters + 1 ≤ d) {J32 : zq_P} (j32 : zq_ok X 6 32 J32) {Q : zq_Q} (hq : zq_R X (some .int) 1 Q) : zq_ok X 6 90 (xX12_ate_90 s_X12_in s_X12_all s_X12_desertsOf s_J6_bitCount_0f7a4 s_X12_enters J32 Q) := by
  refine zs_aload_n C dX12_ate_90 rfl ?_
  refine zs_iconst C dX12_ate_91 (by decide) ?_
  refine zs_putI C zp_56 zF12 (j := 1) ⟨by decide, rfl⟩ ⟨rfl, by decide +kernel⟩ zw_1097 dX12_ate_92 ?_
  refine zs_aload_n C dX12_ate_95 rfl ?_
  refine zs_iload_n C dX12_ate_96 rfl ?_
  refine zs_i2l C dX12_ate_97 ?_
  refine zs_callV C h_X12_enters g_X12_enters zy_X12_enters zp_56 (show vwCl[12]? = some (RX12, TX12, 67) from rfl) zw_1574 zw_1576 zs9_X12_enters dX12_ate_98 ?_
  refine zs_aload_n C dX12_ate_101 rfl ?_
  refine zs_iload_n C dX12_ate_102 rfl ?_
  exact zs_if_ne C dX12_ate_103 (by decide) (kX12_ate_110 C h_X12_in g_X12_in h_X12_all g_X12_all h_X12_desertsOf g_X12_desertsOf h_J6_bitCount_0f7a4 g_J6_bitCount_0f7a4 h_X12_enters g_X12_enters j32 hq) (kX12_ate_106 C h_X12_in g_X12_in h_X12_all g_X12_all h_X12_desertsOf g_X12_desertsOf h_J6_bitCount_0f7a4 g_J6_bitCount_0f7a4 h_X12_enters g_X12_enters j32 hq)
def xX12_ate_84 (s_X12_in : zq_Sp) (s_X12_all : zq_Sp) (s_X12_desertsOf : zq_Sp) (s_J6_bitCount_0f7a4 : zq_Sp) (s_X12_enters : zq_Sp) (J32 : zq_P) (Q : zq_Q) (ls : zq_L) (st : List Value) (h : zq_H) : Prop := (zi_iinc 5 1 (J32)) ls st h
theorem kX12_ate_84 {X : zq_X} {d : Nat} (C : zq_C X cX12_ate 6 RX12 d) {d_X12_in : Nat} {s_X12_in : zq_Sp} (h_X12_in : zq_M yX12_in cX12_in 6 (some .boolean) 1 d_X12_in s_X12_in) (g_X12_in : d_X12_in + 1 ≤ d) {d_X12_all : Nat} {s_X12_all : zq_Sp} (h_X12_all : zq_M yX12_all cX12_all 1 (some .int) 1 d_X12_all s_X12_all) (g_X12_all : d_X12_all + 1 ≤ d) {d_X12_desertsOf : Nat} {s_X12_desertsOf : zq_Sp} (h_X12_desertsOf : zq_M yX12_desertsOf cX12_desertsOf 4 (some .int) 1 d_X12_desertsOf s_X12_desertsOf) (g_X12_desertsOf : d_X12_desertsOf + 1 ≤ d) {d_J6_bitCount_0f7a4 : Nat} {s_J6_bitCount_0f7a4 : zq_Sp} (h_J6_bitCount_0f7a4 : zq_M yJ6_bitCount_0f7a4 cJ6_bitCount_0f7a4 1 (some .int) 1 d_J6_bitCount_0f7a4 s_J6_bitCount_0f7a4) (g_J6_bitCount_0f7a4 : d_J6_bitCount_0f7a4 + 1 ≤ d) {d_X12_enters : Nat} {s_X12_enters : zq_Sp} (h_X12_enters : zq_M yX12_enters cX12_enters 3 none 0 d_X12_enters s_X12_enters) (g_X12_enters : d_X12_enters + 1 ≤ d) {J32 : zq_P} (j32 : zq_ok X 6 32 J32) {Q : zq_Q} (hq : zq_R X (some .int) 1 Q) : zq_ok X 6 84 (xX12_ate_84 s_X12_in s_X12_all s_X12_desertsOf s_J6_bitCount_0f7a4 s_X12_enters J32 Q) := by
  refine zs_iinc C dX12_ate_84 (by decide) (by decide) ?_
  exact zs_goto C dX12_ate_87 (by decide) (j32)
def xX12_ate_73 (s_X12_in : zq_Sp) (s_X12_all : zq_Sp) (s_X12_desertsOf : zq_Sp) (s_J6_bitCount_0f7a4 : zq_Sp) (s_X12_enters : zq_Sp) (J32 : zq_P) (Q : zq_Q) (ls : zq_L) (st : List Value) (h : zq_H) : Prop := (zi_istore 3 (zi_iload 4 (zi_iload 5 (zi_i2 (fun x y => x &&& y) (zi_istore 4 (zi_iinc 2 1 ((xX12_ate_84 s_X12_in s_X12_all s_X12_desertsOf s_J6_bitCount_0f7a4 s_X12_enters J32 Q)))))))) ls st h
theorem kX12_ate_73 {X : zq_X} {d : Nat} (C : zq_C X cX12_ate 6 RX12 d) {d_X12_in : Nat} {s_X12_in : zq_Sp} (h_X12_in : zq_M yX12_in cX12_in 6 (some .boolean) 1 d_X12_in s_X12_in) (g_X12_in : d_X12_in + 1 ≤ d) {d_X12_all : Nat} {s_X12_all : zq_Sp} (h_X12_all : zq_M yX12_all cX12_all 1 (some .int) 1 d_X12_all s_X12_all) (g_X12_all : d_X12_all + 1 ≤ d) {d_X12_desertsOf : Nat} {s_X12_desertsOf : zq_Sp} (h_X12_desertsOf : zq_M yX12_desertsOf cX12_desertsOf 4 (some .int) 1 d_X12_desertsOf s_X12_desertsOf) (g_X12_desertsOf : d_X12_desertsOf + 1 ≤ d) {d_J6_bitCount_0f7a4 : Nat} {s_J6_bitCount_0f7a4 : zq_Sp} (h_J6_bitCount_0f7a4 : zq_M yJ6_bitCount_0f7a4 cJ6_bitCount_0f7a4 1 (some .int) 1 d_J6_bitCount_0f7a4 s_J6_bitCount_0f7a4) (g_J6_bitCount_0f7a4 : d_J6_bitCount_0f7a4 + 1 ≤ d) {d_X12_enters : Nat} {s_X12_enters : zq_Sp} (h_X12_enters : zq_M yX12_enters cX12_enters 3 none 0 d_X12_enters s_X12_enters) (g_X12_enters : d_X12_enters + 1 ≤ d) {J32 : zq_P} (j32 : zq_ok X 6 32 J32) {Q : zq_Q} (hq : zq_R X (some .int) 1 Q) : zq_ok X 6 73 (xX12_ate_73 s_X12_in s_X12_all s_X12_desertsOf s_J6_bitCount_0f7a4 s_X12_enters J32 Q) := by
  refine zs_istore_n C dX12_ate_73 rfl (by decide) ?_
  refine zs_iload C dX12_ate_74 ?_
  refine zs_iload C dX12_ate_76 ?_
  refine zs_iand C dX12_ate_78 ?_
  refine zs_istore C dX12_ate_79 (by decide) ?_
  refine zs_iinc C dX12_ate_81 (by decide) (by decide) ?_
  exact kX12_ate_84 C h_X12_in g_X12_in h_X12_all g_X12_all h_X12_desertsOf g_X12_desertsOf h_J6_bitCount_0f7a4 g_J6_bitCount_0f7a4 h_X12_enters g_X12_enters j32 hq
def xX12_ate_72 (s_X12_in : zq_Sp) (s_X12_all : zq_Sp) (s_X12_desertsOf : zq_Sp) (s_J6_bitCount_0f7a4 : zq_Sp) (s_X12_enters : zq_Sp) (J32 : zq_P) (Q : zq_Q) (ls : zq_L) (st : List Value) (h : zq_H) : Prop := (zi_iload 3 ((xX12_ate_73 s_X12_in s_X12_all s_X12_desertsOf s_J6_bitCount_0f7a4 s_X12_enters J32 Q))) ls st h
theorem kX12_ate_72 {X : zq_X} {d : Nat} (C : zq_C X cX12_ate 6 RX12 d) {d_X12_in : Nat} {s_X12_in : zq_Sp} (h_X12_in : zq_M yX12_in cX12_in 6 (some .boolean) 1 d_X12_in s_X12_in) (g_X12_in : d_X12_in + 1 ≤ d) {d_X12_all : Nat} {s_X12_all : zq_Sp} (h_X12_all : zq_M yX12_all cX12_all 1 (some .int) 1 d_X12_all s_X12_all) (g_X12_all : d_X12_all + 1 ≤ d) {d_X12_desertsOf : Nat} {s_X12_desertsOf : zq_Sp} (h_X12_desertsOf : zq_M yX12_desertsOf cX12_desertsOf 4 (some .int) 1 d_X12_desertsOf s_X12_desertsOf) (g_X12_desertsOf : d_X12_desertsOf + 1 ≤ d) {d_J6_bitCount_0f7a4 : Nat} {s_J6_bitCount_0f7a4 : zq_Sp} (h_J6_bitCount_0f7a4 : zq_M yJ6_bitCount_0f7a4 cJ6_bitCount_0f7a4 1 (some .int) 1 d_J6_bitCount_0f7a4 s_J6_bitCount_0f7a4) (g_J6_bitCount_0f7a4 : d_J6_bitCount_0f7a4 + 1 ≤ d) {d_X12_enters : Nat} {s_X12_enters : zq_Sp} (h_X12_enters : zq_M yX12_enters cX12_enters 3 none 0 d_X12_enters s_X12_enters) (g_X12_enters : d_X12_enters + 1 ≤ d) {J32 : zq_P} (j32 : zq_ok X 6 32 J32) {Q : zq_Q} (hq : zq_R X (some .int) 1 Q) : zq_ok X 6 72 (xX12_ate_72 s_X12_in s_X12_all s_X12_desertsOf s_J6_bitCount_0f7a4 s_X12_enters J32 Q) := by
  refine zs_iload_n C dX12_ate_72 rfl ?_
  exact kX12_ate_73 C h_X12_in g_X12_in h_X12_all g_X12_all h_X12_desertsOf g_X12_desertsOf h_J6_bitCount_0f7a4 g_J6_bitCount_0f7a4 h_X12_enters g_X12_enters j32 hq
def xX12_ate_67 (s_X12_in : zq_Sp) (s_X12_all : zq_Sp) (s_X12_desertsOf : zq_Sp) (s_J6_bitCount_0f7a4 : zq_Sp) (s_X12_enters : zq_Sp) (J32 : zq_P) (Q : zq_Q) (ls : zq_L) (st : List Value) (h : zq_H) : Prop := (zi_iload 5 ((xX12_ate_73 s_X12_in s_X12_all s_X12_desertsOf s_J6_bitCount_0f7a4 s_X12_enters J32 Q))) ls st h
theorem kX12_ate_67 {X : zq_X} {d : Nat} (C : zq_C X cX12_ate 6 RX12 d) {d_X12_in : Nat} {s_X12_in : zq_Sp} (h_X12_in : zq_M yX12_in cX12_in 6 (some .boolean) 1 d_X12_in s_X12_in) (g_X12_in : d_X12_in + 1 ≤ d) {d_X12_all : Nat} {s_X12_all : zq_Sp} (h_X12_all : zq_M yX12_all cX12_all 1 (some .int) 1 d_X12_all s_X12_all) (g_X12_all : d_X12_all + 1 ≤ d) {d_X12_desertsOf : Nat} {s_X12_desertsOf : zq_Sp} (h_X12_desertsOf : zq_M yX12_desertsOf cX12_desertsOf 4 (some .int) 1 d_X12_desertsOf s_X12_desertsOf) (g_X12_desertsOf : d_X12_desertsOf + 1 ≤ d) {d_J6_bitCount_0f7a4 : Nat} {s_J6_bitCount_0f7a4 : zq_Sp} (h_J6_bitCount_0f7a4 : zq_M yJ6_bitCount_0f7a4 cJ6_bitCount_0f7a4 1 (some .int) 1 d_J6_bitCount_0f7a4 s_J6_bitCount_0f7a4) (g_J6_bitCount_0f7a4 : d_J6_bitCount_0f7a4 + 1 ≤ d) {d_X12_enters : Nat} {s_X12_enters : zq_Sp} (h_X12_enters : zq_M yX12_enters cX12_enters 3 none 0 d_X12_enters s_X12_enters) (g_X12_enters : d_X12_enters + 1 ≤ d) {J32 : zq_P} (j32 : zq_ok X 6 32 J32) {Q : zq_Q} (hq : zq_R X (some .int) 1 Q) : zq_ok X 6 67 (xX12_ate_67 s_X12_in s_X12_all s_X12_desertsOf s_J6_bitCount_0f7a4 s_X12_enters J32 Q) := by
  refine zs_iload C dX12_ate_67 ?_
  exact zs_goto C dX12_ate_69 (by decide) (kX12_ate_73 C h_X12_in g_X12_in h_X12_all g_X12_all h_X12_desertsOf g_X12_desertsOf h_J6_bitCount_0f7a4 g_J6_bitCount_0f7a4 h_X12_enters g_X12_enters j32 hq)
def xX12_ate_55 (s_X12_in : zq_Sp) (s_X12_all : zq_Sp) (s_X12_desertsOf : zq_Sp) (s_J6_bitCount_0f7a4 : zq_Sp) (s_X12_enters : zq_Sp) (J32 : zq_P) (Q : zq_Q) (ls : zq_L) (st : List Value) (h : zq_H) : Prop := (zi_iload 5 (zi_callS 1 s_J6_bitCount_0f7a4 (zi_iload 3 (zi_callS 1 s_J6_bitCount_0f7a4 (zi_if2 (fun x y => y ≤ x) (xX12_ate_72 s_X12_in s_X12_all s_X12_desertsOf s_J6_bitCount_0f7a4 s_X12_enters J32 Q) (xX12_ate_67 s_X12_in s_X12_all s_X12_desertsOf s_J6_bitCount_0f7a4 s_X12_enters J32 Q)))))) ls st h
theorem kX12_ate_55 {X : zq_X} {d : Nat} (C : zq_C X cX12_ate 6 RX12 d) {d_X12_in : Nat} {s_X12_in : zq_Sp} (h_X12_in : zq_M yX12_in cX12_in 6 (some .boolean) 1 d_X12_in s_X12_in) (g_X12_in : d_X12_in + 1 ≤ d) {d_X12_all : Nat} {s_X12_all : zq_Sp} (h_X12_all : zq_M yX12_all cX12_all 1 (some .int) 1 d_X12_all s_X12_all) (g_X12_all : d_X12_all + 1 ≤ d) {d_X12_desertsOf : Nat} {s_X12_desertsOf : zq_Sp} (h_X12_desertsOf : zq_M yX12_desertsOf cX12_desertsOf 4 (some .int) 1 d_X12_desertsOf s_X12_desertsOf) (g_X12_desertsOf : d_X12_desertsOf + 1 ≤ d) {d_J6_bitCount_0f7a4 : Nat} {s_J6_bitCount_0f7a4 : zq_Sp} (h_J6_bitCount_0f7a4 : zq_M yJ6_bitCount_0f7a4 cJ6_bitCount_0f7a4 1 (some .int) 1 d_J6_bitCount_0f7a4 s_J6_bitCount_0f7a4) (g_J6_bitCount_0f7a4 : d_J6_bitCount_0f7a4 + 1 ≤ d) {d_X12_enters : Nat} {s_X12_enters : zq_Sp} (h_X12_enters : zq_M yX12_enters cX12_enters 3 none 0 d_X12_enters s_X12_enters) (g_X12_enters : d_X12_enters + 1 ≤ d) {J32 : zq_P} (j32 : zq_ok X 6 32 J32) {Q : zq_Q} (hq : zq_R X (some .int) 1 Q) : zq_ok X 6 55 (xX12_ate_55 s_X12_in s_X12_all s_X12_desertsOf s_J6_bitCount_0f7a4 s_X12_enters J32 Q) := by
  refine zs_iload C dX12_ate_55 ?_
  refine zs_callS C h_J6_bitCount_0f7a4 g_J6_bitCount_0f7a4 zy_J6_bitCount_0f7a4 zw_1590 zw_696 dX12_ate_57 ?_
  refine zs_iload_n C dX12_ate_60 rfl ?_
  refine zs_callS C h_J6_bitCount_0f7a4 g_J6_bitCount_0f7a4 zy_J6_bitCount_0f7a4 zw_1590 zw_696 dX12_ate_61 ?_
  exact zs_icmp_ge C dX12_ate_64 (by decide) (kX12_ate_72 C h_X12_in g_X12_in h_X12_all g_X12_all h_X12_desertsOf g_X12_desertsOf h_J6_bitCount_0f7a4 g_J6_bitCount_0f7a4 h_X12_enters g_X12_enters j32 hq) (kX12_ate_67 C h_X12_in g_X12_in h_X12_all g_X12_all h_X12_desertsOf g_X12_desertsOf h_J6_bitCount_0f7a4 g_J6_bitCount_0f7a4 h_X12_enters g_X12_enters j32 hq)
def xX12_ate_51 (s_X12_in : zq_Sp) (s_X12_all : zq_Sp) (s_X12_desertsOf : zq_Sp) (s_J6_bitCount_0f7a4 : zq_Sp) (s_X12_enters : zq_Sp) (J32 : zq_P) (Q : zq_Q) (ls : zq_L) (st : List Value) (h : zq_H) : Prop := (zi_iload 3 (zi_if1 (fun x => x < 0) (xX12_ate_67 s_X12_in s_X12_all s_X12_desertsOf s_J6_bitCount_0f7a4 s_X12_enters J32 Q) (xX12_ate_55 s_X12_in s_X12_all s_X12_desertsOf s_J6_bitCount_0f7a4 s_X12_enters J32 Q))) ls st h
theorem kX12_ate_51 {X : zq_X} {d : Nat} (C : zq_C X cX12_ate 6 RX12 d) {d_X12_in : Nat} {s_X12_in : zq_Sp} (h_X12_in : zq_M yX12_in cX12_in 6 (some .boolean) 1 d_X12_in s_X12_in) (g_X12_in : d_X12_in + 1 ≤ d) {d_X12_all : Nat} {s_X12_all : zq_Sp} (h_X12_all : zq_M yX12_all cX12_all 1 (some .int) 1 d_X12_all s_X12_all) (g_X12_all : d_X12_all + 1 ≤ d) {d_X12_desertsOf : Nat} {s_X12_desertsOf : zq_Sp} (h_X12_desertsOf : zq_M yX12_desertsOf cX12_desertsOf 4 (some .int) 1 d_X12_desertsOf s_X12_desertsOf) (g_X12_desertsOf : d_X12_desertsOf + 1 ≤ d) {d_J6_bitCount_0f7a4 : Nat} {s_J6_bitCount_0f7a4 : zq_Sp} (h_J6_bitCount_0f7a4 : zq_M yJ6_bitCount_0f7a4 cJ6_bitCount_0f7a4 1 (some .int) 1 d_J6_bitCount_0f7a4 s_J6_bitCount_0f7a4) (g_J6_bitCount_0f7a4 : d_J6_bitCount_0f7a4 + 1 ≤ d) {d_X12_enters : Nat} {s_X12_enters : zq_Sp} (h_X12_enters : zq_M yX12_enters cX12_enters 3 none 0 d_X12_enters s_X12_enters) (g_X12_enters : d_X12_enters + 1 ≤ d) {J32 : zq_P} (j32 : zq_ok X 6 32 J32) {Q : zq_Q} (hq : zq_R X (some .int) 1 Q) : zq_ok X 6 51 (xX12_ate_51 s_X12_in s_X12_all s_X12_desertsOf s_J6_bitCount_0f7a4 s_X12_enters J32 Q) := by
  refine zs_iload_n C dX12_ate_51 rfl ?_
  exact zs_if_lt C dX12_ate_52 (by decide) (kX12_ate_67 C h_X12_in g_X12_in h_X12_all g_X12_all h_X12_desertsOf g_X12_desertsOf h_J6_bitCount_0f7a4 g_J6_bitCount_0f7a4 h_X12_enters g_X12_enters j32 hq) (kX12_ate_55 C h_X12_in g_X12_in h_X12_all g_X12_all h_X12_desertsOf g_X12_desertsOf h_J6_bitCount_0f7a4 g_J6_bitCount_0f7a4 h_X12_enters g_X12_enters j32 hq)
def xX12_ate_41 (s_X12_in : zq_Sp) (s_X12_all : zq_Sp) (s_X12_desertsOf : zq_Sp) (s_J6_bitCount_0f7a4 : zq_Sp) (s_X12_enters : zq_Sp) (J32 : zq_P) (Q : zq_Q) (ls : zq_L) (st : List Value) (h : zq_H) : Prop := (zi_aload 0 (zi_iload 5 (zi_callV 1 56 s_X12_desertsOf (zi_iload 1 (zi_if2 (fun x y => x = y) (xX12_ate_51 s_X12_in s_X12_all s_X12_desertsOf s_J6_bitCount_0f7a4 s_X12_enters J32 Q) (xX12_ate_84 s_X12_in s_X12_all s_X12_desertsOf s_J6_bitCount_0f7a4 s_X12_enters J32 Q)))))) ls st h
theorem kX12_ate_41 {X : zq_X} {d : Nat} (C : zq_C X cX12_ate 6 RX12 d) {d_X12_in : Nat} {s_X12_in : zq_Sp} (h_X12_in : zq_M yX12_in cX12_in 6 (some .boolean) 1 d_X12_in s_X12_in) (g_X12_in : d_X12_in + 1 ≤ d) {d_X12_all : Nat} {s_X12_all : zq_Sp} (h_X12_all : zq_M yX12_all cX12_all 1 (some .int) 1 d_X12_all s_X12_all) (g_X12_all : d_X12_all + 1 ≤ d) {d_X12_desertsOf : Nat} {s_X12_desertsOf : zq_Sp} (h_X12_desertsOf : zq_M yX12_desertsOf cX12_desertsOf 4 (some .int) 1 d_X12_desertsOf s_X12_desertsOf) (g_X12_desertsOf : d_X12_desertsOf + 1 ≤ d) {d_J6_bitCount_0f7a4 : Nat} {s_J6_bitCount_0f7a4 : zq_Sp} (h_J6_bitCount_0f7a4 : zq_M yJ6_bitCount_0f7a4 cJ6_bitCount_0f7a4 1 (some .int) 1 d_J6_bitCount_0f7a4 s_J6_bitCount_0f7a4) (g_J6_bitCount_0f7a4 : d_J6_bitCount_0f7a4 + 1 ≤ d) {d_X12_enters : Nat} {s_X12_enters : zq_Sp} (h_X12_enters : zq_M yX12_enters cX12_enters 3 none 0 d_X12_enters s_X12_enters) (g_X12_enters : d_X12_enters + 1 ≤ d) {J32 : zq_P} (j32 : zq_ok X 6 32 J32) {Q : zq_Q} (hq : zq_R X (some .int) 1 Q) : zq_ok X 6 41 (xX12_ate_41 s_X12_in s_X12_all s_X12_desertsOf s_J6_bitCount_0f7a4 s_X12_enters J32 Q) := by
  refine zs_aload_n C dX12_ate_41 rfl ?_
  refine zs_iload C dX12_ate_42 ?_
  refine zs_callV C h_X12_desertsOf g_X12_desertsOf zy_X12_desertsOf zp_56 (show vwCl[12]? = some (RX12, TX12, 67) from rfl) zw_1746 zw_1748 zs9_X12_desertsOf dX12_ate_44 ?_
  refine zs_iload_n C dX12_ate_47 rfl ?_
  exact zs_icmp_ne C dX12_ate_48 (by decide) (kX12_ate_84 C h_X12_in g_X12_in h_X12_all g_X12_all h_X12_desertsOf g_X12_desertsOf h_J6_bitCount_0f7a4 g_J6_bitCount_0f7a4 h_X12_enters g_X12_enters j32 hq) (kX12_ate_51 C h_X12_in g_X12_in h_X12_all g_X12_all h_X12_desertsOf g_X12_desertsOf h_J6_bitCount_0f7a4 g_J6_bitCount_0f7a4 h_X12_enters g_X12_enters j32 hq)
def xX12_ate_32 (s_X12_in : zq_Sp) (s_X12_all : zq_Sp) (s_X12_desertsOf : zq_Sp) (s_J6_bitCount_0f7a4 : zq_Sp) (s_X12_enters : zq_Sp) (J32 : zq_P) (Q : zq_Q) (ls : zq_L) (st : List Value) (h : zq_H) : Prop := (zi_iload 5 (zi_aload 0 (zi_callV 0 56 s_X12_all (zi_if2 (fun x y => y < x) (xX12_ate_90 s_X12_in s_X12_all s_X12_desertsOf s_J6_bitCount_0f7a4 s_X12_enters J32 Q) (xX12_ate_41 s_X12_in s_X12_all s_X12_desertsOf s_J6_bitCount_0f7a4 s_X12_enters J32 Q))))) ls st h
theorem kX12_ate_32 {X : zq_X} {d : Nat} (C : zq_C X cX12_ate 6 RX12 d) {d_X12_in : Nat} {s_X12_in : zq_Sp} (h_X12_in : zq_M yX12_in cX12_in 6 (some .boolean) 1 d_X12_in s_X12_in) (g_X12_in : d_X12_in + 1 ≤ d) {d_X12_all : Nat} {s_X12_all : zq_Sp} (h_X12_all : zq_M yX12_all cX12_all 1 (some .int) 1 d_X12_all s_X12_all) (g_X12_all : d_X12_all + 1 ≤ d) {d_X12_desertsOf : Nat} {s_X12_desertsOf : zq_Sp} (h_X12_desertsOf : zq_M yX12_desertsOf cX12_desertsOf 4 (some .int) 1 d_X12_desertsOf s_X12_desertsOf) (g_X12_desertsOf : d_X12_desertsOf + 1 ≤ d) {d_J6_bitCount_0f7a4 : Nat} {s_J6_bitCount_0f7a4 : zq_Sp} (h_J6_bitCount_0f7a4 : zq_M yJ6_bitCount_0f7a4 cJ6_bitCount_0f7a4 1 (some .int) 1 d_J6_bitCount_0f7a4 s_J6_bitCount_0f7a4) (g_J6_bitCount_0f7a4 : d_J6_bitCount_0f7a4 + 1 ≤ d) {d_X12_enters : Nat} {s_X12_enters : zq_Sp} (h_X12_enters : zq_M yX12_enters cX12_enters 3 none 0 d_X12_enters s_X12_enters) (g_X12_enters : d_X12_enters + 1 ≤ d) {J32 : zq_P} (j32 : zq_ok X 6 32 J32) {Q : zq_Q} (hq : zq_R X (some .int) 1 Q) : zq_ok X 6 32 (xX12_ate_32 s_X12_in s_X12_all s_X12_desertsOf s_J6_bitCount_0f7a4 s_X12_enters J32 Q) := by
  refine zs_iload C dX12_ate_32 ?_
  refine zs_aload_n C dX12_ate_34 rfl ?_
  refine zs_callV C h_X12_all g_X12_all zy_X12_all zp_56 (show vwCl[12]? = some (RX12, TX12, 67) from rfl) zw_1610 zw_1612 zs9_X12_all dX12_ate_35 ?_
  exact zs_icmp_gt C dX12_ate_38 (by decide) (kX12_ate_90 C h_X12_in g_X12_in h_X12_all g_X12_all h_X12_desertsOf g_X12_desertsOf h_J6_bitCount_0f7a4 g_J6_bitCount_0f7a4 h_X12_enters g_X12_enters j32 hq) (kX12_ate_41 C h_X12_in g_X12_in h_X12_all g_X12_all h_X12_desertsOf g_X12_desertsOf h_J6_bitCount_0f7a4 g_J6_bitCount_0f7a4 h_X12_enters g_X12_enters j32 hq)
def xX12_ate_19 (s_X12_in : zq_Sp) (s_X12_all : zq_Sp) (s_X12_desertsOf : zq_Sp) (s_J6_bitCount_0f7a4 : zq_Sp) (s_X12_enters : zq_Sp) (J32 : zq_P) (Q : zq_Q) (ls : zq_L) (st : List Value) (h : zq_H) : Prop := (zi_push (.int 0) (zi_istore 2 (zi_push (.int (-1)) (zi_istore 3 (zi_aload 0 (zi_callV 0 56 s_X12_all (zi_istore 4 (zi_push (.int 0) (zi_istore 5 (J32)))))))))) ls st h
theorem kX12_ate_19 {X : zq_X} {d : Nat} (C : zq_C X cX12_ate 6 RX12 d) {d_X12_in : Nat} {s_X12_in : zq_Sp} (h_X12_in : zq_M yX12_in cX12_in 6 (some .boolean) 1 d_X12_in s_X12_in) (g_X12_in : d_X12_in + 1 ≤ d) {d_X12_all : Nat} {s_X12_all : zq_Sp} (h_X12_all : zq_M yX12_all cX12_all 1 (some .int) 1 d_X12_all s_X12_all) (g_X12_all : d_X12_all + 1 ≤ d) {d_X12_desertsOf : Nat} {s_X12_desertsOf : zq_Sp} (h_X12_desertsOf : zq_M yX12_desertsOf cX12_desertsOf 4 (some .int) 1 d_X12_desertsOf s_X12_desertsOf) (g_X12_desertsOf : d_X12_desertsOf + 1 ≤ d) {d_J6_bitCount_0f7a4 : Nat} {s_J6_bitCount_0f7a4 : zq_Sp} (h_J6_bitCount_0f7a4 : zq_M yJ6_bitCount_0f7a4 cJ6_bitCount_0f7a4 1 (some .int) 1 d_J6_bitCount_0f7a4 s_J6_bitCount_0f7a4) (g_J6_bitCount_0f7a4 : d_J6_bitCount_0f7a4 + 1 ≤ d) {d_X12_enters : Nat} {s_X12_enters : zq_Sp} (h_X12_enters : zq_M yX12_enters cX12_enters 3 none 0 d_X12_enters s_X12_enters) (g_X12_enters : d_X12_enters + 1 ≤ d) {J32 : zq_P} (j32 : zq_ok X 6 32 J32) {Q : zq_Q} (hq : zq_R X (some .int) 1 Q) : zq_ok X 6 19 (xX12_ate_19 s_X12_in s_X12_all s_X12_desertsOf s_J6_bitCount_0f7a4 s_X12_enters J32 Q) := by
  refine zs_iconst C dX12_ate_19 (by decide) ?_
  refine zs_istore_n C dX12_ate_20 rfl (by decide) ?_
  refine zs_iconst C dX12_ate_21 (by decide) ?_
  refine zs_istore_n C dX12_ate_22 rfl (by decide) ?_
  refine zs_aload_n C dX12_ate_23 rfl ?_
  refine zs_callV C h_X12_all g_X12_all zy_X12_all zp_56 (show vwCl[12]? = some (RX12, TX12, 67) from rfl) zw_1610 zw_1612 zs9_X12_all dX12_ate_24 ?_
  refine zs_istore C dX12_ate_27 (by decide) ?_
  refine zs_iconst C dX12_ate_29 (by decide) ?_
  refine zs_istore C dX12_ate_30 (by decide) ?_
  exact j32
def xX12_ate_17 (s_X12_in : zq_Sp) (s_X12_all : zq_Sp) (s_X12_desertsOf : zq_Sp) (s_J6_bitCount_0f7a4 : zq_Sp) (s_X12_enters : zq_Sp) (J32 : zq_P) (Q : zq_Q) (ls : zq_L) (st : List Value) (h : zq_H) : Prop := (zi_push (.int (-1)) (zi_iret Q)) ls st h
theorem kX12_ate_17 {X : zq_X} {d : Nat} (C : zq_C X cX12_ate 6 RX12 d) {d_X12_in : Nat} {s_X12_in : zq_Sp} (h_X12_in : zq_M yX12_in cX12_in 6 (some .boolean) 1 d_X12_in s_X12_in) (g_X12_in : d_X12_in + 1 ≤ d) {d_X12_all : Nat} {s_X12_all : zq_Sp} (h_X12_all : zq_M yX12_all cX12_all 1 (some .int) 1 d_X12_all s_X12_all) (g_X12_all : d_X12_all + 1 ≤ d) {d_X12_desertsOf : Nat} {s_X12_desertsOf : zq_Sp} (h_X12_desertsOf : zq_M yX12_desertsOf cX12_desertsOf 4 (some .int) 1 d_X12_desertsOf s_X12_desertsOf) (g_X12_desertsOf : d_X12_desertsOf + 1 ≤ d) {d_J6_bitCount_0f7a4 : Nat} {s_J6_bitCount_0f7a4 : zq_Sp} (h_J6_bitCount_0f7a4 : zq_M yJ6_bitCount_0f7a4 cJ6_bitCount_0f7a4 1 (some .int) 1 d_J6_bitCount_0f7a4 s_J6_bitCount_0f7a4) (g_J6_bitCount_0f7a4 : d_J6_bitCount_0f7a4 + 1 ≤ d) {d_X12_enters : Nat} {s_X12_enters : zq_Sp} (h_X12_enters : zq_M yX12_enters cX12_enters 3 none 0 d_X12_enters s_X12_enters) (g_X12_enters : d_X12_enters + 1 ≤ d) {J32 : zq_P} (j32 : zq_ok X 6 32 J32) {Q : zq_Q} (hq : zq_R X (some .int) 1 Q) : zq_ok X 6 17 (xX12_ate_17 s_X12_in s_X12_all s_X12_desertsOf s_J6_bitCount_0f7a4 s_X12_enters J32 Q) := by
  refine zs_iconst C dX12_ate_17 (by decide) ?_
  exact zs_iret C hq dX12_ate_18
def xX12_ate_0 (s_X12_in : zq_Sp) (s_X12_all : zq_Sp) (s_X12_desertsOf : zq_Sp) (s_J6_bitCount_0f7a4 : zq_Sp) (s_X12_enters : zq_Sp) (J32 : zq_P) (Q : zq_Q) (ls : zq_L) (st : List Value) (h : zq_H) : Prop := (zi_aload 0 (zi_push (.int 0) (zi_putI 56 0 (zi_iload 1 (zi_i2l (zi_push (.long 0) (zi_push (.long 9999) (zi_callS 3 s_X12_in (zi_if1 (fun x => x = 0) (xX12_ate_17 s_X12_in s_X12_all s_X12_desertsOf s_J6_bitCount_0f7a4 s_X12_enters J32 Q) (xX12_ate_19 s_X12_in s_X12_all s_X12_desertsOf s_J6_bitCount_0f7a4 s_X12_enters J32 Q)))))))))) ls st h
theorem kX12_ate_0 {X : zq_X} {d : Nat} (C : zq_C X cX12_ate 6 RX12 d) {d_X12_in : Nat} {s_X12_in : zq_Sp} (h_X12_in : zq_M yX12_in cX12_in 6 (some .boolean) 1 d_X12_in s_X12_in) (g_X12_in : d_X12_in + 1 ≤ d) {d_X12_all : Nat} {s_X12_all : zq_Sp} (h_X12_all : zq_M yX12_all cX12_all 1 (some .int) 1 d_X12_all s_X12_all) (g_X12_all : d_X12_all + 1 ≤ d) {d_X12_desertsOf : Nat} {s_X12_desertsOf : zq_Sp} (h_X12_desertsOf : zq_M yX12_desertsOf cX12_desertsOf 4 (some .int) 1 d_X12_desertsOf s_X12_desertsOf) (g_X12_desertsOf : d_X12_desertsOf + 1 ≤ d) {d_J6_bitCount_0f7a4 : Nat} {s_J6_bitCount_0f7a4 : zq_Sp} (h_J6_bitCount_0f7a4 : zq_M yJ6_bitCount_0f7a4 cJ6_bitCount_0f7a4 1 (some .int) 1 d_J6_bitCount_0f7a4 s_J6_bitCount_0f7a4) (g_J6_bitCount_0f7a4 : d_J6_bitCount_0f7a4 + 1 ≤ d) {d_X12_enters : Nat} {s_X12_enters : zq_Sp} (h_X12_enters : zq_M yX12_enters cX12_enters 3 none 0 d_X12_enters s_X12_enters) (g_X12_enters : d_X12_enters + 1 ≤ d) {J32 : zq_P} (j32 : zq_ok X 6 32 J32) {Q : zq_Q} (hq : zq_R X (some .int) 1 Q) : zq_ok X 6 0 (xX12_ate_0 s_X12_in s_X12_all s_X12_desertsOf s_J6_bitCount_0f7a4 s_X12_enters J32 Q) := by
  refine zs_aload_n C dX12_ate_0 rfl ?_
  refine zs_iconst C dX12_ate_1 (by decide) ?_
  refine zs_putI C zp_56 zF12 (j := 0) ⟨by decide, rfl⟩ ⟨rfl, by decide +kernel⟩ zw_1096 dX12_ate_2 ?_
  refine zs_iload_n C dX12_ate_5 rfl ?_
  refine zs_i2l C dX12_ate_6 ?_
  refine zs_lconst C dX12_ate_7 (by decide) ?_
  refine zs_ldc2 C dX12_ate_8 zw_1745 ?_
  refine zs_callS C h_X12_in g_X12_in zy_X12_in zw_1311 zw_1312 dX12_ate_11 ?_
  exact zs_if_ne C dX12_ate_14 (by decide) (kX12_ate_19 C h_X12_in g_X12_in h_X12_all g_X12_all h_X12_desertsOf g_X12_desertsOf h_J6_bitCount_0f7a4 g_J6_bitCount_0f7a4 h_X12_enters g_X12_enters j32 hq) (kX12_ate_17 C h_X12_in g_X12_in h_X12_all g_X12_all h_X12_desertsOf g_X12_desertsOf h_J6_bitCount_0f7a4 g_J6_bitCount_0f7a4 h_X12_enters g_X12_enters j32 hq)
theorem mX12_ate {d : Nat} {spec : zq_Sp} {σ32 : Type} {d_X12_in : Nat} {s_X12_in : zq_Sp} (h_X12_in : zq_M yX12_in cX12_in 6 (some .boolean) 1 d_X12_in s_X12_in) (g_X12_in : d_X12_in + 1 ≤ d) {d_X12_all : Nat} {s_X12_all : zq_Sp} (h_X12_all : zq_M yX12_all cX12_all 1 (some .int) 1 d_X12_all s_X12_all) (g_X12_all : d_X12_all + 1 ≤ d) {d_X12_desertsOf : Nat} {s_X12_desertsOf : zq_Sp} (h_X12_desertsOf : zq_M yX12_desertsOf cX12_desertsOf 4 (some .int) 1 d_X12_desertsOf s_X12_desertsOf) (g_X12_desertsOf : d_X12_desertsOf + 1 ≤ d) {d_J6_bitCount_0f7a4 : Nat} {s_J6_bitCount_0f7a4 : zq_Sp} (h_J6_bitCount_0f7a4 : zq_M yJ6_bitCount_0f7a4 cJ6_bitCount_0f7a4 1 (some .int) 1 d_J6_bitCount_0f7a4 s_J6_bitCount_0f7a4) (g_J6_bitCount_0f7a4 : d_J6_bitCount_0f7a4 + 1 ≤ d) {d_X12_enters : Nat} {s_X12_enters : zq_Sp} (h_X12_enters : zq_M yX12_enters cX12_enters 3 none 0 d_X12_enters s_X12_enters) (g_X12_enters : d_X12_enters + 1 ≤ d) (μ32 : σ32 → Nat) (I32 : zq_Q → σ32 → zq_P) (v : ∀ args h Q, spec args h Q → (zq_a args).length ≤ 6 ∧ xX12_ate_0 s_X12_in s_X12_all s_X12_desertsOf s_J6_bitCount_0f7a4 s_X12_enters (fun ls st h => ∃ b, I32 Q b ls st h) Q (zq_l0 6 args) [] h) (v32 : ∀ Q a ls st h, I32 Q a ls st h → xX12_ate_32 s_X12_in s_X12_all s_X12_desertsOf s_J6_bitCount_0f7a4 s_X12_enters (fun ls st h => ∃ b, μ32 b < μ32 a ∧ I32 Q b ls st h) Q ls st h) : zq_M yX12_ate cX12_ate 6 (some .int) 1 d spec := by
  refine zq_met (by decide +kernel) (by decide) (fun X Q args h C hq hs => ⟨(v args h Q hs).1, _, ?_, (v args h Q hs).2⟩)
  have hl := zq_loop1 (X := X) (nL := 6) (pc1 := 32) μ32 (I32 Q) (fun J32 => xX12_ate_32 s_X12_in s_X12_all s_X12_desertsOf s_J6_bitCount_0f7a4 s_X12_enters J32 Q) (fun j32 => kX12_ate_32 C h_X12_in g_X12_in h_X12_all g_X12_all h_X12_desertsOf g_X12_desertsOf h_J6_bitCount_0f7a4 g_J6_bitCount_0f7a4 h_X12_enters g_X12_enters j32 hq) (v32 Q)
  exact kX12_ate_0 C h_X12_in g_X12_in h_X12_all g_X12_all h_X12_desertsOf g_X12_desertsOf h_J6_bitCount_0f7a4 g_J6_bitCount_0f7a4 h_X12_enters g_X12_enters hl hq
/-! ToOneCrumbModel.bets(II)V -/
theorem dX12_bets_0 : decode cX12_bets 0 = .ok (.aload_n 0, 1) := by decide +kernel
theorem dX12_bets_1 : decode cX12_bets 1 = .ok (.lconst 0, 1) := by decide +kernel
theorem dX12_bets_2 : decode cX12_bets 2 = .ok (.putfield 460, 3) := by decide +kernel
theorem dX12_bets_5 : decode cX12_bets 5 = .ok (.aload_n 0, 1) := by decide +kernel
theorem dX12_bets_6 : decode cX12_bets 6 = .ok (.lconst 1, 1) := by decide +kernel
theorem dX12_bets_7 : decode cX12_bets 7 = .ok (.putfield 464, 3) := by decide +kernel
theorem dX12_bets_10 : decode cX12_bets 10 = .ok (.iconst 0, 1) := by decide +kernel
theorem dX12_bets_11 : decode cX12_bets 11 = .ok (.istore_n 3, 1) := by decide +kernel
theorem dX12_bets_12 : decode cX12_bets 12 = .ok (.iload_n 3, 1) := by decide +kernel
theorem dX12_bets_13 : decode cX12_bets 13 = .ok (.aload_n 0, 1) := by decide +kernel
theorem dX12_bets_14 : decode cX12_bets 14 = .ok (.getfield 165, 3) := by decide +kernel
theorem dX12_bets_17 : decode cX12_bets 17 = .ok (.if_icmp .ge 21, 3) := by decide +kernel
theorem dX12_bets_20 : decode cX12_bets 20 = .ok (.aload_n 0, 1) := by decide +kernel
theorem dX12_bets_21 : decode cX12_bets 21 = .ok (.dup, 1) := by decide +kernel
theorem dX12_bets_22 : decode cX12_bets 22 = .ok (.getfield 464, 3) := by decide +kernel
theorem dX12_bets_25 : decode cX12_bets 25 = .ok (.ldc2_w 467, 3) := by decide +kernel
theorem dX12_bets_28 : decode cX12_bets 28 = .ok (.lmul, 1) := by decide +kernel
theorem dX12_bets_29 : decode cX12_bets 29 = .ok (.putfield 464, 3) := by decide +kernel
theorem dX12_bets_32 : decode cX12_bets 32 = .ok (.iinc 3 1, 3) := by decide +kernel
theorem dX12_bets_35 : decode cX12_bets 35 = .ok (.goto (-23), 3) := by decide +kernel
theorem dX12_bets_38 : decode cX12_bets 38 = .ok (.iconst 0, 1) := by decide +kernel
theorem dX12_bets_39 : decode cX12_bets 39 = .ok (.istore_n 3, 1) := by decide +kernel
theorem dX12_bets_40 : decode cX12_bets 40 = .ok (.iload_n 3, 1) := by decide +kernel
theorem dX12_bets_41 : decode cX12_bets 41 = .ok (.aload_n 0, 1) := by decide +kernel
theorem dX12_bets_42 : decode cX12_bets 42 = .ok (.invokevirtual 392, 3) := by decide +kernel
theorem dX12_bets_45 : decode cX12_bets 45 = .ok (.if_icmp .gt 78, 3) := by decide +kernel
theorem dX12_bets_48 : decode cX12_bets 48 = .ok (.aload_n 0, 1) := by decide +kernel
theorem dX12_bets_49 : decode cX12_bets 49 = .ok (.iload_n 3, 1) := by decide +kernel
theorem dX12_bets_50 : decode cX12_bets 50 = .ok (.invokevirtual 457, 3) := by decide +kernel
theorem dX12_bets_53 : decode cX12_bets 53 = .ok (.iload_n 2, 1) := by decide +kernel
theorem dX12_bets_54 : decode cX12_bets 54 = .ok (.if_icmp .gt 7, 3) := by decide +kernel
theorem dX12_bets_57 : decode cX12_bets 57 = .ok (.lconst 1, 1) := by decide +kernel
theorem dX12_bets_58 : decode cX12_bets 58 = .ok (.goto 4, 3) := by decide +kernel
theorem dX12_bets_61 : decode cX12_bets 61 = .ok (.lconst 0, 1) := by decide +kernel
theorem dX12_bets_62 : decode cX12_bets 62 = .ok (.lstore 4, 2) := by decide +kernel
theorem dX12_bets_64 : decode cX12_bets 64 = .ok (.iconst 0, 1) := by decide +kernel
theorem dX12_bets_65 : decode cX12_bets 65 = .ok (.istore 6, 2) := by decide +kernel
theorem dX12_bets_67 : decode cX12_bets 67 = .ok (.iload 6, 2) := by decide +kernel
theorem dX12_bets_69 : decode cX12_bets 69 = .ok (.aload_n 0, 1) := by decide +kernel
theorem dX12_bets_70 : decode cX12_bets 70 = .ok (.getfield 165, 3) := by decide +kernel
theorem dX12_bets_73 : decode cX12_bets 73 = .ok (.if_icmp .ge 33, 3) := by decide +kernel
theorem dX12_bets_76 : decode cX12_bets 76 = .ok (.lload 4, 2) := by decide +kernel
theorem dX12_bets_78 : decode cX12_bets 78 = .ok (.iload_n 3, 1) := by decide +kernel
theorem dX12_bets_79 : decode cX12_bets 79 = .ok (.iload 6, 2) := by decide +kernel
theorem dX12_bets_81 : decode cX12_bets 81 = .ok (.invokestatic 383, 3) := by decide +kernel
theorem dX12_bets_84 : decode cX12_bets 84 = .ok (.ifCond .eq 8, 3) := by decide +kernel
theorem dX12_bets_87 : decode cX12_bets 87 = .ok (.iload_n 1, 1) := by decide +kernel
theorem dX12_bets_88 : decode cX12_bets 88 = .ok (.i2l, 1) := by decide +kernel
theorem dX12_bets_89 : decode cX12_bets 89 = .ok (.goto 8, 3) := by decide +kernel
theorem dX12_bets_92 : decode cX12_bets 92 = .ok (.bipush 10, 2) := by decide +kernel
theorem dX12_bets_94 : decode cX12_bets 94 = .ok (.iload_n 1, 1) := by decide +kernel
theorem dX12_bets_95 : decode cX12_bets 95 = .ok (.isub, 1) := by decide +kernel
theorem dX12_bets_96 : decode cX12_bets 96 = .ok (.i2l, 1) := by decide +kernel
theorem dX12_bets_97 : decode cX12_bets 97 = .ok (.lmul, 1) := by decide +kernel
theorem dX12_bets_98 : decode cX12_bets 98 = .ok (.lstore 4, 2) := by decide +kernel
theorem dX12_bets_100 : decode cX12_bets 100 = .ok (.iinc 6 1, 3) := by decide +kernel
theorem dX12_bets_103 : decode cX12_bets 103 = .ok (.goto (-36), 3) := by decide +kernel
theorem dX12_bets_106 : decode cX12_bets 106 = .ok (.aload_n 0, 1) := by decide +kernel
theorem dX12_bets_107 : decode cX12_bets 107 = .ok (.dup, 1) := by decide +kernel
theorem dX12_bets_108 : decode cX12_bets 108 = .ok (.getfield 460, 3) := by decide +kernel
theorem dX12_bets_111 : decode cX12_bets 111 = .ok (.lload 4, 2) := by decide +kernel
theorem dX12_bets_113 : decode cX12_bets 113 = .ok (.ladd, 1) := by decide +kernel
theorem dX12_bets_114 : decode cX12_bets 114 = .ok (.putfield 460, 3) := by decide +kernel
theorem dX12_bets_117 : decode cX12_bets 117 = .ok (.iinc 3 1, 3) := by decide +kernel
theorem dX12_bets_120 : decode cX12_bets 120 = .ok (.goto (-80), 3) := by decide +kernel
theorem dX12_bets_123 : decode cX12_bets 123 = .ok (.return_, 1) := by decide +kernel
def xX12_bets_123 (s_X12_all : zq_Sp) (s_X12_desertsOf : zq_Sp) (s_X12_has : zq_Sp) (J12 : zq_P) (J40 : zq_P) (J67 : zq_P) (Q : zq_Q) (ls : zq_L) (st : List Value) (h : zq_H) : Prop := (zi_vret Q) ls st h
theorem kX12_bets_123 {X : zq_X} {d : Nat} (C : zq_C X cX12_bets 7 RX12 d) {d_X12_all : Nat} {s_X12_all : zq_Sp} (h_X12_all : zq_M yX12_all cX12_all 1 (some .int) 1 d_X12_all s_X12_all) (g_X12_all : d_X12_all + 1 ≤ d) {d_X12_desertsOf : Nat} {s_X12_desertsOf : zq_Sp} (h_X12_desertsOf : zq_M yX12_desertsOf cX12_desertsOf 4 (some .int) 1 d_X12_desertsOf s_X12_desertsOf) (g_X12_desertsOf : d_X12_desertsOf + 1 ≤ d) {d_X12_has : Nat} {s_X12_has : zq_Sp} (h_X12_has : zq_M yX12_has cX12_has 2 (some .boolean) 1 d_X12_has s_X12_has) (g_X12_has : d_X12_has + 1 ≤ d) {J12 : zq_P} (j12 : zq_ok X 7 12 J12) {J40 : zq_P} (j40 : zq_ok X 7 40 J40) {J67 : zq_P} (j67 : zq_ok X 7 67 J67) {Q : zq_Q} (hq : zq_R X none 0 Q) : zq_ok X 7 123 (xX12_bets_123 s_X12_all s_X12_desertsOf s_X12_has J12 J40 J67 Q) := by
  exact zs_vret C hq dX12_bets_123
def xX12_bets_106 (s_X12_all : zq_Sp) (s_X12_desertsOf : zq_Sp) (s_X12_has : zq_Sp) (J12 : zq_P) (J40 : zq_P) (J67 : zq_P) (Q : zq_Q) (ls : zq_L) (st : List Value) (h : zq_H) : Prop := (zi_aload 0 (zi_dup (zi_getL 56 61 (zi_lload 4 (zi_l2 (fun x y => x + y) (zi_putL 56 61 (zi_iinc 3 1 (J40)))))))) ls st h
theorem kX12_bets_106 {X : zq_X} {d : Nat} (C : zq_C X cX12_bets 7 RX12 d) {d_X12_all : Nat} {s_X12_all : zq_Sp} (h_X12_all : zq_M yX12_all cX12_all 1 (some .int) 1 d_X12_all s_X12_all) (g_X12_all : d_X12_all + 1 ≤ d) {d_X12_desertsOf : Nat} {s_X12_desertsOf : zq_Sp} (h_X12_desertsOf : zq_M yX12_desertsOf cX12_desertsOf 4 (some .int) 1 d_X12_desertsOf s_X12_desertsOf) (g_X12_desertsOf : d_X12_desertsOf + 1 ≤ d) {d_X12_has : Nat} {s_X12_has : zq_Sp} (h_X12_has : zq_M yX12_has cX12_has 2 (some .boolean) 1 d_X12_has s_X12_has) (g_X12_has : d_X12_has + 1 ≤ d) {J12 : zq_P} (j12 : zq_ok X 7 12 J12) {J40 : zq_P} (j40 : zq_ok X 7 40 J40) {J67 : zq_P} (j67 : zq_ok X 7 67 J67) {Q : zq_Q} (hq : zq_R X none 0 Q) : zq_ok X 7 106 (xX12_bets_106 s_X12_all s_X12_desertsOf s_X12_has J12 J40 J67 Q) := by
  refine zs_aload_n C dX12_bets_106 rfl ?_
  refine zs_dup C dX12_bets_107 ?_
  refine zs_getL C zp_56 zF12 (j := 61) ⟨by decide, rfl⟩ zw_1157 dX12_bets_108 ?_
  refine zs_lload C dX12_bets_111 ?_
  refine zs_ladd C dX12_bets_113 ?_
  refine zs_putL C zp_56 zF12 (j := 61) ⟨by decide, rfl⟩ ⟨rfl, by decide +kernel⟩ zw_1157 dX12_bets_114 ?_
  refine zs_iinc C dX12_bets_117 (by decide) (by decide) ?_
  exact zs_goto C dX12_bets_120 (by decide) (j40)
def xX12_bets_97 (s_X12_all : zq_Sp) (s_X12_desertsOf : zq_Sp) (s_X12_has : zq_Sp) (J12 : zq_P) (J40 : zq_P) (J67 : zq_P) (Q : zq_Q) (ls : zq_L) (st : List Value) (h : zq_H) : Prop := (zi_l2 (fun x y => x * y) (zi_lstore 4 (zi_iinc 6 1 (J67)))) ls st h
theorem kX12_bets_97 {X : zq_X} {d : Nat} (C : zq_C X cX12_bets 7 RX12 d) {d_X12_all : Nat} {s_X12_all : zq_Sp} (h_X12_all : zq_M yX12_all cX12_all 1 (some .int) 1 d_X12_all s_X12_all) (g_X12_all : d_X12_all + 1 ≤ d) {d_X12_desertsOf : Nat} {s_X12_desertsOf : zq_Sp} (h_X12_desertsOf : zq_M yX12_desertsOf cX12_desertsOf 4 (some .int) 1 d_X12_desertsOf s_X12_desertsOf) (g_X12_desertsOf : d_X12_desertsOf + 1 ≤ d) {d_X12_has : Nat} {s_X12_has : zq_Sp} (h_X12_has : zq_M yX12_has cX12_has 2 (some .boolean) 1 d_X12_has s_X12_has) (g_X12_has : d_X12_has + 1 ≤ d) {J12 : zq_P} (j12 : zq_ok X 7 12 J12) {J40 : zq_P} (j40 : zq_ok X 7 40 J40) {J67 : zq_P} (j67 : zq_ok X 7 67 J67) {Q : zq_Q} (hq : zq_R X none 0 Q) : zq_ok X 7 97 (xX12_bets_97 s_X12_all s_X12_desertsOf s_X12_has J12 J40 J67 Q) := by
  refine zs_lmul C dX12_bets_97 ?_
  refine zs_lstore C dX12_bets_98 (by decide) ?_
  refine zs_iinc C dX12_bets_100 (by decide) (by decide) ?_
  exact zs_goto C dX12_bets_103 (by decide) (j67)
def xX12_bets_92 (s_X12_all : zq_Sp) (s_X12_desertsOf : zq_Sp) (s_X12_has : zq_Sp) (J12 : zq_P) (J40 : zq_P) (J67 : zq_P) (Q : zq_Q) (ls : zq_L) (st : List Value) (h : zq_H) : Prop := (zi_push (.int 10) (zi_iload 1 (zi_i2 (fun x y => x - y) (zi_i2l ((xX12_bets_97 s_X12_all s_X12_desertsOf s_X12_has J12 J40 J67 Q)))))) ls st h
theorem kX12_bets_92 {X : zq_X} {d : Nat} (C : zq_C X cX12_bets 7 RX12 d) {d_X12_all : Nat} {s_X12_all : zq_Sp} (h_X12_all : zq_M yX12_all cX12_all 1 (some .int) 1 d_X12_all s_X12_all) (g_X12_all : d_X12_all + 1 ≤ d) {d_X12_desertsOf : Nat} {s_X12_desertsOf : zq_Sp} (h_X12_desertsOf : zq_M yX12_desertsOf cX12_desertsOf 4 (some .int) 1 d_X12_desertsOf s_X12_desertsOf) (g_X12_desertsOf : d_X12_desertsOf + 1 ≤ d) {d_X12_has : Nat} {s_X12_has : zq_Sp} (h_X12_has : zq_M yX12_has cX12_has 2 (some .boolean) 1 d_X12_has s_X12_has) (g_X12_has : d_X12_has + 1 ≤ d) {J12 : zq_P} (j12 : zq_ok X 7 12 J12) {J40 : zq_P} (j40 : zq_ok X 7 40 J40) {J67 : zq_P} (j67 : zq_ok X 7 67 J67) {Q : zq_Q} (hq : zq_R X none 0 Q) : zq_ok X 7 92 (xX12_bets_92 s_X12_all s_X12_desertsOf s_X12_has J12 J40 J67 Q) := by
  refine zs_bipush C dX12_bets_92 (by decide) ?_
  refine zs_iload_n C dX12_bets_94 rfl ?_
  refine zs_isub C dX12_bets_95 ?_
  refine zs_i2l C dX12_bets_96 ?_
  exact kX12_bets_97 C h_X12_all g_X12_all h_X12_desertsOf g_X12_desertsOf h_X12_has g_X12_has j12 j40 j67 hq
def xX12_bets_87 (s_X12_all : zq_Sp) (s_X12_desertsOf : zq_Sp) (s_X12_has : zq_Sp) (J12 : zq_P) (J40 : zq_P) (J67 : zq_P) (Q : zq_Q) (ls : zq_L) (st : List Value) (h : zq_H) : Prop := (zi_iload 1 (zi_i2l ((xX12_bets_97 s_X12_all s_X12_desertsOf s_X12_has J12 J40 J67 Q)))) ls st h
theorem kX12_bets_87 {X : zq_X} {d : Nat} (C : zq_C X cX12_bets 7 RX12 d) {d_X12_all : Nat} {s_X12_all : zq_Sp} (h_X12_all : zq_M yX12_all cX12_all 1 (some .int) 1 d_X12_all s_X12_all) (g_X12_all : d_X12_all + 1 ≤ d) {d_X12_desertsOf : Nat} {s_X12_desertsOf : zq_Sp} (h_X12_desertsOf : zq_M yX12_desertsOf cX12_desertsOf 4 (some .int) 1 d_X12_desertsOf s_X12_desertsOf) (g_X12_desertsOf : d_X12_desertsOf + 1 ≤ d) {d_X12_has : Nat} {s_X12_has : zq_Sp} (h_X12_has : zq_M yX12_has cX12_has 2 (some .boolean) 1 d_X12_has s_X12_has) (g_X12_has : d_X12_has + 1 ≤ d) {J12 : zq_P} (j12 : zq_ok X 7 12 J12) {J40 : zq_P} (j40 : zq_ok X 7 40 J40) {J67 : zq_P} (j67 : zq_ok X 7 67 J67) {Q : zq_Q} (hq : zq_R X none 0 Q) : zq_ok X 7 87 (xX12_bets_87 s_X12_all s_X12_desertsOf s_X12_has J12 J40 J67 Q) := by
  refine zs_iload_n C dX12_bets_87 rfl ?_
  refine zs_i2l C dX12_bets_88 ?_
  exact zs_goto C dX12_bets_89 (by decide) (kX12_bets_97 C h_X12_all g_X12_all h_X12_desertsOf g_X12_desertsOf h_X12_has g_X12_has j12 j40 j67 hq)
def xX12_bets_76 (s_X12_all : zq_Sp) (s_X12_desertsOf : zq_Sp) (s_X12_has : zq_Sp) (J12 : zq_P) (J40 : zq_P) (J67 : zq_P) (Q : zq_Q) (ls : zq_L) (st : List Value) (h : zq_H) : Prop := (zi_lload 4 (zi_iload 3 (zi_iload 6 (zi_callS 2 s_X12_has (zi_if1 (fun x => x = 0) (xX12_bets_92 s_X12_all s_X12_desertsOf s_X12_has J12 J40 J67 Q) (xX12_bets_87 s_X12_all s_X12_desertsOf s_X12_has J12 J40 J67 Q)))))) ls st h
theorem kX12_bets_76 {X : zq_X} {d : Nat} (C : zq_C X cX12_bets 7 RX12 d) {d_X12_all : Nat} {s_X12_all : zq_Sp} (h_X12_all : zq_M yX12_all cX12_all 1 (some .int) 1 d_X12_all s_X12_all) (g_X12_all : d_X12_all + 1 ≤ d) {d_X12_desertsOf : Nat} {s_X12_desertsOf : zq_Sp} (h_X12_desertsOf : zq_M yX12_desertsOf cX12_desertsOf 4 (some .int) 1 d_X12_desertsOf s_X12_desertsOf) (g_X12_desertsOf : d_X12_desertsOf + 1 ≤ d) {d_X12_has : Nat} {s_X12_has : zq_Sp} (h_X12_has : zq_M yX12_has cX12_has 2 (some .boolean) 1 d_X12_has s_X12_has) (g_X12_has : d_X12_has + 1 ≤ d) {J12 : zq_P} (j12 : zq_ok X 7 12 J12) {J40 : zq_P} (j40 : zq_ok X 7 40 J40) {J67 : zq_P} (j67 : zq_ok X 7 67 J67) {Q : zq_Q} (hq : zq_R X none 0 Q) : zq_ok X 7 76 (xX12_bets_76 s_X12_all s_X12_desertsOf s_X12_has J12 J40 J67 Q) := by
  refine zs_lload C dX12_bets_76 ?_
  refine zs_iload_n C dX12_bets_78 rfl ?_
  refine zs_iload C dX12_bets_79 ?_
  refine zs_callS C h_X12_has g_X12_has zy_X12_has zw_1626 zw_1627 dX12_bets_81 ?_
  exact zs_if_eq C dX12_bets_84 (by decide) (kX12_bets_92 C h_X12_all g_X12_all h_X12_desertsOf g_X12_desertsOf h_X12_has g_X12_has j12 j40 j67 hq) (kX12_bets_87 C h_X12_all g_X12_all h_X12_desertsOf g_X12_desertsOf h_X12_has g_X12_has j12 j40 j67 hq)
def xX12_bets_67 (s_X12_all : zq_Sp) (s_X12_desertsOf : zq_Sp) (s_X12_has : zq_Sp) (J12 : zq_P) (J40 : zq_P) (J67 : zq_P) (Q : zq_Q) (ls : zq_L) (st : List Value) (h : zq_H) : Prop := (zi_iload 6 (zi_aload 0 (zi_getI 56 4 (zi_if2 (fun x y => y ≤ x) (xX12_bets_106 s_X12_all s_X12_desertsOf s_X12_has J12 J40 J67 Q) (xX12_bets_76 s_X12_all s_X12_desertsOf s_X12_has J12 J40 J67 Q))))) ls st h
theorem kX12_bets_67 {X : zq_X} {d : Nat} (C : zq_C X cX12_bets 7 RX12 d) {d_X12_all : Nat} {s_X12_all : zq_Sp} (h_X12_all : zq_M yX12_all cX12_all 1 (some .int) 1 d_X12_all s_X12_all) (g_X12_all : d_X12_all + 1 ≤ d) {d_X12_desertsOf : Nat} {s_X12_desertsOf : zq_Sp} (h_X12_desertsOf : zq_M yX12_desertsOf cX12_desertsOf 4 (some .int) 1 d_X12_desertsOf s_X12_desertsOf) (g_X12_desertsOf : d_X12_desertsOf + 1 ≤ d) {d_X12_has : Nat} {s_X12_has : zq_Sp} (h_X12_has : zq_M yX12_has cX12_has 2 (some .boolean) 1 d_X12_has s_X12_has) (g_X12_has : d_X12_has + 1 ≤ d) {J12 : zq_P} (j12 : zq_ok X 7 12 J12) {J40 : zq_P} (j40 : zq_ok X 7 40 J40) {J67 : zq_P} (j67 : zq_ok X 7 67 J67) {Q : zq_Q} (hq : zq_R X none 0 Q) : zq_ok X 7 67 (xX12_bets_67 s_X12_all s_X12_desertsOf s_X12_has J12 J40 J67 Q) := by
  refine zs_iload C dX12_bets_67 ?_
  refine zs_aload_n C dX12_bets_69 rfl ?_
  refine zs_getI C zp_56 zF12 (j := 4) ⟨by decide, rfl⟩ zw_1100 dX12_bets_70 ?_
  exact zs_icmp_ge C dX12_bets_73 (by decide) (kX12_bets_106 C h_X12_all g_X12_all h_X12_desertsOf g_X12_desertsOf h_X12_has g_X12_has j12 j40 j67 hq) (kX12_bets_76 C h_X12_all g_X12_all h_X12_desertsOf g_X12_desertsOf h_X12_has g_X12_has j12 j40 j67 hq)
def xX12_bets_62 (s_X12_all : zq_Sp) (s_X12_desertsOf : zq_Sp) (s_X12_has : zq_Sp) (J12 : zq_P) (J40 : zq_P) (J67 : zq_P) (Q : zq_Q) (ls : zq_L) (st : List Value) (h : zq_H) : Prop := (zi_lstore 4 (zi_push (.int 0) (zi_istore 6 (J67)))) ls st h
theorem kX12_bets_62 {X : zq_X} {d : Nat} (C : zq_C X cX12_bets 7 RX12 d) {d_X12_all : Nat} {s_X12_all : zq_Sp} (h_X12_all : zq_M yX12_all cX12_all 1 (some .int) 1 d_X12_all s_X12_all) (g_X12_all : d_X12_all + 1 ≤ d) {d_X12_desertsOf : Nat} {s_X12_desertsOf : zq_Sp} (h_X12_desertsOf : zq_M yX12_desertsOf cX12_desertsOf 4 (some .int) 1 d_X12_desertsOf s_X12_desertsOf) (g_X12_desertsOf : d_X12_desertsOf + 1 ≤ d) {d_X12_has : Nat} {s_X12_has : zq_Sp} (h_X12_has : zq_M yX12_has cX12_has 2 (some .boolean) 1 d_X12_has s_X12_has) (g_X12_has : d_X12_has + 1 ≤ d) {J12 : zq_P} (j12 : zq_ok X 7 12 J12) {J40 : zq_P} (j40 : zq_ok X 7 40 J40) {J67 : zq_P} (j67 : zq_ok X 7 67 J67) {Q : zq_Q} (hq : zq_R X none 0 Q) : zq_ok X 7 62 (xX12_bets_62 s_X12_all s_X12_desertsOf s_X12_has J12 J40 J67 Q) := by
  refine zs_lstore C dX12_bets_62 (by decide) ?_
  refine zs_iconst C dX12_bets_64 (by decide) ?_
  refine zs_istore C dX12_bets_65 (by decide) ?_
  exact j67
def xX12_bets_61 (s_X12_all : zq_Sp) (s_X12_desertsOf : zq_Sp) (s_X12_has : zq_Sp) (J12 : zq_P) (J40 : zq_P) (J67 : zq_P) (Q : zq_Q) (ls : zq_L) (st : List Value) (h : zq_H) : Prop := (zi_push (.long 0) ((xX12_bets_62 s_X12_all s_X12_desertsOf s_X12_has J12 J40 J67 Q))) ls st h
theorem kX12_bets_61 {X : zq_X} {d : Nat} (C : zq_C X cX12_bets 7 RX12 d) {d_X12_all : Nat} {s_X12_all : zq_Sp} (h_X12_all : zq_M yX12_all cX12_all 1 (some .int) 1 d_X12_all s_X12_all) (g_X12_all : d_X12_all + 1 ≤ d) {d_X12_desertsOf : Nat} {s_X12_desertsOf : zq_Sp} (h_X12_desertsOf : zq_M yX12_desertsOf cX12_desertsOf 4 (some .int) 1 d_X12_desertsOf s_X12_desertsOf) (g_X12_desertsOf : d_X12_desertsOf + 1 ≤ d) {d_X12_has : Nat} {s_X12_has : zq_Sp} (h_X12_has : zq_M yX12_has cX12_has 2 (some .boolean) 1 d_X12_has s_X12_has) (g_X12_has : d_X12_has + 1 ≤ d) {J12 : zq_P} (j12 : zq_ok X 7 12 J12) {J40 : zq_P} (j40 : zq_ok X 7 40 J40) {J67 : zq_P} (j67 : zq_ok X 7 67 J67) {Q : zq_Q} (hq : zq_R X none 0 Q) : zq_ok X 7 61 (xX12_bets_61 s_X12_all s_X12_desertsOf s_X12_has J12 J40 J67 Q) := by
  refine zs_lconst C dX12_bets_61 (by decide) ?_
  exact kX12_bets_62 C h_X12_all g_X12_all h_X12_desertsOf g_X12_desertsOf h_X12_has g_X12_has j12 j40 j67 hq
def xX12_bets_57 (s_X12_all : zq_Sp) (s_X12_desertsOf : zq_Sp) (s_X12_has : zq_Sp) (J12 : zq_P) (J40 : zq_P) (J67 : zq_P) (Q : zq_Q) (ls : zq_L) (st : List Value) (h : zq_H) : Prop := (zi_push (.long 1) ((xX12_bets_62 s_X12_all s_X12_desertsOf s_X12_has J12 J40 J67 Q))) ls st h
theorem kX12_bets_57 {X : zq_X} {d : Nat} (C : zq_C X cX12_bets 7 RX12 d) {d_X12_all : Nat} {s_X12_all : zq_Sp} (h_X12_all : zq_M yX12_all cX12_all 1 (some .int) 1 d_X12_all s_X12_all) (g_X12_all : d_X12_all + 1 ≤ d) {d_X12_desertsOf : Nat} {s_X12_desertsOf : zq_Sp} (h_X12_desertsOf : zq_M yX12_desertsOf cX12_desertsOf 4 (some .int) 1 d_X12_desertsOf s_X12_desertsOf) (g_X12_desertsOf : d_X12_desertsOf + 1 ≤ d) {d_X12_has : Nat} {s_X12_has : zq_Sp} (h_X12_has : zq_M yX12_has cX12_has 2 (some .boolean) 1 d_X12_has s_X12_has) (g_X12_has : d_X12_has + 1 ≤ d) {J12 : zq_P} (j12 : zq_ok X 7 12 J12) {J40 : zq_P} (j40 : zq_ok X 7 40 J40) {J67 : zq_P} (j67 : zq_ok X 7 67 J67) {Q : zq_Q} (hq : zq_R X none 0 Q) : zq_ok X 7 57 (xX12_bets_57 s_X12_all s_X12_desertsOf s_X12_has J12 J40 J67 Q) := by
  refine zs_lconst C dX12_bets_57 (by decide) ?_
  exact zs_goto C dX12_bets_58 (by decide) (kX12_bets_62 C h_X12_all g_X12_all h_X12_desertsOf g_X12_desertsOf h_X12_has g_X12_has j12 j40 j67 hq)
def xX12_bets_48 (s_X12_all : zq_Sp) (s_X12_desertsOf : zq_Sp) (s_X12_has : zq_Sp) (J12 : zq_P) (J40 : zq_P) (J67 : zq_P) (Q : zq_Q) (ls : zq_L) (st : List Value) (h : zq_H) : Prop := (zi_aload 0 (zi_iload 3 (zi_callV 1 56 s_X12_desertsOf (zi_iload 2 (zi_if2 (fun x y => y < x) (xX12_bets_61 s_X12_all s_X12_desertsOf s_X12_has J12 J40 J67 Q) (xX12_bets_57 s_X12_all s_X12_desertsOf s_X12_has J12 J40 J67 Q)))))) ls st h
theorem kX12_bets_48 {X : zq_X} {d : Nat} (C : zq_C X cX12_bets 7 RX12 d) {d_X12_all : Nat} {s_X12_all : zq_Sp} (h_X12_all : zq_M yX12_all cX12_all 1 (some .int) 1 d_X12_all s_X12_all) (g_X12_all : d_X12_all + 1 ≤ d) {d_X12_desertsOf : Nat} {s_X12_desertsOf : zq_Sp} (h_X12_desertsOf : zq_M yX12_desertsOf cX12_desertsOf 4 (some .int) 1 d_X12_desertsOf s_X12_desertsOf) (g_X12_desertsOf : d_X12_desertsOf + 1 ≤ d) {d_X12_has : Nat} {s_X12_has : zq_Sp} (h_X12_has : zq_M yX12_has cX12_has 2 (some .boolean) 1 d_X12_has s_X12_has) (g_X12_has : d_X12_has + 1 ≤ d) {J12 : zq_P} (j12 : zq_ok X 7 12 J12) {J40 : zq_P} (j40 : zq_ok X 7 40 J40) {J67 : zq_P} (j67 : zq_ok X 7 67 J67) {Q : zq_Q} (hq : zq_R X none 0 Q) : zq_ok X 7 48 (xX12_bets_48 s_X12_all s_X12_desertsOf s_X12_has J12 J40 J67 Q) := by
  refine zs_aload_n C dX12_bets_48 rfl ?_
  refine zs_iload_n C dX12_bets_49 rfl ?_
  refine zs_callV C h_X12_desertsOf g_X12_desertsOf zy_X12_desertsOf zp_56 (show vwCl[12]? = some (RX12, TX12, 67) from rfl) zw_1746 zw_1748 zs9_X12_desertsOf dX12_bets_50 ?_
  refine zs_iload_n C dX12_bets_53 rfl ?_
  exact zs_icmp_gt C dX12_bets_54 (by decide) (kX12_bets_61 C h_X12_all g_X12_all h_X12_desertsOf g_X12_desertsOf h_X12_has g_X12_has j12 j40 j67 hq) (kX12_bets_57 C h_X12_all g_X12_all h_X12_desertsOf g_X12_desertsOf h_X12_has g_X12_has j12 j40 j67 hq)
def xX12_bets_40 (s_X12_all : zq_Sp) (s_X12_desertsOf : zq_Sp) (s_X12_has : zq_Sp) (J12 : zq_P) (J40 : zq_P) (J67 : zq_P) (Q : zq_Q) (ls : zq_L) (st : List Value) (h : zq_H) : Prop := (zi_iload 3 (zi_aload 0 (zi_callV 0 56 s_X12_all (zi_if2 (fun x y => y < x) (xX12_bets_123 s_X12_all s_X12_desertsOf s_X12_has J12 J40 J67 Q) (xX12_bets_48 s_X12_all s_X12_desertsOf s_X12_has J12 J40 J67 Q))))) ls st h
theorem kX12_bets_40 {X : zq_X} {d : Nat} (C : zq_C X cX12_bets 7 RX12 d) {d_X12_all : Nat} {s_X12_all : zq_Sp} (h_X12_all : zq_M yX12_all cX12_all 1 (some .int) 1 d_X12_all s_X12_all) (g_X12_all : d_X12_all + 1 ≤ d) {d_X12_desertsOf : Nat} {s_X12_desertsOf : zq_Sp} (h_X12_desertsOf : zq_M yX12_desertsOf cX12_desertsOf 4 (some .int) 1 d_X12_desertsOf s_X12_desertsOf) (g_X12_desertsOf : d_X12_desertsOf + 1 ≤ d) {d_X12_has : Nat} {s_X12_has : zq_Sp} (h_X12_has : zq_M yX12_has cX12_has 2 (some .boolean) 1 d_X12_has s_X12_has) (g_X12_has : d_X12_has + 1 ≤ d) {J12 : zq_P} (j12 : zq_ok X 7 12 J12) {J40 : zq_P} (j40 : zq_ok X 7 40 J40) {J67 : zq_P} (j67 : zq_ok X 7 67 J67) {Q : zq_Q} (hq : zq_R X none 0 Q) : zq_ok X 7 40 (xX12_bets_40 s_X12_all s_X12_desertsOf s_X12_has J12 J40 J67 Q) := by
  refine zs_iload_n C dX12_bets_40 rfl ?_
  refine zs_aload_n C dX12_bets_41 rfl ?_
  refine zs_callV C h_X12_all g_X12_all zy_X12_all zp_56 (show vwCl[12]? = some (RX12, TX12, 67) from rfl) zw_1610 zw_1612 zs9_X12_all dX12_bets_42 ?_
  exact zs_icmp_gt C dX12_bets_45 (by decide) (kX12_bets_123 C h_X12_all g_X12_all h_X12_desertsOf g_X12_desertsOf h_X12_has g_X12_has j12 j40 j67 hq) (kX12_bets_48 C h_X12_all g_X12_all h_X12_desertsOf g_X12_desertsOf h_X12_has g_X12_has j12 j40 j67 hq)
def xX12_bets_38 (s_X12_all : zq_Sp) (s_X12_desertsOf : zq_Sp) (s_X12_has : zq_Sp) (J12 : zq_P) (J40 : zq_P) (J67 : zq_P) (Q : zq_Q) (ls : zq_L) (st : List Value) (h : zq_H) : Prop := (zi_push (.int 0) (zi_istore 3 (J40))) ls st h
theorem kX12_bets_38 {X : zq_X} {d : Nat} (C : zq_C X cX12_bets 7 RX12 d) {d_X12_all : Nat} {s_X12_all : zq_Sp} (h_X12_all : zq_M yX12_all cX12_all 1 (some .int) 1 d_X12_all s_X12_all) (g_X12_all : d_X12_all + 1 ≤ d) {d_X12_desertsOf : Nat} {s_X12_desertsOf : zq_Sp} (h_X12_desertsOf : zq_M yX12_desertsOf cX12_desertsOf 4 (some .int) 1 d_X12_desertsOf s_X12_desertsOf) (g_X12_desertsOf : d_X12_desertsOf + 1 ≤ d) {d_X12_has : Nat} {s_X12_has : zq_Sp} (h_X12_has : zq_M yX12_has cX12_has 2 (some .boolean) 1 d_X12_has s_X12_has) (g_X12_has : d_X12_has + 1 ≤ d) {J12 : zq_P} (j12 : zq_ok X 7 12 J12) {J40 : zq_P} (j40 : zq_ok X 7 40 J40) {J67 : zq_P} (j67 : zq_ok X 7 67 J67) {Q : zq_Q} (hq : zq_R X none 0 Q) : zq_ok X 7 38 (xX12_bets_38 s_X12_all s_X12_desertsOf s_X12_has J12 J40 J67 Q) := by
  refine zs_iconst C dX12_bets_38 (by decide) ?_
  refine zs_istore_n C dX12_bets_39 rfl (by decide) ?_
  exact j40
def xX12_bets_20 (s_X12_all : zq_Sp) (s_X12_desertsOf : zq_Sp) (s_X12_has : zq_Sp) (J12 : zq_P) (J40 : zq_P) (J67 : zq_P) (Q : zq_Q) (ls : zq_L) (st : List Value) (h : zq_H) : Prop := (zi_aload 0 (zi_dup (zi_getL 56 62 (zi_push (.long 10) (zi_l2 (fun x y => x * y) (zi_putL 56 62 (zi_iinc 3 1 (J12)))))))) ls st h
theorem kX12_bets_20 {X : zq_X} {d : Nat} (C : zq_C X cX12_bets 7 RX12 d) {d_X12_all : Nat} {s_X12_all : zq_Sp} (h_X12_all : zq_M yX12_all cX12_all 1 (some .int) 1 d_X12_all s_X12_all) (g_X12_all : d_X12_all + 1 ≤ d) {d_X12_desertsOf : Nat} {s_X12_desertsOf : zq_Sp} (h_X12_desertsOf : zq_M yX12_desertsOf cX12_desertsOf 4 (some .int) 1 d_X12_desertsOf s_X12_desertsOf) (g_X12_desertsOf : d_X12_desertsOf + 1 ≤ d) {d_X12_has : Nat} {s_X12_has : zq_Sp} (h_X12_has : zq_M yX12_has cX12_has 2 (some .boolean) 1 d_X12_has s_X12_has) (g_X12_has : d_X12_has + 1 ≤ d) {J12 : zq_P} (j12 : zq_ok X 7 12 J12) {J40 : zq_P} (j40 : zq_ok X 7 40 J40) {J67 : zq_P} (j67 : zq_ok X 7 67 J67) {Q : zq_Q} (hq : zq_R X none 0 Q) : zq_ok X 7 20 (xX12_bets_20 s_X12_all s_X12_desertsOf s_X12_has J12 J40 J67 Q) := by
  refine zs_aload_n C dX12_bets_20 rfl ?_
  refine zs_dup C dX12_bets_21 ?_
  refine zs_getL C zp_56 zF12 (j := 62) ⟨by decide, rfl⟩ zw_1158 dX12_bets_22 ?_
  refine zs_ldc2 C dX12_bets_25 zw_1754 ?_
  refine zs_lmul C dX12_bets_28 ?_
  refine zs_putL C zp_56 zF12 (j := 62) ⟨by decide, rfl⟩ ⟨rfl, by decide +kernel⟩ zw_1158 dX12_bets_29 ?_
  refine zs_iinc C dX12_bets_32 (by decide) (by decide) ?_
  exact zs_goto C dX12_bets_35 (by decide) (j12)
def xX12_bets_12 (s_X12_all : zq_Sp) (s_X12_desertsOf : zq_Sp) (s_X12_has : zq_Sp) (J12 : zq_P) (J40 : zq_P) (J67 : zq_P) (Q : zq_Q) (ls : zq_L) (st : List Value) (h : zq_H) : Prop := (zi_iload 3 (zi_aload 0 (zi_getI 56 4 (zi_if2 (fun x y => y ≤ x) (xX12_bets_38 s_X12_all s_X12_desertsOf s_X12_has J12 J40 J67 Q) (xX12_bets_20 s_X12_all s_X12_desertsOf s_X12_has J12 J40 J67 Q))))) ls st h
theorem kX12_bets_12 {X : zq_X} {d : Nat} (C : zq_C X cX12_bets 7 RX12 d) {d_X12_all : Nat} {s_X12_all : zq_Sp} (h_X12_all : zq_M yX12_all cX12_all 1 (some .int) 1 d_X12_all s_X12_all) (g_X12_all : d_X12_all + 1 ≤ d) {d_X12_desertsOf : Nat} {s_X12_desertsOf : zq_Sp} (h_X12_desertsOf : zq_M yX12_desertsOf cX12_desertsOf 4 (some .int) 1 d_X12_desertsOf s_X12_desertsOf) (g_X12_desertsOf : d_X12_desertsOf + 1 ≤ d) {d_X12_has : Nat} {s_X12_has : zq_Sp} (h_X12_has : zq_M yX12_has cX12_has 2 (some .boolean) 1 d_X12_has s_X12_has) (g_X12_has : d_X12_has + 1 ≤ d) {J12 : zq_P} (j12 : zq_ok X 7 12 J12) {J40 : zq_P} (j40 : zq_ok X 7 40 J40) {J67 : zq_P} (j67 : zq_ok X 7 67 J67) {Q : zq_Q} (hq : zq_R X none 0 Q) : zq_ok X 7 12 (xX12_bets_12 s_X12_all s_X12_desertsOf s_X12_has J12 J40 J67 Q) := by
  refine zs_iload_n C dX12_bets_12 rfl ?_
  refine zs_aload_n C dX12_bets_13 rfl ?_
  refine zs_getI C zp_56 zF12 (j := 4) ⟨by decide, rfl⟩ zw_1100 dX12_bets_14 ?_
  exact zs_icmp_ge C dX12_bets_17 (by decide) (kX12_bets_38 C h_X12_all g_X12_all h_X12_desertsOf g_X12_desertsOf h_X12_has g_X12_has j12 j40 j67 hq) (kX12_bets_20 C h_X12_all g_X12_all h_X12_desertsOf g_X12_desertsOf h_X12_has g_X12_has j12 j40 j67 hq)
def xX12_bets_0 (s_X12_all : zq_Sp) (s_X12_desertsOf : zq_Sp) (s_X12_has : zq_Sp) (J12 : zq_P) (J40 : zq_P) (J67 : zq_P) (Q : zq_Q) (ls : zq_L) (st : List Value) (h : zq_H) : Prop := (zi_aload 0 (zi_push (.long 0) (zi_putL 56 61 (zi_aload 0 (zi_push (.long 1) (zi_putL 56 62 (zi_push (.int 0) (zi_istore 3 (J12))))))))) ls st h
theorem kX12_bets_0 {X : zq_X} {d : Nat} (C : zq_C X cX12_bets 7 RX12 d) {d_X12_all : Nat} {s_X12_all : zq_Sp} (h_X12_all : zq_M yX12_all cX12_all 1 (some .int) 1 d_X12_all s_X12_all) (g_X12_all : d_X12_all + 1 ≤ d) {d_X12_desertsOf : Nat} {s_X12_desertsOf : zq_Sp} (h_X12_desertsOf : zq_M yX12_desertsOf cX12_desertsOf 4 (some .int) 1 d_X12_desertsOf s_X12_desertsOf) (g_X12_desertsOf : d_X12_desertsOf + 1 ≤ d) {d_X12_has : Nat} {s_X12_has : zq_Sp} (h_X12_has : zq_M yX12_has cX12_has 2 (some .boolean) 1 d_X12_has s_X12_has) (g_X12_has : d_X12_has + 1 ≤ d) {J12 : zq_P} (j12 : zq_ok X 7 12 J12) {J40 : zq_P} (j40 : zq_ok X 7 40 J40) {J67 : zq_P} (j67 : zq_ok X 7 67 J67) {Q : zq_Q} (hq : zq_R X none 0 Q) : zq_ok X 7 0 (xX12_bets_0 s_X12_all s_X12_desertsOf s_X12_has J12 J40 J67 Q) := by
  refine zs_aload_n C dX12_bets_0 rfl ?_
  refine zs_lconst C dX12_bets_1 (by decide) ?_
  refine zs_putL C zp_56 zF12 (j := 61) ⟨by decide, rfl⟩ ⟨rfl, by decide +kernel⟩ zw_1157 dX12_bets_2 ?_
  refine zs_aload_n C dX12_bets_5 rfl ?_
  refine zs_lconst C dX12_bets_6 (by decide) ?_
  refine zs_putL C zp_56 zF12 (j := 62) ⟨by decide, rfl⟩ ⟨rfl, by decide +kernel⟩ zw_1158 dX12_bets_7 ?_
  refine zs_iconst C dX12_bets_10 (by decide) ?_
  refine zs_istore_n C dX12_bets_11 rfl (by decide) ?_
  exact j12
theorem mX12_bets {d : Nat} {spec : zq_Sp} {σ12 : Type} {σ40 : Type} {σ67 : Type} {d_X12_all : Nat} {s_X12_all : zq_Sp} (h_X12_all : zq_M yX12_all cX12_all 1 (some .int) 1 d_X12_all s_X12_all) (g_X12_all : d_X12_all + 1 ≤ d) {d_X12_desertsOf : Nat} {s_X12_desertsOf : zq_Sp} (h_X12_desertsOf : zq_M yX12_desertsOf cX12_desertsOf 4 (some .int) 1 d_X12_desertsOf s_X12_desertsOf) (g_X12_desertsOf : d_X12_desertsOf + 1 ≤ d) {d_X12_has : Nat} {s_X12_has : zq_Sp} (h_X12_has : zq_M yX12_has cX12_has 2 (some .boolean) 1 d_X12_has s_X12_has) (g_X12_has : d_X12_has + 1 ≤ d) (μ12 : σ12 → Nat) (I12 : zq_Q → σ12 → zq_P) (μ40 : σ40 → Nat) (I40 : zq_Q → σ40 → zq_P) (μ67 : σ67 → Nat) (I67 : zq_Q → σ67 → zq_P) (v : ∀ args h Q, spec args h Q → (zq_a args).length ≤ 7 ∧ xX12_bets_0 s_X12_all s_X12_desertsOf s_X12_has (fun ls st h => ∃ b, I12 Q b ls st h) (fun ls st h => ∃ b, I40 Q b ls st h) (fun ls st h => ∃ b, I67 Q b ls st h) Q (zq_l0 7 args) [] h) (v12 : ∀ Q a ls st h, I12 Q a ls st h → xX12_bets_12 s_X12_all s_X12_desertsOf s_X12_has (fun ls st h => ∃ b, μ12 b < μ12 a ∧ I12 Q b ls st h) (fun ls st h => ∃ b, μ40 b < μ12 a ∧ I40 Q b ls st h) (fun ls st h => ∃ b, μ67 b < μ12 a ∧ I67 Q b ls st h) Q ls st h) (v40 : ∀ Q a ls st h, I40 Q a ls st h → xX12_bets_40 s_X12_all s_X12_desertsOf s_X12_has (fun ls st h => ∃ b, μ12 b < μ40 a ∧ I12 Q b ls st h) (fun ls st h => ∃ b, μ40 b < μ40 a ∧ I40 Q b ls st h) (fun ls st h => ∃ b, μ67 b < μ40 a ∧ I67 Q b ls st h) Q ls st h) (v67 : ∀ Q a ls st h, I67 Q a ls st h → xX12_bets_67 s_X12_all s_X12_desertsOf s_X12_has (fun ls st h => ∃ b, μ12 b < μ67 a ∧ I12 Q b ls st h) (fun ls st h => ∃ b, μ40 b < μ67 a ∧ I40 Q b ls st h) (fun ls st h => ∃ b, μ67 b < μ67 a ∧ I67 Q b ls st h) Q ls st h) : zq_M yX12_bets cX12_bets 7 none 0 d spec := by
  refine zq_met (by decide +kernel) (by decide) (fun X Q args h C hq hs => ⟨(v args h Q hs).1, _, ?_, (v args h Q hs).2⟩)
  have hl := zq_loop3 (X := X) (nL := 7) (pc1 := 12) (pc2 := 40) (pc3 := 67) μ12 μ40 μ67 (I12 Q) (I40 Q) (I67 Q) (fun J12 J40 J67 => xX12_bets_12 s_X12_all s_X12_desertsOf s_X12_has J12 J40 J67 Q) (fun J12 J40 J67 => xX12_bets_40 s_X12_all s_X12_desertsOf s_X12_has J12 J40 J67 Q) (fun J12 J40 J67 => xX12_bets_67 s_X12_all s_X12_desertsOf s_X12_has J12 J40 J67 Q) (fun j12 j40 j67 => kX12_bets_12 C h_X12_all g_X12_all h_X12_desertsOf g_X12_desertsOf h_X12_has g_X12_has j12 j40 j67 hq) (fun j12 j40 j67 => kX12_bets_40 C h_X12_all g_X12_all h_X12_desertsOf g_X12_desertsOf h_X12_has g_X12_has j12 j40 j67 hq) (fun j12 j40 j67 => kX12_bets_67 C h_X12_all g_X12_all h_X12_desertsOf g_X12_desertsOf h_X12_has g_X12_has j12 j40 j67 hq) (v12 Q) (v40 Q) (v67 Q)
  exact kX12_bets_0 C h_X12_all g_X12_all h_X12_desertsOf g_X12_desertsOf h_X12_has g_X12_has hl.1 hl.2.1 hl.2.2 hq
/-! ToOneCrumbModel.enough(II)I -/
theorem dX12_enough_0 : decode cX12_enough 0 = .ok (.aload_n 0, 1) := by decide +kernel
theorem dX12_enough_1 : decode cX12_enough 1 = .ok (.iconst 0, 1) := by decide +kernel
theorem dX12_enough_2 : decode cX12_enough 2 = .ok (.putfield 147, 3) := by decide +kernel
theorem dX12_enough_5 : decode cX12_enough 5 = .ok (.iload_n 1, 1) := by decide +kernel
theorem dX12_enough_6 : decode cX12_enough 6 = .ok (.i2l, 1) := by decide +kernel
theorem dX12_enough_7 : decode cX12_enough 7 = .ok (.lconst 0, 1) := by decide +kernel
theorem dX12_enough_8 : decode cX12_enough 8 = .ok (.ldc2_w 467, 3) := by decide +kernel
theorem dX12_enough_11 : decode cX12_enough 11 = .ok (.invokestatic 161, 3) := by decide +kernel
theorem dX12_enough_14 : decode cX12_enough 14 = .ok (.ifCond .eq 15, 3) := by decide +kernel
theorem dX12_enough_17 : decode cX12_enough 17 = .ok (.iload_n 2, 1) := by decide +kernel
theorem dX12_enough_18 : decode cX12_enough 18 = .ok (.i2l, 1) := by decide +kernel
theorem dX12_enough_19 : decode cX12_enough 19 = .ok (.lconst 0, 1) := by decide +kernel
theorem dX12_enough_20 : decode cX12_enough 20 = .ok (.ldc2_w 455, 3) := by decide +kernel
theorem dX12_enough_23 : decode cX12_enough 23 = .ok (.invokestatic 161, 3) := by decide +kernel
theorem dX12_enough_26 : decode cX12_enough 26 = .ok (.ifCond .ne 5, 3) := by decide +kernel
theorem dX12_enough_29 : decode cX12_enough 29 = .ok (.iconst (-1), 1) := by decide +kernel
theorem dX12_enough_30 : decode cX12_enough 30 = .ok (.ireturn, 1) := by decide +kernel
theorem dX12_enough_31 : decode cX12_enough 31 = .ok (.aload_n 0, 1) := by decide +kernel
theorem dX12_enough_32 : decode cX12_enough 32 = .ok (.iload_n 1, 1) := by decide +kernel
theorem dX12_enough_33 : decode cX12_enough 33 = .ok (.iload_n 2, 1) := by decide +kernel
theorem dX12_enough_34 : decode cX12_enough 34 = .ok (.invokevirtual 469, 3) := by decide +kernel
theorem dX12_enough_37 : decode cX12_enough 37 = .ok (.aload_n 0, 1) := by decide +kernel
theorem dX12_enough_38 : decode cX12_enough 38 = .ok (.getfield 460, 3) := by decide +kernel
theorem dX12_enough_41 : decode cX12_enough 41 = .ok (.aload_n 0, 1) := by decide +kernel
theorem dX12_enough_42 : decode cX12_enough 42 = .ok (.getfield 464, 3) := by decide +kernel
theorem dX12_enough_45 : decode cX12_enough 45 = .ok (.invokestatic 151, 3) := by decide +kernel
theorem dX12_enough_48 : decode cX12_enough 48 = .ok (.lstore_n 3, 1) := by decide +kernel
theorem dX12_enough_49 : decode cX12_enough 49 = .ok (.aload_n 0, 1) := by decide +kernel
theorem dX12_enough_50 : decode cX12_enough 50 = .ok (.iconst 0, 1) := by decide +kernel
theorem dX12_enough_51 : decode cX12_enough 51 = .ok (.putfield 155, 3) := by decide +kernel
theorem dX12_enough_54 : decode cX12_enough 54 = .ok (.aload_n 0, 1) := by decide +kernel
theorem dX12_enough_55 : decode cX12_enough 55 = .ok (.aload_n 0, 1) := by decide +kernel
theorem dX12_enough_56 : decode cX12_enough 56 = .ok (.getfield 460, 3) := by decide +kernel
theorem dX12_enough_59 : decode cX12_enough 59 = .ok (.lload_n 3, 1) := by decide +kernel
theorem dX12_enough_60 : decode cX12_enough 60 = .ok (.ldiv, 1) := by decide +kernel
theorem dX12_enough_61 : decode cX12_enough 61 = .ok (.invokevirtual 368, 3) := by decide +kernel
theorem dX12_enough_64 : decode cX12_enough 64 = .ok (.aload_n 0, 1) := by decide +kernel
theorem dX12_enough_65 : decode cX12_enough 65 = .ok (.aload_n 0, 1) := by decide +kernel
theorem dX12_enough_66 : decode cX12_enough 66 = .ok (.getfield 464, 3) := by decide +kernel
theorem dX12_enough_69 : decode cX12_enough 69 = .ok (.lload_n 3, 1) := by decide +kernel
theorem dX12_enough_70 : decode cX12_enough 70 = .ok (.ldiv, 1) := by decide +kernel
theorem dX12_enough_71 : decode cX12_enough 71 = .ok (.invokevirtual 368, 3) := by decide +kernel
theorem dX12_enough_74 : decode cX12_enough 74 = .ok (.iconst 0, 1) := by decide +kernel
theorem dX12_enough_75 : decode cX12_enough 75 = .ok (.ireturn, 1) := by decide +kernel
def xX12_enough_31 (s_X12_in : zq_Sp) (s_X12_bets : zq_Sp) (s_X12_common : zq_Sp) (s_X12_enters : zq_Sp) (Q : zq_Q) (ls : zq_L) (st : List Value) (h : zq_H) : Prop := (zi_aload 0 (zi_iload 1 (zi_iload 2 (zi_callV 2 56 s_X12_bets (zi_aload 0 (zi_getL 56 61 (zi_aload 0 (zi_getL 56 62 (zi_callS 2 s_X12_common (zi_lstore 3 (zi_aload 0 (zi_push (.int 0) (zi_putI 56 1 (zi_aload 0 (zi_aload 0 (zi_getL 56 61 (zi_lload 3 (zi_ldv (fun x y => x / y) (zi_callV 1 56 s_X12_enters (zi_aload 0 (zi_aload 0 (zi_getL 56 62 (zi_lload 3 (zi_ldv (fun x y => x / y) (zi_callV 1 56 s_X12_enters (zi_push (.int 0) (zi_iret Q))))))))))))))))))))))))))) ls st h
theorem kX12_enough_31 {X : zq_X} {d : Nat} (C : zq_C X cX12_enough 5 RX12 d) {d_X12_in : Nat} {s_X12_in : zq_Sp} (h_X12_in : zq_M yX12_in cX12_in 6 (some .boolean) 1 d_X12_in s_X12_in) (g_X12_in : d_X12_in + 1 ≤ d) {d_X12_bets : Nat} {s_X12_bets : zq_Sp} (h_X12_bets : zq_M yX12_bets cX12_bets 7 none 0 d_X12_bets s_X12_bets) (g_X12_bets : d_X12_bets + 1 ≤ d) {d_X12_common : Nat} {s_X12_common : zq_Sp} (h_X12_common : zq_M yX12_common cX12_common 4 (some .long) 2 d_X12_common s_X12_common) (g_X12_common : d_X12_common + 1 ≤ d) {d_X12_enters : Nat} {s_X12_enters : zq_Sp} (h_X12_enters : zq_M yX12_enters cX12_enters 3 none 0 d_X12_enters s_X12_enters) (g_X12_enters : d_X12_enters + 1 ≤ d) {Q : zq_Q} (hq : zq_R X (some .int) 1 Q) : zq_ok X 5 31 (xX12_enough_31 s_X12_in s_X12_bets s_X12_common s_X12_enters Q) := by
  refine zs_aload_n C dX12_enough_31 rfl ?_
  refine zs_iload_n C dX12_enough_32 rfl ?_
  refine zs_iload_n C dX12_enough_33 rfl ?_
  refine zs_callV C h_X12_bets g_X12_bets zy_X12_bets zp_56 (show vwCl[12]? = some (RX12, TX12, 67) from rfl) zw_1755 zw_1757 zs9_X12_bets dX12_enough_34 ?_
  refine zs_aload_n C dX12_enough_37 rfl ?_
  refine zs_getL C zp_56 zF12 (j := 61) ⟨by decide, rfl⟩ zw_1157 dX12_enough_38 ?_
  refine zs_aload_n C dX12_enough_41 rfl ?_
  refine zs_getL C zp_56 zF12 (j := 62) ⟨by decide, rfl⟩ zw_1158 dX12_enough_42 ?_
  refine zs_callS C h_X12_common g_X12_common zy_X12_common zw_1595 zw_1596 dX12_enough_45 ?_
  refine zs_lstore_n C dX12_enough_48 rfl (by decide) ?_
  refine zs_aload_n C dX12_enough_49 rfl ?_
  refine zs_iconst C dX12_enough_50 (by decide) ?_
  refine zs_putI C zp_56 zF12 (j := 1) ⟨by decide, rfl⟩ ⟨rfl, by decide +kernel⟩ zw_1097 dX12_enough_51 ?_
  refine zs_aload_n C dX12_enough_54 rfl ?_
  refine zs_aload_n C dX12_enough_55 rfl ?_
  refine zs_getL C zp_56 zF12 (j := 61) ⟨by decide, rfl⟩ zw_1157 dX12_enough_56 ?_
  refine zs_lload_n C dX12_enough_59 rfl ?_
  refine zs_ldiv C dX12_enough_60 ?_
  refine zs_callV C h_X12_enters g_X12_enters zy_X12_enters zp_56 (show vwCl[12]? = some (RX12, TX12, 67) from rfl) zw_1574 zw_1576 zs9_X12_enters dX12_enough_61 ?_
  refine zs_aload_n C dX12_enough_64 rfl ?_
  refine zs_aload_n C dX12_enough_65 rfl ?_
  refine zs_getL C zp_56 zF12 (j := 62) ⟨by decide, rfl⟩ zw_1158 dX12_enough_66 ?_
  refine zs_lload_n C dX12_enough_69 rfl ?_
  refine zs_ldiv C dX12_enough_70 ?_
  refine zs_callV C h_X12_enters g_X12_enters zy_X12_enters zp_56 (show vwCl[12]? = some (RX12, TX12, 67) from rfl) zw_1574 zw_1576 zs9_X12_enters dX12_enough_71 ?_
  refine zs_iconst C dX12_enough_74 (by decide) ?_
  exact zs_iret C hq dX12_enough_75
def xX12_enough_29 (s_X12_in : zq_Sp) (s_X12_bets : zq_Sp) (s_X12_common : zq_Sp) (s_X12_enters : zq_Sp) (Q : zq_Q) (ls : zq_L) (st : List Value) (h : zq_H) : Prop := (zi_push (.int (-1)) (zi_iret Q)) ls st h
theorem kX12_enough_29 {X : zq_X} {d : Nat} (C : zq_C X cX12_enough 5 RX12 d) {d_X12_in : Nat} {s_X12_in : zq_Sp} (h_X12_in : zq_M yX12_in cX12_in 6 (some .boolean) 1 d_X12_in s_X12_in) (g_X12_in : d_X12_in + 1 ≤ d) {d_X12_bets : Nat} {s_X12_bets : zq_Sp} (h_X12_bets : zq_M yX12_bets cX12_bets 7 none 0 d_X12_bets s_X12_bets) (g_X12_bets : d_X12_bets + 1 ≤ d) {d_X12_common : Nat} {s_X12_common : zq_Sp} (h_X12_common : zq_M yX12_common cX12_common 4 (some .long) 2 d_X12_common s_X12_common) (g_X12_common : d_X12_common + 1 ≤ d) {d_X12_enters : Nat} {s_X12_enters : zq_Sp} (h_X12_enters : zq_M yX12_enters cX12_enters 3 none 0 d_X12_enters s_X12_enters) (g_X12_enters : d_X12_enters + 1 ≤ d) {Q : zq_Q} (hq : zq_R X (some .int) 1 Q) : zq_ok X 5 29 (xX12_enough_29 s_X12_in s_X12_bets s_X12_common s_X12_enters Q) := by
  refine zs_iconst C dX12_enough_29 (by decide) ?_
  exact zs_iret C hq dX12_enough_30
def xX12_enough_17 (s_X12_in : zq_Sp) (s_X12_bets : zq_Sp) (s_X12_common : zq_Sp) (s_X12_enters : zq_Sp) (Q : zq_Q) (ls : zq_L) (st : List Value) (h : zq_H) : Prop := (zi_iload 2 (zi_i2l (zi_push (.long 0) (zi_push (.long 9999) (zi_callS 3 s_X12_in (zi_if1 (fun x => x = 0) (xX12_enough_29 s_X12_in s_X12_bets s_X12_common s_X12_enters Q) (xX12_enough_31 s_X12_in s_X12_bets s_X12_common s_X12_enters Q))))))) ls st h
theorem kX12_enough_17 {X : zq_X} {d : Nat} (C : zq_C X cX12_enough 5 RX12 d) {d_X12_in : Nat} {s_X12_in : zq_Sp} (h_X12_in : zq_M yX12_in cX12_in 6 (some .boolean) 1 d_X12_in s_X12_in) (g_X12_in : d_X12_in + 1 ≤ d) {d_X12_bets : Nat} {s_X12_bets : zq_Sp} (h_X12_bets : zq_M yX12_bets cX12_bets 7 none 0 d_X12_bets s_X12_bets) (g_X12_bets : d_X12_bets + 1 ≤ d) {d_X12_common : Nat} {s_X12_common : zq_Sp} (h_X12_common : zq_M yX12_common cX12_common 4 (some .long) 2 d_X12_common s_X12_common) (g_X12_common : d_X12_common + 1 ≤ d) {d_X12_enters : Nat} {s_X12_enters : zq_Sp} (h_X12_enters : zq_M yX12_enters cX12_enters 3 none 0 d_X12_enters s_X12_enters) (g_X12_enters : d_X12_enters + 1 ≤ d) {Q : zq_Q} (hq : zq_R X (some .int) 1 Q) : zq_ok X 5 17 (xX12_enough_17 s_X12_in s_X12_bets s_X12_common s_X12_enters Q) := by
  refine zs_iload_n C dX12_enough_17 rfl ?_
  refine zs_i2l C dX12_enough_18 ?_
  refine zs_lconst C dX12_enough_19 (by decide) ?_
  refine zs_ldc2 C dX12_enough_20 zw_1745 ?_
  refine zs_callS C h_X12_in g_X12_in zy_X12_in zw_1311 zw_1312 dX12_enough_23 ?_
  exact zs_if_ne C dX12_enough_26 (by decide) (kX12_enough_31 C h_X12_in g_X12_in h_X12_bets g_X12_bets h_X12_common g_X12_common h_X12_enters g_X12_enters hq) (kX12_enough_29 C h_X12_in g_X12_in h_X12_bets g_X12_bets h_X12_common g_X12_common h_X12_enters g_X12_enters hq)
def xX12_enough_0 (s_X12_in : zq_Sp) (s_X12_bets : zq_Sp) (s_X12_common : zq_Sp) (s_X12_enters : zq_Sp) (Q : zq_Q) (ls : zq_L) (st : List Value) (h : zq_H) : Prop := (zi_aload 0 (zi_push (.int 0) (zi_putI 56 0 (zi_iload 1 (zi_i2l (zi_push (.long 0) (zi_push (.long 10) (zi_callS 3 s_X12_in (zi_if1 (fun x => x = 0) (xX12_enough_29 s_X12_in s_X12_bets s_X12_common s_X12_enters Q) (xX12_enough_17 s_X12_in s_X12_bets s_X12_common s_X12_enters Q)))))))))) ls st h
theorem kX12_enough_0 {X : zq_X} {d : Nat} (C : zq_C X cX12_enough 5 RX12 d) {d_X12_in : Nat} {s_X12_in : zq_Sp} (h_X12_in : zq_M yX12_in cX12_in 6 (some .boolean) 1 d_X12_in s_X12_in) (g_X12_in : d_X12_in + 1 ≤ d) {d_X12_bets : Nat} {s_X12_bets : zq_Sp} (h_X12_bets : zq_M yX12_bets cX12_bets 7 none 0 d_X12_bets s_X12_bets) (g_X12_bets : d_X12_bets + 1 ≤ d) {d_X12_common : Nat} {s_X12_common : zq_Sp} (h_X12_common : zq_M yX12_common cX12_common 4 (some .long) 2 d_X12_common s_X12_common) (g_X12_common : d_X12_common + 1 ≤ d) {d_X12_enters : Nat} {s_X12_enters : zq_Sp} (h_X12_enters : zq_M yX12_enters cX12_enters 3 none 0 d_X12_enters s_X12_enters) (g_X12_enters : d_X12_enters + 1 ≤ d) {Q : zq_Q} (hq : zq_R X (some .int) 1 Q) : zq_ok X 5 0 (xX12_enough_0 s_X12_in s_X12_bets s_X12_common s_X12_enters Q) := by
  refine zs_aload_n C dX12_enough_0 rfl ?_
  refine zs_iconst C dX12_enough_1 (by decide) ?_
  refine zs_putI C zp_56 zF12 (j := 0) ⟨by decide, rfl⟩ ⟨rfl, by decide +kernel⟩ zw_1096 dX12_enough_2 ?_
  refine zs_iload_n C dX12_enough_5 rfl ?_
  refine zs_i2l C dX12_enough_6 ?_
  refine zs_lconst C dX12_enough_7 (by decide) ?_
  refine zs_ldc2 C dX12_enough_8 zw_1754 ?_
  refine zs_callS C h_X12_in g_X12_in zy_X12_in zw_1311 zw_1312 dX12_enough_11 ?_
  exact zs_if_eq C dX12_enough_14 (by decide) (kX12_enough_29 C h_X12_in g_X12_in h_X12_bets g_X12_bets h_X12_common g_X12_common h_X12_enters g_X12_enters hq) (kX12_enough_17 C h_X12_in g_X12_in h_X12_bets g_X12_bets h_X12_common g_X12_common h_X12_enters g_X12_enters hq)
theorem mX12_enough {d : Nat} {spec : zq_Sp} {d_X12_in : Nat} {s_X12_in : zq_Sp} (h_X12_in : zq_M yX12_in cX12_in 6 (some .boolean) 1 d_X12_in s_X12_in) (g_X12_in : d_X12_in + 1 ≤ d) {d_X12_bets : Nat} {s_X12_bets : zq_Sp} (h_X12_bets : zq_M yX12_bets cX12_bets 7 none 0 d_X12_bets s_X12_bets) (g_X12_bets : d_X12_bets + 1 ≤ d) {d_X12_common : Nat} {s_X12_common : zq_Sp} (h_X12_common : zq_M yX12_common cX12_common 4 (some .long) 2 d_X12_common s_X12_common) (g_X12_common : d_X12_common + 1 ≤ d) {d_X12_enters : Nat} {s_X12_enters : zq_Sp} (h_X12_enters : zq_M yX12_enters cX12_enters 3 none 0 d_X12_enters s_X12_enters) (g_X12_enters : d_X12_enters + 1 ≤ d) (v : ∀ args h Q, spec args h Q → (zq_a args).length ≤ 5 ∧ xX12_enough_0 s_X12_in s_X12_bets s_X12_common s_X12_enters Q (zq_l0 5 args) [] h) : zq_M yX12_enough cX12_enough 5 (some .int) 1 d spec := by
  refine zq_met (by decide +kernel) (by decide) (fun X Q args h C hq hs => ⟨(v args h Q hs).1, _, ?_, (v args h Q hs).2⟩)
  exact kX12_enough_0 C h_X12_in g_X12_in h_X12_bets g_X12_bets h_X12_common g_X12_common h_X12_enters g_X12_enters hq
/-! ToOneCrumbModel.wide(II)I -/
theorem dX12_wide_0 : decode cX12_wide 0 = .ok (.aload_n 0, 1) := by decide +kernel
theorem dX12_wide_1 : decode cX12_wide 1 = .ok (.iconst 0, 1) := by decide +kernel
theorem dX12_wide_2 : decode cX12_wide 2 = .ok (.putfield 147, 3) := by decide +kernel
theorem dX12_wide_5 : decode cX12_wide 5 = .ok (.iload_n 1, 1) := by decide +kernel
theorem dX12_wide_6 : decode cX12_wide 6 = .ok (.i2l, 1) := by decide +kernel
theorem dX12_wide_7 : decode cX12_wide 7 = .ok (.lconst 0, 1) := by decide +kernel
theorem dX12_wide_8 : decode cX12_wide 8 = .ok (.ldc2_w 467, 3) := by decide +kernel
theorem dX12_wide_11 : decode cX12_wide 11 = .ok (.invokestatic 161, 3) := by decide +kernel
theorem dX12_wide_14 : decode cX12_wide 14 = .ok (.ifCond .eq 15, 3) := by decide +kernel
theorem dX12_wide_17 : decode cX12_wide 17 = .ok (.iload_n 2, 1) := by decide +kernel
theorem dX12_wide_18 : decode cX12_wide 18 = .ok (.i2l, 1) := by decide +kernel
theorem dX12_wide_19 : decode cX12_wide 19 = .ok (.lconst 0, 1) := by decide +kernel
theorem dX12_wide_20 : decode cX12_wide 20 = .ok (.ldc2_w 306, 3) := by decide +kernel
theorem dX12_wide_23 : decode cX12_wide 23 = .ok (.invokestatic 161, 3) := by decide +kernel
theorem dX12_wide_26 : decode cX12_wide 26 = .ok (.ifCond .ne 5, 3) := by decide +kernel
theorem dX12_wide_29 : decode cX12_wide 29 = .ok (.iconst (-1), 1) := by decide +kernel
theorem dX12_wide_30 : decode cX12_wide 30 = .ok (.ireturn, 1) := by decide +kernel
theorem dX12_wide_31 : decode cX12_wide 31 = .ok (.iconst 0, 1) := by decide +kernel
theorem dX12_wide_32 : decode cX12_wide 32 = .ok (.istore_n 3, 1) := by decide +kernel
theorem dX12_wide_33 : decode cX12_wide 33 = .ok (.aload_n 0, 1) := by decide +kernel
theorem dX12_wide_34 : decode cX12_wide 34 = .ok (.iload_n 1, 1) := by decide +kernel
theorem dX12_wide_35 : decode cX12_wide 35 = .ok (.iconst 0, 1) := by decide +kernel
theorem dX12_wide_36 : decode cX12_wide 36 = .ok (.invokevirtual 469, 3) := by decide +kernel
theorem dX12_wide_39 : decode cX12_wide 39 = .ok (.ldc2_w 306, 3) := by decide +kernel
theorem dX12_wide_42 : decode cX12_wide 42 = .ok (.aload_n 0, 1) := by decide +kernel
theorem dX12_wide_43 : decode cX12_wide 43 = .ok (.getfield 460, 3) := by decide +kernel
theorem dX12_wide_46 : decode cX12_wide 46 = .ok (.lmul, 1) := by decide +kernel
theorem dX12_wide_47 : decode cX12_wide 47 = .ok (.iload_n 2, 1) := by decide +kernel
theorem dX12_wide_48 : decode cX12_wide 48 = .ok (.i2l, 1) := by decide +kernel
theorem dX12_wide_49 : decode cX12_wide 49 = .ok (.aload_n 0, 1) := by decide +kernel
theorem dX12_wide_50 : decode cX12_wide 50 = .ok (.getfield 464, 3) := by decide +kernel
theorem dX12_wide_53 : decode cX12_wide 53 = .ok (.lmul, 1) := by decide +kernel
theorem dX12_wide_54 : decode cX12_wide 54 = .ok (.lcmp, 1) := by decide +kernel
theorem dX12_wide_55 : decode cX12_wide 55 = .ok (.ifCond .lt 7, 3) := by decide +kernel
theorem dX12_wide_58 : decode cX12_wide 58 = .ok (.iconst 1, 1) := by decide +kernel
theorem dX12_wide_59 : decode cX12_wide 59 = .ok (.goto 4, 3) := by decide +kernel
theorem dX12_wide_62 : decode cX12_wide 62 = .ok (.iconst 0, 1) := by decide +kernel
theorem dX12_wide_63 : decode cX12_wide 63 = .ok (.istore 4, 2) := by decide +kernel
theorem dX12_wide_65 : decode cX12_wide 65 = .ok (.iconst 1, 1) := by decide +kernel
theorem dX12_wide_66 : decode cX12_wide 66 = .ok (.istore 5, 2) := by decide +kernel
theorem dX12_wide_68 : decode cX12_wide 68 = .ok (.iload 5, 2) := by decide +kernel
theorem dX12_wide_70 : decode cX12_wide 70 = .ok (.aload_n 0, 1) := by decide +kernel
theorem dX12_wide_71 : decode cX12_wide 71 = .ok (.invokevirtual 392, 3) := by decide +kernel
theorem dX12_wide_74 : decode cX12_wide 74 = .ok (.if_icmp .gt 65, 3) := by decide +kernel
theorem dX12_wide_77 : decode cX12_wide 77 = .ok (.iload 4, 2) := by decide +kernel
theorem dX12_wide_79 : decode cX12_wide 79 = .ok (.ifCond .ne 60, 3) := by decide +kernel
theorem dX12_wide_82 : decode cX12_wide 82 = .ok (.aload_n 0, 1) := by decide +kernel
theorem dX12_wide_83 : decode cX12_wide 83 = .ok (.iload 5, 2) := by decide +kernel
theorem dX12_wide_85 : decode cX12_wide 85 = .ok (.invokevirtual 457, 3) := by decide +kernel
theorem dX12_wide_88 : decode cX12_wide 88 = .ok (.istore 6, 2) := by decide +kernel
theorem dX12_wide_90 : decode cX12_wide 90 = .ok (.iload_n 3, 1) := by decide +kernel
theorem dX12_wide_91 : decode cX12_wide 91 = .ok (.ifCond .eq 9, 3) := by decide +kernel
theorem dX12_wide_94 : decode cX12_wide 94 = .ok (.iload 6, 2) := by decide +kernel
theorem dX12_wide_96 : decode cX12_wide 96 = .ok (.iload_n 3, 1) := by decide +kernel
theorem dX12_wide_97 : decode cX12_wide 97 = .ok (.if_icmp .ge 36, 3) := by decide +kernel
theorem dX12_wide_100 : decode cX12_wide 100 = .ok (.aload_n 0, 1) := by decide +kernel
theorem dX12_wide_101 : decode cX12_wide 101 = .ok (.iload_n 1, 1) := by decide +kernel
theorem dX12_wide_102 : decode cX12_wide 102 = .ok (.iload 6, 2) := by decide +kernel
theorem dX12_wide_104 : decode cX12_wide 104 = .ok (.invokevirtual 469, 3) := by decide +kernel
theorem dX12_wide_107 : decode cX12_wide 107 = .ok (.ldc2_w 306, 3) := by decide +kernel
theorem dX12_wide_110 : decode cX12_wide 110 = .ok (.aload_n 0, 1) := by decide +kernel
theorem dX12_wide_111 : decode cX12_wide 111 = .ok (.getfield 460, 3) := by decide +kernel
theorem dX12_wide_114 : decode cX12_wide 114 = .ok (.lmul, 1) := by decide +kernel
theorem dX12_wide_115 : decode cX12_wide 115 = .ok (.iload_n 2, 1) := by decide +kernel
theorem dX12_wide_116 : decode cX12_wide 116 = .ok (.i2l, 1) := by decide +kernel
theorem dX12_wide_117 : decode cX12_wide 117 = .ok (.aload_n 0, 1) := by decide +kernel
theorem dX12_wide_118 : decode cX12_wide 118 = .ok (.getfield 464, 3) := by decide +kernel
theorem dX12_wide_121 : decode cX12_wide 121 = .ok (.lmul, 1) := by decide +kernel
theorem dX12_wide_122 : decode cX12_wide 122 = .ok (.lcmp, 1) := by decide +kernel
theorem dX12_wide_123 : decode cX12_wide 123 = .ok (.ifCond .lt 8, 3) := by decide +kernel
theorem dX12_wide_126 : decode cX12_wide 126 = .ok (.iload 6, 2) := by decide +kernel
theorem dX12_wide_128 : decode cX12_wide 128 = .ok (.goto 4, 3) := by decide +kernel
theorem dX12_wide_131 : decode cX12_wide 131 = .ok (.iload_n 3, 1) := by decide +kernel
theorem dX12_wide_132 : decode cX12_wide 132 = .ok (.istore_n 3, 1) := by decide +kernel
theorem dX12_wide_133 : decode cX12_wide 133 = .ok (.iinc 5 1, 3) := by decide +kernel
theorem dX12_wide_136 : decode cX12_wide 136 = .ok (.goto (-68), 3) := by decide +kernel
theorem dX12_wide_139 : decode cX12_wide 139 = .ok (.iload 4, 2) := by decide +kernel
theorem dX12_wide_141 : decode cX12_wide 141 = .ok (.ifCond .eq 7, 3) := by decide +kernel
theorem dX12_wide_144 : decode cX12_wide 144 = .ok (.iconst 0, 1) := by decide +kernel
theorem dX12_wide_145 : decode cX12_wide 145 = .ok (.goto 4, 3) := by decide +kernel
theorem dX12_wide_148 : decode cX12_wide 148 = .ok (.iload_n 3, 1) := by decide +kernel
theorem dX12_wide_149 : decode cX12_wide 149 = .ok (.ireturn, 1) := by decide +kernel
def xX12_wide_149 (s_X12_in : zq_Sp) (s_X12_bets : zq_Sp) (s_X12_all : zq_Sp) (s_X12_desertsOf : zq_Sp) (J68 : zq_P) (Q : zq_Q) (ls : zq_L) (st : List Value) (h : zq_H) : Prop := (zi_iret Q) ls st h
theorem kX12_wide_149 {X : zq_X} {d : Nat} (C : zq_C X cX12_wide 7 RX12 d) {d_X12_in : Nat} {s_X12_in : zq_Sp} (h_X12_in : zq_M yX12_in cX12_in 6 (some .boolean) 1 d_X12_in s_X12_in) (g_X12_in : d_X12_in + 1 ≤ d) {d_X12_bets : Nat} {s_X12_bets : zq_Sp} (h_X12_bets : zq_M yX12_bets cX12_bets 7 none 0 d_X12_bets s_X12_bets) (g_X12_bets : d_X12_bets + 1 ≤ d) {d_X12_all : Nat} {s_X12_all : zq_Sp} (h_X12_all : zq_M yX12_all cX12_all 1 (some .int) 1 d_X12_all s_X12_all) (g_X12_all : d_X12_all + 1 ≤ d) {d_X12_desertsOf : Nat} {s_X12_desertsOf : zq_Sp} (h_X12_desertsOf : zq_M yX12_desertsOf cX12_desertsOf 4 (some .int) 1 d_X12_desertsOf s_X12_desertsOf) (g_X12_desertsOf : d_X12_desertsOf + 1 ≤ d) {J68 : zq_P} (j68 : zq_ok X 7 68 J68) {Q : zq_Q} (hq : zq_R X (some .int) 1 Q) : zq_ok X 7 149 (xX12_wide_149 s_X12_in s_X12_bets s_X12_all s_X12_desertsOf J68 Q) := by
  exact zs_iret C hq dX12_wide_149
def xX12_wide_148 (s_X12_in : zq_Sp) (s_X12_bets : zq_Sp) (s_X12_all : zq_Sp) (s_X12_desertsOf : zq_Sp) (J68 : zq_P) (Q : zq_Q) (ls : zq_L) (st : List Value) (h : zq_H) : Prop := (zi_iload 3 ((xX12_wide_149 s_X12_in s_X12_bets s_X12_all s_X12_desertsOf J68 Q))) ls st h
theorem kX12_wide_148 {X : zq_X} {d : Nat} (C : zq_C X cX12_wide 7 RX12 d) {d_X12_in : Nat} {s_X12_in : zq_Sp} (h_X12_in : zq_M yX12_in cX12_in 6 (some .boolean) 1 d_X12_in s_X12_in) (g_X12_in : d_X12_in + 1 ≤ d) {d_X12_bets : Nat} {s_X12_bets : zq_Sp} (h_X12_bets : zq_M yX12_bets cX12_bets 7 none 0 d_X12_bets s_X12_bets) (g_X12_bets : d_X12_bets + 1 ≤ d) {d_X12_all : Nat} {s_X12_all : zq_Sp} (h_X12_all : zq_M yX12_all cX12_all 1 (some .int) 1 d_X12_all s_X12_all) (g_X12_all : d_X12_all + 1 ≤ d) {d_X12_desertsOf : Nat} {s_X12_desertsOf : zq_Sp} (h_X12_desertsOf : zq_M yX12_desertsOf cX12_desertsOf 4 (some .int) 1 d_X12_desertsOf s_X12_desertsOf) (g_X12_desertsOf : d_X12_desertsOf + 1 ≤ d) {J68 : zq_P} (j68 : zq_ok X 7 68 J68) {Q : zq_Q} (hq : zq_R X (some .int) 1 Q) : zq_ok X 7 148 (xX12_wide_148 s_X12_in s_X12_bets s_X12_all s_X12_desertsOf J68 Q) := by
  refine zs_iload_n C dX12_wide_148 rfl ?_
  exact kX12_wide_149 C h_X12_in g_X12_in h_X12_bets g_X12_bets h_X12_all g_X12_all h_X12_desertsOf g_X12_desertsOf j68 hq
def xX12_wide_144 (s_X12_in : zq_Sp) (s_X12_bets : zq_Sp) (s_X12_all : zq_Sp) (s_X12_desertsOf : zq_Sp) (J68 : zq_P) (Q : zq_Q) (ls : zq_L) (st : List Value) (h : zq_H) : Prop := (zi_push (.int 0) ((xX12_wide_149 s_X12_in s_X12_bets s_X12_all s_X12_desertsOf J68 Q))) ls st h
theorem kX12_wide_144 {X : zq_X} {d : Nat} (C : zq_C X cX12_wide 7 RX12 d) {d_X12_in : Nat} {s_X12_in : zq_Sp} (h_X12_in : zq_M yX12_in cX12_in 6 (some .boolean) 1 d_X12_in s_X12_in) (g_X12_in : d_X12_in + 1 ≤ d) {d_X12_bets : Nat} {s_X12_bets : zq_Sp} (h_X12_bets : zq_M yX12_bets cX12_bets 7 none 0 d_X12_bets s_X12_bets) (g_X12_bets : d_X12_bets + 1 ≤ d) {d_X12_all : Nat} {s_X12_all : zq_Sp} (h_X12_all : zq_M yX12_all cX12_all 1 (some .int) 1 d_X12_all s_X12_all) (g_X12_all : d_X12_all + 1 ≤ d) {d_X12_desertsOf : Nat} {s_X12_desertsOf : zq_Sp} (h_X12_desertsOf : zq_M yX12_desertsOf cX12_desertsOf 4 (some .int) 1 d_X12_desertsOf s_X12_desertsOf) (g_X12_desertsOf : d_X12_desertsOf + 1 ≤ d) {J68 : zq_P} (j68 : zq_ok X 7 68 J68) {Q : zq_Q} (hq : zq_R X (some .int) 1 Q) : zq_ok X 7 144 (xX12_wide_144 s_X12_in s_X12_bets s_X12_all s_X12_desertsOf J68 Q) := by
  refine zs_iconst C dX12_wide_144 (by decide) ?_
  exact zs_goto C dX12_wide_145 (by decide) (kX12_wide_149 C h_X12_in g_X12_in h_X12_bets g_X12_bets h_X12_all g_X12_all h_X12_desertsOf g_X12_desertsOf j68 hq)
def xX12_wide_139 (s_X12_in : zq_Sp) (s_X12_bets : zq_Sp) (s_X12_all : zq_Sp) (s_X12_desertsOf : zq_Sp) (J68 : zq_P) (Q : zq_Q) (ls : zq_L) (st : List Value) (h : zq_H) : Prop := (zi_iload 4 (zi_if1 (fun x => x = 0) (xX12_wide_148 s_X12_in s_X12_bets s_X12_all s_X12_desertsOf J68 Q) (xX12_wide_144 s_X12_in s_X12_bets s_X12_all s_X12_desertsOf J68 Q))) ls st h
theorem kX12_wide_139 {X : zq_X} {d : Nat} (C : zq_C X cX12_wide 7 RX12 d) {d_X12_in : Nat} {s_X12_in : zq_Sp} (h_X12_in : zq_M yX12_in cX12_in 6 (some .boolean) 1 d_X12_in s_X12_in) (g_X12_in : d_X12_in + 1 ≤ d) {d_X12_bets : Nat} {s_X12_bets : zq_Sp} (h_X12_bets : zq_M yX12_bets cX12_bets 7 none 0 d_X12_bets s_X12_bets) (g_X12_bets : d_X12_bets + 1 ≤ d) {d_X12_all : Nat} {s_X12_all : zq_Sp} (h_X12_all : zq_M yX12_all cX12_all 1 (some .int) 1 d_X12_all s_X12_all) (g_X12_all : d_X12_all + 1 ≤ d) {d_X12_desertsOf : Nat} {s_X12_desertsOf : zq_Sp} (h_X12_desertsOf : zq_M yX12_desertsOf cX12_desertsOf 4 (some .int) 1 d_X12_desertsOf s_X12_desertsOf) (g_X12_desertsOf : d_X12_desertsOf + 1 ≤ d) {J68 : zq_P} (j68 : zq_ok X 7 68 J68) {Q : zq_Q} (hq : zq_R X (some .int) 1 Q) : zq_ok X 7 139 (xX12_wide_139 s_X12_in s_X12_bets s_X12_all s_X12_desertsOf J68 Q) := by
  refine zs_iload C dX12_wide_139 ?_
  exact zs_if_eq C dX12_wide_141 (by decide) (kX12_wide_148 C h_X12_in g_X12_in h_X12_bets g_X12_bets h_X12_all g_X12_all h_X12_desertsOf g_X12_desertsOf j68 hq) (kX12_wide_144 C h_X12_in g_X12_in h_X12_bets g_X12_bets h_X12_all g_X12_all h_X12_desertsOf g_X12_desertsOf j68 hq)
def xX12_wide_133 (s_X12_in : zq_Sp) (s_X12_bets : zq_Sp) (s_X12_all : zq_Sp) (s_X12_desertsOf : zq_Sp) (J68 : zq_P) (Q : zq_Q) (ls : zq_L) (st : List Value) (h : zq_H) : Prop := (zi_iinc 5 1 (J68)) ls st h
theorem kX12_wide_133 {X : zq_X} {d : Nat} (C : zq_C X cX12_wide 7 RX12 d) {d_X12_in : Nat} {s_X12_in : zq_Sp} (h_X12_in : zq_M yX12_in cX12_in 6 (some .boolean) 1 d_X12_in s_X12_in) (g_X12_in : d_X12_in + 1 ≤ d) {d_X12_bets : Nat} {s_X12_bets : zq_Sp} (h_X12_bets : zq_M yX12_bets cX12_bets 7 none 0 d_X12_bets s_X12_bets) (g_X12_bets : d_X12_bets + 1 ≤ d) {d_X12_all : Nat} {s_X12_all : zq_Sp} (h_X12_all : zq_M yX12_all cX12_all 1 (some .int) 1 d_X12_all s_X12_all) (g_X12_all : d_X12_all + 1 ≤ d) {d_X12_desertsOf : Nat} {s_X12_desertsOf : zq_Sp} (h_X12_desertsOf : zq_M yX12_desertsOf cX12_desertsOf 4 (some .int) 1 d_X12_desertsOf s_X12_desertsOf) (g_X12_desertsOf : d_X12_desertsOf + 1 ≤ d) {J68 : zq_P} (j68 : zq_ok X 7 68 J68) {Q : zq_Q} (hq : zq_R X (some .int) 1 Q) : zq_ok X 7 133 (xX12_wide_133 s_X12_in s_X12_bets s_X12_all s_X12_desertsOf J68 Q) := by
  refine zs_iinc C dX12_wide_133 (by decide) (by decide) ?_
  exact zs_goto C dX12_wide_136 (by decide) (j68)
def xX12_wide_132 (s_X12_in : zq_Sp) (s_X12_bets : zq_Sp) (s_X12_all : zq_Sp) (s_X12_desertsOf : zq_Sp) (J68 : zq_P) (Q : zq_Q) (ls : zq_L) (st : List Value) (h : zq_H) : Prop := (zi_istore 3 ((xX12_wide_133 s_X12_in s_X12_bets s_X12_all s_X12_desertsOf J68 Q))) ls st h
theorem kX12_wide_132 {X : zq_X} {d : Nat} (C : zq_C X cX12_wide 7 RX12 d) {d_X12_in : Nat} {s_X12_in : zq_Sp} (h_X12_in : zq_M yX12_in cX12_in 6 (some .boolean) 1 d_X12_in s_X12_in) (g_X12_in : d_X12_in + 1 ≤ d) {d_X12_bets : Nat} {s_X12_bets : zq_Sp} (h_X12_bets : zq_M yX12_bets cX12_bets 7 none 0 d_X12_bets s_X12_bets) (g_X12_bets : d_X12_bets + 1 ≤ d) {d_X12_all : Nat} {s_X12_all : zq_Sp} (h_X12_all : zq_M yX12_all cX12_all 1 (some .int) 1 d_X12_all s_X12_all) (g_X12_all : d_X12_all + 1 ≤ d) {d_X12_desertsOf : Nat} {s_X12_desertsOf : zq_Sp} (h_X12_desertsOf : zq_M yX12_desertsOf cX12_desertsOf 4 (some .int) 1 d_X12_desertsOf s_X12_desertsOf) (g_X12_desertsOf : d_X12_desertsOf + 1 ≤ d) {J68 : zq_P} (j68 : zq_ok X 7 68 J68) {Q : zq_Q} (hq : zq_R X (some .int) 1 Q) : zq_ok X 7 132 (xX12_wide_132 s_X12_in s_X12_bets s_X12_all s_X12_desertsOf J68 Q) := by
  refine zs_istore_n C dX12_wide_132 rfl (by decide) ?_
  exact kX12_wide_133 C h_X12_in g_X12_in h_X12_bets g_X12_bets h_X12_all g_X12_all h_X12_desertsOf g_X12_desertsOf j68 hq
def xX12_wide_131 (s_X12_in : zq_Sp) (s_X12_bets : zq_Sp) (s_X12_all : zq_Sp) (s_X12_desertsOf : zq_Sp) (J68 : zq_P) (Q : zq_Q) (ls : zq_L) (st : List Value) (h : zq_H) : Prop := (zi_iload 3 ((xX12_wide_132 s_X12_in s_X12_bets s_X12_all s_X12_desertsOf J68 Q))) ls st h
theorem kX12_wide_131 {X : zq_X} {d : Nat} (C : zq_C X cX12_wide 7 RX12 d) {d_X12_in : Nat} {s_X12_in : zq_Sp} (h_X12_in : zq_M yX12_in cX12_in 6 (some .boolean) 1 d_X12_in s_X12_in) (g_X12_in : d_X12_in + 1 ≤ d) {d_X12_bets : Nat} {s_X12_bets : zq_Sp} (h_X12_bets : zq_M yX12_bets cX12_bets 7 none 0 d_X12_bets s_X12_bets) (g_X12_bets : d_X12_bets + 1 ≤ d) {d_X12_all : Nat} {s_X12_all : zq_Sp} (h_X12_all : zq_M yX12_all cX12_all 1 (some .int) 1 d_X12_all s_X12_all) (g_X12_all : d_X12_all + 1 ≤ d) {d_X12_desertsOf : Nat} {s_X12_desertsOf : zq_Sp} (h_X12_desertsOf : zq_M yX12_desertsOf cX12_desertsOf 4 (some .int) 1 d_X12_desertsOf s_X12_desertsOf) (g_X12_desertsOf : d_X12_desertsOf + 1 ≤ d) {J68 : zq_P} (j68 : zq_ok X 7 68 J68) {Q : zq_Q} (hq : zq_R X (some .int) 1 Q) : zq_ok X 7 131 (xX12_wide_131 s_X12_in s_X12_bets s_X12_all s_X12_desertsOf J68 Q) := by
  refine zs_iload_n C dX12_wide_131 rfl ?_
  exact kX12_wide_132 C h_X12_in g_X12_in h_X12_bets g_X12_bets h_X12_all g_X12_all h_X12_desertsOf g_X12_desertsOf j68 hq
def xX12_wide_126 (s_X12_in : zq_Sp) (s_X12_bets : zq_Sp) (s_X12_all : zq_Sp) (s_X12_desertsOf : zq_Sp) (J68 : zq_P) (Q : zq_Q) (ls : zq_L) (st : List Value) (h : zq_H) : Prop := (zi_iload 6 ((xX12_wide_132 s_X12_in s_X12_bets s_X12_all s_X12_desertsOf J68 Q))) ls st h
theorem kX12_wide_126 {X : zq_X} {d : Nat} (C : zq_C X cX12_wide 7 RX12 d) {d_X12_in : Nat} {s_X12_in : zq_Sp} (h_X12_in : zq_M yX12_in cX12_in 6 (some .boolean) 1 d_X12_in s_X12_in) (g_X12_in : d_X12_in + 1 ≤ d) {d_X12_bets : Nat} {s_X12_bets : zq_Sp} (h_X12_bets : zq_M yX12_bets cX12_bets 7 none 0 d_X12_bets s_X12_bets) (g_X12_bets : d_X12_bets + 1 ≤ d) {d_X12_all : Nat} {s_X12_all : zq_Sp} (h_X12_all : zq_M yX12_all cX12_all 1 (some .int) 1 d_X12_all s_X12_all) (g_X12_all : d_X12_all + 1 ≤ d) {d_X12_desertsOf : Nat} {s_X12_desertsOf : zq_Sp} (h_X12_desertsOf : zq_M yX12_desertsOf cX12_desertsOf 4 (some .int) 1 d_X12_desertsOf s_X12_desertsOf) (g_X12_desertsOf : d_X12_desertsOf + 1 ≤ d) {J68 : zq_P} (j68 : zq_ok X 7 68 J68) {Q : zq_Q} (hq : zq_R X (some .int) 1 Q) : zq_ok X 7 126 (xX12_wide_126 s_X12_in s_X12_bets s_X12_all s_X12_desertsOf J68 Q) := by
  refine zs_iload C dX12_wide_126 ?_
  exact zs_goto C dX12_wide_128 (by decide) (kX12_wide_132 C h_X12_in g_X12_in h_X12_bets g_X12_bets h_X12_all g_X12_all h_X12_desertsOf g_X12_desertsOf j68 hq)
def xX12_wide_100 (s_X12_in : zq_Sp) (s_X12_bets : zq_Sp) (s_X12_all : zq_Sp) (s_X12_desertsOf : zq_Sp) (J68 : zq_P) (Q : zq_Q) (ls : zq_L) (st : List Value) (h : zq_H) : Prop := (zi_aload 0 (zi_iload 1 (zi_iload 6 (zi_callV 2 56 s_X12_bets (zi_push (.long 100) (zi_aload 0 (zi_getL 56 61 (zi_l2 (fun x y => x * y) (zi_iload 2 (zi_i2l (zi_aload 0 (zi_getL 56 62 (zi_l2 (fun x y => x * y) (zi_lcmp (zi_if1 (fun x => x < 0) (xX12_wide_131 s_X12_in s_X12_bets s_X12_all s_X12_desertsOf J68 Q) (xX12_wide_126 s_X12_in s_X12_bets s_X12_all s_X12_desertsOf J68 Q)))))))))))))))) ls st h
theorem kX12_wide_100 {X : zq_X} {d : Nat} (C : zq_C X cX12_wide 7 RX12 d) {d_X12_in : Nat} {s_X12_in : zq_Sp} (h_X12_in : zq_M yX12_in cX12_in 6 (some .boolean) 1 d_X12_in s_X12_in) (g_X12_in : d_X12_in + 1 ≤ d) {d_X12_bets : Nat} {s_X12_bets : zq_Sp} (h_X12_bets : zq_M yX12_bets cX12_bets 7 none 0 d_X12_bets s_X12_bets) (g_X12_bets : d_X12_bets + 1 ≤ d) {d_X12_all : Nat} {s_X12_all : zq_Sp} (h_X12_all : zq_M yX12_all cX12_all 1 (some .int) 1 d_X12_all s_X12_all) (g_X12_all : d_X12_all + 1 ≤ d) {d_X12_desertsOf : Nat} {s_X12_desertsOf : zq_Sp} (h_X12_desertsOf : zq_M yX12_desertsOf cX12_desertsOf 4 (some .int) 1 d_X12_desertsOf s_X12_desertsOf) (g_X12_desertsOf : d_X12_desertsOf + 1 ≤ d) {J68 : zq_P} (j68 : zq_ok X 7 68 J68) {Q : zq_Q} (hq : zq_R X (some .int) 1 Q) : zq_ok X 7 100 (xX12_wide_100 s_X12_in s_X12_bets s_X12_all s_X12_desertsOf J68 Q) := by
  refine zs_aload_n C dX12_wide_100 rfl ?_
  refine zs_iload_n C dX12_wide_101 rfl ?_
  refine zs_iload C dX12_wide_102 ?_
  refine zs_callV C h_X12_bets g_X12_bets zy_X12_bets zp_56 (show vwCl[12]? = some (RX12, TX12, 67) from rfl) zw_1755 zw_1757 zs9_X12_bets dX12_wide_104 ?_
  refine zs_ldc2 C dX12_wide_107 zw_1502 ?_
  refine zs_aload_n C dX12_wide_110 rfl ?_
  refine zs_getL C zp_56 zF12 (j := 61) ⟨by decide, rfl⟩ zw_1157 dX12_wide_111 ?_
  refine zs_lmul C dX12_wide_114 ?_
  refine zs_iload_n C dX12_wide_115 rfl ?_
  refine zs_i2l C dX12_wide_116 ?_
  refine zs_aload_n C dX12_wide_117 rfl ?_
  refine zs_getL C zp_56 zF12 (j := 62) ⟨by decide, rfl⟩ zw_1158 dX12_wide_118 ?_
  refine zs_lmul C dX12_wide_121 ?_
  refine zs_lcmp C dX12_wide_122 ?_
  exact zs_if_lt C dX12_wide_123 (by decide) (kX12_wide_131 C h_X12_in g_X12_in h_X12_bets g_X12_bets h_X12_all g_X12_all h_X12_desertsOf g_X12_desertsOf j68 hq) (kX12_wide_126 C h_X12_in g_X12_in h_X12_bets g_X12_bets h_X12_all g_X12_all h_X12_desertsOf g_X12_desertsOf j68 hq)
def xX12_wide_94 (s_X12_in : zq_Sp) (s_X12_bets : zq_Sp) (s_X12_all : zq_Sp) (s_X12_desertsOf : zq_Sp) (J68 : zq_P) (Q : zq_Q) (ls : zq_L) (st : List Value) (h : zq_H) : Prop := (zi_iload 6 (zi_iload 3 (zi_if2 (fun x y => y ≤ x) (xX12_wide_133 s_X12_in s_X12_bets s_X12_all s_X12_desertsOf J68 Q) (xX12_wide_100 s_X12_in s_X12_bets s_X12_all s_X12_desertsOf J68 Q)))) ls st h
theorem kX12_wide_94 {X : zq_X} {d : Nat} (C : zq_C X cX12_wide 7 RX12 d) {d_X12_in : Nat} {s_X12_in : zq_Sp} (h_X12_in : zq_M yX12_in cX12_in 6 (some .boolean) 1 d_X12_in s_X12_in) (g_X12_in : d_X12_in + 1 ≤ d) {d_X12_bets : Nat} {s_X12_bets : zq_Sp} (h_X12_bets : zq_M yX12_bets cX12_bets 7 none 0 d_X12_bets s_X12_bets) (g_X12_bets : d_X12_bets + 1 ≤ d) {d_X12_all : Nat} {s_X12_all : zq_Sp} (h_X12_all : zq_M yX12_all cX12_all 1 (some .int) 1 d_X12_all s_X12_all) (g_X12_all : d_X12_all + 1 ≤ d) {d_X12_desertsOf : Nat} {s_X12_desertsOf : zq_Sp} (h_X12_desertsOf : zq_M yX12_desertsOf cX12_desertsOf 4 (some .int) 1 d_X12_desertsOf s_X12_desertsOf) (g_X12_desertsOf : d_X12_desertsOf + 1 ≤ d) {J68 : zq_P} (j68 : zq_ok X 7 68 J68) {Q : zq_Q} (hq : zq_R X (some .int) 1 Q) : zq_ok X 7 94 (xX12_wide_94 s_X12_in s_X12_bets s_X12_all s_X12_desertsOf J68 Q) := by
  refine zs_iload C dX12_wide_94 ?_
  refine zs_iload_n C dX12_wide_96 rfl ?_
  exact zs_icmp_ge C dX12_wide_97 (by decide) (kX12_wide_133 C h_X12_in g_X12_in h_X12_bets g_X12_bets h_X12_all g_X12_all h_X12_desertsOf g_X12_desertsOf j68 hq) (kX12_wide_100 C h_X12_in g_X12_in h_X12_bets g_X12_bets h_X12_all g_X12_all h_X12_desertsOf g_X12_desertsOf j68 hq)
def xX12_wide_82 (s_X12_in : zq_Sp) (s_X12_bets : zq_Sp) (s_X12_all : zq_Sp) (s_X12_desertsOf : zq_Sp) (J68 : zq_P) (Q : zq_Q) (ls : zq_L) (st : List Value) (h : zq_H) : Prop := (zi_aload 0 (zi_iload 5 (zi_callV 1 56 s_X12_desertsOf (zi_istore 6 (zi_iload 3 (zi_if1 (fun x => x = 0) (xX12_wide_100 s_X12_in s_X12_bets s_X12_all s_X12_desertsOf J68 Q) (xX12_wide_94 s_X12_in s_X12_bets s_X12_all s_X12_desertsOf J68 Q))))))) ls st h
theorem kX12_wide_82 {X : zq_X} {d : Nat} (C : zq_C X cX12_wide 7 RX12 d) {d_X12_in : Nat} {s_X12_in : zq_Sp} (h_X12_in : zq_M yX12_in cX12_in 6 (some .boolean) 1 d_X12_in s_X12_in) (g_X12_in : d_X12_in + 1 ≤ d) {d_X12_bets : Nat} {s_X12_bets : zq_Sp} (h_X12_bets : zq_M yX12_bets cX12_bets 7 none 0 d_X12_bets s_X12_bets) (g_X12_bets : d_X12_bets + 1 ≤ d) {d_X12_all : Nat} {s_X12_all : zq_Sp} (h_X12_all : zq_M yX12_all cX12_all 1 (some .int) 1 d_X12_all s_X12_all) (g_X12_all : d_X12_all + 1 ≤ d) {d_X12_desertsOf : Nat} {s_X12_desertsOf : zq_Sp} (h_X12_desertsOf : zq_M yX12_desertsOf cX12_desertsOf 4 (some .int) 1 d_X12_desertsOf s_X12_desertsOf) (g_X12_desertsOf : d_X12_desertsOf + 1 ≤ d) {J68 : zq_P} (j68 : zq_ok X 7 68 J68) {Q : zq_Q} (hq : zq_R X (some .int) 1 Q) : zq_ok X 7 82 (xX12_wide_82 s_X12_in s_X12_bets s_X12_all s_X12_desertsOf J68 Q) := by
  refine zs_aload_n C dX12_wide_82 rfl ?_
  refine zs_iload C dX12_wide_83 ?_
  refine zs_callV C h_X12_desertsOf g_X12_desertsOf zy_X12_desertsOf zp_56 (show vwCl[12]? = some (RX12, TX12, 67) from rfl) zw_1746 zw_1748 zs9_X12_desertsOf dX12_wide_85 ?_
  refine zs_istore C dX12_wide_88 (by decide) ?_
  refine zs_iload_n C dX12_wide_90 rfl ?_
  exact zs_if_eq C dX12_wide_91 (by decide) (kX12_wide_100 C h_X12_in g_X12_in h_X12_bets g_X12_bets h_X12_all g_X12_all h_X12_desertsOf g_X12_desertsOf j68 hq) (kX12_wide_94 C h_X12_in g_X12_in h_X12_bets g_X12_bets h_X12_all g_X12_all h_X12_desertsOf g_X12_desertsOf j68 hq)
def xX12_wide_77 (s_X12_in : zq_Sp) (s_X12_bets : zq_Sp) (s_X12_all : zq_Sp) (s_X12_desertsOf : zq_Sp) (J68 : zq_P) (Q : zq_Q) (ls : zq_L) (st : List Value) (h : zq_H) : Prop := (zi_iload 4 (zi_if1 (fun x => x = 0) (xX12_wide_82 s_X12_in s_X12_bets s_X12_all s_X12_desertsOf J68 Q) (xX12_wide_139 s_X12_in s_X12_bets s_X12_all s_X12_desertsOf J68 Q))) ls st h
theorem kX12_wide_77 {X : zq_X} {d : Nat} (C : zq_C X cX12_wide 7 RX12 d) {d_X12_in : Nat} {s_X12_in : zq_Sp} (h_X12_in : zq_M yX12_in cX12_in 6 (some .boolean) 1 d_X12_in s_X12_in) (g_X12_in : d_X12_in + 1 ≤ d) {d_X12_bets : Nat} {s_X12_bets : zq_Sp} (h_X12_bets : zq_M yX12_bets cX12_bets 7 none 0 d_X12_bets s_X12_bets) (g_X12_bets : d_X12_bets + 1 ≤ d) {d_X12_all : Nat} {s_X12_all : zq_Sp} (h_X12_all : zq_M yX12_all cX12_all 1 (some .int) 1 d_X12_all s_X12_all) (g_X12_all : d_X12_all + 1 ≤ d) {d_X12_desertsOf : Nat} {s_X12_desertsOf : zq_Sp} (h_X12_desertsOf : zq_M yX12_desertsOf cX12_desertsOf 4 (some .int) 1 d_X12_desertsOf s_X12_desertsOf) (g_X12_desertsOf : d_X12_desertsOf + 1 ≤ d) {J68 : zq_P} (j68 : zq_ok X 7 68 J68) {Q : zq_Q} (hq : zq_R X (some .int) 1 Q) : zq_ok X 7 77 (xX12_wide_77 s_X12_in s_X12_bets s_X12_all s_X12_desertsOf J68 Q) := by
  refine zs_iload C dX12_wide_77 ?_
  exact zs_if_ne C dX12_wide_79 (by decide) (kX12_wide_139 C h_X12_in g_X12_in h_X12_bets g_X12_bets h_X12_all g_X12_all h_X12_desertsOf g_X12_desertsOf j68 hq) (kX12_wide_82 C h_X12_in g_X12_in h_X12_bets g_X12_bets h_X12_all g_X12_all h_X12_desertsOf g_X12_desertsOf j68 hq)
def xX12_wide_68 (s_X12_in : zq_Sp) (s_X12_bets : zq_Sp) (s_X12_all : zq_Sp) (s_X12_desertsOf : zq_Sp) (J68 : zq_P) (Q : zq_Q) (ls : zq_L) (st : List Value) (h : zq_H) : Prop := (zi_iload 5 (zi_aload 0 (zi_callV 0 56 s_X12_all (zi_if2 (fun x y => y < x) (xX12_wide_139 s_X12_in s_X12_bets s_X12_all s_X12_desertsOf J68 Q) (xX12_wide_77 s_X12_in s_X12_bets s_X12_all s_X12_desertsOf J68 Q))))) ls st h
theorem kX12_wide_68 {X : zq_X} {d : Nat} (C : zq_C X cX12_wide 7 RX12 d) {d_X12_in : Nat} {s_X12_in : zq_Sp} (h_X12_in : zq_M yX12_in cX12_in 6 (some .boolean) 1 d_X12_in s_X12_in) (g_X12_in : d_X12_in + 1 ≤ d) {d_X12_bets : Nat} {s_X12_bets : zq_Sp} (h_X12_bets : zq_M yX12_bets cX12_bets 7 none 0 d_X12_bets s_X12_bets) (g_X12_bets : d_X12_bets + 1 ≤ d) {d_X12_all : Nat} {s_X12_all : zq_Sp} (h_X12_all : zq_M yX12_all cX12_all 1 (some .int) 1 d_X12_all s_X12_all) (g_X12_all : d_X12_all + 1 ≤ d) {d_X12_desertsOf : Nat} {s_X12_desertsOf : zq_Sp} (h_X12_desertsOf : zq_M yX12_desertsOf cX12_desertsOf 4 (some .int) 1 d_X12_desertsOf s_X12_desertsOf) (g_X12_desertsOf : d_X12_desertsOf + 1 ≤ d) {J68 : zq_P} (j68 : zq_ok X 7 68 J68) {Q : zq_Q} (hq : zq_R X (some .int) 1 Q) : zq_ok X 7 68 (xX12_wide_68 s_X12_in s_X12_bets s_X12_all s_X12_desertsOf J68 Q) := by
  refine zs_iload C dX12_wide_68 ?_
  refine zs_aload_n C dX12_wide_70 rfl ?_
  refine zs_callV C h_X12_all g_X12_all zy_X12_all zp_56 (show vwCl[12]? = some (RX12, TX12, 67) from rfl) zw_1610 zw_1612 zs9_X12_all dX12_wide_71 ?_
  exact zs_icmp_gt C dX12_wide_74 (by decide) (kX12_wide_139 C h_X12_in g_X12_in h_X12_bets g_X12_bets h_X12_all g_X12_all h_X12_desertsOf g_X12_desertsOf j68 hq) (kX12_wide_77 C h_X12_in g_X12_in h_X12_bets g_X12_bets h_X12_all g_X12_all h_X12_desertsOf g_X12_desertsOf j68 hq)
def xX12_wide_63 (s_X12_in : zq_Sp) (s_X12_bets : zq_Sp) (s_X12_all : zq_Sp) (s_X12_desertsOf : zq_Sp) (J68 : zq_P) (Q : zq_Q) (ls : zq_L) (st : List Value) (h : zq_H) : Prop := (zi_istore 4 (zi_push (.int 1) (zi_istore 5 (J68)))) ls st h
theorem kX12_wide_63 {X : zq_X} {d : Nat} (C : zq_C X cX12_wide 7 RX12 d) {d_X12_in : Nat} {s_X12_in : zq_Sp} (h_X12_in : zq_M yX12_in cX12_in 6 (some .boolean) 1 d_X12_in s_X12_in) (g_X12_in : d_X12_in + 1 ≤ d) {d_X12_bets : Nat} {s_X12_bets : zq_Sp} (h_X12_bets : zq_M yX12_bets cX12_bets 7 none 0 d_X12_bets s_X12_bets) (g_X12_bets : d_X12_bets + 1 ≤ d) {d_X12_all : Nat} {s_X12_all : zq_Sp} (h_X12_all : zq_M yX12_all cX12_all 1 (some .int) 1 d_X12_all s_X12_all) (g_X12_all : d_X12_all + 1 ≤ d) {d_X12_desertsOf : Nat} {s_X12_desertsOf : zq_Sp} (h_X12_desertsOf : zq_M yX12_desertsOf cX12_desertsOf 4 (some .int) 1 d_X12_desertsOf s_X12_desertsOf) (g_X12_desertsOf : d_X12_desertsOf + 1 ≤ d) {J68 : zq_P} (j68 : zq_ok X 7 68 J68) {Q : zq_Q} (hq : zq_R X (some .int) 1 Q) : zq_ok X 7 63 (xX12_wide_63 s_X12_in s_X12_bets s_X12_all s_X12_desertsOf J68 Q) := by
  refine zs_istore C dX12_wide_63 (by decide) ?_
  refine zs_iconst C dX12_wide_65 (by decide) ?_
  refine zs_istore C dX12_wide_66 (by decide) ?_
  exact j68
def xX12_wide_62 (s_X12_in : zq_Sp) (s_X12_bets : zq_Sp) (s_X12_all : zq_Sp) (s_X12_desertsOf : zq_Sp) (J68 : zq_P) (Q : zq_Q) (ls : zq_L) (st : List Value) (h : zq_H) : Prop := (zi_push (.int 0) ((xX12_wide_63 s_X12_in s_X12_bets s_X12_all s_X12_desertsOf J68 Q))) ls st h
theorem kX12_wide_62 {X : zq_X} {d : Nat} (C : zq_C X cX12_wide 7 RX12 d) {d_X12_in : Nat} {s_X12_in : zq_Sp} (h_X12_in : zq_M yX12_in cX12_in 6 (some .boolean) 1 d_X12_in s_X12_in) (g_X12_in : d_X12_in + 1 ≤ d) {d_X12_bets : Nat} {s_X12_bets : zq_Sp} (h_X12_bets : zq_M yX12_bets cX12_bets 7 none 0 d_X12_bets s_X12_bets) (g_X12_bets : d_X12_bets + 1 ≤ d) {d_X12_all : Nat} {s_X12_all : zq_Sp} (h_X12_all : zq_M yX12_all cX12_all 1 (some .int) 1 d_X12_all s_X12_all) (g_X12_all : d_X12_all + 1 ≤ d) {d_X12_desertsOf : Nat} {s_X12_desertsOf : zq_Sp} (h_X12_desertsOf : zq_M yX12_desertsOf cX12_desertsOf 4 (some .int) 1 d_X12_desertsOf s_X12_desertsOf) (g_X12_desertsOf : d_X12_desertsOf + 1 ≤ d) {J68 : zq_P} (j68 : zq_ok X 7 68 J68) {Q : zq_Q} (hq : zq_R X (some .int) 1 Q) : zq_ok X 7 62 (xX12_wide_62 s_X12_in s_X12_bets s_X12_all s_X12_desertsOf J68 Q) := by
  refine zs_iconst C dX12_wide_62 (by decide) ?_
  exact kX12_wide_63 C h_X12_in g_X12_in h_X12_bets g_X12_bets h_X12_all g_X12_all h_X12_desertsOf g_X12_desertsOf j68 hq
def xX12_wide_58 (s_X12_in : zq_Sp) (s_X12_bets : zq_Sp) (s_X12_all : zq_Sp) (s_X12_desertsOf : zq_Sp) (J68 : zq_P) (Q : zq_Q) (ls : zq_L) (st : List Value) (h : zq_H) : Prop := (zi_push (.int 1) ((xX12_wide_63 s_X12_in s_X12_bets s_X12_all s_X12_desertsOf J68 Q))) ls st h
theorem kX12_wide_58 {X : zq_X} {d : Nat} (C : zq_C X cX12_wide 7 RX12 d) {d_X12_in : Nat} {s_X12_in : zq_Sp} (h_X12_in : zq_M yX12_in cX12_in 6 (some .boolean) 1 d_X12_in s_X12_in) (g_X12_in : d_X12_in + 1 ≤ d) {d_X12_bets : Nat} {s_X12_bets : zq_Sp} (h_X12_bets : zq_M yX12_bets cX12_bets 7 none 0 d_X12_bets s_X12_bets) (g_X12_bets : d_X12_bets + 1 ≤ d) {d_X12_all : Nat} {s_X12_all : zq_Sp} (h_X12_all : zq_M yX12_all cX12_all 1 (some .int) 1 d_X12_all s_X12_all) (g_X12_all : d_X12_all + 1 ≤ d) {d_X12_desertsOf : Nat} {s_X12_desertsOf : zq_Sp} (h_X12_desertsOf : zq_M yX12_desertsOf cX12_desertsOf 4 (some .int) 1 d_X12_desertsOf s_X12_desertsOf) (g_X12_desertsOf : d_X12_desertsOf + 1 ≤ d) {J68 : zq_P} (j68 : zq_ok X 7 68 J68) {Q : zq_Q} (hq : zq_R X (some .int) 1 Q) : zq_ok X 7 58 (xX12_wide_58 s_X12_in s_X12_bets s_X12_all s_X12_desertsOf J68 Q) := by
  refine zs_iconst C dX12_wide_58 (by decide) ?_
  exact zs_goto C dX12_wide_59 (by decide) (kX12_wide_63 C h_X12_in g_X12_in h_X12_bets g_X12_bets h_X12_all g_X12_all h_X12_desertsOf g_X12_desertsOf j68 hq)
def xX12_wide_31 (s_X12_in : zq_Sp) (s_X12_bets : zq_Sp) (s_X12_all : zq_Sp) (s_X12_desertsOf : zq_Sp) (J68 : zq_P) (Q : zq_Q) (ls : zq_L) (st : List Value) (h : zq_H) : Prop := (zi_push (.int 0) (zi_istore 3 (zi_aload 0 (zi_iload 1 (zi_push (.int 0) (zi_callV 2 56 s_X12_bets (zi_push (.long 100) (zi_aload 0 (zi_getL 56 61 (zi_l2 (fun x y => x * y) (zi_iload 2 (zi_i2l (zi_aload 0 (zi_getL 56 62 (zi_l2 (fun x y => x * y) (zi_lcmp (zi_if1 (fun x => x < 0) (xX12_wide_62 s_X12_in s_X12_bets s_X12_all s_X12_desertsOf J68 Q) (xX12_wide_58 s_X12_in s_X12_bets s_X12_all s_X12_desertsOf J68 Q)))))))))))))))))) ls st h
theorem kX12_wide_31 {X : zq_X} {d : Nat} (C : zq_C X cX12_wide 7 RX12 d) {d_X12_in : Nat} {s_X12_in : zq_Sp} (h_X12_in : zq_M yX12_in cX12_in 6 (some .boolean) 1 d_X12_in s_X12_in) (g_X12_in : d_X12_in + 1 ≤ d) {d_X12_bets : Nat} {s_X12_bets : zq_Sp} (h_X12_bets : zq_M yX12_bets cX12_bets 7 none 0 d_X12_bets s_X12_bets) (g_X12_bets : d_X12_bets + 1 ≤ d) {d_X12_all : Nat} {s_X12_all : zq_Sp} (h_X12_all : zq_M yX12_all cX12_all 1 (some .int) 1 d_X12_all s_X12_all) (g_X12_all : d_X12_all + 1 ≤ d) {d_X12_desertsOf : Nat} {s_X12_desertsOf : zq_Sp} (h_X12_desertsOf : zq_M yX12_desertsOf cX12_desertsOf 4 (some .int) 1 d_X12_desertsOf s_X12_desertsOf) (g_X12_desertsOf : d_X12_desertsOf + 1 ≤ d) {J68 : zq_P} (j68 : zq_ok X 7 68 J68) {Q : zq_Q} (hq : zq_R X (some .int) 1 Q) : zq_ok X 7 31 (xX12_wide_31 s_X12_in s_X12_bets s_X12_all s_X12_desertsOf J68 Q) := by
  refine zs_iconst C dX12_wide_31 (by decide) ?_
  refine zs_istore_n C dX12_wide_32 rfl (by decide) ?_
  refine zs_aload_n C dX12_wide_33 rfl ?_
  refine zs_iload_n C dX12_wide_34 rfl ?_
  refine zs_iconst C dX12_wide_35 (by decide) ?_
  refine zs_callV C h_X12_bets g_X12_bets zy_X12_bets zp_56 (show vwCl[12]? = some (RX12, TX12, 67) from rfl) zw_1755 zw_1757 zs9_X12_bets dX12_wide_36 ?_
  refine zs_ldc2 C dX12_wide_39 zw_1502 ?_
  refine zs_aload_n C dX12_wide_42 rfl ?_
  refine zs_getL C zp_56 zF12 (j := 61) ⟨by decide, rfl⟩ zw_1157 dX12_wide_43 ?_
  refine zs_lmul C dX12_wide_46 ?_
  refine zs_iload_n C dX12_wide_47 rfl ?_
  refine zs_i2l C dX12_wide_48 ?_
  refine zs_aload_n C dX12_wide_49 rfl ?_
  refine zs_getL C zp_56 zF12 (j := 62) ⟨by decide, rfl⟩ zw_1158 dX12_wide_50 ?_
  refine zs_lmul C dX12_wide_53 ?_
  refine zs_lcmp C dX12_wide_54 ?_
  exact zs_if_lt C dX12_wide_55 (by decide) (kX12_wide_62 C h_X12_in g_X12_in h_X12_bets g_X12_bets h_X12_all g_X12_all h_X12_desertsOf g_X12_desertsOf j68 hq) (kX12_wide_58 C h_X12_in g_X12_in h_X12_bets g_X12_bets h_X12_all g_X12_all h_X12_desertsOf g_X12_desertsOf j68 hq)
def xX12_wide_29 (s_X12_in : zq_Sp) (s_X12_bets : zq_Sp) (s_X12_all : zq_Sp) (s_X12_desertsOf : zq_Sp) (J68 : zq_P) (Q : zq_Q) (ls : zq_L) (st : List Value) (h : zq_H) : Prop := (zi_push (.int (-1)) (zi_iret Q)) ls st h
theorem kX12_wide_29 {X : zq_X} {d : Nat} (C : zq_C X cX12_wide 7 RX12 d) {d_X12_in : Nat} {s_X12_in : zq_Sp} (h_X12_in : zq_M yX12_in cX12_in 6 (some .boolean) 1 d_X12_in s_X12_in) (g_X12_in : d_X12_in + 1 ≤ d) {d_X12_bets : Nat} {s_X12_bets : zq_Sp} (h_X12_bets : zq_M yX12_bets cX12_bets 7 none 0 d_X12_bets s_X12_bets) (g_X12_bets : d_X12_bets + 1 ≤ d) {d_X12_all : Nat} {s_X12_all : zq_Sp} (h_X12_all : zq_M yX12_all cX12_all 1 (some .int) 1 d_X12_all s_X12_all) (g_X12_all : d_X12_all + 1 ≤ d) {d_X12_desertsOf : Nat} {s_X12_desertsOf : zq_Sp} (h_X12_desertsOf : zq_M yX12_desertsOf cX12_desertsOf 4 (some .int) 1 d_X12_desertsOf s_X12_desertsOf) (g_X12_desertsOf : d_X12_desertsOf + 1 ≤ d) {J68 : zq_P} (j68 : zq_ok X 7 68 J68) {Q : zq_Q} (hq : zq_R X (some .int) 1 Q) : zq_ok X 7 29 (xX12_wide_29 s_X12_in s_X12_bets s_X12_all s_X12_desertsOf J68 Q) := by
  refine zs_iconst C dX12_wide_29 (by decide) ?_
  exact zs_iret C hq dX12_wide_30
def xX12_wide_17 (s_X12_in : zq_Sp) (s_X12_bets : zq_Sp) (s_X12_all : zq_Sp) (s_X12_desertsOf : zq_Sp) (J68 : zq_P) (Q : zq_Q) (ls : zq_L) (st : List Value) (h : zq_H) : Prop := (zi_iload 2 (zi_i2l (zi_push (.long 0) (zi_push (.long 100) (zi_callS 3 s_X12_in (zi_if1 (fun x => x = 0) (xX12_wide_29 s_X12_in s_X12_bets s_X12_all s_X12_desertsOf J68 Q) (xX12_wide_31 s_X12_in s_X12_bets s_X12_all s_X12_desertsOf J68 Q))))))) ls st h
theorem kX12_wide_17 {X : zq_X} {d : Nat} (C : zq_C X cX12_wide 7 RX12 d) {d_X12_in : Nat} {s_X12_in : zq_Sp} (h_X12_in : zq_M yX12_in cX12_in 6 (some .boolean) 1 d_X12_in s_X12_in) (g_X12_in : d_X12_in + 1 ≤ d) {d_X12_bets : Nat} {s_X12_bets : zq_Sp} (h_X12_bets : zq_M yX12_bets cX12_bets 7 none 0 d_X12_bets s_X12_bets) (g_X12_bets : d_X12_bets + 1 ≤ d) {d_X12_all : Nat} {s_X12_all : zq_Sp} (h_X12_all : zq_M yX12_all cX12_all 1 (some .int) 1 d_X12_all s_X12_all) (g_X12_all : d_X12_all + 1 ≤ d) {d_X12_desertsOf : Nat} {s_X12_desertsOf : zq_Sp} (h_X12_desertsOf : zq_M yX12_desertsOf cX12_desertsOf 4 (some .int) 1 d_X12_desertsOf s_X12_desertsOf) (g_X12_desertsOf : d_X12_desertsOf + 1 ≤ d) {J68 : zq_P} (j68 : zq_ok X 7 68 J68) {Q : zq_Q} (hq : zq_R X (some .int) 1 Q) : zq_ok X 7 17 (xX12_wide_17 s_X12_in s_X12_bets s_X12_all s_X12_desertsOf J68 Q) := by
  refine zs_iload_n C dX12_wide_17 rfl ?_
  refine zs_i2l C dX12_wide_18 ?_
  refine zs_lconst C dX12_wide_19 (by decide) ?_
  refine zs_ldc2 C dX12_wide_20 zw_1502 ?_
  refine zs_callS C h_X12_in g_X12_in zy_X12_in zw_1311 zw_1312 dX12_wide_23 ?_
  exact zs_if_ne C dX12_wide_26 (by decide) (kX12_wide_31 C h_X12_in g_X12_in h_X12_bets g_X12_bets h_X12_all g_X12_all h_X12_desertsOf g_X12_desertsOf j68 hq) (kX12_wide_29 C h_X12_in g_X12_in h_X12_bets g_X12_bets h_X12_all g_X12_all h_X12_desertsOf g_X12_desertsOf j68 hq)
def xX12_wide_0 (s_X12_in : zq_Sp) (s_X12_bets : zq_Sp) (s_X12_all : zq_Sp) (s_X12_desertsOf : zq_Sp) (J68 : zq_P) (Q : zq_Q) (ls : zq_L) (st : List Value) (h : zq_H) : Prop := (zi_aload 0 (zi_push (.int 0) (zi_putI 56 0 (zi_iload 1 (zi_i2l (zi_push (.long 0) (zi_push (.long 10) (zi_callS 3 s_X12_in (zi_if1 (fun x => x = 0) (xX12_wide_29 s_X12_in s_X12_bets s_X12_all s_X12_desertsOf J68 Q) (xX12_wide_17 s_X12_in s_X12_bets s_X12_all s_X12_desertsOf J68 Q)))))))))) ls st h
theorem kX12_wide_0 {X : zq_X} {d : Nat} (C : zq_C X cX12_wide 7 RX12 d) {d_X12_in : Nat} {s_X12_in : zq_Sp} (h_X12_in : zq_M yX12_in cX12_in 6 (some .boolean) 1 d_X12_in s_X12_in) (g_X12_in : d_X12_in + 1 ≤ d) {d_X12_bets : Nat} {s_X12_bets : zq_Sp} (h_X12_bets : zq_M yX12_bets cX12_bets 7 none 0 d_X12_bets s_X12_bets) (g_X12_bets : d_X12_bets + 1 ≤ d) {d_X12_all : Nat} {s_X12_all : zq_Sp} (h_X12_all : zq_M yX12_all cX12_all 1 (some .int) 1 d_X12_all s_X12_all) (g_X12_all : d_X12_all + 1 ≤ d) {d_X12_desertsOf : Nat} {s_X12_desertsOf : zq_Sp} (h_X12_desertsOf : zq_M yX12_desertsOf cX12_desertsOf 4 (some .int) 1 d_X12_desertsOf s_X12_desertsOf) (g_X12_desertsOf : d_X12_desertsOf + 1 ≤ d) {J68 : zq_P} (j68 : zq_ok X 7 68 J68) {Q : zq_Q} (hq : zq_R X (some .int) 1 Q) : zq_ok X 7 0 (xX12_wide_0 s_X12_in s_X12_bets s_X12_all s_X12_desertsOf J68 Q) := by
  refine zs_aload_n C dX12_wide_0 rfl ?_
  refine zs_iconst C dX12_wide_1 (by decide) ?_
  refine zs_putI C zp_56 zF12 (j := 0) ⟨by decide, rfl⟩ ⟨rfl, by decide +kernel⟩ zw_1096 dX12_wide_2 ?_
  refine zs_iload_n C dX12_wide_5 rfl ?_
  refine zs_i2l C dX12_wide_6 ?_
  refine zs_lconst C dX12_wide_7 (by decide) ?_
  refine zs_ldc2 C dX12_wide_8 zw_1754 ?_
  refine zs_callS C h_X12_in g_X12_in zy_X12_in zw_1311 zw_1312 dX12_wide_11 ?_
  exact zs_if_eq C dX12_wide_14 (by decide) (kX12_wide_29 C h_X12_in g_X12_in h_X12_bets g_X12_bets h_X12_all g_X12_all h_X12_desertsOf g_X12_desertsOf j68 hq) (kX12_wide_17 C h_X12_in g_X12_in h_X12_bets g_X12_bets h_X12_all g_X12_all h_X12_desertsOf g_X12_desertsOf j68 hq)
theorem mX12_wide {d : Nat} {spec : zq_Sp} {σ68 : Type} {d_X12_in : Nat} {s_X12_in : zq_Sp} (h_X12_in : zq_M yX12_in cX12_in 6 (some .boolean) 1 d_X12_in s_X12_in) (g_X12_in : d_X12_in + 1 ≤ d) {d_X12_bets : Nat} {s_X12_bets : zq_Sp} (h_X12_bets : zq_M yX12_bets cX12_bets 7 none 0 d_X12_bets s_X12_bets) (g_X12_bets : d_X12_bets + 1 ≤ d) {d_X12_all : Nat} {s_X12_all : zq_Sp} (h_X12_all : zq_M yX12_all cX12_all 1 (some .int) 1 d_X12_all s_X12_all) (g_X12_all : d_X12_all + 1 ≤ d) {d_X12_desertsOf : Nat} {s_X12_desertsOf : zq_Sp} (h_X12_desertsOf : zq_M yX12_desertsOf cX12_desertsOf 4 (some .int) 1 d_X12_desertsOf s_X12_desertsOf) (g_X12_desertsOf : d_X12_desertsOf + 1 ≤ d) (μ68 : σ68 → Nat) (I68 : zq_Q → σ68 → zq_P) (v : ∀ args h Q, spec args h Q → (zq_a args).length ≤ 7 ∧ xX12_wide_0 s_X12_in s_X12_bets s_X12_all s_X12_desertsOf (fun ls st h => ∃ b, I68 Q b ls st h) Q (zq_l0 7 args) [] h) (v68 : ∀ Q a ls st h, I68 Q a ls st h → xX12_wide_68 s_X12_in s_X12_bets s_X12_all s_X12_desertsOf (fun ls st h => ∃ b, μ68 b < μ68 a ∧ I68 Q b ls st h) Q ls st h) : zq_M yX12_wide cX12_wide 7 (some .int) 1 d spec := by
  refine zq_met (by decide +kernel) (by decide) (fun X Q args h C hq hs => ⟨(v args h Q hs).1, _, ?_, (v args h Q hs).2⟩)
  have hl := zq_loop1 (X := X) (nL := 7) (pc1 := 68) μ68 (I68 Q) (fun J68 => xX12_wide_68 s_X12_in s_X12_bets s_X12_all s_X12_desertsOf J68 Q) (fun j68 => kX12_wide_68 C h_X12_in g_X12_in h_X12_bets g_X12_bets h_X12_all g_X12_all h_X12_desertsOf g_X12_desertsOf j68 hq) (v68 Q)
  exact kX12_wide_0 C h_X12_in g_X12_in h_X12_bets g_X12_bets h_X12_all g_X12_all h_X12_desertsOf g_X12_desertsOf hl hq
/-! ToOneCrumbModel.suppers(II)I -/
theorem dX12_suppers_0 : decode cX12_suppers 0 = .ok (.aload_n 0, 1) := by decide +kernel
theorem dX12_suppers_1 : decode cX12_suppers 1 = .ok (.iconst 0, 1) := by decide +kernel
theorem dX12_suppers_2 : decode cX12_suppers 2 = .ok (.putfield 147, 3) := by decide +kernel
theorem dX12_suppers_5 : decode cX12_suppers 5 = .ok (.iload_n 2, 1) := by decide +kernel
theorem dX12_suppers_6 : decode cX12_suppers 6 = .ok (.i2l, 1) := by decide +kernel
theorem dX12_suppers_7 : decode cX12_suppers 7 = .ok (.lconst 1, 1) := by decide +kernel
theorem dX12_suppers_8 : decode cX12_suppers 8 = .ok (.ldc2_w 472, 3) := by decide +kernel
theorem dX12_suppers_11 : decode cX12_suppers 11 = .ok (.invokestatic 161, 3) := by decide +kernel
theorem dX12_suppers_14 : decode cX12_suppers 14 = .ok (.ifCond .eq 10, 3) := by decide +kernel
theorem dX12_suppers_17 : decode cX12_suppers 17 = .ok (.aload_n 0, 1) := by decide +kernel
theorem dX12_suppers_18 : decode cX12_suppers 18 = .ok (.getfield 165, 3) := by decide +kernel
theorem dX12_suppers_21 : decode cX12_suppers 21 = .ok (.ifCond .ne 5, 3) := by decide +kernel
theorem dX12_suppers_24 : decode cX12_suppers 24 = .ok (.iconst (-1), 1) := by decide +kernel
theorem dX12_suppers_25 : decode cX12_suppers 25 = .ok (.ireturn, 1) := by decide +kernel
theorem dX12_suppers_26 : decode cX12_suppers 26 = .ok (.iload_n 1, 1) := by decide +kernel
theorem dX12_suppers_27 : decode cX12_suppers 27 = .ok (.istore_n 3, 1) := by decide +kernel
theorem dX12_suppers_28 : decode cX12_suppers 28 = .ok (.aload_n 0, 1) := by decide +kernel
theorem dX12_suppers_29 : decode cX12_suppers 29 = .ok (.invokevirtual 318, 3) := by decide +kernel
theorem dX12_suppers_32 : decode cX12_suppers 32 = .ok (.aload_n 0, 1) := by decide +kernel
theorem dX12_suppers_33 : decode cX12_suppers 33 = .ok (.invokevirtual 437, 3) := by decide +kernel
theorem dX12_suppers_36 : decode cX12_suppers 36 = .ok (.iconst 0, 1) := by decide +kernel
theorem dX12_suppers_37 : decode cX12_suppers 37 = .ok (.istore 4, 2) := by decide +kernel
theorem dX12_suppers_39 : decode cX12_suppers 39 = .ok (.iload 4, 2) := by decide +kernel
theorem dX12_suppers_41 : decode cX12_suppers 41 = .ok (.bipush 6, 2) := by decide +kernel
theorem dX12_suppers_43 : decode cX12_suppers 43 = .ok (.if_icmp .ge 17, 3) := by decide +kernel
theorem dX12_suppers_46 : decode cX12_suppers 46 = .ok (.aload_n 0, 1) := by decide +kernel
theorem dX12_suppers_47 : decode cX12_suppers 47 = .ok (.getfield 135, 3) := by decide +kernel
theorem dX12_suppers_50 : decode cX12_suppers 50 = .ok (.iload 4, 2) := by decide +kernel
theorem dX12_suppers_52 : decode cX12_suppers 52 = .ok (.iconst 0, 1) := by decide +kernel
theorem dX12_suppers_53 : decode cX12_suppers 53 = .ok (.iastore, 1) := by decide +kernel
theorem dX12_suppers_54 : decode cX12_suppers 54 = .ok (.iinc 4 1, 3) := by decide +kernel
theorem dX12_suppers_57 : decode cX12_suppers 57 = .ok (.goto (-18), 3) := by decide +kernel
theorem dX12_suppers_60 : decode cX12_suppers 60 = .ok (.iconst 0, 1) := by decide +kernel
theorem dX12_suppers_61 : decode cX12_suppers 61 = .ok (.istore 4, 2) := by decide +kernel
theorem dX12_suppers_63 : decode cX12_suppers 63 = .ok (.iload 4, 2) := by decide +kernel
theorem dX12_suppers_65 : decode cX12_suppers 65 = .ok (.iload_n 2, 1) := by decide +kernel
theorem dX12_suppers_66 : decode cX12_suppers 66 = .ok (.if_icmp .ge 100, 3) := by decide +kernel
theorem dX12_suppers_69 : decode cX12_suppers 69 = .ok (.aload_n 0, 1) := by decide +kernel
theorem dX12_suppers_70 : decode cX12_suppers 70 = .ok (.aload_n 0, 1) := by decide +kernel
theorem dX12_suppers_71 : decode cX12_suppers 71 = .ok (.getfield 158, 3) := by decide +kernel
theorem dX12_suppers_74 : decode cX12_suppers 74 = .ok (.putfield 428, 3) := by decide +kernel
theorem dX12_suppers_77 : decode cX12_suppers 77 = .ok (.iconst 0, 1) := by decide +kernel
theorem dX12_suppers_78 : decode cX12_suppers 78 = .ok (.istore 5, 2) := by decide +kernel
theorem dX12_suppers_80 : decode cX12_suppers 80 = .ok (.iload 5, 2) := by decide +kernel
theorem dX12_suppers_82 : decode cX12_suppers 82 = .ok (.aload_n 0, 1) := by decide +kernel
theorem dX12_suppers_83 : decode cX12_suppers 83 = .ok (.getfield 158, 3) := by decide +kernel
theorem dX12_suppers_86 : decode cX12_suppers 86 = .ok (.if_icmp .ge 35, 3) := by decide +kernel
theorem dX12_suppers_89 : decode cX12_suppers 89 = .ok (.iload_n 3, 1) := by decide +kernel
theorem dX12_suppers_90 : decode cX12_suppers 90 = .ok (.ldc_w 474, 3) := by decide +kernel
theorem dX12_suppers_93 : decode cX12_suppers 93 = .ok (.imul, 1) := by decide +kernel
theorem dX12_suppers_94 : decode cX12_suppers 94 = .ok (.sipush 12345, 3) := by decide +kernel
theorem dX12_suppers_97 : decode cX12_suppers 97 = .ok (.iadd, 1) := by decide +kernel
theorem dX12_suppers_98 : decode cX12_suppers 98 = .ok (.istore_n 3, 1) := by decide +kernel
theorem dX12_suppers_99 : decode cX12_suppers 99 = .ok (.aload_n 0, 1) := by decide +kernel
theorem dX12_suppers_100 : decode cX12_suppers 100 = .ok (.getfield 105, 3) := by decide +kernel
theorem dX12_suppers_103 : decode cX12_suppers 103 = .ok (.iload 5, 2) := by decide +kernel
theorem dX12_suppers_105 : decode cX12_suppers 105 = .ok (.iload_n 3, 1) := by decide +kernel
theorem dX12_suppers_106 : decode cX12_suppers 106 = .ok (.bipush 16, 2) := by decide +kernel
theorem dX12_suppers_108 : decode cX12_suppers 108 = .ok (.iushr, 1) := by decide +kernel
theorem dX12_suppers_109 : decode cX12_suppers 109 = .ok (.aload_n 0, 1) := by decide +kernel
theorem dX12_suppers_110 : decode cX12_suppers 110 = .ok (.getfield 165, 3) := by decide +kernel
theorem dX12_suppers_113 : decode cX12_suppers 113 = .ok (.irem, 1) := by decide +kernel
theorem dX12_suppers_114 : decode cX12_suppers 114 = .ok (.iastore, 1) := by decide +kernel
theorem dX12_suppers_115 : decode cX12_suppers 115 = .ok (.iinc 5 1, 3) := by decide +kernel
theorem dX12_suppers_118 : decode cX12_suppers 118 = .ok (.goto (-38), 3) := by decide +kernel
theorem dX12_suppers_121 : decode cX12_suppers 121 = .ok (.aload_n 0, 1) := by decide +kernel
theorem dX12_suppers_122 : decode cX12_suppers 122 = .ok (.invokevirtual 440, 3) := by decide +kernel
theorem dX12_suppers_125 : decode cX12_suppers 125 = .ok (.iconst 0, 1) := by decide +kernel
theorem dX12_suppers_126 : decode cX12_suppers 126 = .ok (.istore 5, 2) := by decide +kernel
theorem dX12_suppers_128 : decode cX12_suppers 128 = .ok (.iload 5, 2) := by decide +kernel
theorem dX12_suppers_130 : decode cX12_suppers 130 = .ok (.aload_n 0, 1) := by decide +kernel
theorem dX12_suppers_131 : decode cX12_suppers 131 = .ok (.getfield 165, 3) := by decide +kernel
theorem dX12_suppers_134 : decode cX12_suppers 134 = .ok (.if_icmp .ge 26, 3) := by decide +kernel
theorem dX12_suppers_137 : decode cX12_suppers 137 = .ok (.aload_n 0, 1) := by decide +kernel
theorem dX12_suppers_138 : decode cX12_suppers 138 = .ok (.getfield 135, 3) := by decide +kernel
theorem dX12_suppers_141 : decode cX12_suppers 141 = .ok (.iload 5, 2) := by decide +kernel
theorem dX12_suppers_143 : decode cX12_suppers 143 = .ok (.dup2, 1) := by decide +kernel
theorem dX12_suppers_144 : decode cX12_suppers 144 = .ok (.iaload, 1) := by decide +kernel
theorem dX12_suppers_145 : decode cX12_suppers 145 = .ok (.aload_n 0, 1) := by decide +kernel
theorem dX12_suppers_146 : decode cX12_suppers 146 = .ok (.getfield 111, 3) := by decide +kernel
theorem dX12_suppers_149 : decode cX12_suppers 149 = .ok (.iload 5, 2) := by decide +kernel
theorem dX12_suppers_151 : decode cX12_suppers 151 = .ok (.iaload, 1) := by decide +kernel
theorem dX12_suppers_152 : decode cX12_suppers 152 = .ok (.iadd, 1) := by decide +kernel
theorem dX12_suppers_153 : decode cX12_suppers 153 = .ok (.iastore, 1) := by decide +kernel
theorem dX12_suppers_154 : decode cX12_suppers 154 = .ok (.iinc 5 1, 3) := by decide +kernel
theorem dX12_suppers_157 : decode cX12_suppers 157 = .ok (.goto (-29), 3) := by decide +kernel
theorem dX12_suppers_160 : decode cX12_suppers 160 = .ok (.iinc 4 1, 3) := by decide +kernel
theorem dX12_suppers_163 : decode cX12_suppers 163 = .ok (.goto (-100), 3) := by decide +kernel
theorem dX12_suppers_166 : decode cX12_suppers 166 = .ok (.iconst 0, 1) := by decide +kernel
theorem dX12_suppers_167 : decode cX12_suppers 167 = .ok (.istore 4, 2) := by decide +kernel
theorem dX12_suppers_169 : decode cX12_suppers 169 = .ok (.aload_n 0, 1) := by decide +kernel
theorem dX12_suppers_170 : decode cX12_suppers 170 = .ok (.iconst 0, 1) := by decide +kernel
theorem dX12_suppers_171 : decode cX12_suppers 171 = .ok (.putfield 155, 3) := by decide +kernel
theorem dX12_suppers_174 : decode cX12_suppers 174 = .ok (.iconst 0, 1) := by decide +kernel
theorem dX12_suppers_175 : decode cX12_suppers 175 = .ok (.istore 5, 2) := by decide +kernel
theorem dX12_suppers_177 : decode cX12_suppers 177 = .ok (.iload 5, 2) := by decide +kernel
theorem dX12_suppers_179 : decode cX12_suppers 179 = .ok (.aload_n 0, 1) := by decide +kernel
theorem dX12_suppers_180 : decode cX12_suppers 180 = .ok (.getfield 165, 3) := by decide +kernel
theorem dX12_suppers_183 : decode cX12_suppers 183 = .ok (.if_icmp .ge 47, 3) := by decide +kernel
theorem dX12_suppers_186 : decode cX12_suppers 186 = .ok (.aload_n 0, 1) := by decide +kernel
theorem dX12_suppers_187 : decode cX12_suppers 187 = .ok (.getfield 135, 3) := by decide +kernel
theorem dX12_suppers_190 : decode cX12_suppers 190 = .ok (.iload 5, 2) := by decide +kernel
theorem dX12_suppers_192 : decode cX12_suppers 192 = .ok (.iaload, 1) := by decide +kernel
theorem dX12_suppers_193 : decode cX12_suppers 193 = .ok (.aload_n 0, 1) := by decide +kernel
theorem dX12_suppers_194 : decode cX12_suppers 194 = .ok (.getfield 135, 3) := by decide +kernel
theorem dX12_suppers_197 : decode cX12_suppers 197 = .ok (.iload 4, 2) := by decide +kernel
theorem dX12_suppers_199 : decode cX12_suppers 199 = .ok (.iaload, 1) := by decide +kernel
theorem dX12_suppers_200 : decode cX12_suppers 200 = .ok (.if_icmp .le 8, 3) := by decide +kernel
theorem dX12_suppers_203 : decode cX12_suppers 203 = .ok (.iload 5, 2) := by decide +kernel
theorem dX12_suppers_205 : decode cX12_suppers 205 = .ok (.goto 5, 3) := by decide +kernel
theorem dX12_suppers_208 : decode cX12_suppers 208 = .ok (.iload 4, 2) := by decide +kernel
theorem dX12_suppers_210 : decode cX12_suppers 210 = .ok (.istore 4, 2) := by decide +kernel
theorem dX12_suppers_212 : decode cX12_suppers 212 = .ok (.aload_n 0, 1) := by decide +kernel
theorem dX12_suppers_213 : decode cX12_suppers 213 = .ok (.aload_n 0, 1) := by decide +kernel
theorem dX12_suppers_214 : decode cX12_suppers 214 = .ok (.getfield 135, 3) := by decide +kernel
theorem dX12_suppers_217 : decode cX12_suppers 217 = .ok (.iload 5, 2) := by decide +kernel
theorem dX12_suppers_219 : decode cX12_suppers 219 = .ok (.iaload, 1) := by decide +kernel
theorem dX12_suppers_220 : decode cX12_suppers 220 = .ok (.i2l, 1) := by decide +kernel
theorem dX12_suppers_221 : decode cX12_suppers 221 = .ok (.invokevirtual 368, 3) := by decide +kernel
theorem dX12_suppers_224 : decode cX12_suppers 224 = .ok (.iinc 5 1, 3) := by decide +kernel
theorem dX12_suppers_227 : decode cX12_suppers 227 = .ok (.goto (-50), 3) := by decide +kernel
theorem dX12_suppers_230 : decode cX12_suppers 230 = .ok (.iload 4, 2) := by decide +kernel
theorem dX12_suppers_232 : decode cX12_suppers 232 = .ok (.ireturn, 1) := by decide +kernel
def xX12_suppers_230 (s_X12_in : zq_Sp) (s_X12_laysTable : zq_Sp) (s_X12_picksAsWorth : zq_Sp) (s_X12_goesByTurns : zq_Sp) (s_X12_enters : zq_Sp) (J39 : zq_P) (J63 : zq_P) (J80 : zq_P) (J128 : zq_P) (J177 : zq_P) (Q : zq_Q) (ls : zq_L) (st : List Value) (h : zq_H) : Prop := (zi_iload 4 (zi_iret Q)) ls st h
theorem kX12_suppers_230 {X : zq_X} {d : Nat} (C : zq_C X cX12_suppers 6 RX12 d) {d_X12_in : Nat} {s_X12_in : zq_Sp} (h_X12_in : zq_M yX12_in cX12_in 6 (some .boolean) 1 d_X12_in s_X12_in) (g_X12_in : d_X12_in + 1 ≤ d) {d_X12_laysTable : Nat} {s_X12_laysTable : zq_Sp} (h_X12_laysTable : zq_M yX12_laysTable cX12_laysTable 3 none 0 d_X12_laysTable s_X12_laysTable) (g_X12_laysTable : d_X12_laysTable + 1 ≤ d) {d_X12_picksAsWorth : Nat} {s_X12_picksAsWorth : zq_Sp} (h_X12_picksAsWorth : zq_M yX12_picksAsWorth cX12_picksAsWorth 2 none 0 d_X12_picksAsWorth s_X12_picksAsWorth) (g_X12_picksAsWorth : d_X12_picksAsWorth + 1 ≤ d) {d_X12_goesByTurns : Nat} {s_X12_goesByTurns : zq_Sp} (h_X12_goesByTurns : zq_M yX12_goesByTurns cX12_goesByTurns 6 none 0 d_X12_goesByTurns s_X12_goesByTurns) (g_X12_goesByTurns : d_X12_goesByTurns + 1 ≤ d) {d_X12_enters : Nat} {s_X12_enters : zq_Sp} (h_X12_enters : zq_M yX12_enters cX12_enters 3 none 0 d_X12_enters s_X12_enters) (g_X12_enters : d_X12_enters + 1 ≤ d) {J39 : zq_P} (j39 : zq_ok X 6 39 J39) {J63 : zq_P} (j63 : zq_ok X 6 63 J63) {J80 : zq_P} (j80 : zq_ok X 6 80 J80) {J128 : zq_P} (j128 : zq_ok X 6 128 J128) {J177 : zq_P} (j177 : zq_ok X 6 177 J177) {Q : zq_Q} (hq : zq_R X (some .int) 1 Q) : zq_ok X 6 230 (xX12_suppers_230 s_X12_in s_X12_laysTable s_X12_picksAsWorth s_X12_goesByTurns s_X12_enters J39 J63 J80 J128 J177 Q) := by
  refine zs_iload C dX12_suppers_230 ?_
  exact zs_iret C hq dX12_suppers_232
def xX12_suppers_210 (s_X12_in : zq_Sp) (s_X12_laysTable : zq_Sp) (s_X12_picksAsWorth : zq_Sp) (s_X12_goesByTurns : zq_Sp) (s_X12_enters : zq_Sp) (J39 : zq_P) (J63 : zq_P) (J80 : zq_P) (J128 : zq_P) (J177 : zq_P) (Q : zq_Q) (ls : zq_L) (st : List Value) (h : zq_H) : Prop := (zi_istore 4 (zi_aload 0 (zi_aload 0 (zi_getR 56 98 (zi_iload 5 (zi_aldI 98 6 (zi_i2l (zi_callV 1 56 s_X12_enters (zi_iinc 5 1 (J177)))))))))) ls st h
theorem kX12_suppers_210 {X : zq_X} {d : Nat} (C : zq_C X cX12_suppers 6 RX12 d) {d_X12_in : Nat} {s_X12_in : zq_Sp} (h_X12_in : zq_M yX12_in cX12_in 6 (some .boolean) 1 d_X12_in s_X12_in) (g_X12_in : d_X12_in + 1 ≤ d) {d_X12_laysTable : Nat} {s_X12_laysTable : zq_Sp} (h_X12_laysTable : zq_M yX12_laysTable cX12_laysTable 3 none 0 d_X12_laysTable s_X12_laysTable) (g_X12_laysTable : d_X12_laysTable + 1 ≤ d) {d_X12_picksAsWorth : Nat} {s_X12_picksAsWorth : zq_Sp} (h_X12_picksAsWorth : zq_M yX12_picksAsWorth cX12_picksAsWorth 2 none 0 d_X12_picksAsWorth s_X12_picksAsWorth) (g_X12_picksAsWorth : d_X12_picksAsWorth + 1 ≤ d) {d_X12_goesByTurns : Nat} {s_X12_goesByTurns : zq_Sp} (h_X12_goesByTurns : zq_M yX12_goesByTurns cX12_goesByTurns 6 none 0 d_X12_goesByTurns s_X12_goesByTurns) (g_X12_goesByTurns : d_X12_goesByTurns + 1 ≤ d) {d_X12_enters : Nat} {s_X12_enters : zq_Sp} (h_X12_enters : zq_M yX12_enters cX12_enters 3 none 0 d_X12_enters s_X12_enters) (g_X12_enters : d_X12_enters + 1 ≤ d) {J39 : zq_P} (j39 : zq_ok X 6 39 J39) {J63 : zq_P} (j63 : zq_ok X 6 63 J63) {J80 : zq_P} (j80 : zq_ok X 6 80 J80) {J128 : zq_P} (j128 : zq_ok X 6 128 J128) {J177 : zq_P} (j177 : zq_ok X 6 177 J177) {Q : zq_Q} (hq : zq_R X (some .int) 1 Q) : zq_ok X 6 210 (xX12_suppers_210 s_X12_in s_X12_laysTable s_X12_picksAsWorth s_X12_goesByTurns s_X12_enters J39 J63 J80 J128 J177 Q) := by
  refine zs_istore C dX12_suppers_210 (by decide) ?_
  refine zs_aload_n C dX12_suppers_212 rfl ?_
  refine zs_aload_n C dX12_suppers_213 rfl ?_
  refine zs_getR C zp_56 zF12 (j := 63) ⟨by decide, rfl⟩ zw_1159 dX12_suppers_214 ?_
  refine zs_iload C dX12_suppers_217 ?_
  refine zs_iaload C zp_98 dX12_suppers_219 ?_
  refine zs_i2l C dX12_suppers_220 ?_
  refine zs_callV C h_X12_enters g_X12_enters zy_X12_enters zp_56 (show vwCl[12]? = some (RX12, TX12, 67) from rfl) zw_1574 zw_1576 zs9_X12_enters dX12_suppers_221 ?_
  refine zs_iinc C dX12_suppers_224 (by decide) (by decide) ?_
  exact zs_goto C dX12_suppers_227 (by decide) (j177)
def xX12_suppers_208 (s_X12_in : zq_Sp) (s_X12_laysTable : zq_Sp) (s_X12_picksAsWorth : zq_Sp) (s_X12_goesByTurns : zq_Sp) (s_X12_enters : zq_Sp) (J39 : zq_P) (J63 : zq_P) (J80 : zq_P) (J128 : zq_P) (J177 : zq_P) (Q : zq_Q) (ls : zq_L) (st : List Value) (h : zq_H) : Prop := (zi_iload 4 ((xX12_suppers_210 s_X12_in s_X12_laysTable s_X12_picksAsWorth s_X12_goesByTurns s_X12_enters J39 J63 J80 J128 J177 Q))) ls st h
theorem kX12_suppers_208 {X : zq_X} {d : Nat} (C : zq_C X cX12_suppers 6 RX12 d) {d_X12_in : Nat} {s_X12_in : zq_Sp} (h_X12_in : zq_M yX12_in cX12_in 6 (some .boolean) 1 d_X12_in s_X12_in) (g_X12_in : d_X12_in + 1 ≤ d) {d_X12_laysTable : Nat} {s_X12_laysTable : zq_Sp} (h_X12_laysTable : zq_M yX12_laysTable cX12_laysTable 3 none 0 d_X12_laysTable s_X12_laysTable) (g_X12_laysTable : d_X12_laysTable + 1 ≤ d) {d_X12_picksAsWorth : Nat} {s_X12_picksAsWorth : zq_Sp} (h_X12_picksAsWorth : zq_M yX12_picksAsWorth cX12_picksAsWorth 2 none 0 d_X12_picksAsWorth s_X12_picksAsWorth) (g_X12_picksAsWorth : d_X12_picksAsWorth + 1 ≤ d) {d_X12_goesByTurns : Nat} {s_X12_goesByTurns : zq_Sp} (h_X12_goesByTurns : zq_M yX12_goesByTurns cX12_goesByTurns 6 none 0 d_X12_goesByTurns s_X12_goesByTurns) (g_X12_goesByTurns : d_X12_goesByTurns + 1 ≤ d) {d_X12_enters : Nat} {s_X12_enters : zq_Sp} (h_X12_enters : zq_M yX12_enters cX12_enters 3 none 0 d_X12_enters s_X12_enters) (g_X12_enters : d_X12_enters + 1 ≤ d) {J39 : zq_P} (j39 : zq_ok X 6 39 J39) {J63 : zq_P} (j63 : zq_ok X 6 63 J63) {J80 : zq_P} (j80 : zq_ok X 6 80 J80) {J128 : zq_P} (j128 : zq_ok X 6 128 J128) {J177 : zq_P} (j177 : zq_ok X 6 177 J177) {Q : zq_Q} (hq : zq_R X (some .int) 1 Q) : zq_ok X 6 208 (xX12_suppers_208 s_X12_in s_X12_laysTable s_X12_picksAsWorth s_X12_goesByTurns s_X12_enters J39 J63 J80 J128 J177 Q) := by
  refine zs_iload C dX12_suppers_208 ?_
  exact kX12_suppers_210 C h_X12_in g_X12_in h_X12_laysTable g_X12_laysTable h_X12_picksAsWorth g_X12_picksAsWorth h_X12_goesByTurns g_X12_goesByTurns h_X12_enters g_X12_enters j39 j63 j80 j128 j177 hq
def xX12_suppers_203 (s_X12_in : zq_Sp) (s_X12_laysTable : zq_Sp) (s_X12_picksAsWorth : zq_Sp) (s_X12_goesByTurns : zq_Sp) (s_X12_enters : zq_Sp) (J39 : zq_P) (J63 : zq_P) (J80 : zq_P) (J128 : zq_P) (J177 : zq_P) (Q : zq_Q) (ls : zq_L) (st : List Value) (h : zq_H) : Prop := (zi_iload 5 ((xX12_suppers_210 s_X12_in s_X12_laysTable s_X12_picksAsWorth s_X12_goesByTurns s_X12_enters J39 J63 J80 J128 J177 Q))) ls st h
theorem kX12_suppers_203 {X : zq_X} {d : Nat} (C : zq_C X cX12_suppers 6 RX12 d) {d_X12_in : Nat} {s_X12_in : zq_Sp} (h_X12_in : zq_M yX12_in cX12_in 6 (some .boolean) 1 d_X12_in s_X12_in) (g_X12_in : d_X12_in + 1 ≤ d) {d_X12_laysTable : Nat} {s_X12_laysTable : zq_Sp} (h_X12_laysTable : zq_M yX12_laysTable cX12_laysTable 3 none 0 d_X12_laysTable s_X12_laysTable) (g_X12_laysTable : d_X12_laysTable + 1 ≤ d) {d_X12_picksAsWorth : Nat} {s_X12_picksAsWorth : zq_Sp} (h_X12_picksAsWorth : zq_M yX12_picksAsWorth cX12_picksAsWorth 2 none 0 d_X12_picksAsWorth s_X12_picksAsWorth) (g_X12_picksAsWorth : d_X12_picksAsWorth + 1 ≤ d) {d_X12_goesByTurns : Nat} {s_X12_goesByTurns : zq_Sp} (h_X12_goesByTurns : zq_M yX12_goesByTurns cX12_goesByTurns 6 none 0 d_X12_goesByTurns s_X12_goesByTurns) (g_X12_goesByTurns : d_X12_goesByTurns + 1 ≤ d) {d_X12_enters : Nat} {s_X12_enters : zq_Sp} (h_X12_enters : zq_M yX12_enters cX12_enters 3 none 0 d_X12_enters s_X12_enters) (g_X12_enters : d_X12_enters + 1 ≤ d) {J39 : zq_P} (j39 : zq_ok X 6 39 J39) {J63 : zq_P} (j63 : zq_ok X 6 63 J63) {J80 : zq_P} (j80 : zq_ok X 6 80 J80) {J128 : zq_P} (j128 : zq_ok X 6 128 J128) {J177 : zq_P} (j177 : zq_ok X 6 177 J177) {Q : zq_Q} (hq : zq_R X (some .int) 1 Q) : zq_ok X 6 203 (xX12_suppers_203 s_X12_in s_X12_laysTable s_X12_picksAsWorth s_X12_goesByTurns s_X12_enters J39 J63 J80 J128 J177 Q) := by
  refine zs_iload C dX12_suppers_203 ?_
  exact zs_goto C dX12_suppers_205 (by decide) (kX12_suppers_210 C h_X12_in g_X12_in h_X12_laysTable g_X12_laysTable h_X12_picksAsWorth g_X12_picksAsWorth h_X12_goesByTurns g_X12_goesByTurns h_X12_enters g_X12_enters j39 j63 j80 j128 j177 hq)
def xX12_suppers_186 (s_X12_in : zq_Sp) (s_X12_laysTable : zq_Sp) (s_X12_picksAsWorth : zq_Sp) (s_X12_goesByTurns : zq_Sp) (s_X12_enters : zq_Sp) (J39 : zq_P) (J63 : zq_P) (J80 : zq_P) (J128 : zq_P) (J177 : zq_P) (Q : zq_Q) (ls : zq_L) (st : List Value) (h : zq_H) : Prop := (zi_aload 0 (zi_getR 56 98 (zi_iload 5 (zi_aldI 98 6 (zi_aload 0 (zi_getR 56 98 (zi_iload 4 (zi_aldI 98 6 (zi_if2 (fun x y => x ≤ y) (xX12_suppers_208 s_X12_in s_X12_laysTable s_X12_picksAsWorth s_X12_goesByTurns s_X12_enters J39 J63 J80 J128 J177 Q) (xX12_suppers_203 s_X12_in s_X12_laysTable s_X12_picksAsWorth s_X12_goesByTurns s_X12_enters J39 J63 J80 J128 J177 Q)))))))))) ls st h
theorem kX12_suppers_186 {X : zq_X} {d : Nat} (C : zq_C X cX12_suppers 6 RX12 d) {d_X12_in : Nat} {s_X12_in : zq_Sp} (h_X12_in : zq_M yX12_in cX12_in 6 (some .boolean) 1 d_X12_in s_X12_in) (g_X12_in : d_X12_in + 1 ≤ d) {d_X12_laysTable : Nat} {s_X12_laysTable : zq_Sp} (h_X12_laysTable : zq_M yX12_laysTable cX12_laysTable 3 none 0 d_X12_laysTable s_X12_laysTable) (g_X12_laysTable : d_X12_laysTable + 1 ≤ d) {d_X12_picksAsWorth : Nat} {s_X12_picksAsWorth : zq_Sp} (h_X12_picksAsWorth : zq_M yX12_picksAsWorth cX12_picksAsWorth 2 none 0 d_X12_picksAsWorth s_X12_picksAsWorth) (g_X12_picksAsWorth : d_X12_picksAsWorth + 1 ≤ d) {d_X12_goesByTurns : Nat} {s_X12_goesByTurns : zq_Sp} (h_X12_goesByTurns : zq_M yX12_goesByTurns cX12_goesByTurns 6 none 0 d_X12_goesByTurns s_X12_goesByTurns) (g_X12_goesByTurns : d_X12_goesByTurns + 1 ≤ d) {d_X12_enters : Nat} {s_X12_enters : zq_Sp} (h_X12_enters : zq_M yX12_enters cX12_enters 3 none 0 d_X12_enters s_X12_enters) (g_X12_enters : d_X12_enters + 1 ≤ d) {J39 : zq_P} (j39 : zq_ok X 6 39 J39) {J63 : zq_P} (j63 : zq_ok X 6 63 J63) {J80 : zq_P} (j80 : zq_ok X 6 80 J80) {J128 : zq_P} (j128 : zq_ok X 6 128 J128) {J177 : zq_P} (j177 : zq_ok X 6 177 J177) {Q : zq_Q} (hq : zq_R X (some .int) 1 Q) : zq_ok X 6 186 (xX12_suppers_186 s_X12_in s_X12_laysTable s_X12_picksAsWorth s_X12_goesByTurns s_X12_enters J39 J63 J80 J128 J177 Q) := by
  refine zs_aload_n C dX12_suppers_186 rfl ?_
  refine zs_getR C zp_56 zF12 (j := 63) ⟨by decide, rfl⟩ zw_1159 dX12_suppers_187 ?_
  refine zs_iload C dX12_suppers_190 ?_
  refine zs_iaload C zp_98 dX12_suppers_192 ?_
  refine zs_aload_n C dX12_suppers_193 rfl ?_
  refine zs_getR C zp_56 zF12 (j := 63) ⟨by decide, rfl⟩ zw_1159 dX12_suppers_194 ?_
  refine zs_iload C dX12_suppers_197 ?_
  refine zs_iaload C zp_98 dX12_suppers_199 ?_
  exact zs_icmp_le C dX12_suppers_200 (by decide) (kX12_suppers_208 C h_X12_in g_X12_in h_X12_laysTable g_X12_laysTable h_X12_picksAsWorth g_X12_picksAsWorth h_X12_goesByTurns g_X12_goesByTurns h_X12_enters g_X12_enters j39 j63 j80 j128 j177 hq) (kX12_suppers_203 C h_X12_in g_X12_in h_X12_laysTable g_X12_laysTable h_X12_picksAsWorth g_X12_picksAsWorth h_X12_goesByTurns g_X12_goesByTurns h_X12_enters g_X12_enters j39 j63 j80 j128 j177 hq)
def xX12_suppers_177 (s_X12_in : zq_Sp) (s_X12_laysTable : zq_Sp) (s_X12_picksAsWorth : zq_Sp) (s_X12_goesByTurns : zq_Sp) (s_X12_enters : zq_Sp) (J39 : zq_P) (J63 : zq_P) (J80 : zq_P) (J128 : zq_P) (J177 : zq_P) (Q : zq_Q) (ls : zq_L) (st : List Value) (h : zq_H) : Prop := (zi_iload 5 (zi_aload 0 (zi_getI 56 4 (zi_if2 (fun x y => y ≤ x) (xX12_suppers_230 s_X12_in s_X12_laysTable s_X12_picksAsWorth s_X12_goesByTurns s_X12_enters J39 J63 J80 J128 J177 Q) (xX12_suppers_186 s_X12_in s_X12_laysTable s_X12_picksAsWorth s_X12_goesByTurns s_X12_enters J39 J63 J80 J128 J177 Q))))) ls st h
theorem kX12_suppers_177 {X : zq_X} {d : Nat} (C : zq_C X cX12_suppers 6 RX12 d) {d_X12_in : Nat} {s_X12_in : zq_Sp} (h_X12_in : zq_M yX12_in cX12_in 6 (some .boolean) 1 d_X12_in s_X12_in) (g_X12_in : d_X12_in + 1 ≤ d) {d_X12_laysTable : Nat} {s_X12_laysTable : zq_Sp} (h_X12_laysTable : zq_M yX12_laysTable cX12_laysTable 3 none 0 d_X12_laysTable s_X12_laysTable) (g_X12_laysTable : d_X12_laysTable + 1 ≤ d) {d_X12_picksAsWorth : Nat} {s_X12_picksAsWorth : zq_Sp} (h_X12_picksAsWorth : zq_M yX12_picksAsWorth cX12_picksAsWorth 2 none 0 d_X12_picksAsWorth s_X12_picksAsWorth) (g_X12_picksAsWorth : d_X12_picksAsWorth + 1 ≤ d) {d_X12_goesByTurns : Nat} {s_X12_goesByTurns : zq_Sp} (h_X12_goesByTurns : zq_M yX12_goesByTurns cX12_goesByTurns 6 none 0 d_X12_goesByTurns s_X12_goesByTurns) (g_X12_goesByTurns : d_X12_goesByTurns + 1 ≤ d) {d_X12_enters : Nat} {s_X12_enters : zq_Sp} (h_X12_enters : zq_M yX12_enters cX12_enters 3 none 0 d_X12_enters s_X12_enters) (g_X12_enters : d_X12_enters + 1 ≤ d) {J39 : zq_P} (j39 : zq_ok X 6 39 J39) {J63 : zq_P} (j63 : zq_ok X 6 63 J63) {J80 : zq_P} (j80 : zq_ok X 6 80 J80) {J128 : zq_P} (j128 : zq_ok X 6 128 J128) {J177 : zq_P} (j177 : zq_ok X 6 177 J177) {Q : zq_Q} (hq : zq_R X (some .int) 1 Q) : zq_ok X 6 177 (xX12_suppers_177 s_X12_in s_X12_laysTable s_X12_picksAsWorth s_X12_goesByTurns s_X12_enters J39 J63 J80 J128 J177 Q) := by
  refine zs_iload C dX12_suppers_177 ?_
  refine zs_aload_n C dX12_suppers_179 rfl ?_
  refine zs_getI C zp_56 zF12 (j := 4) ⟨by decide, rfl⟩ zw_1100 dX12_suppers_180 ?_
  exact zs_icmp_ge C dX12_suppers_183 (by decide) (kX12_suppers_230 C h_X12_in g_X12_in h_X12_laysTable g_X12_laysTable h_X12_picksAsWorth g_X12_picksAsWorth h_X12_goesByTurns g_X12_goesByTurns h_X12_enters g_X12_enters j39 j63 j80 j128 j177 hq) (kX12_suppers_186 C h_X12_in g_X12_in h_X12_laysTable g_X12_laysTable h_X12_picksAsWorth g_X12_picksAsWorth h_X12_goesByTurns g_X12_goesByTurns h_X12_enters g_X12_enters j39 j63 j80 j128 j177 hq)
def xX12_suppers_166 (s_X12_in : zq_Sp) (s_X12_laysTable : zq_Sp) (s_X12_picksAsWorth : zq_Sp) (s_X12_goesByTurns : zq_Sp) (s_X12_enters : zq_Sp) (J39 : zq_P) (J63 : zq_P) (J80 : zq_P) (J128 : zq_P) (J177 : zq_P) (Q : zq_Q) (ls : zq_L) (st : List Value) (h : zq_H) : Prop := (zi_push (.int 0) (zi_istore 4 (zi_aload 0 (zi_push (.int 0) (zi_putI 56 1 (zi_push (.int 0) (zi_istore 5 (J177)))))))) ls st h
theorem kX12_suppers_166 {X : zq_X} {d : Nat} (C : zq_C X cX12_suppers 6 RX12 d) {d_X12_in : Nat} {s_X12_in : zq_Sp} (h_X12_in : zq_M yX12_in cX12_in 6 (some .boolean) 1 d_X12_in s_X12_in) (g_X12_in : d_X12_in + 1 ≤ d) {d_X12_laysTable : Nat} {s_X12_laysTable : zq_Sp} (h_X12_laysTable : zq_M yX12_laysTable cX12_laysTable 3 none 0 d_X12_laysTable s_X12_laysTable) (g_X12_laysTable : d_X12_laysTable + 1 ≤ d) {d_X12_picksAsWorth : Nat} {s_X12_picksAsWorth : zq_Sp} (h_X12_picksAsWorth : zq_M yX12_picksAsWorth cX12_picksAsWorth 2 none 0 d_X12_picksAsWorth s_X12_picksAsWorth) (g_X12_picksAsWorth : d_X12_picksAsWorth + 1 ≤ d) {d_X12_goesByTurns : Nat} {s_X12_goesByTurns : zq_Sp} (h_X12_goesByTurns : zq_M yX12_goesByTurns cX12_goesByTurns 6 none 0 d_X12_goesByTurns s_X12_goesByTurns) (g_X12_goesByTurns : d_X12_goesByTurns + 1 ≤ d) {d_X12_enters : Nat} {s_X12_enters : zq_Sp} (h_X12_enters : zq_M yX12_enters cX12_enters 3 none 0 d_X12_enters s_X12_enters) (g_X12_enters : d_X12_enters + 1 ≤ d) {J39 : zq_P} (j39 : zq_ok X 6 39 J39) {J63 : zq_P} (j63 : zq_ok X 6 63 J63) {J80 : zq_P} (j80 : zq_ok X 6 80 J80) {J128 : zq_P} (j128 : zq_ok X 6 128 J128) {J177 : zq_P} (j177 : zq_ok X 6 177 J177) {Q : zq_Q} (hq : zq_R X (some .int) 1 Q) : zq_ok X 6 166 (xX12_suppers_166 s_X12_in s_X12_laysTable s_X12_picksAsWorth s_X12_goesByTurns s_X12_enters J39 J63 J80 J128 J177 Q) := by
  refine zs_iconst C dX12_suppers_166 (by decide) ?_
  refine zs_istore C dX12_suppers_167 (by decide) ?_
  refine zs_aload_n C dX12_suppers_169 rfl ?_
  refine zs_iconst C dX12_suppers_170 (by decide) ?_
  refine zs_putI C zp_56 zF12 (j := 1) ⟨by decide, rfl⟩ ⟨rfl, by decide +kernel⟩ zw_1097 dX12_suppers_171 ?_
  refine zs_iconst C dX12_suppers_174 (by decide) ?_
  refine zs_istore C dX12_suppers_175 (by decide) ?_
  exact j177
def xX12_suppers_160 (s_X12_in : zq_Sp) (s_X12_laysTable : zq_Sp) (s_X12_picksAsWorth : zq_Sp) (s_X12_goesByTurns : zq_Sp) (s_X12_enters : zq_Sp) (J39 : zq_P) (J63 : zq_P) (J80 : zq_P) (J128 : zq_P) (J177 : zq_P) (Q : zq_Q) (ls : zq_L) (st : List Value) (h : zq_H) : Prop := (zi_iinc 4 1 (J63)) ls st h
theorem kX12_suppers_160 {X : zq_X} {d : Nat} (C : zq_C X cX12_suppers 6 RX12 d) {d_X12_in : Nat} {s_X12_in : zq_Sp} (h_X12_in : zq_M yX12_in cX12_in 6 (some .boolean) 1 d_X12_in s_X12_in) (g_X12_in : d_X12_in + 1 ≤ d) {d_X12_laysTable : Nat} {s_X12_laysTable : zq_Sp} (h_X12_laysTable : zq_M yX12_laysTable cX12_laysTable 3 none 0 d_X12_laysTable s_X12_laysTable) (g_X12_laysTable : d_X12_laysTable + 1 ≤ d) {d_X12_picksAsWorth : Nat} {s_X12_picksAsWorth : zq_Sp} (h_X12_picksAsWorth : zq_M yX12_picksAsWorth cX12_picksAsWorth 2 none 0 d_X12_picksAsWorth s_X12_picksAsWorth) (g_X12_picksAsWorth : d_X12_picksAsWorth + 1 ≤ d) {d_X12_goesByTurns : Nat} {s_X12_goesByTurns : zq_Sp} (h_X12_goesByTurns : zq_M yX12_goesByTurns cX12_goesByTurns 6 none 0 d_X12_goesByTurns s_X12_goesByTurns) (g_X12_goesByTurns : d_X12_goesByTurns + 1 ≤ d) {d_X12_enters : Nat} {s_X12_enters : zq_Sp} (h_X12_enters : zq_M yX12_enters cX12_enters 3 none 0 d_X12_enters s_X12_enters) (g_X12_enters : d_X12_enters + 1 ≤ d) {J39 : zq_P} (j39 : zq_ok X 6 39 J39) {J63 : zq_P} (j63 : zq_ok X 6 63 J63) {J80 : zq_P} (j80 : zq_ok X 6 80 J80) {J128 : zq_P} (j128 : zq_ok X 6 128 J128) {J177 : zq_P} (j177 : zq_ok X 6 177 J177) {Q : zq_Q} (hq : zq_R X (some .int) 1 Q) : zq_ok X 6 160 (xX12_suppers_160 s_X12_in s_X12_laysTable s_X12_picksAsWorth s_X12_goesByTurns s_X12_enters J39 J63 J80 J128 J177 Q) := by
  refine zs_iinc C dX12_suppers_160 (by decide) (by decide) ?_
  exact zs_goto C dX12_suppers_163 (by decide) (j63)
def xX12_suppers_137 (s_X12_in : zq_Sp) (s_X12_laysTable : zq_Sp) (s_X12_picksAsWorth : zq_Sp) (s_X12_goesByTurns : zq_Sp) (s_X12_enters : zq_Sp) (J39 : zq_P) (J63 : zq_P) (J80 : zq_P) (J128 : zq_P) (J177 : zq_P) (Q : zq_Q) (ls : zq_L) (st : List Value) (h : zq_H) : Prop := (zi_aload 0 (zi_getR 56 98 (zi_iload 5 (zi_dup2 (zi_aldI 98 6 (zi_aload 0 (zi_getR 56 90 (zi_iload 5 (zi_aldI 90 6 (zi_i2 (fun x y => x + y) (zi_astI 98 6 (zi_iinc 5 1 (J128))))))))))))) ls st h
theorem kX12_suppers_137 {X : zq_X} {d : Nat} (C : zq_C X cX12_suppers 6 RX12 d) {d_X12_in : Nat} {s_X12_in : zq_Sp} (h_X12_in : zq_M yX12_in cX12_in 6 (some .boolean) 1 d_X12_in s_X12_in) (g_X12_in : d_X12_in + 1 ≤ d) {d_X12_laysTable : Nat} {s_X12_laysTable : zq_Sp} (h_X12_laysTable : zq_M yX12_laysTable cX12_laysTable 3 none 0 d_X12_laysTable s_X12_laysTable) (g_X12_laysTable : d_X12_laysTable + 1 ≤ d) {d_X12_picksAsWorth : Nat} {s_X12_picksAsWorth : zq_Sp} (h_X12_picksAsWorth : zq_M yX12_picksAsWorth cX12_picksAsWorth 2 none 0 d_X12_picksAsWorth s_X12_picksAsWorth) (g_X12_picksAsWorth : d_X12_picksAsWorth + 1 ≤ d) {d_X12_goesByTurns : Nat} {s_X12_goesByTurns : zq_Sp} (h_X12_goesByTurns : zq_M yX12_goesByTurns cX12_goesByTurns 6 none 0 d_X12_goesByTurns s_X12_goesByTurns) (g_X12_goesByTurns : d_X12_goesByTurns + 1 ≤ d) {d_X12_enters : Nat} {s_X12_enters : zq_Sp} (h_X12_enters : zq_M yX12_enters cX12_enters 3 none 0 d_X12_enters s_X12_enters) (g_X12_enters : d_X12_enters + 1 ≤ d) {J39 : zq_P} (j39 : zq_ok X 6 39 J39) {J63 : zq_P} (j63 : zq_ok X 6 63 J63) {J80 : zq_P} (j80 : zq_ok X 6 80 J80) {J128 : zq_P} (j128 : zq_ok X 6 128 J128) {J177 : zq_P} (j177 : zq_ok X 6 177 J177) {Q : zq_Q} (hq : zq_R X (some .int) 1 Q) : zq_ok X 6 137 (xX12_suppers_137 s_X12_in s_X12_laysTable s_X12_picksAsWorth s_X12_goesByTurns s_X12_enters J39 J63 J80 J128 J177 Q) := by
  refine zs_aload_n C dX12_suppers_137 rfl ?_
  refine zs_getR C zp_56 zF12 (j := 63) ⟨by decide, rfl⟩ zw_1159 dX12_suppers_138 ?_
  refine zs_iload C dX12_suppers_141 ?_
  refine zs_dup2 C dX12_suppers_143 ?_
  refine zs_iaload C zp_98 dX12_suppers_144 ?_
  refine zs_aload_n C dX12_suppers_145 rfl ?_
  refine zs_getR C zp_56 zF12 (j := 52) ⟨by decide, rfl⟩ zw_1148 dX12_suppers_146 ?_
  refine zs_iload C dX12_suppers_149 ?_
  refine zs_iaload C zp_90 dX12_suppers_151 ?_
  refine zs_iadd C dX12_suppers_152 ?_
  refine zs_iastore C zp_98 dX12_suppers_153 ?_
  refine zs_iinc C dX12_suppers_154 (by decide) (by decide) ?_
  exact zs_goto C dX12_suppers_157 (by decide) (j128)
def xX12_suppers_128 (s_X12_in : zq_Sp) (s_X12_laysTable : zq_Sp) (s_X12_picksAsWorth : zq_Sp) (s_X12_goesByTurns : zq_Sp) (s_X12_enters : zq_Sp) (J39 : zq_P) (J63 : zq_P) (J80 : zq_P) (J128 : zq_P) (J177 : zq_P) (Q : zq_Q) (ls : zq_L) (st : List Value) (h : zq_H) : Prop := (zi_iload 5 (zi_aload 0 (zi_getI 56 4 (zi_if2 (fun x y => y ≤ x) (xX12_suppers_160 s_X12_in s_X12_laysTable s_X12_picksAsWorth s_X12_goesByTurns s_X12_enters J39 J63 J80 J128 J177 Q) (xX12_suppers_137 s_X12_in s_X12_laysTable s_X12_picksAsWorth s_X12_goesByTurns s_X12_enters J39 J63 J80 J128 J177 Q))))) ls st h
theorem kX12_suppers_128 {X : zq_X} {d : Nat} (C : zq_C X cX12_suppers 6 RX12 d) {d_X12_in : Nat} {s_X12_in : zq_Sp} (h_X12_in : zq_M yX12_in cX12_in 6 (some .boolean) 1 d_X12_in s_X12_in) (g_X12_in : d_X12_in + 1 ≤ d) {d_X12_laysTable : Nat} {s_X12_laysTable : zq_Sp} (h_X12_laysTable : zq_M yX12_laysTable cX12_laysTable 3 none 0 d_X12_laysTable s_X12_laysTable) (g_X12_laysTable : d_X12_laysTable + 1 ≤ d) {d_X12_picksAsWorth : Nat} {s_X12_picksAsWorth : zq_Sp} (h_X12_picksAsWorth : zq_M yX12_picksAsWorth cX12_picksAsWorth 2 none 0 d_X12_picksAsWorth s_X12_picksAsWorth) (g_X12_picksAsWorth : d_X12_picksAsWorth + 1 ≤ d) {d_X12_goesByTurns : Nat} {s_X12_goesByTurns : zq_Sp} (h_X12_goesByTurns : zq_M yX12_goesByTurns cX12_goesByTurns 6 none 0 d_X12_goesByTurns s_X12_goesByTurns) (g_X12_goesByTurns : d_X12_goesByTurns + 1 ≤ d) {d_X12_enters : Nat} {s_X12_enters : zq_Sp} (h_X12_enters : zq_M yX12_enters cX12_enters 3 none 0 d_X12_enters s_X12_enters) (g_X12_enters : d_X12_enters + 1 ≤ d) {J39 : zq_P} (j39 : zq_ok X 6 39 J39) {J63 : zq_P} (j63 : zq_ok X 6 63 J63) {J80 : zq_P} (j80 : zq_ok X 6 80 J80) {J128 : zq_P} (j128 : zq_ok X 6 128 J128) {J177 : zq_P} (j177 : zq_ok X 6 177 J177) {Q : zq_Q} (hq : zq_R X (some .int) 1 Q) : zq_ok X 6 128 (xX12_suppers_128 s_X12_in s_X12_laysTable s_X12_picksAsWorth s_X12_goesByTurns s_X12_enters J39 J63 J80 J128 J177 Q) := by
  refine zs_iload C dX12_suppers_128 ?_
  refine zs_aload_n C dX12_suppers_130 rfl ?_
  refine zs_getI C zp_56 zF12 (j := 4) ⟨by decide, rfl⟩ zw_1100 dX12_suppers_131 ?_
  exact zs_icmp_ge C dX12_suppers_134 (by decide) (kX12_suppers_160 C h_X12_in g_X12_in h_X12_laysTable g_X12_laysTable h_X12_picksAsWorth g_X12_picksAsWorth h_X12_goesByTurns g_X12_goesByTurns h_X12_enters g_X12_enters j39 j63 j80 j128 j177 hq) (kX12_suppers_137 C h_X12_in g_X12_in h_X12_laysTable g_X12_laysTable h_X12_picksAsWorth g_X12_picksAsWorth h_X12_goesByTurns g_X12_goesByTurns h_X12_enters g_X12_enters j39 j63 j80 j128 j177 hq)
def xX12_suppers_121 (s_X12_in : zq_Sp) (s_X12_laysTable : zq_Sp) (s_X12_picksAsWorth : zq_Sp) (s_X12_goesByTurns : zq_Sp) (s_X12_enters : zq_Sp) (J39 : zq_P) (J63 : zq_P) (J80 : zq_P) (J128 : zq_P) (J177 : zq_P) (Q : zq_Q) (ls : zq_L) (st : List Value) (h : zq_H) : Prop := (zi_aload 0 (zi_callV 0 56 s_X12_goesByTurns (zi_push (.int 0) (zi_istore 5 (J128))))) ls st h
theorem kX12_suppers_121 {X : zq_X} {d : Nat} (C : zq_C X cX12_suppers 6 RX12 d) {d_X12_in : Nat} {s_X12_in : zq_Sp} (h_X12_in : zq_M yX12_in cX12_in 6 (some .boolean) 1 d_X12_in s_X12_in) (g_X12_in : d_X12_in + 1 ≤ d) {d_X12_laysTable : Nat} {s_X12_laysTable : zq_Sp} (h_X12_laysTable : zq_M yX12_laysTable cX12_laysTable 3 none 0 d_X12_laysTable s_X12_laysTable) (g_X12_laysTable : d_X12_laysTable + 1 ≤ d) {d_X12_picksAsWorth : Nat} {s_X12_picksAsWorth : zq_Sp} (h_X12_picksAsWorth : zq_M yX12_picksAsWorth cX12_picksAsWorth 2 none 0 d_X12_picksAsWorth s_X12_picksAsWorth) (g_X12_picksAsWorth : d_X12_picksAsWorth + 1 ≤ d) {d_X12_goesByTurns : Nat} {s_X12_goesByTurns : zq_Sp} (h_X12_goesByTurns : zq_M yX12_goesByTurns cX12_goesByTurns 6 none 0 d_X12_goesByTurns s_X12_goesByTurns) (g_X12_goesByTurns : d_X12_goesByTurns + 1 ≤ d) {d_X12_enters : Nat} {s_X12_enters : zq_Sp} (h_X12_enters : zq_M yX12_enters cX12_enters 3 none 0 d_X12_enters s_X12_enters) (g_X12_enters : d_X12_enters + 1 ≤ d) {J39 : zq_P} (j39 : zq_ok X 6 39 J39) {J63 : zq_P} (j63 : zq_ok X 6 63 J63) {J80 : zq_P} (j80 : zq_ok X 6 80 J80) {J128 : zq_P} (j128 : zq_ok X 6 128 J128) {J177 : zq_P} (j177 : zq_ok X 6 177 J177) {Q : zq_Q} (hq : zq_R X (some .int) 1 Q) : zq_ok X 6 121 (xX12_suppers_121 s_X12_in s_X12_laysTable s_X12_picksAsWorth s_X12_goesByTurns s_X12_enters J39 J63 J80 J128 J177 Q) := by
  refine zs_aload_n C dX12_suppers_121 rfl ?_
  refine zs_callV C h_X12_goesByTurns g_X12_goesByTurns zy_X12_goesByTurns zp_56 (show vwCl[12]? = some (RX12, TX12, 67) from rfl) zw_1692 zw_1694 zs9_X12_goesByTurns dX12_suppers_122 ?_
  refine zs_iconst C dX12_suppers_125 (by decide) ?_
  refine zs_istore C dX12_suppers_126 (by decide) ?_
  exact j128
def xX12_suppers_89 (s_X12_in : zq_Sp) (s_X12_laysTable : zq_Sp) (s_X12_picksAsWorth : zq_Sp) (s_X12_goesByTurns : zq_Sp) (s_X12_enters : zq_Sp) (J39 : zq_P) (J63 : zq_P) (J80 : zq_P) (J128 : zq_P) (J177 : zq_P) (Q : zq_Q) (ls : zq_L) (st : List Value) (h : zq_H) : Prop := (zi_iload 3 (zi_push (.int 1103515245) (zi_i2 (fun x y => x * y) (zi_push (.int 12345) (zi_i2 (fun x y => x + y) (zi_istore 3 (zi_aload 0 (zi_getR 56 88 (zi_iload 5 (zi_iload 3 (zi_push (.int 16) (zi_i2 zf_ushr (zi_aload 0 (zi_getI 56 4 (zi_idv zf_rem (zi_astI 88 16 (zi_iinc 5 1 (J80)))))))))))))))))) ls st h
theorem kX12_suppers_89 {X : zq_X} {d : Nat} (C : zq_C X cX12_suppers 6 RX12 d) {d_X12_in : Nat} {s_X12_in : zq_Sp} (h_X12_in : zq_M yX12_in cX12_in 6 (some .boolean) 1 d_X12_in s_X12_in) (g_X12_in : d_X12_in + 1 ≤ d) {d_X12_laysTable : Nat} {s_X12_laysTable : zq_Sp} (h_X12_laysTable : zq_M yX12_laysTable cX12_laysTable 3 none 0 d_X12_laysTable s_X12_laysTable) (g_X12_laysTable : d_X12_laysTable + 1 ≤ d) {d_X12_picksAsWorth : Nat} {s_X12_picksAsWorth : zq_Sp} (h_X12_picksAsWorth : zq_M yX12_picksAsWorth cX12_picksAsWorth 2 none 0 d_X12_picksAsWorth s_X12_picksAsWorth) (g_X12_picksAsWorth : d_X12_picksAsWorth + 1 ≤ d) {d_X12_goesByTurns : Nat} {s_X12_goesByTurns : zq_Sp} (h_X12_goesByTurns : zq_M yX12_goesByTurns cX12_goesByTurns 6 none 0 d_X12_goesByTurns s_X12_goesByTurns) (g_X12_goesByTurns : d_X12_goesByTurns + 1 ≤ d) {d_X12_enters : Nat} {s_X12_enters : zq_Sp} (h_X12_enters : zq_M yX12_enters cX12_enters 3 none 0 d_X12_enters s_X12_enters) (g_X12_enters : d_X12_enters + 1 ≤ d) {J39 : zq_P} (j39 : zq_ok X 6 39 J39) {J63 : zq_P} (j63 : zq_ok X 6 63 J63) {J80 : zq_P} (j80 : zq_ok X 6 80 J80) {J128 : zq_P} (j128 : zq_ok X 6 128 J128) {J177 : zq_P} (j177 : zq_ok X 6 177 J177) {Q : zq_Q} (hq : zq_R X (some .int) 1 Q) : zq_ok X 6 89 (xX12_suppers_89 s_X12_in s_X12_laysTable s_X12_picksAsWorth s_X12_goesByTurns s_X12_enters J39 J63 J80 J128 J177 Q) := by
  refine zs_iload_n C dX12_suppers_89 rfl ?_
  refine zs_ldcw C dX12_suppers_90 zw_1768 ?_
  refine zs_imul C dX12_suppers_93 ?_
  refine zs_sipush C dX12_suppers_94 (by decide) ?_
  refine zs_iadd C dX12_suppers_97 ?_
  refine zs_istore_n C dX12_suppers_98 rfl (by decide) ?_
  refine zs_aload_n C dX12_suppers_99 rfl ?_
  refine zs_getR C zp_56 zF12 (j := 48) ⟨by decide, rfl⟩ zw_1144 dX12_suppers_100 ?_
  refine zs_iload C dX12_suppers_103 ?_
  refine zs_iload_n C dX12_suppers_105 rfl ?_
  refine zs_bipush C dX12_suppers_106 (by decide) ?_
  refine zs_iushr C dX12_suppers_108 ?_
  refine zs_aload_n C dX12_suppers_109 rfl ?_
  refine zs_getI C zp_56 zF12 (j := 4) ⟨by decide, rfl⟩ zw_1100 dX12_suppers_110 ?_
  refine zs_irem C dX12_suppers_113 ?_
  refine zs_iastore C zp_88 dX12_suppers_114 ?_
  refine zs_iinc C dX12_suppers_115 (by decide) (by decide) ?_
  exact zs_goto C dX12_suppers_118 (by decide) (j80)
def xX12_suppers_80 (s_X12_in : zq_Sp) (s_X12_laysTable : zq_Sp) (s_X12_picksAsWorth : zq_Sp) (s_X12_goesByTurns : zq_Sp) (s_X12_enters : zq_Sp) (J39 : zq_P) (J63 : zq_P) (J80 : zq_P) (J128 : zq_P) (J177 : zq_P) (Q : zq_Q) (ls : zq_L) (st : List Value) (h : zq_H) : Prop := (zi_iload 5 (zi_aload 0 (zi_getI 56 3 (zi_if2 (fun x y => y ≤ x) (xX12_suppers_121 s_X12_in s_X12_laysTable s_X12_picksAsWorth s_X12_goesByTurns s_X12_enters J39 J63 J80 J128 J177 Q) (xX12_suppers_89 s_X12_in s_X12_laysTable s_X12_picksAsWorth s_X12_goesByTurns s_X12_enters J39 J63 J80 J128 J177 Q))))) ls st h
theorem kX12_suppers_80 {X : zq_X} {d : Nat} (C : zq_C X cX12_suppers 6 RX12 d) {d_X12_in : Nat} {s_X12_in : zq_Sp} (h_X12_in : zq_M yX12_in cX12_in 6 (some .boolean) 1 d_X12_in s_X12_in) (g_X12_in : d_X12_in + 1 ≤ d) {d_X12_laysTable : Nat} {s_X12_laysTable : zq_Sp} (h_X12_laysTable : zq_M yX12_laysTable cX12_laysTable 3 none 0 d_X12_laysTable s_X12_laysTable) (g_X12_laysTable : d_X12_laysTable + 1 ≤ d) {d_X12_picksAsWorth : Nat} {s_X12_picksAsWorth : zq_Sp} (h_X12_picksAsWorth : zq_M yX12_picksAsWorth cX12_picksAsWorth 2 none 0 d_X12_picksAsWorth s_X12_picksAsWorth) (g_X12_picksAsWorth : d_X12_picksAsWorth + 1 ≤ d) {d_X12_goesByTurns : Nat} {s_X12_goesByTurns : zq_Sp} (h_X12_goesByTurns : zq_M yX12_goesByTurns cX12_goesByTurns 6 none 0 d_X12_goesByTurns s_X12_goesByTurns) (g_X12_goesByTurns : d_X12_goesByTurns + 1 ≤ d) {d_X12_enters : Nat} {s_X12_enters : zq_Sp} (h_X12_enters : zq_M yX12_enters cX12_enters 3 none 0 d_X12_enters s_X12_enters) (g_X12_enters : d_X12_enters + 1 ≤ d) {J39 : zq_P} (j39 : zq_ok X 6 39 J39) {J63 : zq_P} (j63 : zq_ok X 6 63 J63) {J80 : zq_P} (j80 : zq_ok X 6 80 J80) {J128 : zq_P} (j128 : zq_ok X 6 128 J128) {J177 : zq_P} (j177 : zq_ok X 6 177 J177) {Q : zq_Q} (hq : zq_R X (some .int) 1 Q) : zq_ok X 6 80 (xX12_suppers_80 s_X12_in s_X12_laysTable s_X12_picksAsWorth s_X12_goesByTurns s_X12_enters J39 J63 J80 J128 J177 Q) := by
  refine zs_iload C dX12_suppers_80 ?_
  refine zs_aload_n C dX12_suppers_82 rfl ?_
  refine zs_getI C zp_56 zF12 (j := 3) ⟨by decide, rfl⟩ zw_1099 dX12_suppers_83 ?_
  exact zs_icmp_ge C dX12_suppers_86 (by decide) (kX12_suppers_121 C h_X12_in g_X12_in h_X12_laysTable g_X12_laysTable h_X12_picksAsWorth g_X12_picksAsWorth h_X12_goesByTurns g_X12_goesByTurns h_X12_enters g_X12_enters j39 j63 j80 j128 j177 hq) (kX12_suppers_89 C h_X12_in g_X12_in h_X12_laysTable g_X12_laysTable h_X12_picksAsWorth g_X12_picksAsWorth h_X12_goesByTurns g_X12_goesByTurns h_X12_enters g_X12_enters j39 j63 j80 j128 j177 hq)
def xX12_suppers_69 (s_X12_in : zq_Sp) (s_X12_laysTable : zq_Sp) (s_X12_picksAsWorth : zq_Sp) (s_X12_goesByTurns : zq_Sp) (s_X12_enters : zq_Sp) (J39 : zq_P) (J63 : zq_P) (J80 : zq_P) (J128 : zq_P) (J177 : zq_P) (Q : zq_Q) (ls : zq_L) (st : List Value) (h : zq_H) : Prop := (zi_aload 0 (zi_aload 0 (zi_getI 56 3 (zi_putI 56 49 (zi_push (.int 0) (zi_istore 5 (J80))))))) ls st h
theorem kX12_suppers_69 {X : zq_X} {d : Nat} (C : zq_C X cX12_suppers 6 RX12 d) {d_X12_in : Nat} {s_X12_in : zq_Sp} (h_X12_in : zq_M yX12_in cX12_in 6 (some .boolean) 1 d_X12_in s_X12_in) (g_X12_in : d_X12_in + 1 ≤ d) {d_X12_laysTable : Nat} {s_X12_laysTable : zq_Sp} (h_X12_laysTable : zq_M yX12_laysTable cX12_laysTable 3 none 0 d_X12_laysTable s_X12_laysTable) (g_X12_laysTable : d_X12_laysTable + 1 ≤ d) {d_X12_picksAsWorth : Nat} {s_X12_picksAsWorth : zq_Sp} (h_X12_picksAsWorth : zq_M yX12_picksAsWorth cX12_picksAsWorth 2 none 0 d_X12_picksAsWorth s_X12_picksAsWorth) (g_X12_picksAsWorth : d_X12_picksAsWorth + 1 ≤ d) {d_X12_goesByTurns : Nat} {s_X12_goesByTurns : zq_Sp} (h_X12_goesByTurns : zq_M yX12_goesByTurns cX12_goesByTurns 6 none 0 d_X12_goesByTurns s_X12_goesByTurns) (g_X12_goesByTurns : d_X12_goesByTurns + 1 ≤ d) {d_X12_enters : Nat} {s_X12_enters : zq_Sp} (h_X12_enters : zq_M yX12_enters cX12_enters 3 none 0 d_X12_enters s_X12_enters) (g_X12_enters : d_X12_enters + 1 ≤ d) {J39 : zq_P} (j39 : zq_ok X 6 39 J39) {J63 : zq_P} (j63 : zq_ok X 6 63 J63) {J80 : zq_P} (j80 : zq_ok X 6 80 J80) {J128 : zq_P} (j128 : zq_ok X 6 128 J128) {J177 : zq_P} (j177 : zq_ok X 6 177 J177) {Q : zq_Q} (hq : zq_R X (some .int) 1 Q) : zq_ok X 6 69 (xX12_suppers_69 s_X12_in s_X12_laysTable s_X12_picksAsWorth s_X12_goesByTurns s_X12_enters J39 J63 J80 J128 J177 Q) := by
  refine zs_aload_n C dX12_suppers_69 rfl ?_
  refine zs_aload_n C dX12_suppers_70 rfl ?_
  refine zs_getI C zp_56 zF12 (j := 3) ⟨by decide, rfl⟩ zw_1099 dX12_suppers_71 ?_
  refine zs_putI C zp_56 zF12 (j := 49) ⟨by decide, rfl⟩ ⟨rfl, by decide +kernel⟩ zw_1145 dX12_suppers_74 ?_
  refine zs_iconst C dX12_suppers_77 (by decide) ?_
  refine zs_istore C dX12_suppers_78 (by decide) ?_
  exact j80
def xX12_suppers_63 (s_X12_in : zq_Sp) (s_X12_laysTable : zq_Sp) (s_X12_picksAsWorth : zq_Sp) (s_X12_goesByTurns : zq_Sp) (s_X12_enters : zq_Sp) (J39 : zq_P) (J63 : zq_P) (J80 : zq_P) (J128 : zq_P) (J177 : zq_P) (Q : zq_Q) (ls : zq_L) (st : List Value) (h : zq_H) : Prop := (zi_iload 4 (zi_iload 2 (zi_if2 (fun x y => y ≤ x) (xX12_suppers_166 s_X12_in s_X12_laysTable s_X12_picksAsWorth s_X12_goesByTurns s_X12_enters J39 J63 J80 J128 J177 Q) (xX12_suppers_69 s_X12_in s_X12_laysTable s_X12_picksAsWorth s_X12_goesByTurns s_X12_enters J39 J63 J80 J128 J177 Q)))) ls st h
theorem kX12_suppers_63 {X : zq_X} {d : Nat} (C : zq_C X cX12_suppers 6 RX12 d) {d_X12_in : Nat} {s_X12_in : zq_Sp} (h_X12_in : zq_M yX12_in cX12_in 6 (some .boolean) 1 d_X12_in s_X12_in) (g_X12_in : d_X12_in + 1 ≤ d) {d_X12_laysTable : Nat} {s_X12_laysTable : zq_Sp} (h_X12_laysTable : zq_M yX12_laysTable cX12_laysTable 3 none 0 d_X12_laysTable s_X12_laysTable) (g_X12_laysTable : d_X12_laysTable + 1 ≤ d) {d_X12_picksAsWorth : Nat} {s_X12_picksAsWorth : zq_Sp} (h_X12_picksAsWorth : zq_M yX12_picksAsWorth cX12_picksAsWorth 2 none 0 d_X12_picksAsWorth s_X12_picksAsWorth) (g_X12_picksAsWorth : d_X12_picksAsWorth + 1 ≤ d) {d_X12_goesByTurns : Nat} {s_X12_goesByTurns : zq_Sp} (h_X12_goesByTurns : zq_M yX12_goesByTurns cX12_goesByTurns 6 none 0 d_X12_goesByTurns s_X12_goesByTurns) (g_X12_goesByTurns : d_X12_goesByTurns + 1 ≤ d) {d_X12_enters : Nat} {s_X12_enters : zq_Sp} (h_X12_enters : zq_M yX12_enters cX12_enters 3 none 0 d_X12_enters s_X12_enters) (g_X12_enters : d_X12_enters + 1 ≤ d) {J39 : zq_P} (j39 : zq_ok X 6 39 J39) {J63 : zq_P} (j63 : zq_ok X 6 63 J63) {J80 : zq_P} (j80 : zq_ok X 6 80 J80) {J128 : zq_P} (j128 : zq_ok X 6 128 J128) {J177 : zq_P} (j177 : zq_ok X 6 177 J177) {Q : zq_Q} (hq : zq_R X (some .int) 1 Q) : zq_ok X 6 63 (xX12_suppers_63 s_X12_in s_X12_laysTable s_X12_picksAsWorth s_X12_goesByTurns s_X12_enters J39 J63 J80 J128 J177 Q) := by
  refine zs_iload C dX12_suppers_63 ?_
  refine zs_iload_n C dX12_suppers_65 rfl ?_
  exact zs_icmp_ge C dX12_suppers_66 (by decide) (kX12_suppers_166 C h_X12_in g_X12_in h_X12_laysTable g_X12_laysTable h_X12_picksAsWorth g_X12_picksAsWorth h_X12_goesByTurns g_X12_goesByTurns h_X12_enters g_X12_enters j39 j63 j80 j128 j177 hq) (kX12_suppers_69 C h_X12_in g_X12_in h_X12_laysTable g_X12_laysTable h_X12_picksAsWorth g_X12_picksAsWorth h_X12_goesByTurns g_X12_goesByTurns h_X12_enters g_X12_enters j39 j63 j80 j128 j177 hq)
def xX12_suppers_60 (s_X12_in : zq_Sp) (s_X12_laysTable : zq_Sp) (s_X12_picksAsWorth : zq_Sp) (s_X12_goesByTurns : zq_Sp) (s_X12_enters : zq_Sp) (J39 : zq_P) (J63 : zq_P) (J80 : zq_P) (J128 : zq_P) (J177 : zq_P) (Q : zq_Q) (ls : zq_L) (st : List Value) (h : zq_H) : Prop := (zi_push (.int 0) (zi_istore 4 (J63))) ls st h
theorem kX12_suppers_60 {X : zq_X} {d : Nat} (C : zq_C X cX12_suppers 6 RX12 d) {d_X12_in : Nat} {s_X12_in : zq_Sp} (h_X12_in : zq_M yX12_in cX12_in 6 (some .boolean) 1 d_X12_in s_X12_in) (g_X12_in : d_X12_in + 1 ≤ d) {d_X12_laysTable : Nat} {s_X12_laysTable : zq_Sp} (h_X12_laysTable : zq_M yX12_laysTable cX12_laysTable 3 none 0 d_X12_laysTable s_X12_laysTable) (g_X12_laysTable : d_X12_laysTable + 1 ≤ d) {d_X12_picksAsWorth : Nat} {s_X12_picksAsWorth : zq_Sp} (h_X12_picksAsWorth : zq_M yX12_picksAsWorth cX12_picksAsWorth 2 none 0 d_X12_picksAsWorth s_X12_picksAsWorth) (g_X12_picksAsWorth : d_X12_picksAsWorth + 1 ≤ d) {d_X12_goesByTurns : Nat} {s_X12_goesByTurns : zq_Sp} (h_X12_goesByTurns : zq_M yX12_goesByTurns cX12_goesByTurns 6 none 0 d_X12_goesByTurns s_X12_goesByTurns) (g_X12_goesByTurns : d_X12_goesByTurns + 1 ≤ d) {d_X12_enters : Nat} {s_X12_enters : zq_Sp} (h_X12_enters : zq_M yX12_enters cX12_enters 3 none 0 d_X12_enters s_X12_enters) (g_X12_enters : d_X12_enters + 1 ≤ d) {J39 : zq_P} (j39 : zq_ok X 6 39 J39) {J63 : zq_P} (j63 : zq_ok X 6 63 J63) {J80 : zq_P} (j80 : zq_ok X 6 80 J80) {J128 : zq_P} (j128 : zq_ok X 6 128 J128) {J177 : zq_P} (j177 : zq_ok X 6 177 J177) {Q : zq_Q} (hq : zq_R X (some .int) 1 Q) : zq_ok X 6 60 (xX12_suppers_60 s_X12_in s_X12_laysTable s_X12_picksAsWorth s_X12_goesByTurns s_X12_enters J39 J63 J80 J128 J177 Q) := by
  refine zs_iconst C dX12_suppers_60 (by decide) ?_
  refine zs_istore C dX12_suppers_61 (by decide) ?_
  exact j63
def xX12_suppers_46 (s_X12_in : zq_Sp) (s_X12_laysTable : zq_Sp) (s_X12_picksAsWorth : zq_Sp) (s_X12_goesByTurns : zq_Sp) (s_X12_enters : zq_Sp) (J39 : zq_P) (J63 : zq_P) (J80 : zq_P) (J128 : zq_P) (J177 : zq_P) (Q : zq_Q) (ls : zq_L) (st : List Value) (h : zq_H) : Prop := (zi_aload 0 (zi_getR 56 98 (zi_iload 4 (zi_push (.int 0) (zi_astI 98 6 (zi_iinc 4 1 (J39))))))) ls st h
theorem kX12_suppers_46 {X : zq_X} {d : Nat} (C : zq_C X cX12_suppers 6 RX12 d) {d_X12_in : Nat} {s_X12_in : zq_Sp} (h_X12_in : zq_M yX12_in cX12_in 6 (some .boolean) 1 d_X12_in s_X12_in) (g_X12_in : d_X12_in + 1 ≤ d) {d_X12_laysTable : Nat} {s_X12_laysTable : zq_Sp} (h_X12_laysTable : zq_M yX12_laysTable cX12_laysTable 3 none 0 d_X12_laysTable s_X12_laysTable) (g_X12_laysTable : d_X12_laysTable + 1 ≤ d) {d_X12_picksAsWorth : Nat} {s_X12_picksAsWorth : zq_Sp} (h_X12_picksAsWorth : zq_M yX12_picksAsWorth cX12_picksAsWorth 2 none 0 d_X12_picksAsWorth s_X12_picksAsWorth) (g_X12_picksAsWorth : d_X12_picksAsWorth + 1 ≤ d) {d_X12_goesByTurns : Nat} {s_X12_goesByTurns : zq_Sp} (h_X12_goesByTurns : zq_M yX12_goesByTurns cX12_goesByTurns 6 none 0 d_X12_goesByTurns s_X12_goesByTurns) (g_X12_goesByTurns : d_X12_goesByTurns + 1 ≤ d) {d_X12_enters : Nat} {s_X12_enters : zq_Sp} (h_X12_enters : zq_M yX12_enters cX12_enters 3 none 0 d_X12_enters s_X12_enters) (g_X12_enters : d_X12_enters + 1 ≤ d) {J39 : zq_P} (j39 : zq_ok X 6 39 J39) {J63 : zq_P} (j63 : zq_ok X 6 63 J63) {J80 : zq_P} (j80 : zq_ok X 6 80 J80) {J128 : zq_P} (j128 : zq_ok X 6 128 J128) {J177 : zq_P} (j177 : zq_ok X 6 177 J177) {Q : zq_Q} (hq : zq_R X (some .int) 1 Q) : zq_ok X 6 46 (xX12_suppers_46 s_X12_in s_X12_laysTable s_X12_picksAsWorth s_X12_goesByTurns s_X12_enters J39 J63 J80 J128 J177 Q) := by
  refine zs_aload_n C dX12_suppers_46 rfl ?_
  refine zs_getR C zp_56 zF12 (j := 63) ⟨by decide, rfl⟩ zw_1159 dX12_suppers_47 ?_
  refine zs_iload C dX12_suppers_50 ?_
  refine zs_iconst C dX12_suppers_52 (by decide) ?_
  refine zs_iastore C zp_98 dX12_suppers_53 ?_
  refine zs_iinc C dX12_suppers_54 (by decide) (by decide) ?_
  exact zs_goto C dX12_suppers_57 (by decide) (j39)
def xX12_suppers_39 (s_X12_in : zq_Sp) (s_X12_laysTable : zq_Sp) (s_X12_picksAsWorth : zq_Sp) (s_X12_goesByTurns : zq_Sp) (s_X12_enters : zq_Sp) (J39 : zq_P) (J63 : zq_P) (J80 : zq_P) (J128 : zq_P) (J177 : zq_P) (Q : zq_Q) (ls : zq_L) (st : List Value) (h : zq_H) : Prop := (zi_iload 4 (zi_push (.int 6) (zi_if2 (fun x y => y ≤ x) (xX12_suppers_60 s_X12_in s_X12_laysTable s_X12_picksAsWorth s_X12_goesByTurns s_X12_enters J39 J63 J80 J128 J177 Q) (xX12_suppers_46 s_X12_in s_X12_laysTable s_X12_picksAsWorth s_X12_goesByTurns s_X12_enters J39 J63 J80 J128 J177 Q)))) ls st h
theorem kX12_suppers_39 {X : zq_X} {d : Nat} (C : zq_C X cX12_suppers 6 RX12 d) {d_X12_in : Nat} {s_X12_in : zq_Sp} (h_X12_in : zq_M yX12_in cX12_in 6 (some .boolean) 1 d_X12_in s_X12_in) (g_X12_in : d_X12_in + 1 ≤ d) {d_X12_laysTable : Nat} {s_X12_laysTable : zq_Sp} (h_X12_laysTable : zq_M yX12_laysTable cX12_laysTable 3 none 0 d_X12_laysTable s_X12_laysTable) (g_X12_laysTable : d_X12_laysTable + 1 ≤ d) {d_X12_picksAsWorth : Nat} {s_X12_picksAsWorth : zq_Sp} (h_X12_picksAsWorth : zq_M yX12_picksAsWorth cX12_picksAsWorth 2 none 0 d_X12_picksAsWorth s_X12_picksAsWorth) (g_X12_picksAsWorth : d_X12_picksAsWorth + 1 ≤ d) {d_X12_goesByTurns : Nat} {s_X12_goesByTurns : zq_Sp} (h_X12_goesByTurns : zq_M yX12_goesByTurns cX12_goesByTurns 6 none 0 d_X12_goesByTurns s_X12_goesByTurns) (g_X12_goesByTurns : d_X12_goesByTurns + 1 ≤ d) {d_X12_enters : Nat} {s_X12_enters : zq_Sp} (h_X12_enters : zq_M yX12_enters cX12_enters 3 none 0 d_X12_enters s_X12_enters) (g_X12_enters : d_X12_enters + 1 ≤ d) {J39 : zq_P} (j39 : zq_ok X 6 39 J39) {J63 : zq_P} (j63 : zq_ok X 6 63 J63) {J80 : zq_P} (j80 : zq_ok X 6 80 J80) {J128 : zq_P} (j128 : zq_ok X 6 128 J128) {J177 : zq_P} (j177 : zq_ok X 6 177 J177) {Q : zq_Q} (hq : zq_R X (some .int) 1 Q) : zq_ok X 6 39 (xX12_suppers_39 s_X12_in s_X12_laysTable s_X12_picksAsWorth s_X12_goesByTurns s_X12_enters J39 J63 J80 J128 J177 Q) := by
  refine zs_iload C dX12_suppers_39 ?_
  refine zs_bipush C dX12_suppers_41 (by decide) ?_
  exact zs_icmp_ge C dX12_suppers_43 (by decide) (kX12_suppers_60 C h_X12_in g_X12_in h_X12_laysTable g_X12_laysTable h_X12_picksAsWorth g_X12_picksAsWorth h_X12_goesByTurns g_X12_goesByTurns h_X12_enters g_X12_enters j39 j63 j80 j128 j177 hq) (kX12_suppers_46 C h_X12_in g_X12_in h_X12_laysTable g_X12_laysTable h_X12_picksAsWorth g_X12_picksAsWorth h_X12_goesByTurns g_X12_goesByTurns h_X12_enters g_X12_enters j39 j63 j80 j128 j177 hq)
def xX12_suppers_26 (s_X12_in : zq_Sp) (s_X12_laysTable : zq_Sp) (s_X12_picksAsWorth : zq_Sp) (s_X12_goesByTurns : zq_Sp) (s_X12_enters : zq_Sp) (J39 : zq_P) (J63 : zq_P) (J80 : zq_P) (J128 : zq_P) (J177 : zq_P) (Q : zq_Q) (ls : zq_L) (st : List Value) (h : zq_H) : Prop := (zi_iload 1 (zi_istore 3 (zi_aload 0 (zi_callV 0 56 s_X12_laysTable (zi_aload 0 (zi_callV 0 56 s_X12_picksAsWorth (zi_push (.int 0) (zi_istore 4 (J39))))))))) ls st h
theorem kX12_suppers_26 {X : zq_X} {d : Nat} (C : zq_C X cX12_suppers 6 RX12 d) {d_X12_in : Nat} {s_X12_in : zq_Sp} (h_X12_in : zq_M yX12_in cX12_in 6 (some .boolean) 1 d_X12_in s_X12_in) (g_X12_in : d_X12_in + 1 ≤ d) {d_X12_laysTable : Nat} {s_X12_laysTable : zq_Sp} (h_X12_laysTable : zq_M yX12_laysTable cX12_laysTable 3 none 0 d_X12_laysTable s_X12_laysTable) (g_X12_laysTable : d_X12_laysTable + 1 ≤ d) {d_X12_picksAsWorth : Nat} {s_X12_picksAsWorth : zq_Sp} (h_X12_picksAsWorth : zq_M yX12_picksAsWorth cX12_picksAsWorth 2 none 0 d_X12_picksAsWorth s_X12_picksAsWorth) (g_X12_picksAsWorth : d_X12_picksAsWorth + 1 ≤ d) {d_X12_goesByTurns : Nat} {s_X12_goesByTurns : zq_Sp} (h_X12_goesByTurns : zq_M yX12_goesByTurns cX12_goesByTurns 6 none 0 d_X12_goesByTurns s_X12_goesByTurns) (g_X12_goesByTurns : d_X12_goesByTurns + 1 ≤ d) {d_X12_enters : Nat} {s_X12_enters : zq_Sp} (h_X12_enters : zq_M yX12_enters cX12_enters 3 none 0 d_X12_enters s_X12_enters) (g_X12_enters : d_X12_enters + 1 ≤ d) {J39 : zq_P} (j39 : zq_ok X 6 39 J39) {J63 : zq_P} (j63 : zq_ok X 6 63 J63) {J80 : zq_P} (j80 : zq_ok X 6 80 J80) {J128 : zq_P} (j128 : zq_ok X 6 128 J128) {J177 : zq_P} (j177 : zq_ok X 6 177 J177) {Q : zq_Q} (hq : zq_R X (some .int) 1 Q) : zq_ok X 6 26 (xX12_suppers_26 s_X12_in s_X12_laysTable s_X12_picksAsWorth s_X12_goesByTurns s_X12_enters J39 J63 J80 J128 J177 Q) := by
  refine zs_iload_n C dX12_suppers_26 rfl ?_
  refine zs_istore_n C dX12_suppers_27 rfl (by decide) ?_
  refine zs_aload_n C dX12_suppers_28 rfl ?_
  refine zs_callV C h_X12_laysTable g_X12_laysTable zy_X12_laysTable zp_56 (show vwCl[12]? = some (RX12, TX12, 67) from rfl) zw_1471 zw_1473 zs9_X12_laysTable dX12_suppers_29 ?_
  refine zs_aload_n C dX12_suppers_32 rfl ?_
  refine zs_callV C h_X12_picksAsWorth g_X12_picksAsWorth zy_X12_picksAsWorth zp_56 (show vwCl[12]? = some (RX12, TX12, 67) from rfl) zw_1688 zw_1690 zs9_X12_picksAsWorth dX12_suppers_33 ?_
  refine zs_iconst C dX12_suppers_36 (by decide) ?_
  refine zs_istore C dX12_suppers_37 (by decide) ?_
  exact j39
def xX12_suppers_24 (s_X12_in : zq_Sp) (s_X12_laysTable : zq_Sp) (s_X12_picksAsWorth : zq_Sp) (s_X12_goesByTurns : zq_Sp) (s_X12_enters : zq_Sp) (J39 : zq_P) (J63 : zq_P) (J80 : zq_P) (J128 : zq_P) (J177 : zq_P) (Q : zq_Q) (ls : zq_L) (st : List Value) (h : zq_H) : Prop := (zi_push (.int (-1)) (zi_iret Q)) ls st h
theorem kX12_suppers_24 {X : zq_X} {d : Nat} (C : zq_C X cX12_suppers 6 RX12 d) {d_X12_in : Nat} {s_X12_in : zq_Sp} (h_X12_in : zq_M yX12_in cX12_in 6 (some .boolean) 1 d_X12_in s_X12_in) (g_X12_in : d_X12_in + 1 ≤ d) {d_X12_laysTable : Nat} {s_X12_laysTable : zq_Sp} (h_X12_laysTable : zq_M yX12_laysTable cX12_laysTable 3 none 0 d_X12_laysTable s_X12_laysTable) (g_X12_laysTable : d_X12_laysTable + 1 ≤ d) {d_X12_picksAsWorth : Nat} {s_X12_picksAsWorth : zq_Sp} (h_X12_picksAsWorth : zq_M yX12_picksAsWorth cX12_picksAsWorth 2 none 0 d_X12_picksAsWorth s_X12_picksAsWorth) (g_X12_picksAsWorth : d_X12_picksAsWorth + 1 ≤ d) {d_X12_goesByTurns : Nat} {s_X12_goesByTurns : zq_Sp} (h_X12_goesByTurns : zq_M yX12_goesByTurns cX12_goesByTurns 6 none 0 d_X12_goesByTurns s_X12_goesByTurns) (g_X12_goesByTurns : d_X12_goesByTurns + 1 ≤ d) {d_X12_enters : Nat} {s_X12_enters : zq_Sp} (h_X12_enters : zq_M yX12_enters cX12_enters 3 none 0 d_X12_enters s_X12_enters) (g_X12_enters : d_X12_enters + 1 ≤ d) {J39 : zq_P} (j39 : zq_ok X 6 39 J39) {J63 : zq_P} (j63 : zq_ok X 6 63 J63) {J80 : zq_P} (j80 : zq_ok X 6 80 J80) {J128 : zq_P} (j128 : zq_ok X 6 128 J128) {J177 : zq_P} (j177 : zq_ok X 6 177 J177) {Q : zq_Q} (hq : zq_R X (some .int) 1 Q) : zq_ok X 6 24 (xX12_suppers_24 s_X12_in s_X12_laysTable s_X12_picksAsWorth s_X12_goesByTurns s_X12_enters J39 J63 J80 J128 J177 Q) := by
  refine zs_iconst C dX12_suppers_24 (by decide) ?_
  exact zs_iret C hq dX12_suppers_25
def xX12_suppers_17 (s_X12_in : zq_Sp) (s_X12_laysTable : zq_Sp) (s_X12_picksAsWorth : zq_Sp) (s_X12_goesByTurns : zq_Sp) (s_X12_enters : zq_Sp) (J39 : zq_P) (J63 : zq_P) (J80 : zq_P) (J128 : zq_P) (J177 : zq_P) (Q : zq_Q) (ls : zq_L) (st : List Value) (h : zq_H) : Prop := (zi_aload 0 (zi_getI 56 4 (zi_if1 (fun x => x = 0) (xX12_suppers_24 s_X12_in s_X12_laysTable s_X12_picksAsWorth s_X12_goesByTurns s_X12_enters J39 J63 J80 J128 J177 Q) (xX12_suppers_26 s_X12_in s_X12_laysTable s_X12_picksAsWorth s_X12_goesByTurns s_X12_enters J39 J63 J80 J128 J177 Q)))) ls st h
theorem kX12_suppers_17 {X : zq_X} {d : Nat} (C : zq_C X cX12_suppers 6 RX12 d) {d_X12_in : Nat} {s_X12_in : zq_Sp} (h_X12_in : zq_M yX12_in cX12_in 6 (some .boolean) 1 d_X12_in s_X12_in) (g_X12_in : d_X12_in + 1 ≤ d) {d_X12_laysTable : Nat} {s_X12_laysTable : zq_Sp} (h_X12_laysTable : zq_M yX12_laysTable cX12_laysTable 3 none 0 d_X12_laysTable s_X12_laysTable) (g_X12_laysTable : d_X12_laysTable + 1 ≤ d) {d_X12_picksAsWorth : Nat} {s_X12_picksAsWorth : zq_Sp} (h_X12_picksAsWorth : zq_M yX12_picksAsWorth cX12_picksAsWorth 2 none 0 d_X12_picksAsWorth s_X12_picksAsWorth) (g_X12_picksAsWorth : d_X12_picksAsWorth + 1 ≤ d) {d_X12_goesByTurns : Nat} {s_X12_goesByTurns : zq_Sp} (h_X12_goesByTurns : zq_M yX12_goesByTurns cX12_goesByTurns 6 none 0 d_X12_goesByTurns s_X12_goesByTurns) (g_X12_goesByTurns : d_X12_goesByTurns + 1 ≤ d) {d_X12_enters : Nat} {s_X12_enters : zq_Sp} (h_X12_enters : zq_M yX12_enters cX12_enters 3 none 0 d_X12_enters s_X12_enters) (g_X12_enters : d_X12_enters + 1 ≤ d) {J39 : zq_P} (j39 : zq_ok X 6 39 J39) {J63 : zq_P} (j63 : zq_ok X 6 63 J63) {J80 : zq_P} (j80 : zq_ok X 6 80 J80) {J128 : zq_P} (j128 : zq_ok X 6 128 J128) {J177 : zq_P} (j177 : zq_ok X 6 177 J177) {Q : zq_Q} (hq : zq_R X (some .int) 1 Q) : zq_ok X 6 17 (xX12_suppers_17 s_X12_in s_X12_laysTable s_X12_picksAsWorth s_X12_goesByTurns s_X12_enters J39 J63 J80 J128 J177 Q) := by
  refine zs_aload_n C dX12_suppers_17 rfl ?_
  refine zs_getI C zp_56 zF12 (j := 4) ⟨by decide, rfl⟩ zw_1100 dX12_suppers_18 ?_
  exact zs_if_ne C dX12_suppers_21 (by decide) (kX12_suppers_26 C h_X12_in g_X12_in h_X12_laysTable g_X12_laysTable h_X12_picksAsWorth g_X12_picksAsWorth h_X12_goesByTurns g_X12_goesByTurns h_X12_enters g_X12_enters j39 j63 j80 j128 j177 hq) (kX12_suppers_24 C h_X12_in g_X12_in h_X12_laysTable g_X12_laysTable h_X12_picksAsWorth g_X12_picksAsWorth h_X12_goesByTurns g_X12_goesByTurns h_X12_enters g_X12_enters j39 j63 j80 j128 j177 hq)
def xX12_suppers_0 (s_X12_in : zq_Sp) (s_X12_laysTable : zq_Sp) (s_X12_picksAsWorth : zq_Sp) (s_X12_goesByTurns : zq_Sp) (s_X12_enters : zq_Sp) (J39 : zq_P) (J63 : zq_P) (J80 : zq_P) (J128 : zq_P) (J177 : zq_P) (Q : zq_Q) (ls : zq_L) (st : List Value) (h : zq_H) : Prop := (zi_aload 0 (zi_push (.int 0) (zi_putI 56 0 (zi_iload 2 (zi_i2l (zi_push (.long 1) (zi_push (.long 50) (zi_callS 3 s_X12_in (zi_if1 (fun x => x = 0) (xX12_suppers_24 s_X12_in s_X12_laysTable s_X12_picksAsWorth s_X12_goesByTurns s_X12_enters J39 J63 J80 J128 J177 Q) (xX12_suppers_17 s_X12_in s_X12_laysTable s_X12_picksAsWorth s_X12_goesByTurns s_X12_enters J39 J63 J80 J128 J177 Q)))))))))) ls st h
theorem kX12_suppers_0 {X : zq_X} {d : Nat} (C : zq_C X cX12_suppers 6 RX12 d) {d_X12_in : Nat} {s_X12_in : zq_Sp} (h_X12_in : zq_M yX12_in cX12_in 6 (some .boolean) 1 d_X12_in s_X12_in) (g_X12_in : d_X12_in + 1 ≤ d) {d_X12_laysTable : Nat} {s_X12_laysTable : zq_Sp} (h_X12_laysTable : zq_M yX12_laysTable cX12_laysTable 3 none 0 d_X12_laysTable s_X12_laysTable) (g_X12_laysTable : d_X12_laysTable + 1 ≤ d) {d_X12_picksAsWorth : Nat} {s_X12_picksAsWorth : zq_Sp} (h_X12_picksAsWorth : zq_M yX12_picksAsWorth cX12_picksAsWorth 2 none 0 d_X12_picksAsWorth s_X12_picksAsWorth) (g_X12_picksAsWorth : d_X12_picksAsWorth + 1 ≤ d) {d_X12_goesByTurns : Nat} {s_X12_goesByTurns : zq_Sp} (h_X12_goesByTurns : zq_M yX12_goesByTurns cX12_goesByTurns 6 none 0 d_X12_goesByTurns s_X12_goesByTurns) (g_X12_goesByTurns : d_X12_goesByTurns + 1 ≤ d) {d_X12_enters : Nat} {s_X12_enters : zq_Sp} (h_X12_enters : zq_M yX12_enters cX12_enters 3 none 0 d_X12_enters s_X12_enters) (g_X12_enters : d_X12_enters + 1 ≤ d) {J39 : zq_P} (j39 : zq_ok X 6 39 J39) {J63 : zq_P} (j63 : zq_ok X 6 63 J63) {J80 : zq_P} (j80 : zq_ok X 6 80 J80) {J128 : zq_P} (j128 : zq_ok X 6 128 J128) {J177 : zq_P} (j177 : zq_ok X 6 177 J177) {Q : zq_Q} (hq : zq_R X (some .int) 1 Q) : zq_ok X 6 0 (xX12_suppers_0 s_X12_in s_X12_laysTable s_X12_picksAsWorth s_X12_goesByTurns s_X12_enters J39 J63 J80 J128 J177 Q) := by
  refine zs_aload_n C dX12_suppers_0 rfl ?_
  refine zs_iconst C dX12_suppers_1 (by decide) ?_
  refine zs_putI C zp_56 zF12 (j := 0) ⟨by decide, rfl⟩ ⟨rfl, by decide +kernel⟩ zw_1096 dX12_suppers_2 ?_
  refine zs_iload_n C dX12_suppers_5 rfl ?_
  refine zs_i2l C dX12_suppers_6 ?_
  refine zs_lconst C dX12_suppers_7 (by decide) ?_
  refine zs_ldc2 C dX12_suppers_8 zw_1767 ?_
  refine zs_callS C h_X12_in g_X12_in zy_X12_in zw_1311 zw_1312 dX12_suppers_11 ?_
  exact zs_if_eq C dX12_suppers_14 (by decide) (kX12_suppers_24 C h_X12_in g_X12_in h_X12_laysTable g_X12_laysTable h_X12_picksAsWorth g_X12_picksAsWorth h_X12_goesByTurns g_X12_goesByTurns h_X12_enters g_X12_enters j39 j63 j80 j128 j177 hq) (kX12_suppers_17 C h_X12_in g_X12_in h_X12_laysTable g_X12_laysTable h_X12_picksAsWorth g_X12_picksAsWorth h_X12_goesByTurns g_X12_goesByTurns h_X12_enters g_X12_enters j39 j63 j80 j128 j177 hq)
theorem mX12_suppers {d : Nat} {spec : zq_Sp} {σ39 : Type} {σ63 : Type} {σ80 : Type} {σ128 : Type} {σ177 : Type} {d_X12_in : Nat} {s_X12_in : zq_Sp} (h_X12_in : zq_M yX12_in cX12_in 6 (some .boolean) 1 d_X12_in s_X12_in) (g_X12_in : d_X12_in + 1 ≤ d) {d_X12_laysTable : Nat} {s_X12_laysTable : zq_Sp} (h_X12_laysTable : zq_M yX12_laysTable cX12_laysTable 3 none 0 d_X12_laysTable s_X12_laysTable) (g_X12_laysTable : d_X12_laysTable + 1 ≤ d) {d_X12_picksAsWorth : Nat} {s_X12_picksAsWorth : zq_Sp} (h_X12_picksAsWorth : zq_M yX12_picksAsWorth cX12_picksAsWorth 2 none 0 d_X12_picksAsWorth s_X12_picksAsWorth) (g_X12_picksAsWorth : d_X12_picksAsWorth + 1 ≤ d) {d_X12_goesByTurns : Nat} {s_X12_goesByTurns : zq_Sp} (h_X12_goesByTurns : zq_M yX12_goesByTurns cX12_goesByTurns 6 none 0 d_X12_goesByTurns s_X12_goesByTurns) (g_X12_goesByTurns : d_X12_goesByTurns + 1 ≤ d) {d_X12_enters : Nat} {s_X12_enters : zq_Sp} (h_X12_enters : zq_M yX12_enters cX12_enters 3 none 0 d_X12_enters s_X12_enters) (g_X12_enters : d_X12_enters + 1 ≤ d) (μ39 : σ39 → Nat) (I39 : zq_Q → σ39 → zq_P) (μ63 : σ63 → Nat) (I63 : zq_Q → σ63 → zq_P) (μ80 : σ80 → Nat) (I80 : zq_Q → σ80 → zq_P) (μ128 : σ128 → Nat) (I128 : zq_Q → σ128 → zq_P) (μ177 : σ177 → Nat) (I177 : zq_Q → σ177 → zq_P) (v : ∀ args h Q, spec args h Q → (zq_a args).length ≤ 6 ∧ xX12_suppers_0 s_X12_in s_X12_laysTable s_X12_picksAsWorth s_X12_goesByTurns s_X12_enters (fun ls st h => ∃ b, I39 Q b ls st h) (fun ls st h => ∃ b, I63 Q b ls st h) (fun ls st h => ∃ b, I80 Q b ls st h) (fun ls st h => ∃ b, I128 Q b ls st h) (fun ls st h => ∃ b, I177 Q b ls st h) Q (zq_l0 6 args) [] h) (v39 : ∀ Q a ls st h, I39 Q a ls st h → xX12_suppers_39 s_X12_in s_X12_laysTable s_X12_picksAsWorth s_X12_goesByTurns s_X12_enters (fun ls st h => ∃ b, μ39 b < μ39 a ∧ I39 Q b ls st h) (fun ls st h => ∃ b, μ63 b < μ39 a ∧ I63 Q b ls st h) (fun ls st h => ∃ b, μ80 b < μ39 a ∧ I80 Q b ls st h) (fun ls st h => ∃ b, μ128 b < μ39 a ∧ I128 Q b ls st h) (fun ls st h => ∃ b, μ177 b < μ39 a ∧ I177 Q b ls st h) Q ls st h) (v63 : ∀ Q a ls st h, I63 Q a ls st h → xX12_suppers_63 s_X12_in s_X12_laysTable s_X12_picksAsWorth s_X12_goesByTurns s_X12_enters (fun ls st h => ∃ b, μ39 b < μ63 a ∧ I39 Q b ls st h) (fun ls st h => ∃ b, μ63 b < μ63 a ∧ I63 Q b ls st h) (fun ls st h => ∃ b, μ80 b < μ63 a ∧ I80 Q b ls st h) (fun ls st h => ∃ b, μ128 b < μ63 a ∧ I128 Q b ls st h) (fun ls st h => ∃ b, μ177 b < μ63 a ∧ I177 Q b ls st h) Q ls st h) (v80 : ∀ Q a ls st h, I80 Q a ls st h → xX12_suppers_80 s_X12_in s_X12_laysTable s_X12_picksAsWorth s_X12_goesByTurns s_X12_enters (fun ls st h => ∃ b, μ39 b < μ80 a ∧ I39 Q b ls st h) (fun ls st h => ∃ b, μ63 b < μ80 a ∧ I63 Q b ls st h) (fun ls st h => ∃ b, μ80 b < μ80 a ∧ I80 Q b ls st h) (fun ls st h => ∃ b, μ128 b < μ80 a ∧ I128 Q b ls st h) (fun ls st h => ∃ b, μ177 b < μ80 a ∧ I177 Q b ls st h) Q ls st h) (v128 : ∀ Q a ls st h, I128 Q a ls st h → xX12_suppers_128 s_X12_in s_X12_laysTable s_X12_picksAsWorth s_X12_goesByTurns s_X12_enters (fun ls st h => ∃ b, μ39 b < μ128 a ∧ I39 Q b ls st h) (fun ls st h => ∃ b, μ63 b < μ128 a ∧ I63 Q b ls st h) (fun ls st h => ∃ b, μ80 b < μ128 a ∧ I80 Q b ls st h) (fun ls st h => ∃ b, μ128 b < μ128 a ∧ I128 Q b ls st h) (fun ls st h => ∃ b, μ177 b < μ128 a ∧ I177 Q b ls st h) Q ls st h) (v177 : ∀ Q a ls st h, I177 Q a ls st h → xX12_suppers_177 s_X12_in s_X12_laysTable s_X12_picksAsWorth s_X12_goesByTurns s_X12_enters (fun ls st h => ∃ b, μ39 b < μ177 a ∧ I39 Q b ls st h) (fun ls st h => ∃ b, μ63 b < μ177 a ∧ I63 Q b ls st h) (fun ls st h => ∃ b, μ80 b < μ177 a ∧ I80 Q b ls st h) (fun ls st h => ∃ b, μ128 b < μ177 a ∧ I128 Q b ls st h) (fun ls st h => ∃ b, μ177 b < μ177 a ∧ I177 Q b ls st h) Q ls st h) : zq_M yX12_suppers cX12_suppers 6 (some .int) 1 d spec := by
  refine zq_met (by decide +kernel) (by decide) (fun X Q args h C hq hs => ⟨(v args h Q hs).1, _, ?_, (v args h Q hs).2⟩)
  have hl := zq_loop5 (X := X) (nL := 6) (pc1 := 39) (pc2 := 63) (pc3 := 80) (pc4 := 128) (pc5 := 177) μ39 μ63 μ80 μ128 μ177 (I39 Q) (I63 Q) (I80 Q) (I128 Q) (I177 Q) (fun J39 J63 J80 J128 J177 => xX12_suppers_39 s_X12_in s_X12_laysTable s_X12_picksAsWorth s_X12_goesByTurns s_X12_enters J39 J63 J80 J128 J177 Q) (fun J39 J63 J80 J128 J177 => xX12_suppers_63 s_X12_in s_X12_laysTable s_X12_picksAsWorth s_X12_goesByTurns s_X12_enters J39 J63 J80 J128 J177 Q) (fun J39 J63 J80 J128 J177 => xX12_suppers_80 s_X12_in s_X12_laysTable s_X12_picksAsWorth s_X12_goesByTurns s_X12_enters J39 J63 J80 J128 J177 Q) (fun J39 J63 J80 J128 J177 => xX12_suppers_128 s_X12_in s_X12_laysTable s_X12_picksAsWorth s_X12_goesByTurns s_X12_enters J39 J63 J80 J128 J177 Q) (fun J39 J63 J80 J128 J177 => xX12_suppers_177 s_X12_in s_X12_laysTable s_X12_picksAsWorth s_X12_goesByTurns s_X12_enters J39 J63 J80 J128 J177 Q) (fun j39 j63 j80 j128 j177 => kX12_suppers_39 C h_X12_in g_X12_in h_X12_laysTable g_X12_laysTable h_X12_picksAsWorth g_X12_picksAsWorth h_X12_goesByTurns g_X12_goesByTurns h_X12_enters g_X12_enters j39 j63 j80 j128 j177 hq) (fun j39 j63 j80 j128 j177 => kX12_suppers_63 C h_X12_in g_X12_in h_X12_laysTable g_X12_laysTable h_X12_picksAsWorth g_X12_picksAsWorth h_X12_goesByTurns g_X12_goesByTurns h_X12_enters g_X12_enters j39 j63 j80 j128 j177 hq) (fun j39 j63 j80 j128 j177 => kX12_suppers_80 C h_X12_in g_X12_in h_X12_laysTable g_X12_laysTable h_X12_picksAsWorth g_X12_picksAsWorth h_X12_goesByTurns g_X12_goesByTurns h_X12_enters g_X12_enters j39 j63 j80 j128 j177 hq) (fun j39 j63 j80 j128 j177 => kX12_suppers_128 C h_X12_in g_X12_in h_X12_laysTable g_X12_laysTable h_X12_picksAsWorth g_X12_picksAsWorth h_X12_goesByTurns g_X12_goesByTurns h_X12_enters g_X12_enters j39 j63 j80 j128 j177 hq) (fun j39 j63 j80 j128 j177 => kX12_suppers_177 C h_X12_in g_X12_in h_X12_laysTable g_X12_laysTable h_X12_picksAsWorth g_X12_picksAsWorth h_X12_goesByTurns g_X12_goesByTurns h_X12_enters g_X12_enters j39 j63 j80 j128 j177 hq) (v39 Q) (v63 Q) (v80 Q) (v128 Q) (v177 Q)
  exact kX12_suppers_0 C h_X12_in g_X12_in h_X12_laysTable g_X12_laysTable h_X12_picksAsWorth g_X12_picksAsWorth h_X12_goesByTurns g_X12_goesByTurns h_X12_enters g_X12_enters hl.1 hl.2.1 hl.2.2.1 hl.2.2.2.1 hl.2.2.2.2 hq
/-! ToOneCrumbModel.keep(I)Z -/
theorem dX12_keep_0 : decode cX12_keep 0 = .ok (.aload_n 0, 1) := by decide +kernel
theorem dX12_keep_1 : decode cX12_keep 1 = .ok (.iconst 0, 1) := by decide +kernel
theorem dX12_keep_2 : decode cX12_keep 2 = .ok (.putfield 147, 3) := by decide +kernel
theorem dX12_keep_5 : decode cX12_keep 5 = .ok (.iload_n 1, 1) := by decide +kernel
theorem dX12_keep_6 : decode cX12_keep 6 = .ok (.i2l, 1) := by decide +kernel
theorem dX12_keep_7 : decode cX12_keep 7 = .ok (.lconst 0, 1) := by decide +kernel
theorem dX12_keep_8 : decode cX12_keep 8 = .ok (.ldc2_w 331, 3) := by decide +kernel
theorem dX12_keep_11 : decode cX12_keep 11 = .ok (.invokestatic 161, 3) := by decide +kernel
theorem dX12_keep_14 : decode cX12_keep 14 = .ok (.ifCond .ne 5, 3) := by decide +kernel
theorem dX12_keep_17 : decode cX12_keep 17 = .ok (.iconst 0, 1) := by decide +kernel
theorem dX12_keep_18 : decode cX12_keep 18 = .ok (.ireturn, 1) := by decide +kernel
theorem dX12_keep_19 : decode cX12_keep 19 = .ok (.aload_n 0, 1) := by decide +kernel
theorem dX12_keep_20 : decode cX12_keep 20 = .ok (.getfield 138, 3) := by decide +kernel
theorem dX12_keep_23 : decode cX12_keep 23 = .ok (.iload_n 1, 1) := by decide +kernel
theorem dX12_keep_24 : decode cX12_keep 24 = .ok (.iconst 1, 1) := by decide +kernel
theorem dX12_keep_25 : decode cX12_keep 25 = .ok (.bastore, 1) := by decide +kernel
theorem dX12_keep_26 : decode cX12_keep 26 = .ok (.aload_n 0, 1) := by decide +kernel
theorem dX12_keep_27 : decode cX12_keep 27 = .ok (.getfield 141, 3) := by decide +kernel
theorem dX12_keep_30 : decode cX12_keep 30 = .ok (.iload_n 1, 1) := by decide +kernel
theorem dX12_keep_31 : decode cX12_keep 31 = .ok (.aload_n 0, 1) := by decide +kernel
theorem dX12_keep_32 : decode cX12_keep 32 = .ok (.getfield 242, 3) := by decide +kernel
theorem dX12_keep_35 : decode cX12_keep 35 = .ok (.iastore, 1) := by decide +kernel
theorem dX12_keep_36 : decode cX12_keep 36 = .ok (.iconst 0, 1) := by decide +kernel
theorem dX12_keep_37 : decode cX12_keep 37 = .ok (.istore_n 2, 1) := by decide +kernel
theorem dX12_keep_38 : decode cX12_keep 38 = .ok (.iload_n 2, 1) := by decide +kernel
theorem dX12_keep_39 : decode cX12_keep 39 = .ok (.bipush 16, 2) := by decide +kernel
theorem dX12_keep_41 : decode cX12_keep 41 = .ok (.if_icmp .ge 26, 3) := by decide +kernel
theorem dX12_keep_44 : decode cX12_keep 44 = .ok (.aload_n 0, 1) := by decide +kernel
theorem dX12_keep_45 : decode cX12_keep 45 = .ok (.getfield 144, 3) := by decide +kernel
theorem dX12_keep_48 : decode cX12_keep 48 = .ok (.bipush 16, 2) := by decide +kernel
theorem dX12_keep_50 : decode cX12_keep 50 = .ok (.iload_n 1, 1) := by decide +kernel
theorem dX12_keep_51 : decode cX12_keep 51 = .ok (.imul, 1) := by decide +kernel
theorem dX12_keep_52 : decode cX12_keep 52 = .ok (.iload_n 2, 1) := by decide +kernel
theorem dX12_keep_53 : decode cX12_keep 53 = .ok (.iadd, 1) := by decide +kernel
theorem dX12_keep_54 : decode cX12_keep 54 = .ok (.aload_n 0, 1) := by decide +kernel
theorem dX12_keep_55 : decode cX12_keep 55 = .ok (.getfield 30, 3) := by decide +kernel
theorem dX12_keep_58 : decode cX12_keep 58 = .ok (.iload_n 2, 1) := by decide +kernel
theorem dX12_keep_59 : decode cX12_keep 59 = .ok (.iaload, 1) := by decide +kernel
theorem dX12_keep_60 : decode cX12_keep 60 = .ok (.iastore, 1) := by decide +kernel
theorem dX12_keep_61 : decode cX12_keep 61 = .ok (.iinc 2 1, 3) := by decide +kernel
theorem dX12_keep_64 : decode cX12_keep 64 = .ok (.goto (-26), 3) := by decide +kernel
theorem dX12_keep_67 : decode cX12_keep 67 = .ok (.iconst 1, 1) := by decide +kernel
theorem dX12_keep_68 : decode cX12_keep 68 = .ok (.ireturn, 1) := by decide +kernel
def xX12_keep_67 (s_X12_in : zq_Sp) (J38 : zq_P) (Q : zq_Q) (ls : zq_L) (st : List Value) (h : zq_H) : Prop := (zi_push (.int 1) (zi_zret Q)) ls st h
theorem kX12_keep_67 {X : zq_X} {d : Nat} (C : zq_C X cX12_keep 3 RX12 d) {d_X12_in : Nat} {s_X12_in : zq_Sp} (h_X12_in : zq_M yX12_in cX12_in 6 (some .boolean) 1 d_X12_in s_X12_in) (g_X12_in : d_X12_in + 1 ≤ d) {J38 : zq_P} (j38 : zq_ok X 3 38 J38) {Q : zq_Q} (hq : zq_R X (some .boolean) 1 Q) : zq_ok X 3 67 (xX12_keep_67 s_X12_in J38 Q) := by
  refine zs_iconst C dX12_keep_67 (by decide) ?_
  exact zs_zret C hq dX12_keep_68
def xX12_keep_44 (s_X12_in : zq_Sp) (J38 : zq_P) (Q : zq_Q) (ls : zq_L) (st : List Value) (h : zq_H) : Prop := (zi_aload 0 (zi_getR 56 101 (zi_push (.int 16) (zi_iload 1 (zi_i2 (fun x y => x * y) (zi_iload 2 (zi_i2 (fun x y => x + y) (zi_aload 0 (zi_getR 56 63 (zi_iload 2 (zi_aldI 63 16 (zi_astI 101 48 (zi_iinc 2 1 (J38)))))))))))))) ls st h
theorem kX12_keep_44 {X : zq_X} {d : Nat} (C : zq_C X cX12_keep 3 RX12 d) {d_X12_in : Nat} {s_X12_in : zq_Sp} (h_X12_in : zq_M yX12_in cX12_in 6 (some .boolean) 1 d_X12_in s_X12_in) (g_X12_in : d_X12_in + 1 ≤ d) {J38 : zq_P} (j38 : zq_ok X 3 38 J38) {Q : zq_Q} (hq : zq_R X (some .boolean) 1 Q) : zq_ok X 3 44 (xX12_keep_44 s_X12_in J38 Q) := by
  refine zs_aload_n C dX12_keep_44 rfl ?_
  refine zs_getR C zp_56 zF12 (j := 66) ⟨by decide, rfl⟩ zw_1162 dX12_keep_45 ?_
  refine zs_bipush C dX12_keep_48 (by decide) ?_
  refine zs_iload_n C dX12_keep_50 rfl ?_
  refine zs_imul C dX12_keep_51 ?_
  refine zs_iload_n C dX12_keep_52 rfl ?_
  refine zs_iadd C dX12_keep_53 ?_
  refine zs_aload_n C dX12_keep_54 rfl ?_
  refine zs_getR C zp_56 zF12 (j := 11) ⟨by decide, rfl⟩ zw_1107 dX12_keep_55 ?_
  refine zs_iload_n C dX12_keep_58 rfl ?_
  refine zs_iaload C zp_63 dX12_keep_59 ?_
  refine zs_iastore C zp_101 dX12_keep_60 ?_
  refine zs_iinc C dX12_keep_61 (by decide) (by decide) ?_
  exact zs_goto C dX12_keep_64 (by decide) (j38)
def xX12_keep_38 (s_X12_in : zq_Sp) (J38 : zq_P) (Q : zq_Q) (ls : zq_L) (st : List Value) (h : zq_H) : Prop := (zi_iload 2 (zi_push (.int 16) (zi_if2 (fun x y => y ≤ x) (xX12_keep_67 s_X12_in J38 Q) (xX12_keep_44 s_X12_in J38 Q)))) ls st h
theorem kX12_keep_38 {X : zq_X} {d : Nat} (C : zq_C X cX12_keep 3 RX12 d) {d_X12_in : Nat} {s_X12_in : zq_Sp} (h_X12_in : zq_M yX12_in cX12_in 6 (some .boolean) 1 d_X12_in s_X12_in) (g_X12_in : d_X12_in + 1 ≤ d) {J38 : zq_P} (j38 : zq_ok X 3 38 J38) {Q : zq_Q} (hq : zq_R X (some .boolean) 1 Q) : zq_ok X 3 38 (xX12_keep_38 s_X12_in J38 Q) := by
  refine zs_iload_n C dX12_keep_38 rfl ?_
  refine zs_bipush C dX12_keep_39 (by decide) ?_
  exact zs_icmp_ge C dX12_keep_41 (by decide) (kX12_keep_67 C h_X12_in g_X12_in j38 hq) (kX12_keep_44 C h_X12_in g_X12_in j38 hq)
def xX12_keep_19 (s_X12_in : zq_Sp) (J38 : zq_P) (Q : zq_Q) (ls : zq_L) (st : List Value) (h : zq_H) : Prop := (zi_aload 0 (zi_getR 56 99 (zi_iload 1 (zi_push (.int 1) (zi_astZ 99 3 (zi_aload 0 (zi_getR 56 100 (zi_iload 1 (zi_aload 0 (zi_getI 56 5 (zi_astI 100 3 (zi_push (.int 0) (zi_istore 2 (J38)))))))))))))) ls st h
theorem kX12_keep_19 {X : zq_X} {d : Nat} (C : zq_C X cX12_keep 3 RX12 d) {d_X12_in : Nat} {s_X12_in : zq_Sp} (h_X12_in : zq_M yX12_in cX12_in 6 (some .boolean) 1 d_X12_in s_X12_in) (g_X12_in : d_X12_in + 1 ≤ d) {J38 : zq_P} (j38 : zq_ok X 3 38 J38) {Q : zq_Q} (hq : zq_R X (some .boolean) 1 Q) : zq_ok X 3 19 (xX12_keep_19 s_X12_in J38 Q) := by
  refine zs_aload_n C dX12_keep_19 rfl ?_
  refine zs_getR C zp_56 zF12 (j := 64) ⟨by decide, rfl⟩ zw_1160 dX12_keep_20 ?_
  refine zs_iload_n C dX12_keep_23 rfl ?_
  refine zs_iconst C dX12_keep_24 (by decide) ?_
  refine zs_bastore C zp_99 dX12_keep_25 ?_
  refine zs_aload_n C dX12_keep_26 rfl ?_
  refine zs_getR C zp_56 zF12 (j := 65) ⟨by decide, rfl⟩ zw_1161 dX12_keep_27 ?_
  refine zs_iload_n C dX12_keep_30 rfl ?_
  refine zs_aload_n C dX12_keep_31 rfl ?_
  refine zs_getI C zp_56 zF12 (j := 5) ⟨by decide, rfl⟩ zw_1101 dX12_keep_32 ?_
  refine zs_iastore C zp_100 dX12_keep_35 ?_
  refine zs_iconst C dX12_keep_36 (by decide) ?_
  refine zs_istore_n C dX12_keep_37 rfl (by decide) ?_
  exact j38
def xX12_keep_17 (s_X12_in : zq_Sp) (J38 : zq_P) (Q : zq_Q) (ls : zq_L) (st : List Value) (h : zq_H) : Prop := (zi_push (.int 0) (zi_zret Q)) ls st h
theorem kX12_keep_17 {X : zq_X} {d : Nat} (C : zq_C X cX12_keep 3 RX12 d) {d_X12_in : Nat} {s_X12_in : zq_Sp} (h_X12_in : zq_M yX12_in cX12_in 6 (some .boolean) 1 d_X12_in s_X12_in) (g_X12_in : d_X12_in + 1 ≤ d) {J38 : zq_P} (j38 : zq_ok X 3 38 J38) {Q : zq_Q} (hq : zq_R X (some .boolean) 1 Q) : zq_ok X 3 17 (xX12_keep_17 s_X12_in J38 Q) := by
  refine zs_iconst C dX12_keep_17 (by decide) ?_
  exact zs_zret C hq dX12_keep_18
def xX12_keep_0 (s_X12_in : zq_Sp) (J38 : zq_P) (Q : zq_Q) (ls : zq_L) (st : List Value) (h : zq_H) : Prop := (zi_aload 0 (zi_push (.int 0) (zi_putI 56 0 (zi_iload 1 (zi_i2l (zi_push (.long 0) (zi_push (.long 2) (zi_callS 3 s_X12_in (zi_if1 (fun x => x = 0) (xX12_keep_17 s_X12_in J38 Q) (xX12_keep_19 s_X12_in J38 Q)))))))))) ls st h
theorem kX12_keep_0 {X : zq_X} {d : Nat} (C : zq_C X cX12_keep 3 RX12 d) {d_X12_in : Nat} {s_X12_in : zq_Sp} (h_X12_in : zq_M yX12_in cX12_in 6 (some .boolean) 1 d_X12_in s_X12_in) (g_X12_in : d_X12_in + 1 ≤ d) {J38 : zq_P} (j38 : zq_ok X 3 38 J38) {Q : zq_Q} (hq : zq_R X (some .boolean) 1 Q) : zq_ok X 3 0 (xX12_keep_0 s_X12_in J38 Q) := by
  refine zs_aload_n C dX12_keep_0 rfl ?_
  refine zs_iconst C dX12_keep_1 (by decide) ?_
  refine zs_putI C zp_56 zF12 (j := 0) ⟨by decide, rfl⟩ ⟨rfl, by decide +kernel⟩ zw_1096 dX12_keep_2 ?_
  refine zs_iload_n C dX12_keep_5 rfl ?_
  refine zs_i2l C dX12_keep_6 ?_
  refine zs_lconst C dX12_keep_7 (by decide) ?_
  refine zs_ldc2 C dX12_keep_8 zw_1511 ?_
  refine zs_callS C h_X12_in g_X12_in zy_X12_in zw_1311 zw_1312 dX12_keep_11 ?_
  exact zs_if_ne C dX12_keep_14 (by decide) (kX12_keep_19 C h_X12_in g_X12_in j38 hq) (kX12_keep_17 C h_X12_in g_X12_in j38 hq)
theorem mX12_keep {d : Nat} {spec : zq_Sp} {σ38 : Type} {d_X12_in : Nat} {s_X12_in : zq_Sp} (h_X12_in : zq_M yX12_in cX12_in 6 (some .boolean) 1 d_X12_in s_X12_in) (g_X12_in : d_X12_in + 1 ≤ d) (μ38 : σ38 → Nat) (I38 : zq_Q → σ38 → zq_P) (v : ∀ args h Q, spec args h Q → (zq_a args).length ≤ 3 ∧ xX12_keep_0 s_X12_in (fun ls st h => ∃ b, I38 Q b ls st h) Q (zq_l0 3 args) [] h) (v38 : ∀ Q a ls st h, I38 Q a ls st h → xX12_keep_38 s_X12_in (fun ls st h => ∃ b, μ38 b < μ38 a ∧ I38 Q b ls st h) Q ls st h) : zq_M yX12_keep cX12_keep 3 (some .boolean) 1 d spec := by
  refine zq_met (by decide +kernel) (by decide) (fun X Q args h C hq hs => ⟨(v args h Q hs).1, _, ?_, (v args h Q hs).2⟩)
  have hl := zq_loop1 (X := X) (nL := 3) (pc1 := 38) μ38 (I38 Q) (fun J38 => xX12_keep_38 s_X12_in J38 Q) (fun j38 => kX12_keep_38 C h_X12_in g_X12_in j38 hq) (v38 Q)
  exact kX12_keep_0 C h_X12_in g_X12_in hl hq
/-! ToOneCrumbModel.again(I)Z -/
theorem dX12_again_0 : decode cX12_again 0 = .ok (.aload_n 0, 1) := by decide +kernel
theorem dX12_again_1 : decode cX12_again 1 = .ok (.iconst 0, 1) := by decide +kernel
theorem dX12_again_2 : decode cX12_again 2 = .ok (.putfield 147, 3) := by decide +kernel
theorem dX12_again_5 : decode cX12_again 5 = .ok (.iload_n 1, 1) := by decide +kernel
theorem dX12_again_6 : decode cX12_again 6 = .ok (.i2l, 1) := by decide +kernel
theorem dX12_again_7 : decode cX12_again 7 = .ok (.lconst 0, 1) := by decide +kernel
theorem dX12_again_8 : decode cX12_again 8 = .ok (.ldc2_w 331, 3) := by decide +kernel
theorem dX12_again_11 : decode cX12_again 11 = .ok (.invokestatic 161, 3) := by decide +kernel
theorem dX12_again_14 : decode cX12_again 14 = .ok (.ifCond .eq 25, 3) := by decide +kernel
theorem dX12_again_17 : decode cX12_again 17 = .ok (.aload_n 0, 1) := by decide +kernel
theorem dX12_again_18 : decode cX12_again 18 = .ok (.getfield 138, 3) := by decide +kernel
theorem dX12_again_21 : decode cX12_again 21 = .ok (.iload_n 1, 1) := by decide +kernel
theorem dX12_again_22 : decode cX12_again 22 = .ok (.baload, 1) := by decide +kernel
theorem dX12_again_23 : decode cX12_again 23 = .ok (.ifCond .eq 16, 3) := by decide +kernel
theorem dX12_again_26 : decode cX12_again 26 = .ok (.aload_n 0, 1) := by decide +kernel
theorem dX12_again_27 : decode cX12_again 27 = .ok (.getfield 141, 3) := by decide +kernel
theorem dX12_again_30 : decode cX12_again 30 = .ok (.iload_n 1, 1) := by decide +kernel
theorem dX12_again_31 : decode cX12_again 31 = .ok (.iaload, 1) := by decide +kernel
theorem dX12_again_32 : decode cX12_again 32 = .ok (.aload_n 0, 1) := by decide +kernel
theorem dX12_again_33 : decode cX12_again 33 = .ok (.getfield 242, 3) := by decide +kernel
theorem dX12_again_36 : decode cX12_again 36 = .ok (.if_icmp .eq 5, 3) := by decide +kernel
theorem dX12_again_39 : decode cX12_again 39 = .ok (.iconst 0, 1) := by decide +kernel
theorem dX12_again_40 : decode cX12_again 40 = .ok (.ireturn, 1) := by decide +kernel
theorem dX12_again_41 : decode cX12_again 41 = .ok (.iconst 0, 1) := by decide +kernel
theorem dX12_again_42 : decode cX12_again 42 = .ok (.istore_n 2, 1) := by decide +kernel
theorem dX12_again_43 : decode cX12_again 43 = .ok (.iload_n 2, 1) := by decide +kernel
theorem dX12_again_44 : decode cX12_again 44 = .ok (.bipush 16, 2) := by decide +kernel
theorem dX12_again_46 : decode cX12_again 46 = .ok (.if_icmp .ge 26, 3) := by decide +kernel
theorem dX12_again_49 : decode cX12_again 49 = .ok (.aload_n 0, 1) := by decide +kernel
theorem dX12_again_50 : decode cX12_again 50 = .ok (.getfield 30, 3) := by decide +kernel
theorem dX12_again_53 : decode cX12_again 53 = .ok (.iload_n 2, 1) := by decide +kernel
theorem dX12_again_54 : decode cX12_again 54 = .ok (.aload_n 0, 1) := by decide +kernel
theorem dX12_again_55 : decode cX12_again 55 = .ok (.getfield 144, 3) := by decide +kernel
theorem dX12_again_58 : decode cX12_again 58 = .ok (.bipush 16, 2) := by decide +kernel
theorem dX12_again_60 : decode cX12_again 60 = .ok (.iload_n 1, 1) := by decide +kernel
theorem dX12_again_61 : decode cX12_again 61 = .ok (.imul, 1) := by decide +kernel
theorem dX12_again_62 : decode cX12_again 62 = .ok (.iload_n 2, 1) := by decide +kernel
theorem dX12_again_63 : decode cX12_again 63 = .ok (.iadd, 1) := by decide +kernel
theorem dX12_again_64 : decode cX12_again 64 = .ok (.iaload, 1) := by decide +kernel
theorem dX12_again_65 : decode cX12_again 65 = .ok (.iastore, 1) := by decide +kernel
theorem dX12_again_66 : decode cX12_again 66 = .ok (.iinc 2 1, 3) := by decide +kernel
theorem dX12_again_69 : decode cX12_again 69 = .ok (.goto (-26), 3) := by decide +kernel
theorem dX12_again_72 : decode cX12_again 72 = .ok (.aload_n 0, 1) := by decide +kernel
theorem dX12_again_73 : decode cX12_again 73 = .ok (.iconst 0, 1) := by decide +kernel
theorem dX12_again_74 : decode cX12_again 74 = .ok (.putfield 236, 3) := by decide +kernel
theorem dX12_again_77 : decode cX12_again 77 = .ok (.iconst 1, 1) := by decide +kernel
theorem dX12_again_78 : decode cX12_again 78 = .ok (.ireturn, 1) := by decide +kernel
def xX12_again_72 (s_X12_in : zq_Sp) (J43 : zq_P) (Q : zq_Q) (ls : zq_L) (st : List Value) (h : zq_H) : Prop := (zi_aload 0 (zi_push (.int 0) (zi_putI 56 31 (zi_push (.int 1) (zi_zret Q))))) ls st h
theorem kX12_again_72 {X : zq_X} {d : Nat} (C : zq_C X cX12_again 3 RX12 d) {d_X12_in : Nat} {s_X12_in : zq_Sp} (h_X12_in : zq_M yX12_in cX12_in 6 (some .boolean) 1 d_X12_in s_X12_in) (g_X12_in : d_X12_in + 1 ≤ d) {J43 : zq_P} (j43 : zq_ok X 3 43 J43) {Q : zq_Q} (hq : zq_R X (some .boolean) 1 Q) : zq_ok X 3 72 (xX12_again_72 s_X12_in J43 Q) := by
  refine zs_aload_n C dX12_again_72 rfl ?_
  refine zs_iconst C dX12_again_73 (by decide) ?_
  refine zs_putI C zp_56 zF12 (j := 31) ⟨by decide, rfl⟩ ⟨rfl, by decide +kernel⟩ zw_1127 dX12_again_74 ?_
  refine zs_iconst C dX12_again_77 (by decide) ?_
  exact zs_zret C hq dX12_again_78
def xX12_again_49 (s_X12_in : zq_Sp) (J43 : zq_P) (Q : zq_Q) (ls : zq_L) (st : List Value) (h : zq_H) : Prop := (zi_aload 0 (zi_getR 56 63 (zi_iload 2 (zi_aload 0 (zi_getR 56 101 (zi_push (.int 16) (zi_iload 1 (zi_i2 (fun x y => x * y) (zi_iload 2 (zi_i2 (fun x y => x + y) (zi_aldI 101 48 (zi_astI 63 16 (zi_iinc 2 1 (J43)))))))))))))) ls st h
theorem kX12_again_49 {X : zq_X} {d : Nat} (C : zq_C X cX12_again 3 RX12 d) {d_X12_in : Nat} {s_X12_in : zq_Sp} (h_X12_in : zq_M yX12_in cX12_in 6 (some .boolean) 1 d_X12_in s_X12_in) (g_X12_in : d_X12_in + 1 ≤ d) {J43 : zq_P} (j43 : zq_ok X 3 43 J43) {Q : zq_Q} (hq : zq_R X (some .boolean) 1 Q) : zq_ok X 3 49 (xX12_again_49 s_X12_in J43 Q) := by
  refine zs_aload_n C dX12_again_49 rfl ?_
  refine zs_getR C zp_56 zF12 (j := 11) ⟨by decide, rfl⟩ zw_1107 dX12_again_50 ?_
  refine zs_iload_n C dX12_again_53 rfl ?_
  refine zs_aload_n C dX12_again_54 rfl ?_
  refine zs_getR C zp_56 zF12 (j := 66) ⟨by decide, rfl⟩ zw_1162 dX12_again_55 ?_
  refine zs_bipush C dX12_again_58 (by decide) ?_
  refine zs_iload_n C dX12_again_60 rfl ?_
  refine zs_imul C dX12_again_61 ?_
  refine zs_iload_n C dX12_again_62 rfl ?_
  refine zs_iadd C dX12_again_63 ?_
  refine zs_iaload C zp_101 dX12_again_64 ?_
  refine zs_iastore C zp_63 dX12_again_65 ?_
  refine zs_iinc C dX12_again_66 (by decide) (by decide) ?_
  exact zs_goto C dX12_again_69 (by decide) (j43)
def xX12_again_43 (s_X12_in : zq_Sp) (J43 : zq_P) (Q : zq_Q) (ls : zq_L) (st : List Value) (h : zq_H) : Prop := (zi_iload 2 (zi_push (.int 16) (zi_if2 (fun x y => y ≤ x) (xX12_again_72 s_X12_in J43 Q) (xX12_again_49 s_X12_in J43 Q)))) ls st h
theorem kX12_again_43 {X : zq_X} {d : Nat} (C : zq_C X cX12_again 3 RX12 d) {d_X12_in : Nat} {s_X12_in : zq_Sp} (h_X12_in : zq_M yX12_in cX12_in 6 (some .boolean) 1 d_X12_in s_X12_in) (g_X12_in : d_X12_in + 1 ≤ d) {J43 : zq_P} (j43 : zq_ok X 3 43 J43) {Q : zq_Q} (hq : zq_R X (some .boolean) 1 Q) : zq_ok X 3 43 (xX12_again_43 s_X12_in J43 Q) := by
  refine zs_iload_n C dX12_again_43 rfl ?_
  refine zs_bipush C dX12_again_44 (by decide) ?_
  exact zs_icmp_ge C dX12_again_46 (by decide) (kX12_again_72 C h_X12_in g_X12_in j43 hq) (kX12_again_49 C h_X12_in g_X12_in j43 hq)
def xX12_again_41 (s_X12_in : zq_Sp) (J43 : zq_P) (Q : zq_Q) (ls : zq_L) (st : List Value) (h : zq_H) : Prop := (zi_push (.int 0) (zi_istore 2 (J43))) ls st h
theorem kX12_again_41 {X : zq_X} {d : Nat} (C : zq_C X cX12_again 3 RX12 d) {d_X12_in : Nat} {s_X12_in : zq_Sp} (h_X12_in : zq_M yX12_in cX12_in 6 (some .boolean) 1 d_X12_in s_X12_in) (g_X12_in : d_X12_in + 1 ≤ d) {J43 : zq_P} (j43 : zq_ok X 3 43 J43) {Q : zq_Q} (hq : zq_R X (some .boolean) 1 Q) : zq_ok X 3 41 (xX12_again_41 s_X12_in J43 Q) := by
  refine zs_iconst C dX12_again_41 (by decide) ?_
  refine zs_istore_n C dX12_again_42 rfl (by decide) ?_
  exact j43
def xX12_again_39 (s_X12_in : zq_Sp) (J43 : zq_P) (Q : zq_Q) (ls : zq_L) (st : List Value) (h : zq_H) : Prop := (zi_push (.int 0) (zi_zret Q)) ls st h
theorem kX12_again_39 {X : zq_X} {d : Nat} (C : zq_C X cX12_again 3 RX12 d) {d_X12_in : Nat} {s_X12_in : zq_Sp} (h_X12_in : zq_M yX12_in cX12_in 6 (some .boolean) 1 d_X12_in s_X12_in) (g_X12_in : d_X12_in + 1 ≤ d) {J43 : zq_P} (j43 : zq_ok X 3 43 J43) {Q : zq_Q} (hq : zq_R X (some .boolean) 1 Q) : zq_ok X 3 39 (xX12_again_39 s_X12_in J43 Q) := by
  refine zs_iconst C dX12_again_39 (by decide) ?_
  exact zs_zret C hq dX12_again_40
def xX12_again_26 (s_X12_in : zq_Sp) (J43 : zq_P) (Q : zq_Q) (ls : zq_L) (st : List Value) (h : zq_H) : Prop := (zi_aload 0 (zi_getR 56 100 (zi_iload 1 (zi_aldI 100 3 (zi_aload 0 (zi_getI 56 5 (zi_if2 (fun x y => x = y) (xX12_again_41 s_X12_in J43 Q) (xX12_again_39 s_X12_in J43 Q)))))))) ls st h
theorem kX12_again_26 {X : zq_X} {d : Nat} (C : zq_C X cX12_again 3 RX12 d) {d_X12_in : Nat} {s_X12_in : zq_Sp} (h_X12_in : zq_M yX12_in cX12_in 6 (some .boolean) 1 d_X12_in s_X12_in) (g_X12_in : d_X12_in + 1 ≤ d) {J43 : zq_P} (j43 : zq_ok X 3 43 J43) {Q : zq_Q} (hq : zq_R X (some .boolean) 1 Q) : zq_ok X 3 26 (xX12_again_26 s_X12_in J43 Q) := by
  refine zs_aload_n C dX12_again_26 rfl ?_
  refine zs_getR C zp_56 zF12 (j := 65) ⟨by decide, rfl⟩ zw_1161 dX12_again_27 ?_
  refine zs_iload_n C dX12_again_30 rfl ?_
  refine zs_iaload C zp_100 dX12_again_31 ?_
  refine zs_aload_n C dX12_again_32 rfl ?_
  refine zs_getI C zp_56 zF12 (j := 5) ⟨by decide, rfl⟩ zw_1101 dX12_again_33 ?_
  exact zs_icmp_eq C dX12_again_36 (by decide) (kX12_again_41 C h_X12_in g_X12_in j43 hq) (kX12_again_39 C h_X12_in g_X12_in j43 hq)
def xX12_again_17 (s_X12_in : zq_Sp) (J43 : zq_P) (Q : zq_Q) (ls : zq_L) (st : List Value) (h : zq_H) : Prop := (zi_aload 0 (zi_getR 56 99 (zi_iload 1 (zi_aldI 99 3 (zi_if1 (fun x => x = 0) (xX12_again_39 s_X12_in J43 Q) (xX12_again_26 s_X12_in J43 Q)))))) ls st h
theorem kX12_again_17 {X : zq_X} {d : Nat} (C : zq_C X cX12_again 3 RX12 d) {d_X12_in : Nat} {s_X12_in : zq_Sp} (h_X12_in : zq_M yX12_in cX12_in 6 (some .boolean) 1 d_X12_in s_X12_in) (g_X12_in : d_X12_in + 1 ≤ d) {J43 : zq_P} (j43 : zq_ok X 3 43 J43) {Q : zq_Q} (hq : zq_R X (some .boolean) 1 Q) : zq_ok X 3 17 (xX12_again_17 s_X12_in J43 Q) := by
  refine zs_aload_n C dX12_again_17 rfl ?_
  refine zs_getR C zp_56 zF12 (j := 64) ⟨by decide, rfl⟩ zw_1160 dX12_again_18 ?_
  refine zs_iload_n C dX12_again_21 rfl ?_
  refine zs_baload C zp_99 dX12_again_22 ?_
  exact zs_if_eq C dX12_again_23 (by decide) (kX12_again_39 C h_X12_in g_X12_in j43 hq) (kX12_again_26 C h_X12_in g_X12_in j43 hq)
def xX12_again_0 (s_X12_in : zq_Sp) (J43 : zq_P) (Q : zq_Q) (ls : zq_L) (st : List Value) (h : zq_H) : Prop := (zi_aload 0 (zi_push (.int 0) (zi_putI 56 0 (zi_iload 1 (zi_i2l (zi_push (.long 0) (zi_push (.long 2) (zi_callS 3 s_X12_in (zi_if1 (fun x => x = 0) (xX12_again_39 s_X12_in J43 Q) (xX12_again_17 s_X12_in J43 Q)))))))))) ls st h
theorem kX12_again_0 {X : zq_X} {d : Nat} (C : zq_C X cX12_again 3 RX12 d) {d_X12_in : Nat} {s_X12_in : zq_Sp} (h_X12_in : zq_M yX12_in cX12_in 6 (some .boolean) 1 d_X12_in s_X12_in) (g_X12_in : d_X12_in + 1 ≤ d) {J43 : zq_P} (j43 : zq_ok X 3 43 J43) {Q : zq_Q} (hq : zq_R X (some .boolean) 1 Q) : zq_ok X 3 0 (xX12_again_0 s_X12_in J43 Q) := by
  refine zs_aload_n C dX12_again_0 rfl ?_
  refine zs_iconst C dX12_again_1 (by decide) ?_
  refine zs_putI C zp_56 zF12 (j := 0) ⟨by decide, rfl⟩ ⟨rfl, by decide +kernel⟩ zw_1096 dX12_again_2 ?_
  refine zs_iload_n C dX12_again_5 rfl ?_
  refine zs_i2l C dX12_again_6 ?_
  refine zs_lconst C dX12_again_7 (by decide) ?_
  refine zs_ldc2 C dX12_again_8 zw_1511 ?_
  refine zs_callS C h_X12_in g_X12_in zy_X12_in zw_1311 zw_1312 dX12_again_11 ?_
  exact zs_if_eq C dX12_again_14 (by decide) (kX12_again_39 C h_X12_in g_X12_in j43 hq) (kX12_again_17 C h_X12_in g_X12_in j43 hq)
theorem mX12_again {d : Nat} {spec : zq_Sp} {σ43 : Type} {d_X12_in : Nat} {s_X12_in : zq_Sp} (h_X12_in : zq_M yX12_in cX12_in 6 (some .boolean) 1 d_X12_in s_X12_in) (g_X12_in : d_X12_in + 1 ≤ d) (μ43 : σ43 → Nat) (I43 : zq_Q → σ43 → zq_P) (v : ∀ args h Q, spec args h Q → (zq_a args).length ≤ 3 ∧ xX12_again_0 s_X12_in (fun ls st h => ∃ b, I43 Q b ls st h) Q (zq_l0 3 args) [] h) (v43 : ∀ Q a ls st h, I43 Q a ls st h → xX12_again_43 s_X12_in (fun ls st h => ∃ b, μ43 b < μ43 a ∧ I43 Q b ls st h) Q ls st h) : zq_M yX12_again cX12_again 3 (some .boolean) 1 d spec := by
  refine zq_met (by decide +kernel) (by decide) (fun X Q args h C hq hs => ⟨(v args h Q hs).1, _, ?_, (v args h Q hs).2⟩)
  have hl := zq_loop1 (X := X) (nL := 3) (pc1 := 43) μ43 (I43 Q) (fun J43 => xX12_again_43 s_X12_in J43 Q) (fun j43 => kX12_again_43 C h_X12_in g_X12_in j43 hq) (v43 Q)
  exact kX12_again_0 C h_X12_in g_X12_in hl hq
/-! ToOneCrumbModel.count(I)I -/
theorem dX12_count_0 : decode cX12_count 0 = .ok (.aload_n 0, 1) := by decide +kernel
theorem dX12_count_1 : decode cX12_count 1 = .ok (.iconst 0, 1) := by decide +kernel
theorem dX12_count_2 : decode cX12_count 2 = .ok (.putfield 147, 3) := by decide +kernel
theorem dX12_count_5 : decode cX12_count 5 = .ok (.iload_n 1, 1) := by decide +kernel
theorem dX12_count_6 : decode cX12_count 6 = .ok (.tableswitch 107 0 9 #[54, 59, 64, 70, 77, 82, 87, 92, 97, 102], 54) := by decide +kernel
theorem dX12_count_60 : decode cX12_count 60 = .ok (.aload_n 0, 1) := by decide +kernel
theorem dX12_count_61 : decode cX12_count 61 = .ok (.getfield 158, 3) := by decide +kernel
theorem dX12_count_64 : decode cX12_count 64 = .ok (.ireturn, 1) := by decide +kernel
theorem dX12_count_65 : decode cX12_count 65 = .ok (.aload_n 0, 1) := by decide +kernel
theorem dX12_count_66 : decode cX12_count 66 = .ok (.getfield 165, 3) := by decide +kernel
theorem dX12_count_69 : decode cX12_count 69 = .ok (.ireturn, 1) := by decide +kernel
theorem dX12_count_70 : decode cX12_count 70 = .ok (.aload_n 0, 1) := by decide +kernel
theorem dX12_count_71 : decode cX12_count 71 = .ok (.iconst (-1), 1) := by decide +kernel
theorem dX12_count_72 : decode cX12_count 72 = .ok (.invokevirtual 321, 3) := by decide +kernel
theorem dX12_count_75 : decode cX12_count 75 = .ok (.ireturn, 1) := by decide +kernel
theorem dX12_count_76 : decode cX12_count 76 = .ok (.aload_n 0, 1) := by decide +kernel
theorem dX12_count_77 : decode cX12_count 77 = .ok (.bipush 9, 2) := by decide +kernel
theorem dX12_count_79 : decode cX12_count 79 = .ok (.invokevirtual 321, 3) := by decide +kernel
theorem dX12_count_82 : decode cX12_count 82 = .ok (.ireturn, 1) := by decide +kernel
theorem dX12_count_83 : decode cX12_count 83 = .ok (.aload_n 0, 1) := by decide +kernel
theorem dX12_count_84 : decode cX12_count 84 = .ok (.invokevirtual 452, 3) := by decide +kernel
theorem dX12_count_87 : decode cX12_count 87 = .ok (.ireturn, 1) := by decide +kernel
theorem dX12_count_88 : decode cX12_count 88 = .ok (.aload_n 0, 1) := by decide +kernel
theorem dX12_count_89 : decode cX12_count 89 = .ok (.invokevirtual 265, 3) := by decide +kernel
theorem dX12_count_92 : decode cX12_count 92 = .ok (.ireturn, 1) := by decide +kernel
theorem dX12_count_93 : decode cX12_count 93 = .ok (.aload_n 0, 1) := by decide +kernel
theorem dX12_count_94 : decode cX12_count 94 = .ok (.getfield 239, 3) := by decide +kernel
theorem dX12_count_97 : decode cX12_count 97 = .ok (.ireturn, 1) := by decide +kernel
theorem dX12_count_98 : decode cX12_count 98 = .ok (.aload_n 0, 1) := by decide +kernel
theorem dX12_count_99 : decode cX12_count 99 = .ok (.getfield 236, 3) := by decide +kernel
theorem dX12_count_102 : decode cX12_count 102 = .ok (.ireturn, 1) := by decide +kernel
theorem dX12_count_103 : decode cX12_count 103 = .ok (.aload_n 0, 1) := by decide +kernel
theorem dX12_count_104 : decode cX12_count 104 = .ok (.getfield 155, 3) := by decide +kernel
theorem dX12_count_107 : decode cX12_count 107 = .ok (.ireturn, 1) := by decide +kernel
theorem dX12_count_108 : decode cX12_count 108 = .ok (.aload_n 0, 1) := by decide +kernel
theorem dX12_count_109 : decode cX12_count 109 = .ok (.getfield 172, 3) := by decide +kernel
theorem dX12_count_112 : decode cX12_count 112 = .ok (.ireturn, 1) := by decide +kernel
theorem dX12_count_113 : decode cX12_count 113 = .ok (.bipush (-100), 2) := by decide +kernel
theorem dX12_count_115 : decode cX12_count 115 = .ok (.ireturn, 1) := by decide +kernel
def xX12_count_113 (s_X12_allDeserts : zq_Sp) (s_X12_crumbsAll : zq_Sp) (s_X12_holds : zq_Sp) (Q : zq_Q) (ls : zq_L) (st : List Value) (h : zq_H) : Prop := (zi_push (.int (-100)) (zi_iret Q)) ls st h
theorem kX12_count_113 {X : zq_X} {d : Nat} (C : zq_C X cX12_count 2 RX12 d) {d_X12_allDeserts : Nat} {s_X12_allDeserts : zq_Sp} (h_X12_allDeserts : zq_M yX12_allDeserts cX12_allDeserts 3 (some .int) 1 d_X12_allDeserts s_X12_allDeserts) (g_X12_allDeserts : d_X12_allDeserts + 1 ≤ d) {d_X12_crumbsAll : Nat} {s_X12_crumbsAll : zq_Sp} (h_X12_crumbsAll : zq_M yX12_crumbsAll cX12_crumbsAll 3 (some .int) 1 d_X12_crumbsAll s_X12_crumbsAll) (g_X12_crumbsAll : d_X12_crumbsAll + 1 ≤ d) {d_X12_holds : Nat} {s_X12_holds : zq_Sp} (h_X12_holds : zq_M yX12_holds cX12_holds 4 (some .int) 1 d_X12_holds s_X12_holds) (g_X12_holds : d_X12_holds + 1 ≤ d) {Q : zq_Q} (hq : zq_R X (some .int) 1 Q) : zq_ok X 2 113 (xX12_count_113 s_X12_allDeserts s_X12_crumbsAll s_X12_holds Q) := by
  refine zs_bipush C dX12_count_113 (by decide) ?_
  exact zs_iret C hq dX12_count_115
def xX12_count_108 (s_X12_allDeserts : zq_Sp) (s_X12_crumbsAll : zq_Sp) (s_X12_holds : zq_Sp) (Q : zq_Q) (ls : zq_L) (st : List Value) (h : zq_H) : Prop := (zi_aload 0 (zi_getI 56 13 (zi_iret Q))) ls st h
theorem kX12_count_108 {X : zq_X} {d : Nat} (C : zq_C X cX12_count 2 RX12 d) {d_X12_allDeserts : Nat} {s_X12_allDeserts : zq_Sp} (h_X12_allDeserts : zq_M yX12_allDeserts cX12_allDeserts 3 (some .int) 1 d_X12_allDeserts s_X12_allDeserts) (g_X12_allDeserts : d_X12_allDeserts + 1 ≤ d) {d_X12_crumbsAll : Nat} {s_X12_crumbsAll : zq_Sp} (h_X12_crumbsAll : zq_M yX12_crumbsAll cX12_crumbsAll 3 (some .int) 1 d_X12_crumbsAll s_X12_crumbsAll) (g_X12_crumbsAll : d_X12_crumbsAll + 1 ≤ d) {d_X12_holds : Nat} {s_X12_holds : zq_Sp} (h_X12_holds : zq_M yX12_holds cX12_holds 4 (some .int) 1 d_X12_holds s_X12_holds) (g_X12_holds : d_X12_holds + 1 ≤ d) {Q : zq_Q} (hq : zq_R X (some .int) 1 Q) : zq_ok X 2 108 (xX12_count_108 s_X12_allDeserts s_X12_crumbsAll s_X12_holds Q) := by
  refine zs_aload_n C dX12_count_108 rfl ?_
  refine zs_getI C zp_56 zF12 (j := 13) ⟨by decide, rfl⟩ zw_1109 dX12_count_109 ?_
  exact zs_iret C hq dX12_count_112
def xX12_count_103 (s_X12_allDeserts : zq_Sp) (s_X12_crumbsAll : zq_Sp) (s_X12_holds : zq_Sp) (Q : zq_Q) (ls : zq_L) (st : List Value) (h : zq_H) : Prop := (zi_aload 0 (zi_getI 56 1 (zi_iret Q))) ls st h
theorem kX12_count_103 {X : zq_X} {d : Nat} (C : zq_C X cX12_count 2 RX12 d) {d_X12_allDeserts : Nat} {s_X12_allDeserts : zq_Sp} (h_X12_allDeserts : zq_M yX12_allDeserts cX12_allDeserts 3 (some .int) 1 d_X12_allDeserts s_X12_allDeserts) (g_X12_allDeserts : d_X12_allDeserts + 1 ≤ d) {d_X12_crumbsAll : Nat} {s_X12_crumbsAll : zq_Sp} (h_X12_crumbsAll : zq_M yX12_crumbsAll cX12_crumbsAll 3 (some .int) 1 d_X12_crumbsAll s_X12_crumbsAll) (g_X12_crumbsAll : d_X12_crumbsAll + 1 ≤ d) {d_X12_holds : Nat} {s_X12_holds : zq_Sp} (h_X12_holds : zq_M yX12_holds cX12_holds 4 (some .int) 1 d_X12_holds s_X12_holds) (g_X12_holds : d_X12_holds + 1 ≤ d) {Q : zq_Q} (hq : zq_R X (some .int) 1 Q) : zq_ok X 2 103 (xX12_count_103 s_X12_allDeserts s_X12_crumbsAll s_X12_holds Q) := by
  refine zs_aload_n C dX12_count_103 rfl ?_
  refine zs_getI C zp_56 zF12 (j := 1) ⟨by decide, rfl⟩ zw_1097 dX12_count_104 ?_
  exact zs_iret C hq dX12_count_107
def xX12_count_98 (s_X12_allDeserts : zq_Sp) (s_X12_crumbsAll : zq_Sp) (s_X12_holds : zq_Sp) (Q : zq_Q) (ls : zq_L) (st : List Value) (h : zq_H) : Prop := (zi_aload 0 (zi_getI 56 31 (zi_iret Q))) ls st h
theorem kX12_count_98 {X : zq_X} {d : Nat} (C : zq_C X cX12_count 2 RX12 d) {d_X12_allDeserts : Nat} {s_X12_allDeserts : zq_Sp} (h_X12_allDeserts : zq_M yX12_allDeserts cX12_allDeserts 3 (some .int) 1 d_X12_allDeserts s_X12_allDeserts) (g_X12_allDeserts : d_X12_allDeserts + 1 ≤ d) {d_X12_crumbsAll : Nat} {s_X12_crumbsAll : zq_Sp} (h_X12_crumbsAll : zq_M yX12_crumbsAll cX12_crumbsAll 3 (some .int) 1 d_X12_crumbsAll s_X12_crumbsAll) (g_X12_crumbsAll : d_X12_crumbsAll + 1 ≤ d) {d_X12_holds : Nat} {s_X12_holds : zq_Sp} (h_X12_holds : zq_M yX12_holds cX12_holds 4 (some .int) 1 d_X12_holds s_X12_holds) (g_X12_holds : d_X12_holds + 1 ≤ d) {Q : zq_Q} (hq : zq_R X (some .int) 1 Q) : zq_ok X 2 98 (xX12_count_98 s_X12_allDeserts s_X12_crumbsAll s_X12_holds Q) := by
  refine zs_aload_n C dX12_count_98 rfl ?_
  refine zs_getI C zp_56 zF12 (j := 31) ⟨by decide, rfl⟩ zw_1127 dX12_count_99 ?_
  exact zs_iret C hq dX12_count_102
def xX12_count_93 (s_X12_allDeserts : zq_Sp) (s_X12_crumbsAll : zq_Sp) (s_X12_holds : zq_Sp) (Q : zq_Q) (ls : zq_L) (st : List Value) (h : zq_H) : Prop := (zi_aload 0 (zi_getI 56 53 (zi_iret Q))) ls st h
theorem kX12_count_93 {X : zq_X} {d : Nat} (C : zq_C X cX12_count 2 RX12 d) {d_X12_allDeserts : Nat} {s_X12_allDeserts : zq_Sp} (h_X12_allDeserts : zq_M yX12_allDeserts cX12_allDeserts 3 (some .int) 1 d_X12_allDeserts s_X12_allDeserts) (g_X12_allDeserts : d_X12_allDeserts + 1 ≤ d) {d_X12_crumbsAll : Nat} {s_X12_crumbsAll : zq_Sp} (h_X12_crumbsAll : zq_M yX12_crumbsAll cX12_crumbsAll 3 (some .int) 1 d_X12_crumbsAll s_X12_crumbsAll) (g_X12_crumbsAll : d_X12_crumbsAll + 1 ≤ d) {d_X12_holds : Nat} {s_X12_holds : zq_Sp} (h_X12_holds : zq_M yX12_holds cX12_holds 4 (some .int) 1 d_X12_holds s_X12_holds) (g_X12_holds : d_X12_holds + 1 ≤ d) {Q : zq_Q} (hq : zq_R X (some .int) 1 Q) : zq_ok X 2 93 (xX12_count_93 s_X12_allDeserts s_X12_crumbsAll s_X12_holds Q) := by
  refine zs_aload_n C dX12_count_93 rfl ?_
  refine zs_getI C zp_56 zF12 (j := 53) ⟨by decide, rfl⟩ zw_1149 dX12_count_94 ?_
  exact zs_iret C hq dX12_count_97
def xX12_count_88 (s_X12_allDeserts : zq_Sp) (s_X12_crumbsAll : zq_Sp) (s_X12_holds : zq_Sp) (Q : zq_Q) (ls : zq_L) (st : List Value) (h : zq_H) : Prop := (zi_aload 0 (zi_callV 0 56 s_X12_allDeserts (zi_iret Q))) ls st h
theorem kX12_count_88 {X : zq_X} {d : Nat} (C : zq_C X cX12_count 2 RX12 d) {d_X12_allDeserts : Nat} {s_X12_allDeserts : zq_Sp} (h_X12_allDeserts : zq_M yX12_allDeserts cX12_allDeserts 3 (some .int) 1 d_X12_allDeserts s_X12_allDeserts) (g_X12_allDeserts : d_X12_allDeserts + 1 ≤ d) {d_X12_crumbsAll : Nat} {s_X12_crumbsAll : zq_Sp} (h_X12_crumbsAll : zq_M yX12_crumbsAll cX12_crumbsAll 3 (some .int) 1 d_X12_crumbsAll s_X12_crumbsAll) (g_X12_crumbsAll : d_X12_crumbsAll + 1 ≤ d) {d_X12_holds : Nat} {s_X12_holds : zq_Sp} (h_X12_holds : zq_M yX12_holds cX12_holds 4 (some .int) 1 d_X12_holds s_X12_holds) (g_X12_holds : d_X12_holds + 1 ≤ d) {Q : zq_Q} (hq : zq_R X (some .int) 1 Q) : zq_ok X 2 88 (xX12_count_88 s_X12_allDeserts s_X12_crumbsAll s_X12_holds Q) := by
  refine zs_aload_n C dX12_count_88 rfl ?_
  refine zs_callV C h_X12_allDeserts g_X12_allDeserts zy_X12_allDeserts zp_56 (show vwCl[12]? = some (RX12, TX12, 67) from rfl) zw_1425 zw_1427 zs9_X12_allDeserts dX12_count_89 ?_
  exact zs_iret C hq dX12_count_92
def xX12_count_83 (s_X12_allDeserts : zq_Sp) (s_X12_crumbsAll : zq_Sp) (s_X12_holds : zq_Sp) (Q : zq_Q) (ls : zq_L) (st : List Value) (h : zq_H) : Prop := (zi_aload 0 (zi_callV 0 56 s_X12_crumbsAll (zi_iret Q))) ls st h
theorem kX12_count_83 {X : zq_X} {d : Nat} (C : zq_C X cX12_count 2 RX12 d) {d_X12_allDeserts : Nat} {s_X12_allDeserts : zq_Sp} (h_X12_allDeserts : zq_M yX12_allDeserts cX12_allDeserts 3 (some .int) 1 d_X12_allDeserts s_X12_allDeserts) (g_X12_allDeserts : d_X12_allDeserts + 1 ≤ d) {d_X12_crumbsAll : Nat} {s_X12_crumbsAll : zq_Sp} (h_X12_crumbsAll : zq_M yX12_crumbsAll cX12_crumbsAll 3 (some .int) 1 d_X12_crumbsAll s_X12_crumbsAll) (g_X12_crumbsAll : d_X12_crumbsAll + 1 ≤ d) {d_X12_holds : Nat} {s_X12_holds : zq_Sp} (h_X12_holds : zq_M yX12_holds cX12_holds 4 (some .int) 1 d_X12_holds s_X12_holds) (g_X12_holds : d_X12_holds + 1 ≤ d) {Q : zq_Q} (hq : zq_R X (some .int) 1 Q) : zq_ok X 2 83 (xX12_count_83 s_X12_allDeserts s_X12_crumbsAll s_X12_holds Q) := by
  refine zs_aload_n C dX12_count_83 rfl ?_
  refine zs_callV C h_X12_crumbsAll g_X12_crumbsAll zy_X12_crumbsAll zp_56 (show vwCl[12]? = some (RX12, TX12, 67) from rfl) zw_1737 zw_1739 zs9_X12_crumbsAll dX12_count_84 ?_
  exact zs_iret C hq dX12_count_87
def xX12_count_76 (s_X12_allDeserts : zq_Sp) (s_X12_crumbsAll : zq_Sp) (s_X12_holds : zq_Sp) (Q : zq_Q) (ls : zq_L) (st : List Value) (h : zq_H) : Prop := (zi_aload 0 (zi_push (.int 9) (zi_callV 1 56 s_X12_holds (zi_iret Q)))) ls st h
theorem kX12_count_76 {X : zq_X} {d : Nat} (C : zq_C X cX12_count 2 RX12 d) {d_X12_allDeserts : Nat} {s_X12_allDeserts : zq_Sp} (h_X12_allDeserts : zq_M yX12_allDeserts cX12_allDeserts 3 (some .int) 1 d_X12_allDeserts s_X12_allDeserts) (g_X12_allDeserts : d_X12_allDeserts + 1 ≤ d) {d_X12_crumbsAll : Nat} {s_X12_crumbsAll : zq_Sp} (h_X12_crumbsAll : zq_M yX12_crumbsAll cX12_crumbsAll 3 (some .int) 1 d_X12_crumbsAll s_X12_crumbsAll) (g_X12_crumbsAll : d_X12_crumbsAll + 1 ≤ d) {d_X12_holds : Nat} {s_X12_holds : zq_Sp} (h_X12_holds : zq_M yX12_holds cX12_holds 4 (some .int) 1 d_X12_holds s_X12_holds) (g_X12_holds : d_X12_holds + 1 ≤ d) {Q : zq_Q} (hq : zq_R X (some .int) 1 Q) : zq_ok X 2 76 (xX12_count_76 s_X12_allDeserts s_X12_crumbsAll s_X12_holds Q) := by
  refine zs_aload_n C dX12_count_76 rfl ?_
  refine zs_bipush C dX12_count_77 (by decide) ?_
  refine zs_callV C h_X12_holds g_X12_holds zy_X12_holds zp_56 (show vwCl[12]? = some (RX12, TX12, 67) from rfl) zw_1490 zw_1492 zs9_X12_holds dX12_count_79 ?_
  exact zs_iret C hq dX12_count_82
def xX12_count_70 (s_X12_allDeserts : zq_Sp) (s_X12_crumbsAll : zq_Sp) (s_X12_holds : zq_Sp) (Q : zq_Q) (ls : zq_L) (st : List Value) (h : zq_H) : Prop := (zi_aload 0 (zi_push (.int (-1)) (zi_callV 1 56 s_X12_holds (zi_iret Q)))) ls st h
theorem kX12_count_70 {X : zq_X} {d : Nat} (C : zq_C X cX12_count 2 RX12 d) {d_X12_allDeserts : Nat} {s_X12_allDeserts : zq_Sp} (h_X12_allDeserts : zq_M yX12_allDeserts cX12_allDeserts 3 (some .int) 1 d_X12_allDeserts s_X12_allDeserts) (g_X12_allDeserts : d_X12_allDeserts + 1 ≤ d) {d_X12_crumbsAll : Nat} {s_X12_crumbsAll : zq_Sp} (h_X12_crumbsAll : zq_M yX12_crumbsAll cX12_crumbsAll 3 (some .int) 1 d_X12_crumbsAll s_X12_crumbsAll) (g_X12_crumbsAll : d_X12_crumbsAll + 1 ≤ d) {d_X12_holds : Nat} {s_X12_holds : zq_Sp} (h_X12_holds : zq_M yX12_holds cX12_holds 4 (some .int) 1 d_X12_holds s_X12_holds) (g_X12_holds : d_X12_holds + 1 ≤ d) {Q : zq_Q} (hq : zq_R X (some .int) 1 Q) : zq_ok X 2 70 (xX12_count_70 s_X12_allDeserts s_X12_crumbsAll s_X12_holds Q) := by
  refine zs_aload_n C dX12_count_70 rfl ?_
  refine zs_iconst C dX12_count_71 (by decide) ?_
  refine zs_callV C h_X12_holds g_X12_holds zy_X12_holds zp_56 (show vwCl[12]? = some (RX12, TX12, 67) from rfl) zw_1490 zw_1492 zs9_X12_holds dX12_count_72 ?_
  exact zs_iret C hq dX12_count_75
def xX12_count_65 (s_X12_allDeserts : zq_Sp) (s_X12_crumbsAll : zq_Sp) (s_X12_holds : zq_Sp) (Q : zq_Q) (ls : zq_L) (st : List Value) (h : zq_H) : Prop := (zi_aload 0 (zi_getI 56 4 (zi_iret Q))) ls st h
theorem kX12_count_65 {X : zq_X} {d : Nat} (C : zq_C X cX12_count 2 RX12 d) {d_X12_allDeserts : Nat} {s_X12_allDeserts : zq_Sp} (h_X12_allDeserts : zq_M yX12_allDeserts cX12_allDeserts 3 (some .int) 1 d_X12_allDeserts s_X12_allDeserts) (g_X12_allDeserts : d_X12_allDeserts + 1 ≤ d) {d_X12_crumbsAll : Nat} {s_X12_crumbsAll : zq_Sp} (h_X12_crumbsAll : zq_M yX12_crumbsAll cX12_crumbsAll 3 (some .int) 1 d_X12_crumbsAll s_X12_crumbsAll) (g_X12_crumbsAll : d_X12_crumbsAll + 1 ≤ d) {d_X12_holds : Nat} {s_X12_holds : zq_Sp} (h_X12_holds : zq_M yX12_holds cX12_holds 4 (some .int) 1 d_X12_holds s_X12_holds) (g_X12_holds : d_X12_holds + 1 ≤ d) {Q : zq_Q} (hq : zq_R X (some .int) 1 Q) : zq_ok X 2 65 (xX12_count_65 s_X12_allDeserts s_X12_crumbsAll s_X12_holds Q) := by
  refine zs_aload_n C dX12_count_65 rfl ?_
  refine zs_getI C zp_56 zF12 (j := 4) ⟨by decide, rfl⟩ zw_1100 dX12_count_66 ?_
  exact zs_iret C hq dX12_count_69
def xX12_count_60 (s_X12_allDeserts : zq_Sp) (s_X12_crumbsAll : zq_Sp) (s_X12_holds : zq_Sp) (Q : zq_Q) (ls : zq_L) (st : List Value) (h : zq_H) : Prop := (zi_aload 0 (zi_getI 56 3 (zi_iret Q))) ls st h
theorem kX12_count_60 {X : zq_X} {d : Nat} (C : zq_C X cX12_count 2 RX12 d) {d_X12_allDeserts : Nat} {s_X12_allDeserts : zq_Sp} (h_X12_allDeserts : zq_M yX12_allDeserts cX12_allDeserts 3 (some .int) 1 d_X12_allDeserts s_X12_allDeserts) (g_X12_allDeserts : d_X12_allDeserts + 1 ≤ d) {d_X12_crumbsAll : Nat} {s_X12_crumbsAll : zq_Sp} (h_X12_crumbsAll : zq_M yX12_crumbsAll cX12_crumbsAll 3 (some .int) 1 d_X12_crumbsAll s_X12_crumbsAll) (g_X12_crumbsAll : d_X12_crumbsAll + 1 ≤ d) {d_X12_holds : Nat} {s_X12_holds : zq_Sp} (h_X12_holds : zq_M yX12_holds cX12_holds 4 (some .int) 1 d_X12_holds s_X12_holds) (g_X12_holds : d_X12_holds + 1 ≤ d) {Q : zq_Q} (hq : zq_R X (some .int) 1 Q) : zq_ok X 2 60 (xX12_count_60 s_X12_allDeserts s_X12_crumbsAll s_X12_holds Q) := by
  refine zs_aload_n C dX12_count_60 rfl ?_
  refine zs_getI C zp_56 zF12 (j := 3) ⟨by decide, rfl⟩ zw_1099 dX12_count_61 ?_
  exact zs_iret C hq dX12_count_64
def xX12_count_0 (s_X12_allDeserts : zq_Sp) (s_X12_crumbsAll : zq_Sp) (s_X12_holds : zq_Sp) (Q : zq_Q) (ls : zq_L) (st : List Value) (h : zq_H) : Prop := (zi_aload 0 (zi_push (.int 0) (zi_putI 56 0 (zi_iload 1 (zi_sw [(0, (xX12_count_60 s_X12_allDeserts s_X12_crumbsAll s_X12_holds Q)), (1, (xX12_count_65 s_X12_allDeserts s_X12_crumbsAll s_X12_holds Q)), (2, (xX12_count_70 s_X12_allDeserts s_X12_crumbsAll s_X12_holds Q)), (3, (xX12_count_76 s_X12_allDeserts s_X12_crumbsAll s_X12_holds Q)), (4, (xX12_count_83 s_X12_allDeserts s_X12_crumbsAll s_X12_holds Q)), (5, (xX12_count_88 s_X12_allDeserts s_X12_crumbsAll s_X12_holds Q)), (6, (xX12_count_93 s_X12_allDeserts s_X12_crumbsAll s_X12_holds Q)), (7, (xX12_count_98 s_X12_allDeserts s_X12_crumbsAll s_X12_holds Q)), (8, (xX12_count_103 s_X12_allDeserts s_X12_crumbsAll s_X12_holds Q)), (9, (xX12_count_108 s_X12_allDeserts s_X12_crumbsAll s_X12_holds Q))] (xX12_count_113 s_X12_allDeserts s_X12_crumbsAll s_X12_holds Q)))))) ls st h
theorem kX12_count_0 {X : zq_X} {d : Nat} (C : zq_C X cX12_count 2 RX12 d) {d_X12_allDeserts : Nat} {s_X12_allDeserts : zq_Sp} (h_X12_allDeserts : zq_M yX12_allDeserts cX12_allDeserts 3 (some .int) 1 d_X12_allDeserts s_X12_allDeserts) (g_X12_allDeserts : d_X12_allDeserts + 1 ≤ d) {d_X12_crumbsAll : Nat} {s_X12_crumbsAll : zq_Sp} (h_X12_crumbsAll : zq_M yX12_crumbsAll cX12_crumbsAll 3 (some .int) 1 d_X12_crumbsAll s_X12_crumbsAll) (g_X12_crumbsAll : d_X12_crumbsAll + 1 ≤ d) {d_X12_holds : Nat} {s_X12_holds : zq_Sp} (h_X12_holds : zq_M yX12_holds cX12_holds 4 (some .int) 1 d_X12_holds s_X12_holds) (g_X12_holds : d_X12_holds + 1 ≤ d) {Q : zq_Q} (hq : zq_R X (some .int) 1 Q) : zq_ok X 2 0 (xX12_count_0 s_X12_allDeserts s_X12_crumbsAll s_X12_holds Q) := by
  refine zs_aload_n C dX12_count_0 rfl ?_
  refine zs_iconst C dX12_count_1 (by decide) ?_
  refine zs_putI C zp_56 zF12 (j := 0) ⟨by decide, rfl⟩ ⟨rfl, by decide +kernel⟩ zw_1096 dX12_count_2 ?_
  refine zs_iload_n C dX12_count_5 rfl ?_
  exact zs_tsw C dX12_count_6 (by rfl) ⟨⟨by decide, _, _, rfl, by decide, kX12_count_60 C h_X12_allDeserts g_X12_allDeserts h_X12_crumbsAll g_X12_crumbsAll h_X12_holds g_X12_holds hq⟩, ⟨by decide, _, _, rfl, by decide, kX12_count_65 C h_X12_allDeserts g_X12_allDeserts h_X12_crumbsAll g_X12_crumbsAll h_X12_holds g_X12_holds hq⟩, ⟨by decide, _, _, rfl, by decide, kX12_count_70 C h_X12_allDeserts g_X12_allDeserts h_X12_crumbsAll g_X12_crumbsAll h_X12_holds g_X12_holds hq⟩, ⟨by decide, _, _, rfl, by decide, kX12_count_76 C h_X12_allDeserts g_X12_allDeserts h_X12_crumbsAll g_X12_crumbsAll h_X12_holds g_X12_holds hq⟩, ⟨by decide, _, _, rfl, by decide, kX12_count_83 C h_X12_allDeserts g_X12_allDeserts h_X12_crumbsAll g_X12_crumbsAll h_X12_holds g_X12_holds hq⟩, ⟨by decide, _, _, rfl, by decide, kX12_count_88 C h_X12_allDeserts g_X12_allDeserts h_X12_crumbsAll g_X12_crumbsAll h_X12_holds g_X12_holds hq⟩, ⟨by decide, _, _, rfl, by decide, kX12_count_93 C h_X12_allDeserts g_X12_allDeserts h_X12_crumbsAll g_X12_crumbsAll h_X12_holds g_X12_holds hq⟩, ⟨by decide, _, _, rfl, by decide, kX12_count_98 C h_X12_allDeserts g_X12_allDeserts h_X12_crumbsAll g_X12_crumbsAll h_X12_holds g_X12_holds hq⟩, ⟨by decide, _, _, rfl, by decide, kX12_count_103 C h_X12_allDeserts g_X12_allDeserts h_X12_crumbsAll g_X12_crumbsAll h_X12_holds g_X12_holds hq⟩, ⟨by decide, _, _, rfl, by decide, kX12_count_108 C h_X12_allDeserts g_X12_allDeserts h_X12_crumbsAll g_X12_crumbsAll h_X12_holds g_X12_holds hq⟩, trivial⟩ (by decide) (kX12_count_113 C h_X12_allDeserts g_X12_allDeserts h_X12_crumbsAll g_X12_crumbsAll h_X12_holds g_X12_holds hq)
theorem mX12_count {d : Nat} {spec : zq_Sp} {d_X12_allDeserts : Nat} {s_X12_allDeserts : zq_Sp} (h_X12_allDeserts : zq_M yX12_allDeserts cX12_allDeserts 3 (some .int) 1 d_X12_allDeserts s_X12_allDeserts) (g_X12_allDeserts : d_X12_allDeserts + 1 ≤ d) {d_X12_crumbsAll : Nat} {s_X12_crumbsAll : zq_Sp} (h_X12_crumbsAll : zq_M yX12_crumbsAll cX12_crumbsAll 3 (some .int) 1 d_X12_crumbsAll s_X12_crumbsAll) (g_X12_crumbsAll : d_X12_crumbsAll + 1 ≤ d) {d_X12_holds : Nat} {s_X12_holds : zq_Sp} (h_X12_holds : zq_M yX12_holds cX12_holds 4 (some .int) 1 d_X12_holds s_X12_holds) (g_X12_holds : d_X12_holds + 1 ≤ d) (v : ∀ args h Q, spec args h Q → (zq_a args).length ≤ 2 ∧ xX12_count_0 s_X12_allDeserts s_X12_crumbsAll s_X12_holds Q (zq_l0 2 args) [] h) : zq_M yX12_count cX12_count 2 (some .int) 1 d spec := by
  refine zq_met (by decide +kernel) (by decide) (fun X Q args h C hq hs => ⟨(v args h Q hs).1, _, ?_, (v args h Q hs).2⟩)
  exact kX12_count_0 C h_X12_allDeserts g_X12_allDeserts h_X12_crumbsAll g_X12_crumbsAll h_X12_holds g_X12_holds hq
/-! ToOneCrumbModel.row(I)J -/
theorem dX12_row_0 : decode cX12_row 0 = .ok (.aload_n 0, 1) := by decide +kernel
theorem dX12_row_1 : decode cX12_row 1 = .ok (.iconst 0, 1) := by decide +kernel
theorem dX12_row_2 : decode cX12_row 2 = .ok (.putfield 147, 3) := by decide +kernel
theorem dX12_row_5 : decode cX12_row 5 = .ok (.iload_n 1, 1) := by decide +kernel
theorem dX12_row_6 : decode cX12_row 6 = .ok (.i2l, 1) := by decide +kernel
theorem dX12_row_7 : decode cX12_row 7 = .ok (.lconst 0, 1) := by decide +kernel
theorem dX12_row_8 : decode cX12_row 8 = .ok (.aload_n 0, 1) := by decide +kernel
theorem dX12_row_9 : decode cX12_row 9 = .ok (.getfield 155, 3) := by decide +kernel
theorem dX12_row_12 : decode cX12_row 12 = .ok (.iconst 1, 1) := by decide +kernel
theorem dX12_row_13 : decode cX12_row 13 = .ok (.isub, 1) := by decide +kernel
theorem dX12_row_14 : decode cX12_row 14 = .ok (.i2l, 1) := by decide +kernel
theorem dX12_row_15 : decode cX12_row 15 = .ok (.invokestatic 161, 3) := by decide +kernel
theorem dX12_row_18 : decode cX12_row 18 = .ok (.ifCond .ne 10, 3) := by decide +kernel
theorem dX12_row_21 : decode cX12_row 21 = .ok (.aload_n 0, 1) := by decide +kernel
theorem dX12_row_22 : decode cX12_row 22 = .ok (.iconst 1, 1) := by decide +kernel
theorem dX12_row_23 : decode cX12_row 23 = .ok (.putfield 147, 3) := by decide +kernel
theorem dX12_row_26 : decode cX12_row 26 = .ok (.lconst 0, 1) := by decide +kernel
theorem dX12_row_27 : decode cX12_row 27 = .ok (.lreturn, 1) := by decide +kernel
theorem dX12_row_28 : decode cX12_row 28 = .ok (.aload_n 0, 1) := by decide +kernel
theorem dX12_row_29 : decode cX12_row 29 = .ok (.getfield 7, 3) := by decide +kernel
theorem dX12_row_32 : decode cX12_row 32 = .ok (.iload_n 1, 1) := by decide +kernel
theorem dX12_row_33 : decode cX12_row 33 = .ok (.laload, 1) := by decide +kernel
theorem dX12_row_34 : decode cX12_row 34 = .ok (.lreturn, 1) := by decide +kernel
def xX12_row_28 (s_X12_in : zq_Sp) (Q : zq_Q) (ls : zq_L) (st : List Value) (h : zq_H) : Prop := (zi_aload 0 (zi_getR 56 57 (zi_iload 1 (zi_aldL 57 24 (zi_lret Q))))) ls st h
theorem kX12_row_28 {X : zq_X} {d : Nat} (C : zq_C X cX12_row 2 RX12 d) {d_X12_in : Nat} {s_X12_in : zq_Sp} (h_X12_in : zq_M yX12_in cX12_in 6 (some .boolean) 1 d_X12_in s_X12_in) (g_X12_in : d_X12_in + 1 ≤ d) {Q : zq_Q} (hq : zq_R X (some .long) 2 Q) : zq_ok X 2 28 (xX12_row_28 s_X12_in Q) := by
  refine zs_aload_n C dX12_row_28 rfl ?_
  refine zs_getR C zp_56 zF12 (j := 2) ⟨by decide, rfl⟩ zw_1098 dX12_row_29 ?_
  refine zs_iload_n C dX12_row_32 rfl ?_
  refine zs_laload C zp_57 dX12_row_33 ?_
  exact zs_lret C hq dX12_row_34
def xX12_row_21 (s_X12_in : zq_Sp) (Q : zq_Q) (ls : zq_L) (st : List Value) (h : zq_H) : Prop := (zi_aload 0 (zi_push (.int 1) (zi_putI 56 0 (zi_push (.long 0) (zi_lret Q))))) ls st h
theorem kX12_row_21 {X : zq_X} {d : Nat} (C : zq_C X cX12_row 2 RX12 d) {d_X12_in : Nat} {s_X12_in : zq_Sp} (h_X12_in : zq_M yX12_in cX12_in 6 (some .boolean) 1 d_X12_in s_X12_in) (g_X12_in : d_X12_in + 1 ≤ d) {Q : zq_Q} (hq : zq_R X (some .long) 2 Q) : zq_ok X 2 21 (xX12_row_21 s_X12_in Q) := by
  refine zs_aload_n C dX12_row_21 rfl ?_
  refine zs_iconst C dX12_row_22 (by decide) ?_
  refine zs_putI C zp_56 zF12 (j := 0) ⟨by decide, rfl⟩ ⟨rfl, by decide +kernel⟩ zw_1096 dX12_row_23 ?_
  refine zs_lconst C dX12_row_26 (by decide) ?_
  exact zs_lret C hq dX12_row_27
def xX12_row_0 (s_X12_in : zq_Sp) (Q : zq_Q) (ls : zq_L) (st : List Value) (h : zq_H) : Prop := (zi_aload 0 (zi_push (.int 0) (zi_putI 56 0 (zi_iload 1 (zi_i2l (zi_push (.long 0) (zi_aload 0 (zi_getI 56 1 (zi_push (.int 1) (zi_i2 (fun x y => x - y) (zi_i2l (zi_callS 3 s_X12_in (zi_if1 (fun x => x = 0) (xX12_row_21 s_X12_in Q) (xX12_row_28 s_X12_in Q)))))))))))))) ls st h
theorem kX12_row_0 {X : zq_X} {d : Nat} (C : zq_C X cX12_row 2 RX12 d) {d_X12_in : Nat} {s_X12_in : zq_Sp} (h_X12_in : zq_M yX12_in cX12_in 6 (some .boolean) 1 d_X12_in s_X12_in) (g_X12_in : d_X12_in + 1 ≤ d) {Q : zq_Q} (hq : zq_R X (some .long) 2 Q) : zq_ok X 2 0 (xX12_row_0 s_X12_in Q) := by
  refine zs_aload_n C dX12_row_0 rfl ?_
  refine zs_iconst C dX12_row_1 (by decide) ?_
  refine zs_putI C zp_56 zF12 (j := 0) ⟨by decide, rfl⟩ ⟨rfl, by decide +kernel⟩ zw_1096 dX12_row_2 ?_
  refine zs_iload_n C dX12_row_5 rfl ?_
  refine zs_i2l C dX12_row_6 ?_
  refine zs_lconst C dX12_row_7 (by decide) ?_
  refine zs_aload_n C dX12_row_8 rfl ?_
  refine zs_getI C zp_56 zF12 (j := 1) ⟨by decide, rfl⟩ zw_1097 dX12_row_9 ?_
  refine zs_iconst C dX12_row_12 (by decide) ?_
  refine zs_isub C dX12_row_13 ?_
  refine zs_i2l C dX12_row_14 ?_
  refine zs_callS C h_X12_in g_X12_in zy_X12_in zw_1311 zw_1312 dX12_row_15 ?_
  exact zs_if_ne C dX12_row_18 (by decide) (kX12_row_28 C h_X12_in g_X12_in hq) (kX12_row_21 C h_X12_in g_X12_in hq)
theorem mX12_row {d : Nat} {spec : zq_Sp} {d_X12_in : Nat} {s_X12_in : zq_Sp} (h_X12_in : zq_M yX12_in cX12_in 6 (some .boolean) 1 d_X12_in s_X12_in) (g_X12_in : d_X12_in + 1 ≤ d) (v : ∀ args h Q, spec args h Q → (zq_a args).length ≤ 2 ∧ xX12_row_0 s_X12_in Q (zq_l0 2 args) [] h) : zq_M yX12_row cX12_row 2 (some .long) 2 d spec := by
  refine zq_met (by decide +kernel) (by decide) (fun X Q args h C hq hs => ⟨(v args h Q hs).1, _, ?_, (v args h Q hs).2⟩)
  exact kX12_row_0 C h_X12_in g_X12_in hq
