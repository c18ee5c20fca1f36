/-! ToOneCrumb$Choices.tell(II)I -/
theorem dX1_tell_0 : decode cX1_tell 0 = .ok (.aload_n 0, 1) := by decide +kernel
theorem dX1_tell_1 : decode cX1_tell 1 = .ok (.getfield 30, 3) := by decide +kernel
theorem dX1_tell_4 : decode cX1_tell 4 = .ok (.bipush 12, 2) := by decide +kernel
theorem dX1_tell_6 : decode cX1_tell 6 = .ok (.if_icmp .lt 5, 3) := by decide +kernel
theorem dX1_tell_9 : decode cX1_tell 9 = .ok (.iconst (-1), 1) := by decide +kernel
theorem dX1_tell_10 : decode cX1_tell 10 = .ok (.ireturn, 1) := by decide +kernel
theorem dX1_tell_11 : decode cX1_tell 11 = .ok (.aload_n 0, 1) := by decide +kernel
theorem dX1_tell_12 : decode cX1_tell 12 = .ok (.getfield 11, 3) := by decide +kernel
theorem dX1_tell_15 : decode cX1_tell 15 = .ok (.aload_n 0, 1) := by decide +kernel
theorem dX1_tell_16 : decode cX1_tell 16 = .ok (.getfield 30, 3) := by decide +kernel
theorem dX1_tell_19 : decode cX1_tell 19 = .ok (.iload_n 1, 1) := by decide +kernel
theorem dX1_tell_20 : decode cX1_tell 20 = .ok (.iastore, 1) := by decide +kernel
theorem dX1_tell_21 : decode cX1_tell 21 = .ok (.aload_n 0, 1) := by decide +kernel
theorem dX1_tell_22 : decode cX1_tell 22 = .ok (.getfield 15, 3) := by decide +kernel
theorem dX1_tell_25 : decode cX1_tell 25 = .ok (.aload_n 0, 1) := by decide +kernel
theorem dX1_tell_26 : decode cX1_tell 26 = .ok (.getfield 30, 3) := by decide +kernel
theorem dX1_tell_29 : decode cX1_tell 29 = .ok (.iload_n 2, 1) := by decide +kernel
theorem dX1_tell_30 : decode cX1_tell 30 = .ok (.iastore, 1) := by decide +kernel
theorem dX1_tell_31 : decode cX1_tell 31 = .ok (.aload_n 0, 1) := by decide +kernel
theorem dX1_tell_32 : decode cX1_tell 32 = .ok (.dup, 1) := by decide +kernel
theorem dX1_tell_33 : decode cX1_tell 33 = .ok (.getfield 30, 3) := by decide +kernel
theorem dX1_tell_36 : decode cX1_tell 36 = .ok (.iconst 1, 1) := by decide +kernel
theorem dX1_tell_37 : decode cX1_tell 37 = .ok (.iadd, 1) := by decide +kernel
theorem dX1_tell_38 : decode cX1_tell 38 = .ok (.putfield 30, 3) := by decide +kernel
theorem dX1_tell_41 : decode cX1_tell 41 = .ok (.aload_n 0, 1) := by decide +kernel
theorem dX1_tell_42 : decode cX1_tell 42 = .ok (.getfield 30, 3) := by decide +kernel
theorem dX1_tell_45 : decode cX1_tell 45 = .ok (.ireturn, 1) := by decide +kernel
def xX1_tell_11 (Q : zq_Q) (ls : zq_L) (st : List Value) (h : zq_H) : Prop := (zi_aload 0 (zi_getR 15 16 (zi_aload 0 (zi_getI 15 7 (zi_iload 1 (zi_astI 16 12 (zi_aload 0 (zi_getR 15 17 (zi_aload 0 (zi_getI 15 7 (zi_iload 2 (zi_astI 17 12 (zi_aload 0 (zi_dup (zi_getI 15 7 (zi_push (.int 1) (zi_i2 (fun x y => x + y) (zi_putI 15 7 (zi_aload 0 (zi_getI 15 7 (zi_iret Q))))))))))))))))))))) ls st h
theorem kX1_tell_11 {X : zq_X} {d : Nat} (C : zq_C X cX1_tell 3 RX1 d) {Q : zq_Q} (hq : zq_R X (some .int) 1 Q) : zq_ok X 3 11 (xX1_tell_11 Q) := by
  refine zs_aload_n C dX1_tell_11 rfl ?_
  refine zs_getR C zp_15 zF1 (j := 0) ⟨by decide, rfl⟩ zw_144 dX1_tell_12 ?_
  refine zs_aload_n C dX1_tell_15 rfl ?_
  refine zs_getI C zp_15 zF1 (j := 7) ⟨by decide, rfl⟩ zw_152 dX1_tell_16 ?_
  refine zs_iload_n C dX1_tell_19 rfl ?_
  refine zs_iastore C zp_16 dX1_tell_20 ?_
  refine zs_aload_n C dX1_tell_21 rfl ?_
  refine zs_getR C zp_15 zF1 (j := 1) ⟨by decide, rfl⟩ zw_145 dX1_tell_22 ?_
  refine zs_aload_n C dX1_tell_25 rfl ?_
  refine zs_getI C zp_15 zF1 (j := 7) ⟨by decide, rfl⟩ zw_152 dX1_tell_26 ?_
  refine zs_iload_n C dX1_tell_29 rfl ?_
  refine zs_iastore C zp_17 dX1_tell_30 ?_
  refine zs_aload_n C dX1_tell_31 rfl ?_
  refine zs_dup C dX1_tell_32 ?_
  refine zs_getI C zp_15 zF1 (j := 7) ⟨by decide, rfl⟩ zw_152 dX1_tell_33 ?_
  refine zs_iconst C dX1_tell_36 (by decide) ?_
  refine zs_iadd C dX1_tell_37 ?_
  refine zs_putI C zp_15 zF1 (j := 7) ⟨by decide, rfl⟩ ⟨rfl, by decide +kernel⟩ zw_152 dX1_tell_38 ?_
  refine zs_aload_n C dX1_tell_41 rfl ?_
  refine zs_getI C zp_15 zF1 (j := 7) ⟨by decide, rfl⟩ zw_152 dX1_tell_42 ?_
  exact zs_iret C hq dX1_tell_45
def xX1_tell_9 (Q : zq_Q) (ls : zq_L) (st : List Value) (h : zq_H) : Prop := (zi_push (.int (-1)) (zi_iret Q)) ls st h
theorem kX1_tell_9 {X : zq_X} {d : Nat} (C : zq_C X cX1_tell 3 RX1 d) {Q : zq_Q} (hq : zq_R X (some .int) 1 Q) : zq_ok X 3 9 (xX1_tell_9 Q) := by
  refine zs_iconst C dX1_tell_9 (by decide) ?_
  exact zs_iret C hq dX1_tell_10
def xX1_tell_0 (Q : zq_Q) (ls : zq_L) (st : List Value) (h : zq_H) : Prop := (zi_aload 0 (zi_getI 15 7 (zi_push (.int 12) (zi_if2 (fun x y => x < y) (xX1_tell_11 Q) (xX1_tell_9 Q))))) ls st h
theorem kX1_tell_0 {X : zq_X} {d : Nat} (C : zq_C X cX1_tell 3 RX1 d) {Q : zq_Q} (hq : zq_R X (some .int) 1 Q) : zq_ok X 3 0 (xX1_tell_0 Q) := by
  refine zs_aload_n C dX1_tell_0 rfl ?_
  refine zs_getI C zp_15 zF1 (j := 7) ⟨by decide, rfl⟩ zw_152 dX1_tell_1 ?_
  refine zs_bipush C dX1_tell_4 (by decide) ?_
  exact zs_icmp_lt C dX1_tell_6 (by decide) (kX1_tell_11 C hq) (kX1_tell_9 C hq)
theorem mX1_tell {d : Nat} {spec : zq_Sp} (v : ∀ args h Q, spec args h Q → (zq_a args).length ≤ 3 ∧ xX1_tell_0 Q (zq_l0 3 args) [] h) : zq_M yX1_tell cX1_tell 3 (some .int) 1 d spec := by
  refine zq_met (by decide +kernel) (by decide) (fun X Q args h C hq hs => ⟨(v args h Q hs).1, _, ?_, (v args h Q hs).2⟩)
  exact kX1_tell_0 C hq
/-! ToOneCrumb$Choices.countFitting(LToOneCrumb$Rule;LToOneCrumb$Loaf;I)I -/
theorem dX1_countFitting_0 : decode cX1_countFitting 0 = .ok (.iconst 0, 1) := by decide +kernel
theorem dX1_countFitting_1 : decode cX1_countFitting 1 = .ok (.istore 4, 2) := by decide +kernel
theorem dX1_countFitting_3 : decode cX1_countFitting 3 = .ok (.iconst 0, 1) := by decide +kernel
theorem dX1_countFitting_4 : decode cX1_countFitting 4 = .ok (.istore 5, 2) := by decide +kernel
theorem dX1_countFitting_6 : decode cX1_countFitting 6 = .ok (.iconst 0, 1) := by decide +kernel
theorem dX1_countFitting_7 : decode cX1_countFitting 7 = .ok (.istore 6, 2) := by decide +kernel
theorem dX1_countFitting_9 : decode cX1_countFitting 9 = .ok (.iload 6, 2) := by decide +kernel
theorem dX1_countFitting_11 : decode cX1_countFitting 11 = .ok (.sipush 1000, 3) := by decide +kernel
theorem dX1_countFitting_14 : decode cX1_countFitting 14 = .ok (.if_icmp .ge 79, 3) := by decide +kernel
theorem dX1_countFitting_17 : decode cX1_countFitting 17 = .ok (.aload_n 0, 1) := by decide +kernel
theorem dX1_countFitting_18 : decode cX1_countFitting 18 = .ok (.iload 6, 2) := by decide +kernel
theorem dX1_countFitting_20 : decode cX1_countFitting 20 = .ok (.aload_n 1, 1) := by decide +kernel
theorem dX1_countFitting_21 : decode cX1_countFitting 21 = .ok (.aload_n 2, 1) := by decide +kernel
theorem dX1_countFitting_22 : decode cX1_countFitting 22 = .ok (.iload_n 3, 1) := by decide +kernel
theorem dX1_countFitting_23 : decode cX1_countFitting 23 = .ok (.invokevirtual 34, 3) := by decide +kernel
theorem dX1_countFitting_26 : decode cX1_countFitting 26 = .ok (.ifCond .ne 6, 3) := by decide +kernel
theorem dX1_countFitting_29 : decode cX1_countFitting 29 = .ok (.goto 58, 3) := by decide +kernel
theorem dX1_countFitting_32 : decode cX1_countFitting 32 = .ok (.aload_n 0, 1) := by decide +kernel
theorem dX1_countFitting_33 : decode cX1_countFitting 33 = .ok (.getfield 18, 3) := by decide +kernel
theorem dX1_countFitting_36 : decode cX1_countFitting 36 = .ok (.iconst 0, 1) := by decide +kernel
theorem dX1_countFitting_37 : decode cX1_countFitting 37 = .ok (.iaload, 1) := by decide +kernel
theorem dX1_countFitting_38 : decode cX1_countFitting 38 = .ok (.aload_n 0, 1) := by decide +kernel
theorem dX1_countFitting_39 : decode cX1_countFitting 39 = .ok (.getfield 18, 3) := by decide +kernel
theorem dX1_countFitting_42 : decode cX1_countFitting 42 = .ok (.iconst 1, 1) := by decide +kernel
theorem dX1_countFitting_43 : decode cX1_countFitting 43 = .ok (.iaload, 1) := by decide +kernel
theorem dX1_countFitting_44 : decode cX1_countFitting 44 = .ok (.iadd, 1) := by decide +kernel
theorem dX1_countFitting_45 : decode cX1_countFitting 45 = .ok (.aload_n 0, 1) := by decide +kernel
theorem dX1_countFitting_46 : decode cX1_countFitting 46 = .ok (.getfield 18, 3) := by decide +kernel
theorem dX1_countFitting_49 : decode cX1_countFitting 49 = .ok (.iconst 2, 1) := by decide +kernel
theorem dX1_countFitting_50 : decode cX1_countFitting 50 = .ok (.iaload, 1) := by decide +kernel
theorem dX1_countFitting_51 : decode cX1_countFitting 51 = .ok (.iadd, 1) := by decide +kernel
theorem dX1_countFitting_52 : decode cX1_countFitting 52 = .ok (.istore 7, 2) := by decide +kernel
theorem dX1_countFitting_54 : decode cX1_countFitting 54 = .ok (.iload 4, 2) := by decide +kernel
theorem dX1_countFitting_56 : decode cX1_countFitting 56 = .ok (.ifCond .eq 10, 3) := by decide +kernel
theorem dX1_countFitting_59 : decode cX1_countFitting 59 = .ok (.iload 7, 2) := by decide +kernel
theorem dX1_countFitting_61 : decode cX1_countFitting 61 = .ok (.iload 5, 2) := by decide +kernel
theorem dX1_countFitting_63 : decode cX1_countFitting 63 = .ok (.if_icmp .ge 21, 3) := by decide +kernel
theorem dX1_countFitting_66 : decode cX1_countFitting 66 = .ok (.iload 7, 2) := by decide +kernel
theorem dX1_countFitting_68 : decode cX1_countFitting 68 = .ok (.istore 5, 2) := by decide +kernel
theorem dX1_countFitting_70 : decode cX1_countFitting 70 = .ok (.aload_n 0, 1) := by decide +kernel
theorem dX1_countFitting_71 : decode cX1_countFitting 71 = .ok (.getfield 18, 3) := by decide +kernel
theorem dX1_countFitting_74 : decode cX1_countFitting 74 = .ok (.iconst 0, 1) := by decide +kernel
theorem dX1_countFitting_75 : decode cX1_countFitting 75 = .ok (.aload_n 0, 1) := by decide +kernel
theorem dX1_countFitting_76 : decode cX1_countFitting 76 = .ok (.getfield 21, 3) := by decide +kernel
theorem dX1_countFitting_79 : decode cX1_countFitting 79 = .ok (.iconst 0, 1) := by decide +kernel
theorem dX1_countFitting_80 : decode cX1_countFitting 80 = .ok (.iconst 3, 1) := by decide +kernel
theorem dX1_countFitting_81 : decode cX1_countFitting 81 = .ok (.invokestatic 38, 3) := by decide +kernel
theorem dX1_countFitting_84 : decode cX1_countFitting 84 = .ok (.iinc 4 1, 3) := by decide +kernel
theorem dX1_countFitting_87 : decode cX1_countFitting 87 = .ok (.iinc 6 1, 3) := by decide +kernel
theorem dX1_countFitting_90 : decode cX1_countFitting 90 = .ok (.goto (-81), 3) := by decide +kernel
theorem dX1_countFitting_93 : decode cX1_countFitting 93 = .ok (.iload 4, 2) := by decide +kernel
theorem dX1_countFitting_95 : decode cX1_countFitting 95 = .ok (.ireturn, 1) := by decide +kernel
def xX1_countFitting_93 (s_X1_fits : zq_Sp) (J9 : zq_P) (Q : zq_Q) (ls : zq_L) (st : List Value) (h : zq_H) : Prop := (zi_iload 4 (zi_iret Q)) ls st h
theorem kX1_countFitting_93 {X : zq_X} {d : Nat} (C : zq_C X cX1_countFitting 8 RX1 d) (hd1 : 1 ≤ d) {d_X1_fits : Nat} {s_X1_fits : zq_Sp} (h_X1_fits : zq_M yX1_fits cX1_fits 7 (some .boolean) 1 d_X1_fits s_X1_fits) (g_X1_fits : d_X1_fits + 1 ≤ d) {J9 : zq_P} (j9 : zq_ok X 8 9 J9) {Q : zq_Q} (hq : zq_R X (some .int) 1 Q) : zq_ok X 8 93 (xX1_countFitting_93 s_X1_fits J9 Q) := by
  refine zs_iload C dX1_countFitting_93 ?_
  exact zs_iret C hq dX1_countFitting_95
def xX1_countFitting_87 (s_X1_fits : zq_Sp) (J9 : zq_P) (Q : zq_Q) (ls : zq_L) (st : List Value) (h : zq_H) : Prop := (zi_iinc 6 1 (J9)) ls st h
theorem kX1_countFitting_87 {X : zq_X} {d : Nat} (C : zq_C X cX1_countFitting 8 RX1 d) (hd1 : 1 ≤ d) {d_X1_fits : Nat} {s_X1_fits : zq_Sp} (h_X1_fits : zq_M yX1_fits cX1_fits 7 (some .boolean) 1 d_X1_fits s_X1_fits) (g_X1_fits : d_X1_fits + 1 ≤ d) {J9 : zq_P} (j9 : zq_ok X 8 9 J9) {Q : zq_Q} (hq : zq_R X (some .int) 1 Q) : zq_ok X 8 87 (xX1_countFitting_87 s_X1_fits J9 Q) := by
  refine zs_iinc C dX1_countFitting_87 (by decide) (by decide) ?_
  exact zs_goto C dX1_countFitting_90 (by decide) (j9)
def xX1_countFitting_84 (s_X1_fits : zq_Sp) (J9 : zq_P) (Q : zq_Q) (ls : zq_L) (st : List Value) (h : zq_H) : Prop := (zi_iinc 4 1 ((xX1_countFitting_87 s_X1_fits J9 Q))) ls st h
theorem kX1_countFitting_84 {X : zq_X} {d : Nat} (C : zq_C X cX1_countFitting 8 RX1 d) (hd1 : 1 ≤ d) {d_X1_fits : Nat} {s_X1_fits : zq_Sp} (h_X1_fits : zq_M yX1_fits cX1_fits 7 (some .boolean) 1 d_X1_fits s_X1_fits) (g_X1_fits : d_X1_fits + 1 ≤ d) {J9 : zq_P} (j9 : zq_ok X 8 9 J9) {Q : zq_Q} (hq : zq_R X (some .int) 1 Q) : zq_ok X 8 84 (xX1_countFitting_84 s_X1_fits J9 Q) := by
  refine zs_iinc C dX1_countFitting_84 (by decide) (by decide) ?_
  exact kX1_countFitting_87 C hd1 h_X1_fits g_X1_fits j9 hq
def xX1_countFitting_66 (s_X1_fits : zq_Sp) (J9 : zq_P) (Q : zq_Q) (ls : zq_L) (st : List Value) (h : zq_H) : Prop := (zi_iload 7 (zi_istore 5 (zi_aload 0 (zi_getR 15 18 (zi_push (.int 0) (zi_aload 0 (zi_getR 15 19 (zi_push (.int 0) (zi_push (.int 3) (zi_copyI 18 3 19 3 ((xX1_countFitting_84 s_X1_fits J9 Q)))))))))))) ls st h
theorem kX1_countFitting_66 {X : zq_X} {d : Nat} (C : zq_C X cX1_countFitting 8 RX1 d) (hd1 : 1 ≤ d) {d_X1_fits : Nat} {s_X1_fits : zq_Sp} (h_X1_fits : zq_M yX1_fits cX1_fits 7 (some .boolean) 1 d_X1_fits s_X1_fits) (g_X1_fits : d_X1_fits + 1 ≤ d) {J9 : zq_P} (j9 : zq_ok X 8 9 J9) {Q : zq_Q} (hq : zq_R X (some .int) 1 Q) : zq_ok X 8 66 (xX1_countFitting_66 s_X1_fits J9 Q) := by
  refine zs_iload C dX1_countFitting_66 ?_
  refine zs_istore C dX1_countFitting_68 (by decide) ?_
  refine zs_aload_n C dX1_countFitting_70 rfl ?_
  refine zs_getR C zp_15 zF1 (j := 2) ⟨by decide, rfl⟩ zw_146 dX1_countFitting_71 ?_
  refine zs_iconst C dX1_countFitting_74 (by decide) ?_
  refine zs_aload_n C dX1_countFitting_75 rfl ?_
  refine zs_getR C zp_15 zF1 (j := 3) ⟨by decide, rfl⟩ zw_147 dX1_countFitting_76 ?_
  refine zs_iconst C dX1_countFitting_79 (by decide) ?_
  refine zs_iconst C dX1_countFitting_80 (by decide) ?_
  refine zs_copyI C zp_18 zp_19 zw_904 zw_611 zw_610 zw_24 hd1 dX1_countFitting_81 ?_
  exact kX1_countFitting_84 C hd1 h_X1_fits g_X1_fits j9 hq
def xX1_countFitting_59 (s_X1_fits : zq_Sp) (J9 : zq_P) (Q : zq_Q) (ls : zq_L) (st : List Value) (h : zq_H) : Prop := (zi_iload 7 (zi_iload 5 (zi_if2 (fun x y => y ≤ x) (xX1_countFitting_84 s_X1_fits J9 Q) (xX1_countFitting_66 s_X1_fits J9 Q)))) ls st h
theorem kX1_countFitting_59 {X : zq_X} {d : Nat} (C : zq_C X cX1_countFitting 8 RX1 d) (hd1 : 1 ≤ d) {d_X1_fits : Nat} {s_X1_fits : zq_Sp} (h_X1_fits : zq_M yX1_fits cX1_fits 7 (some .boolean) 1 d_X1_fits s_X1_fits) (g_X1_fits : d_X1_fits + 1 ≤ d) {J9 : zq_P} (j9 : zq_ok X 8 9 J9) {Q : zq_Q} (hq : zq_R X (some .int) 1 Q) : zq_ok X 8 59 (xX1_countFitting_59 s_X1_fits J9 Q) := by
  refine zs_iload C dX1_countFitting_59 ?_
  refine zs_iload C dX1_countFitting_61 ?_
  exact zs_icmp_ge C dX1_countFitting_63 (by decide) (kX1_countFitting_84 C hd1 h_X1_fits g_X1_fits j9 hq) (kX1_countFitting_66 C hd1 h_X1_fits g_X1_fits j9 hq)
def xX1_countFitting_32 (s_X1_fits : zq_Sp) (J9 : zq_P) (Q : zq_Q) (ls : zq_L) (st : List Value) (h : zq_H) : Prop := (zi_aload 0 (zi_getR 15 18 (zi_push (.int 0) (zi_aldI 18 3 (zi_aload 0 (zi_getR 15 18 (zi_push (.int 1) (zi_aldI 18 3 (zi_i2 (fun x y => x + y) (zi_aload 0 (zi_getR 15 18 (zi_push (.int 2) (zi_aldI 18 3 (zi_i2 (fun x y => x + y) (zi_istore 7 (zi_iload 4 (zi_if1 (fun x => x = 0) (xX1_countFitting_66 s_X1_fits J9 Q) (xX1_countFitting_59 s_X1_fits J9 Q)))))))))))))))))) ls st h
theorem kX1_countFitting_32 {X : zq_X} {d : Nat} (C : zq_C X cX1_countFitting 8 RX1 d) (hd1 : 1 ≤ d) {d_X1_fits : Nat} {s_X1_fits : zq_Sp} (h_X1_fits : zq_M yX1_fits cX1_fits 7 (some .boolean) 1 d_X1_fits s_X1_fits) (g_X1_fits : d_X1_fits + 1 ≤ d) {J9 : zq_P} (j9 : zq_ok X 8 9 J9) {Q : zq_Q} (hq : zq_R X (some .int) 1 Q) : zq_ok X 8 32 (xX1_countFitting_32 s_X1_fits J9 Q) := by
  refine zs_aload_n C dX1_countFitting_32 rfl ?_
  refine zs_getR C zp_15 zF1 (j := 2) ⟨by decide, rfl⟩ zw_146 dX1_countFitting_33 ?_
  refine zs_iconst C dX1_countFitting_36 (by decide) ?_
  refine zs_iaload C zp_18 dX1_countFitting_37 ?_
  refine zs_aload_n C dX1_countFitting_38 rfl ?_
  refine zs_getR C zp_15 zF1 (j := 2) ⟨by decide, rfl⟩ zw_146 dX1_countFitting_39 ?_
  refine zs_iconst C dX1_countFitting_42 (by decide) ?_
  refine zs_iaload C zp_18 dX1_countFitting_43 ?_
  refine zs_iadd C dX1_countFitting_44 ?_
  refine zs_aload_n C dX1_countFitting_45 rfl ?_
  refine zs_getR C zp_15 zF1 (j := 2) ⟨by decide, rfl⟩ zw_146 dX1_countFitting_46 ?_
  refine zs_iconst C dX1_countFitting_49 (by decide) ?_
  refine zs_iaload C zp_18 dX1_countFitting_50 ?_
  refine zs_iadd C dX1_countFitting_51 ?_
  refine zs_istore C dX1_countFitting_52 (by decide) ?_
  refine zs_iload C dX1_countFitting_54 ?_
  exact zs_if_eq C dX1_countFitting_56 (by decide) (kX1_countFitting_66 C hd1 h_X1_fits g_X1_fits j9 hq) (kX1_countFitting_59 C hd1 h_X1_fits g_X1_fits j9 hq)
def xX1_countFitting_29 (s_X1_fits : zq_Sp) (J9 : zq_P) (Q : zq_Q) (ls : zq_L) (st : List Value) (h : zq_H) : Prop := ((xX1_countFitting_87 s_X1_fits J9 Q)) ls st h
theorem kX1_countFitting_29 {X : zq_X} {d : Nat} (C : zq_C X cX1_countFitting 8 RX1 d) (hd1 : 1 ≤ d) {d_X1_fits : Nat} {s_X1_fits : zq_Sp} (h_X1_fits : zq_M yX1_fits cX1_fits 7 (some .boolean) 1 d_X1_fits s_X1_fits) (g_X1_fits : d_X1_fits + 1 ≤ d) {J9 : zq_P} (j9 : zq_ok X 8 9 J9) {Q : zq_Q} (hq : zq_R X (some .int) 1 Q) : zq_ok X 8 29 (xX1_countFitting_29 s_X1_fits J9 Q) := by
  exact zs_goto C dX1_countFitting_29 (by decide) (kX1_countFitting_87 C hd1 h_X1_fits g_X1_fits j9 hq)
def xX1_countFitting_17 (s_X1_fits : zq_Sp) (J9 : zq_P) (Q : zq_Q) (ls : zq_L) (st : List Value) (h : zq_H) : Prop := (zi_aload 0 (zi_iload 6 (zi_aload 1 (zi_aload 2 (zi_iload 3 (zi_callV 4 15 s_X1_fits (zi_if1 (fun x => x = 0) (xX1_countFitting_29 s_X1_fits J9 Q) (xX1_countFitting_32 s_X1_fits J9 Q)))))))) ls st h
theorem kX1_countFitting_17 {X : zq_X} {d : Nat} (C : zq_C X cX1_countFitting 8 RX1 d) (hd1 : 1 ≤ d) {d_X1_fits : Nat} {s_X1_fits : zq_Sp} (h_X1_fits : zq_M yX1_fits cX1_fits 7 (some .boolean) 1 d_X1_fits s_X1_fits) (g_X1_fits : d_X1_fits + 1 ≤ d) {J9 : zq_P} (j9 : zq_ok X 8 9 J9) {Q : zq_Q} (hq : zq_R X (some .int) 1 Q) : zq_ok X 8 17 (xX1_countFitting_17 s_X1_fits J9 Q) := by
  refine zs_aload_n C dX1_countFitting_17 rfl ?_
  refine zs_iload C dX1_countFitting_18 ?_
  refine zs_aload_n C dX1_countFitting_20 rfl ?_
  refine zs_aload_n C dX1_countFitting_21 rfl ?_
  refine zs_iload_n C dX1_countFitting_22 rfl ?_
  refine zs_callV C h_X1_fits g_X1_fits zy_X1_fits zp_15 (show vwCl[1]? = some (RX1, TX1, 8) from rfl) zw_895 zw_897 zs9_X1_fits dX1_countFitting_23 ?_
  exact zs_if_ne C dX1_countFitting_26 (by decide) (kX1_countFitting_32 C hd1 h_X1_fits g_X1_fits j9 hq) (kX1_countFitting_29 C hd1 h_X1_fits g_X1_fits j9 hq)
def xX1_countFitting_9 (s_X1_fits : zq_Sp) (J9 : zq_P) (Q : zq_Q) (ls : zq_L) (st : List Value) (h : zq_H) : Prop := (zi_iload 6 (zi_push (.int 1000) (zi_if2 (fun x y => y ≤ x) (xX1_countFitting_93 s_X1_fits J9 Q) (xX1_countFitting_17 s_X1_fits J9 Q)))) ls st h
theorem kX1_countFitting_9 {X : zq_X} {d : Nat} (C : zq_C X cX1_countFitting 8 RX1 d) (hd1 : 1 ≤ d) {d_X1_fits : Nat} {s_X1_fits : zq_Sp} (h_X1_fits : zq_M yX1_fits cX1_fits 7 (some .boolean) 1 d_X1_fits s_X1_fits) (g_X1_fits : d_X1_fits + 1 ≤ d) {J9 : zq_P} (j9 : zq_ok X 8 9 J9) {Q : zq_Q} (hq : zq_R X (some .int) 1 Q) : zq_ok X 8 9 (xX1_countFitting_9 s_X1_fits J9 Q) := by
  refine zs_iload C dX1_countFitting_9 ?_
  refine zs_sipush C dX1_countFitting_11 (by decide) ?_
  exact zs_icmp_ge C dX1_countFitting_14 (by decide) (kX1_countFitting_93 C hd1 h_X1_fits g_X1_fits j9 hq) (kX1_countFitting_17 C hd1 h_X1_fits g_X1_fits j9 hq)
def xX1_countFitting_0 (s_X1_fits : zq_Sp) (J9 : zq_P) (Q : zq_Q) (ls : zq_L) (st : List Value) (h : zq_H) : Prop := (zi_push (.int 0) (zi_istore 4 (zi_push (.int 0) (zi_istore 5 (zi_push (.int 0) (zi_istore 6 (J9))))))) ls st h
theorem kX1_countFitting_0 {X : zq_X} {d : Nat} (C : zq_C X cX1_countFitting 8 RX1 d) (hd1 : 1 ≤ d) {d_X1_fits : Nat} {s_X1_fits : zq_Sp} (h_X1_fits : zq_M yX1_fits cX1_fits 7 (some .boolean) 1 d_X1_fits s_X1_fits) (g_X1_fits : d_X1_fits + 1 ≤ d) {J9 : zq_P} (j9 : zq_ok X 8 9 J9) {Q : zq_Q} (hq : zq_R X (some .int) 1 Q) : zq_ok X 8 0 (xX1_countFitting_0 s_X1_fits J9 Q) := by
  refine zs_iconst C dX1_countFitting_0 (by decide) ?_
  refine zs_istore C dX1_countFitting_1 (by decide) ?_
  refine zs_iconst C dX1_countFitting_3 (by decide) ?_
  refine zs_istore C dX1_countFitting_4 (by decide) ?_
  refine zs_iconst C dX1_countFitting_6 (by decide) ?_
  refine zs_istore C dX1_countFitting_7 (by decide) ?_
  exact j9
theorem mX1_countFitting {d : Nat} {spec : zq_Sp} {σ9 : Type} {d_X1_fits : Nat} {s_X1_fits : zq_Sp} (h_X1_fits : zq_M yX1_fits cX1_fits 7 (some .boolean) 1 d_X1_fits s_X1_fits) (g_X1_fits : d_X1_fits + 1 ≤ d) (hd1 : 1 ≤ d) (μ9 : σ9 → Nat) (I9 : zq_Q → σ9 → zq_P) (v : ∀ args h Q, spec args h Q → (zq_a args).length ≤ 8 ∧ xX1_countFitting_0 s_X1_fits (fun ls st h => ∃ b, I9 Q b ls st h) Q (zq_l0 8 args) [] h) (v9 : ∀ Q a ls st h, I9 Q a ls st h → xX1_countFitting_9 s_X1_fits (fun ls st h => ∃ b, μ9 b < μ9 a ∧ I9 Q b ls st h) Q ls st h) : zq_M yX1_countFitting cX1_countFitting 8 (some .int) 1 d spec := by
  refine zq_met (by decide +kernel) (by decide) (fun X Q args h C hq hs => ⟨(v args h Q hs).1, _, ?_, (v args h Q hs).2⟩)
  have hl := zq_loop1 (X := X) (nL := 8) (pc1 := 9) μ9 (I9 Q) (fun J9 => xX1_countFitting_9 s_X1_fits J9 Q) (fun j9 => kX1_countFitting_9 C hd1 h_X1_fits g_X1_fits j9 hq) (v9 Q)
  exact kX1_countFitting_0 C hd1 h_X1_fits g_X1_fits hl hq
/-! ToOneCrumb$Choices.countPairs(LToOneCrumb$Rule;LToOneCrumb$Loaf;I)V -/
theorem dX1_countPairs_0 : decode cX1_countPairs 0 = .ok (.aload_n 0, 1) := by decide +kernel
theorem dX1_countPairs_1 : decode cX1_countPairs 1 = .ok (.getfield 27, 3) := by decide +kernel
theorem dX1_countPairs_4 : decode cX1_countPairs 4 = .ok (.iconst 0, 1) := by decide +kernel
theorem dX1_countPairs_5 : decode cX1_countPairs 5 = .ok (.invokestatic 44, 3) := by decide +kernel
theorem dX1_countPairs_8 : decode cX1_countPairs 8 = .ok (.iconst 0, 1) := by decide +kernel
theorem dX1_countPairs_9 : decode cX1_countPairs 9 = .ok (.istore 4, 2) := by decide +kernel
theorem dX1_countPairs_11 : decode cX1_countPairs 11 = .ok (.iload 4, 2) := by decide +kernel
theorem dX1_countPairs_13 : decode cX1_countPairs 13 = .ok (.sipush 1000, 3) := by decide +kernel
theorem dX1_countPairs_16 : decode cX1_countPairs 16 = .ok (.if_icmp .ge 60, 3) := by decide +kernel
theorem dX1_countPairs_19 : decode cX1_countPairs 19 = .ok (.aload_n 0, 1) := by decide +kernel
theorem dX1_countPairs_20 : decode cX1_countPairs 20 = .ok (.iload 4, 2) := by decide +kernel
theorem dX1_countPairs_22 : decode cX1_countPairs 22 = .ok (.aload_n 1, 1) := by decide +kernel
theorem dX1_countPairs_23 : decode cX1_countPairs 23 = .ok (.aload_n 2, 1) := by decide +kernel
theorem dX1_countPairs_24 : decode cX1_countPairs 24 = .ok (.iload_n 3, 1) := by decide +kernel
theorem dX1_countPairs_25 : decode cX1_countPairs 25 = .ok (.invokevirtual 34, 3) := by decide +kernel
theorem dX1_countPairs_28 : decode cX1_countPairs 28 = .ok (.ifCond .ne 6, 3) := by decide +kernel
theorem dX1_countPairs_31 : decode cX1_countPairs 31 = .ok (.goto 39, 3) := by decide +kernel
theorem dX1_countPairs_34 : decode cX1_countPairs 34 = .ok (.iconst 0, 1) := by decide +kernel
theorem dX1_countPairs_35 : decode cX1_countPairs 35 = .ok (.istore 5, 2) := by decide +kernel
theorem dX1_countPairs_37 : decode cX1_countPairs 37 = .ok (.iload 5, 2) := by decide +kernel
theorem dX1_countPairs_39 : decode cX1_countPairs 39 = .ok (.aload_n 2, 1) := by decide +kernel
theorem dX1_countPairs_40 : decode cX1_countPairs 40 = .ok (.getfield 50, 3) := by decide +kernel
theorem dX1_countPairs_43 : decode cX1_countPairs 43 = .ok (.if_icmp .ge 19, 3) := by decide +kernel
theorem dX1_countPairs_46 : decode cX1_countPairs 46 = .ok (.aload_n 0, 1) := by decide +kernel
theorem dX1_countPairs_47 : decode cX1_countPairs 47 = .ok (.iload 5, 2) := by decide +kernel
theorem dX1_countPairs_49 : decode cX1_countPairs 49 = .ok (.aload_n 1, 1) := by decide +kernel
theorem dX1_countPairs_50 : decode cX1_countPairs 50 = .ok (.aload_n 2, 1) := by decide +kernel
theorem dX1_countPairs_51 : decode cX1_countPairs 51 = .ok (.iload_n 3, 1) := by decide +kernel
theorem dX1_countPairs_52 : decode cX1_countPairs 52 = .ok (.invokevirtual 55, 3) := by decide +kernel
theorem dX1_countPairs_55 : decode cX1_countPairs 55 = .ok (.pop, 1) := by decide +kernel
theorem dX1_countPairs_56 : decode cX1_countPairs 56 = .ok (.iinc 5 1, 3) := by decide +kernel
theorem dX1_countPairs_59 : decode cX1_countPairs 59 = .ok (.goto (-22), 3) := by decide +kernel
theorem dX1_countPairs_62 : decode cX1_countPairs 62 = .ok (.aload_n 0, 1) := by decide +kernel
theorem dX1_countPairs_63 : decode cX1_countPairs 63 = .ok (.aload_n 2, 1) := by decide +kernel
theorem dX1_countPairs_64 : decode cX1_countPairs 64 = .ok (.getfield 50, 3) := by decide +kernel
theorem dX1_countPairs_67 : decode cX1_countPairs 67 = .ok (.invokevirtual 59, 3) := by decide +kernel
theorem dX1_countPairs_70 : decode cX1_countPairs 70 = .ok (.iinc 4 1, 3) := by decide +kernel
theorem dX1_countPairs_73 : decode cX1_countPairs 73 = .ok (.goto (-62), 3) := by decide +kernel
theorem dX1_countPairs_76 : decode cX1_countPairs 76 = .ok (.return_, 1) := by decide +kernel
def xX1_countPairs_76 (s_J7_fill_53178 : zq_Sp) (s_X1_fits : zq_Sp) (s_X1_ask : zq_Sp) (s_X1_countThisTime : zq_Sp) (J11 : zq_P) (J37 : zq_P) (Q : zq_Q) (ls : zq_L) (st : List Value) (h : zq_H) : Prop := (zi_vret Q) ls st h
theorem kX1_countPairs_76 {X : zq_X} {d : Nat} (C : zq_C X cX1_countPairs 6 RX1 d) {d_J7_fill_53178 : Nat} {s_J7_fill_53178 : zq_Sp} (h_J7_fill_53178 : zq_M yJ7_fill_53178 cJ7_fill_53178 4 none 0 d_J7_fill_53178 s_J7_fill_53178) (g_J7_fill_53178 : d_J7_fill_53178 + 1 ≤ d) {d_X1_fits : Nat} {s_X1_fits : zq_Sp} (h_X1_fits : zq_M yX1_fits cX1_fits 7 (some .boolean) 1 d_X1_fits s_X1_fits) (g_X1_fits : d_X1_fits + 1 ≤ d) {d_X1_ask : Nat} {s_X1_ask : zq_Sp} (h_X1_ask : zq_M yX1_ask cX1_ask 5 (some .int) 1 d_X1_ask s_X1_ask) (g_X1_ask : d_X1_ask + 1 ≤ d) {d_X1_countThisTime : Nat} {s_X1_countThisTime : zq_Sp} (h_X1_countThisTime : zq_M yX1_countThisTime cX1_countThisTime 4 none 0 d_X1_countThisTime s_X1_countThisTime) (g_X1_countThisTime : d_X1_countThisTime + 1 ≤ d) {J11 : zq_P} (j11 : zq_ok X 6 11 J11) {J37 : zq_P} (j37 : zq_ok X 6 37 J37) {Q : zq_Q} (hq : zq_R X none 0 Q) : zq_ok X 6 76 (xX1_countPairs_76 s_J7_fill_53178 s_X1_fits s_X1_ask s_X1_countThisTime J11 J37 Q) := by
  exact zs_vret C hq dX1_countPairs_76
def xX1_countPairs_70 (s_J7_fill_53178 : zq_Sp) (s_X1_fits : zq_Sp) (s_X1_ask : zq_Sp) (s_X1_countThisTime : zq_Sp) (J11 : zq_P) (J37 : zq_P) (Q : zq_Q) (ls : zq_L) (st : List Value) (h : zq_H) : Prop := (zi_iinc 4 1 (J11)) ls st h
theorem kX1_countPairs_70 {X : zq_X} {d : Nat} (C : zq_C X cX1_countPairs 6 RX1 d) {d_J7_fill_53178 : Nat} {s_J7_fill_53178 : zq_Sp} (h_J7_fill_53178 : zq_M yJ7_fill_53178 cJ7_fill_53178 4 none 0 d_J7_fill_53178 s_J7_fill_53178) (g_J7_fill_53178 : d_J7_fill_53178 + 1 ≤ d) {d_X1_fits : Nat} {s_X1_fits : zq_Sp} (h_X1_fits : zq_M yX1_fits cX1_fits 7 (some .boolean) 1 d_X1_fits s_X1_fits) (g_X1_fits : d_X1_fits + 1 ≤ d) {d_X1_ask : Nat} {s_X1_ask : zq_Sp} (h_X1_ask : zq_M yX1_ask cX1_ask 5 (some .int) 1 d_X1_ask s_X1_ask) (g_X1_ask : d_X1_ask + 1 ≤ d) {d_X1_countThisTime : Nat} {s_X1_countThisTime : zq_Sp} (h_X1_countThisTime : zq_M yX1_countThisTime cX1_countThisTime 4 none 0 d_X1_countThisTime s_X1_countThisTime) (g_X1_countThisTime : d_X1_countThisTime + 1 ≤ d) {J11 : zq_P} (j11 : zq_ok X 6 11 J11) {J37 : zq_P} (j37 : zq_ok X 6 37 J37) {Q : zq_Q} (hq : zq_R X none 0 Q) : zq_ok X 6 70 (xX1_countPairs_70 s_J7_fill_53178 s_X1_fits s_X1_ask s_X1_countThisTime J11 J37 Q) := by
  refine zs_iinc C dX1_countPairs_70 (by decide) (by decide) ?_
  exact zs_goto C dX1_countPairs_73 (by decide) (j11)
def xX1_countPairs_62 (s_J7_fill_53178 : zq_Sp) (s_X1_fits : zq_Sp) (s_X1_ask : zq_Sp) (s_X1_countThisTime : zq_Sp) (J11 : zq_P) (J37 : zq_P) (Q : zq_Q) (ls : zq_L) (st : List Value) (h : zq_H) : Prop := (zi_aload 0 (zi_aload 2 (zi_getI 40 3 (zi_callV 1 15 s_X1_countThisTime ((xX1_countPairs_70 s_J7_fill_53178 s_X1_fits s_X1_ask s_X1_countThisTime J11 J37 Q)))))) ls st h
theorem kX1_countPairs_62 {X : zq_X} {d : Nat} (C : zq_C X cX1_countPairs 6 RX1 d) {d_J7_fill_53178 : Nat} {s_J7_fill_53178 : zq_Sp} (h_J7_fill_53178 : zq_M yJ7_fill_53178 cJ7_fill_53178 4 none 0 d_J7_fill_53178 s_J7_fill_53178) (g_J7_fill_53178 : d_J7_fill_53178 + 1 ≤ d) {d_X1_fits : Nat} {s_X1_fits : zq_Sp} (h_X1_fits : zq_M yX1_fits cX1_fits 7 (some .boolean) 1 d_X1_fits s_X1_fits) (g_X1_fits : d_X1_fits + 1 ≤ d) {d_X1_ask : Nat} {s_X1_ask : zq_Sp} (h_X1_ask : zq_M yX1_ask cX1_ask 5 (some .int) 1 d_X1_ask s_X1_ask) (g_X1_ask : d_X1_ask + 1 ≤ d) {d_X1_countThisTime : Nat} {s_X1_countThisTime : zq_Sp} (h_X1_countThisTime : zq_M yX1_countThisTime cX1_countThisTime 4 none 0 d_X1_countThisTime s_X1_countThisTime) (g_X1_countThisTime : d_X1_countThisTime + 1 ≤ d) {J11 : zq_P} (j11 : zq_ok X 6 11 J11) {J37 : zq_P} (j37 : zq_ok X 6 37 J37) {Q : zq_Q} (hq : zq_R X none 0 Q) : zq_ok X 6 62 (xX1_countPairs_62 s_J7_fill_53178 s_X1_fits s_X1_ask s_X1_countThisTime J11 J37 Q) := by
  refine zs_aload_n C dX1_countPairs_62 rfl ?_
  refine zs_aload_n C dX1_countPairs_63 rfl ?_
  refine zs_getIN C zp_40 zF2 (j := 3) ⟨by decide, rfl⟩ zw_272 dX1_countPairs_64 ?_
  refine zs_callV C h_X1_countThisTime g_X1_countThisTime zy_X1_countThisTime zp_15 (show vwCl[1]? = some (RX1, TX1, 8) from rfl) zw_914 zw_916 zs9_X1_countThisTime dX1_countPairs_67 ?_
  exact kX1_countPairs_70 C h_J7_fill_53178 g_J7_fill_53178 h_X1_fits g_X1_fits h_X1_ask g_X1_ask h_X1_countThisTime g_X1_countThisTime j11 j37 hq
def xX1_countPairs_46 (s_J7_fill_53178 : zq_Sp) (s_X1_fits : zq_Sp) (s_X1_ask : zq_Sp) (s_X1_countThisTime : zq_Sp) (J11 : zq_P) (J37 : zq_P) (Q : zq_Q) (ls : zq_L) (st : List Value) (h : zq_H) : Prop := (zi_aload 0 (zi_iload 5 (zi_aload 1 (zi_aload 2 (zi_iload 3 (zi_callV 4 15 s_X1_ask (zi_pop (zi_iinc 5 1 (J37))))))))) ls st h
theorem kX1_countPairs_46 {X : zq_X} {d : Nat} (C : zq_C X cX1_countPairs 6 RX1 d) {d_J7_fill_53178 : Nat} {s_J7_fill_53178 : zq_Sp} (h_J7_fill_53178 : zq_M yJ7_fill_53178 cJ7_fill_53178 4 none 0 d_J7_fill_53178 s_J7_fill_53178) (g_J7_fill_53178 : d_J7_fill_53178 + 1 ≤ d) {d_X1_fits : Nat} {s_X1_fits : zq_Sp} (h_X1_fits : zq_M yX1_fits cX1_fits 7 (some .boolean) 1 d_X1_fits s_X1_fits) (g_X1_fits : d_X1_fits + 1 ≤ d) {d_X1_ask : Nat} {s_X1_ask : zq_Sp} (h_X1_ask : zq_M yX1_ask cX1_ask 5 (some .int) 1 d_X1_ask s_X1_ask) (g_X1_ask : d_X1_ask + 1 ≤ d) {d_X1_countThisTime : Nat} {s_X1_countThisTime : zq_Sp} (h_X1_countThisTime : zq_M yX1_countThisTime cX1_countThisTime 4 none 0 d_X1_countThisTime s_X1_countThisTime) (g_X1_countThisTime : d_X1_countThisTime + 1 ≤ d) {J11 : zq_P} (j11 : zq_ok X 6 11 J11) {J37 : zq_P} (j37 : zq_ok X 6 37 J37) {Q : zq_Q} (hq : zq_R X none 0 Q) : zq_ok X 6 46 (xX1_countPairs_46 s_J7_fill_53178 s_X1_fits s_X1_ask s_X1_countThisTime J11 J37 Q) := by
  refine zs_aload_n C dX1_countPairs_46 rfl ?_
  refine zs_iload C dX1_countPairs_47 ?_
  refine zs_aload_n C dX1_countPairs_49 rfl ?_
  refine zs_aload_n C dX1_countPairs_50 rfl ?_
  refine zs_iload_n C dX1_countPairs_51 rfl ?_
  refine zs_callV C h_X1_ask g_X1_ask zy_X1_ask zp_15 (show vwCl[1]? = some (RX1, TX1, 8) from rfl) zw_899 zw_901 zs9_X1_ask dX1_countPairs_52 ?_
  refine zs_pop C dX1_countPairs_55 ?_
  refine zs_iinc C dX1_countPairs_56 (by decide) (by decide) ?_
  exact zs_goto C dX1_countPairs_59 (by decide) (j37)
def xX1_countPairs_37 (s_J7_fill_53178 : zq_Sp) (s_X1_fits : zq_Sp) (s_X1_ask : zq_Sp) (s_X1_countThisTime : zq_Sp) (J11 : zq_P) (J37 : zq_P) (Q : zq_Q) (ls : zq_L) (st : List Value) (h : zq_H) : Prop := (zi_iload 5 (zi_aload 2 (zi_getI 40 3 (zi_if2 (fun x y => y ≤ x) (xX1_countPairs_62 s_J7_fill_53178 s_X1_fits s_X1_ask s_X1_countThisTime J11 J37 Q) (xX1_countPairs_46 s_J7_fill_53178 s_X1_fits s_X1_ask s_X1_countThisTime J11 J37 Q))))) ls st h
theorem kX1_countPairs_37 {X : zq_X} {d : Nat} (C : zq_C X cX1_countPairs 6 RX1 d) {d_J7_fill_53178 : Nat} {s_J7_fill_53178 : zq_Sp} (h_J7_fill_53178 : zq_M yJ7_fill_53178 cJ7_fill_53178 4 none 0 d_J7_fill_53178 s_J7_fill_53178) (g_J7_fill_53178 : d_J7_fill_53178 + 1 ≤ d) {d_X1_fits : Nat} {s_X1_fits : zq_Sp} (h_X1_fits : zq_M yX1_fits cX1_fits 7 (some .boolean) 1 d_X1_fits s_X1_fits) (g_X1_fits : d_X1_fits + 1 ≤ d) {d_X1_ask : Nat} {s_X1_ask : zq_Sp} (h_X1_ask : zq_M yX1_ask cX1_ask 5 (some .int) 1 d_X1_ask s_X1_ask) (g_X1_ask : d_X1_ask + 1 ≤ d) {d_X1_countThisTime : Nat} {s_X1_countThisTime : zq_Sp} (h_X1_countThisTime : zq_M yX1_countThisTime cX1_countThisTime 4 none 0 d_X1_countThisTime s_X1_countThisTime) (g_X1_countThisTime : d_X1_countThisTime + 1 ≤ d) {J11 : zq_P} (j11 : zq_ok X 6 11 J11) {J37 : zq_P} (j37 : zq_ok X 6 37 J37) {Q : zq_Q} (hq : zq_R X none 0 Q) : zq_ok X 6 37 (xX1_countPairs_37 s_J7_fill_53178 s_X1_fits s_X1_ask s_X1_countThisTime J11 J37 Q) := by
  refine zs_iload C dX1_countPairs_37 ?_
  refine zs_aload_n C dX1_countPairs_39 rfl ?_
  refine zs_getIN C zp_40 zF2 (j := 3) ⟨by decide, rfl⟩ zw_272 dX1_countPairs_40 ?_
  exact zs_icmp_ge C dX1_countPairs_43 (by decide) (kX1_countPairs_62 C h_J7_fill_53178 g_J7_fill_53178 h_X1_fits g_X1_fits h_X1_ask g_X1_ask h_X1_countThisTime g_X1_countThisTime j11 j37 hq) (kX1_countPairs_46 C h_J7_fill_53178 g_J7_fill_53178 h_X1_fits g_X1_fits h_X1_ask g_X1_ask h_X1_countThisTime g_X1_countThisTime j11 j37 hq)
def xX1_countPairs_34 (s_J7_fill_53178 : zq_Sp) (s_X1_fits : zq_Sp) (s_X1_ask : zq_Sp) (s_X1_countThisTime : zq_Sp) (J11 : zq_P) (J37 : zq_P) (Q : zq_Q) (ls : zq_L) (st : List Value) (h : zq_H) : Prop := (zi_push (.int 0) (zi_istore 5 (J37))) ls st h
theorem kX1_countPairs_34 {X : zq_X} {d : Nat} (C : zq_C X cX1_countPairs 6 RX1 d) {d_J7_fill_53178 : Nat} {s_J7_fill_53178 : zq_Sp} (h_J7_fill_53178 : zq_M yJ7_fill_53178 cJ7_fill_53178 4 none 0 d_J7_fill_53178 s_J7_fill_53178) (g_J7_fill_53178 : d_J7_fill_53178 + 1 ≤ d) {d_X1_fits : Nat} {s_X1_fits : zq_Sp} (h_X1_fits : zq_M yX1_fits cX1_fits 7 (some .boolean) 1 d_X1_fits s_X1_fits) (g_X1_fits : d_X1_fits + 1 ≤ d) {d_X1_ask : Nat} {s_X1_ask : zq_Sp} (h_X1_ask : zq_M yX1_ask cX1_ask 5 (some .int) 1 d_X1_ask s_X1_ask) (g_X1_ask : d_X1_ask + 1 ≤ d) {d_X1_countThisTime : Nat} {s_X1_countThisTime : zq_Sp} (h_X1_countThisTime : zq_M yX1_countThisTime cX1_countThisTime 4 none 0 d_X1_countThisTime s_X1_countThisTime) (g_X1_countThisTime : d_X1_countThisTime + 1 ≤ d) {J11 : zq_P} (j11 : zq_ok X 6 11 J11) {J37 : zq_P} (j37 : zq_ok X 6 37 J37) {Q : zq_Q} (hq : zq_R X none 0 Q) : zq_ok X 6 34 (xX1_countPairs_34 s_J7_fill_53178 s_X1_fits s_X1_ask s_X1_countThisTime J11 J37 Q) := by
  refine zs_iconst C dX1_countPairs_34 (by decide) ?_
  refine zs_istore C dX1_countPairs_35 (by decide) ?_
  exact j37
def xX1_countPairs_31 (s_J7_fill_53178 : zq_Sp) (s_X1_fits : zq_Sp) (s_X1_ask : zq_Sp) (s_X1_countThisTime : zq_Sp) (J11 : zq_P) (J37 : zq_P) (Q : zq_Q) (ls : zq_L) (st : List Value) (h : zq_H) : Prop := ((xX1_countPairs_70 s_J7_fill_53178 s_X1_fits s_X1_ask s_X1_countThisTime J11 J37 Q)) ls st h
theorem kX1_countPairs_31 {X : zq_X} {d : Nat} (C : zq_C X cX1_countPairs 6 RX1 d) {d_J7_fill_53178 : Nat} {s_J7_fill_53178 : zq_Sp} (h_J7_fill_53178 : zq_M yJ7_fill_53178 cJ7_fill_53178 4 none 0 d_J7_fill_53178 s_J7_fill_53178) (g_J7_fill_53178 : d_J7_fill_53178 + 1 ≤ d) {d_X1_fits : Nat} {s_X1_fits : zq_Sp} (h_X1_fits : zq_M yX1_fits cX1_fits 7 (some .boolean) 1 d_X1_fits s_X1_fits) (g_X1_fits : d_X1_fits + 1 ≤ d) {d_X1_ask : Nat} {s_X1_ask : zq_Sp} (h_X1_ask : zq_M yX1_ask cX1_ask 5 (some .int) 1 d_X1_ask s_X1_ask) (g_X1_ask : d_X1_ask + 1 ≤ d) {d_X1_countThisTime : Nat} {s_X1_countThisTime : zq_Sp} (h_X1_countThisTime : zq_M yX1_countThisTime cX1_countThisTime 4 none 0 d_X1_countThisTime s_X1_countThisTime) (g_X1_countThisTime : d_X1_countThisTime + 1 ≤ d) {J11 : zq_P} (j11 : zq_ok X 6 11 J11) {J37 : zq_P} (j37 : zq_ok X 6 37 J37) {Q : zq_Q} (hq : zq_R X none 0 Q) : zq_ok X 6 31 (xX1_countPairs_31 s_J7_fill_53178 s_X1_fits s_X1_ask s_X1_countThisTime J11 J37 Q) := by
  exact zs_goto C dX1_countPairs_31 (by decide) (kX1_countPairs_70 C h_J7_fill_53178 g_J7_fill_53178 h_X1_fits g_X1_fits h_X1_ask g_X1_ask h_X1_countThisTime g_X1_countThisTime j11 j37 hq)
def xX1_countPairs_19 (s_J7_fill_53178 : zq_Sp) (s_X1_fits : zq_Sp) (s_X1_ask : zq_Sp) (s_X1_countThisTime : zq_Sp) (J11 : zq_P) (J37 : zq_P) (Q : zq_Q) (ls : zq_L) (st : List Value) (h : zq_H) : Prop := (zi_aload 0 (zi_iload 4 (zi_aload 1 (zi_aload 2 (zi_iload 3 (zi_callV 4 15 s_X1_fits (zi_if1 (fun x => x = 0) (xX1_countPairs_31 s_J7_fill_53178 s_X1_fits s_X1_ask s_X1_countThisTime J11 J37 Q) (xX1_countPairs_34 s_J7_fill_53178 s_X1_fits s_X1_ask s_X1_countThisTime J11 J37 Q)))))))) ls st h
theorem kX1_countPairs_19 {X : zq_X} {d : Nat} (C : zq_C X cX1_countPairs 6 RX1 d) {d_J7_fill_53178 : Nat} {s_J7_fill_53178 : zq_Sp} (h_J7_fill_53178 : zq_M yJ7_fill_53178 cJ7_fill_53178 4 none 0 d_J7_fill_53178 s_J7_fill_53178) (g_J7_fill_53178 : d_J7_fill_53178 + 1 ≤ d) {d_X1_fits : Nat} {s_X1_fits : zq_Sp} (h_X1_fits : zq_M yX1_fits cX1_fits 7 (some .boolean) 1 d_X1_fits s_X1_fits) (g_X1_fits : d_X1_fits + 1 ≤ d) {d_X1_ask : Nat} {s_X1_ask : zq_Sp} (h_X1_ask : zq_M yX1_ask cX1_ask 5 (some .int) 1 d_X1_ask s_X1_ask) (g_X1_ask : d_X1_ask + 1 ≤ d) {d_X1_countThisTime : Nat} {s_X1_countThisTime : zq_Sp} (h_X1_countThisTime : zq_M yX1_countThisTime cX1_countThisTime 4 none 0 d_X1_countThisTime s_X1_countThisTime) (g_X1_countThisTime : d_X1_countThisTime + 1 ≤ d) {J11 : zq_P} (j11 : zq_ok X 6 11 J11) {J37 : zq_P} (j37 : zq_ok X 6 37 J37) {Q : zq_Q} (hq : zq_R X none 0 Q) : zq_ok X 6 19 (xX1_countPairs_19 s_J7_fill_53178 s_X1_fits s_X1_ask s_X1_countThisTime J11 J37 Q) := by
  refine zs_aload_n C dX1_countPairs_19 rfl ?_
  refine zs_iload C dX1_countPairs_20 ?_
  refine zs_aload_n C dX1_countPairs_22 rfl ?_
  refine zs_aload_n C dX1_countPairs_23 rfl ?_
  refine zs_iload_n C dX1_countPairs_24 rfl ?_
  refine zs_callV C h_X1_fits g_X1_fits zy_X1_fits zp_15 (show vwCl[1]? = some (RX1, TX1, 8) from rfl) zw_895 zw_897 zs9_X1_fits dX1_countPairs_25 ?_
  exact zs_if_ne C dX1_countPairs_28 (by decide) (kX1_countPairs_34 C h_J7_fill_53178 g_J7_fill_53178 h_X1_fits g_X1_fits h_X1_ask g_X1_ask h_X1_countThisTime g_X1_countThisTime j11 j37 hq) (kX1_countPairs_31 C h_J7_fill_53178 g_J7_fill_53178 h_X1_fits g_X1_fits h_X1_ask g_X1_ask h_X1_countThisTime g_X1_countThisTime j11 j37 hq)
def xX1_countPairs_11 (s_J7_fill_53178 : zq_Sp) (s_X1_fits : zq_Sp) (s_X1_ask : zq_Sp) (s_X1_countThisTime : zq_Sp) (J11 : zq_P) (J37 : zq_P) (Q : zq_Q) (ls : zq_L) (st : List Value) (h : zq_H) : Prop := (zi_iload 4 (zi_push (.int 1000) (zi_if2 (fun x y => y ≤ x) (xX1_countPairs_76 s_J7_fill_53178 s_X1_fits s_X1_ask s_X1_countThisTime J11 J37 Q) (xX1_countPairs_19 s_J7_fill_53178 s_X1_fits s_X1_ask s_X1_countThisTime J11 J37 Q)))) ls st h
theorem kX1_countPairs_11 {X : zq_X} {d : Nat} (C : zq_C X cX1_countPairs 6 RX1 d) {d_J7_fill_53178 : Nat} {s_J7_fill_53178 : zq_Sp} (h_J7_fill_53178 : zq_M yJ7_fill_53178 cJ7_fill_53178 4 none 0 d_J7_fill_53178 s_J7_fill_53178) (g_J7_fill_53178 : d_J7_fill_53178 + 1 ≤ d) {d_X1_fits : Nat} {s_X1_fits : zq_Sp} (h_X1_fits : zq_M yX1_fits cX1_fits 7 (some .boolean) 1 d_X1_fits s_X1_fits) (g_X1_fits : d_X1_fits + 1 ≤ d) {d_X1_ask : Nat} {s_X1_ask : zq_Sp} (h_X1_ask : zq_M yX1_ask cX1_ask 5 (some .int) 1 d_X1_ask s_X1_ask) (g_X1_ask : d_X1_ask + 1 ≤ d) {d_X1_countThisTime : Nat} {s_X1_countThisTime : zq_Sp} (h_X1_countThisTime : zq_M yX1_countThisTime cX1_countThisTime 4 none 0 d_X1_countThisTime s_X1_countThisTime) (g_X1_countThisTime : d_X1_countThisTime + 1 ≤ d) {J11 : zq_P} (j11 : zq_ok X 6 11 J11) {J37 : zq_P} (j37 : zq_ok X 6 37 J37) {Q : zq_Q} (hq : zq_R X none 0 Q) : zq_ok X 6 11 (xX1_countPairs_11 s_J7_fill_53178 s_X1_fits s_X1_ask s_X1_countThisTime J11 J37 Q) := by
  refine zs_iload C dX1_countPairs_11 ?_
  refine zs_sipush C dX1_countPairs_13 (by decide) ?_
  exact zs_icmp_ge C dX1_countPairs_16 (by decide) (kX1_countPairs_76 C h_J7_fill_53178 g_J7_fill_53178 h_X1_fits g_X1_fits h_X1_ask g_X1_ask h_X1_countThisTime g_X1_countThisTime j11 j37 hq) (kX1_countPairs_19 C h_J7_fill_53178 g_J7_fill_53178 h_X1_fits g_X1_fits h_X1_ask g_X1_ask h_X1_countThisTime g_X1_countThisTime j11 j37 hq)
def xX1_countPairs_0 (s_J7_fill_53178 : zq_Sp) (s_X1_fits : zq_Sp) (s_X1_ask : zq_Sp) (s_X1_countThisTime : zq_Sp) (J11 : zq_P) (J37 : zq_P) (Q : zq_Q) (ls : zq_L) (st : List Value) (h : zq_H) : Prop := (zi_aload 0 (zi_getR 15 21 (zi_push (.int 0) (zi_callS 2 s_J7_fill_53178 (zi_push (.int 0) (zi_istore 4 (J11))))))) ls st h
theorem kX1_countPairs_0 {X : zq_X} {d : Nat} (C : zq_C X cX1_countPairs 6 RX1 d) {d_J7_fill_53178 : Nat} {s_J7_fill_53178 : zq_Sp} (h_J7_fill_53178 : zq_M yJ7_fill_53178 cJ7_fill_53178 4 none 0 d_J7_fill_53178 s_J7_fill_53178) (g_J7_fill_53178 : d_J7_fill_53178 + 1 ≤ d) {d_X1_fits : Nat} {s_X1_fits : zq_Sp} (h_X1_fits : zq_M yX1_fits cX1_fits 7 (some .boolean) 1 d_X1_fits s_X1_fits) (g_X1_fits : d_X1_fits + 1 ≤ d) {d_X1_ask : Nat} {s_X1_ask : zq_Sp} (h_X1_ask : zq_M yX1_ask cX1_ask 5 (some .int) 1 d_X1_ask s_X1_ask) (g_X1_ask : d_X1_ask + 1 ≤ d) {d_X1_countThisTime : Nat} {s_X1_countThisTime : zq_Sp} (h_X1_countThisTime : zq_M yX1_countThisTime cX1_countThisTime 4 none 0 d_X1_countThisTime s_X1_countThisTime) (g_X1_countThisTime : d_X1_countThisTime + 1 ≤ d) {J11 : zq_P} (j11 : zq_ok X 6 11 J11) {J37 : zq_P} (j37 : zq_ok X 6 37 J37) {Q : zq_Q} (hq : zq_R X none 0 Q) : zq_ok X 6 0 (xX1_countPairs_0 s_J7_fill_53178 s_X1_fits s_X1_ask s_X1_countThisTime J11 J37 Q) := by
  refine zs_aload_n C dX1_countPairs_0 rfl ?_
  refine zs_getR C zp_15 zF1 (j := 5) ⟨by decide, rfl⟩ zw_150 dX1_countPairs_1 ?_
  refine zs_iconst C dX1_countPairs_4 (by decide) ?_
  refine zs_callS C h_J7_fill_53178 g_J7_fill_53178 zy_J7_fill_53178 zw_913 zw_481 dX1_countPairs_5 ?_
  refine zs_iconst C dX1_countPairs_8 (by decide) ?_
  refine zs_istore C dX1_countPairs_9 (by decide) ?_
  exact j11
theorem mX1_countPairs {d : Nat} {spec : zq_Sp} {σ11 : Type} {σ37 : Type} {d_J7_fill_53178 : Nat} {s_J7_fill_53178 : zq_Sp} (h_J7_fill_53178 : zq_M yJ7_fill_53178 cJ7_fill_53178 4 none 0 d_J7_fill_53178 s_J7_fill_53178) (g_J7_fill_53178 : d_J7_fill_53178 + 1 ≤ d) {d_X1_fits : Nat} {s_X1_fits : zq_Sp} (h_X1_fits : zq_M yX1_fits cX1_fits 7 (some .boolean) 1 d_X1_fits s_X1_fits) (g_X1_fits : d_X1_fits + 1 ≤ d) {d_X1_ask : Nat} {s_X1_ask : zq_Sp} (h_X1_ask : zq_M yX1_ask cX1_ask 5 (some .int) 1 d_X1_ask s_X1_ask) (g_X1_ask : d_X1_ask + 1 ≤ d) {d_X1_countThisTime : Nat} {s_X1_countThisTime : zq_Sp} (h_X1_countThisTime : zq_M yX1_countThisTime cX1_countThisTime 4 none 0 d_X1_countThisTime s_X1_countThisTime) (g_X1_countThisTime : d_X1_countThisTime + 1 ≤ d) (μ11 : σ11 → Nat) (I11 : zq_Q → σ11 → zq_P) (μ37 : σ37 → Nat) (I37 : zq_Q → σ37 → zq_P) (v : ∀ args h Q, spec args h Q → (zq_a args).length ≤ 6 ∧ xX1_countPairs_0 s_J7_fill_53178 s_X1_fits s_X1_ask s_X1_countThisTime (fun ls st h => ∃ b, I11 Q b ls st h) (fun ls st h => ∃ b, I37 Q b ls st h) Q (zq_l0 6 args) [] h) (v11 : ∀ Q a ls st h, I11 Q a ls st h → xX1_countPairs_11 s_J7_fill_53178 s_X1_fits s_X1_ask s_X1_countThisTime (fun ls st h => ∃ b, μ11 b < μ11 a ∧ I11 Q b ls st h) (fun ls st h => ∃ b, μ37 b < μ11 a ∧ I37 Q b ls st h) Q ls st h) (v37 : ∀ Q a ls st h, I37 Q a ls st h → xX1_countPairs_37 s_J7_fill_53178 s_X1_fits s_X1_ask s_X1_countThisTime (fun ls st h => ∃ b, μ11 b < μ37 a ∧ I11 Q b ls st h) (fun ls st h => ∃ b, μ37 b < μ37 a ∧ I37 Q b ls st h) Q ls st h) : zq_M yX1_countPairs cX1_countPairs 6 none 0 d spec := by
  refine zq_met (by decide +kernel) (by decide) (fun X Q args h C hq hs => ⟨(v args h Q hs).1, _, ?_, (v args h Q hs).2⟩)
  have hl := zq_loop2 (X := X) (nL := 6) (pc1 := 11) (pc2 := 37) μ11 μ37 (I11 Q) (I37 Q) (fun J11 J37 => xX1_countPairs_11 s_J7_fill_53178 s_X1_fits s_X1_ask s_X1_countThisTime J11 J37 Q) (fun J11 J37 => xX1_countPairs_37 s_J7_fill_53178 s_X1_fits s_X1_ask s_X1_countThisTime J11 J37 Q) (fun j11 j37 => kX1_countPairs_11 C h_J7_fill_53178 g_J7_fill_53178 h_X1_fits g_X1_fits h_X1_ask g_X1_ask h_X1_countThisTime g_X1_countThisTime j11 j37 hq) (fun j11 j37 => kX1_countPairs_37 C h_J7_fill_53178 g_J7_fill_53178 h_X1_fits g_X1_fits h_X1_ask g_X1_ask h_X1_countThisTime g_X1_countThisTime j11 j37 hq) (v11 Q) (v37 Q)
  exact kX1_countPairs_0 C h_J7_fill_53178 g_J7_fill_53178 h_X1_fits g_X1_fits h_X1_ask g_X1_ask h_X1_countThisTime g_X1_countThisTime hl.1 hl.2 hq
/-! ToOneCrumb$Choices.countThisTime(I)V -/
theorem dX1_countThisTime_0 : decode cX1_countThisTime 0 = .ok (.iconst 0, 1) := by decide +kernel
theorem dX1_countThisTime_1 : decode cX1_countThisTime 1 = .ok (.istore_n 2, 1) := by decide +kernel
theorem dX1_countThisTime_2 : decode cX1_countThisTime 2 = .ok (.iload_n 2, 1) := by decide +kernel
theorem dX1_countThisTime_3 : decode cX1_countThisTime 3 = .ok (.iload_n 1, 1) := by decide +kernel
theorem dX1_countThisTime_4 : decode cX1_countThisTime 4 = .ok (.if_icmp .ge 84, 3) := by decide +kernel
theorem dX1_countThisTime_7 : decode cX1_countThisTime 7 = .ok (.iload_n 2, 1) := by decide +kernel
theorem dX1_countThisTime_8 : decode cX1_countThisTime 8 = .ok (.iconst 1, 1) := by decide +kernel
theorem dX1_countThisTime_9 : decode cX1_countThisTime 9 = .ok (.iadd, 1) := by decide +kernel
theorem dX1_countThisTime_10 : decode cX1_countThisTime 10 = .ok (.istore_n 3, 1) := by decide +kernel
theorem dX1_countThisTime_11 : decode cX1_countThisTime 11 = .ok (.iload_n 3, 1) := by decide +kernel
theorem dX1_countThisTime_12 : decode cX1_countThisTime 12 = .ok (.iload_n 1, 1) := by decide +kernel
theorem dX1_countThisTime_13 : decode cX1_countThisTime 13 = .ok (.if_icmp .ge 69, 3) := by decide +kernel
theorem dX1_countThisTime_16 : decode cX1_countThisTime 16 = .ok (.aload_n 0, 1) := by decide +kernel
theorem dX1_countThisTime_17 : decode cX1_countThisTime 17 = .ok (.getfield 24, 3) := by decide +kernel
theorem dX1_countThisTime_20 : decode cX1_countThisTime 20 = .ok (.iload_n 2, 1) := by decide +kernel
theorem dX1_countThisTime_21 : decode cX1_countThisTime 21 = .ok (.iaload, 1) := by decide +kernel
theorem dX1_countThisTime_22 : decode cX1_countThisTime 22 = .ok (.aload_n 0, 1) := by decide +kernel
theorem dX1_countThisTime_23 : decode cX1_countThisTime 23 = .ok (.getfield 24, 3) := by decide +kernel
theorem dX1_countThisTime_26 : decode cX1_countThisTime 26 = .ok (.iload_n 3, 1) := by decide +kernel
theorem dX1_countThisTime_27 : decode cX1_countThisTime 27 = .ok (.iaload, 1) := by decide +kernel
theorem dX1_countThisTime_28 : decode cX1_countThisTime 28 = .ok (.if_icmp .lt 18, 3) := by decide +kernel
theorem dX1_countThisTime_31 : decode cX1_countThisTime 31 = .ok (.aload_n 0, 1) := by decide +kernel
theorem dX1_countThisTime_32 : decode cX1_countThisTime 32 = .ok (.getfield 27, 3) := by decide +kernel
theorem dX1_countThisTime_35 : decode cX1_countThisTime 35 = .ok (.iload_n 2, 1) := by decide +kernel
theorem dX1_countThisTime_36 : decode cX1_countThisTime 36 = .ok (.bipush 16, 2) := by decide +kernel
theorem dX1_countThisTime_38 : decode cX1_countThisTime 38 = .ok (.imul, 1) := by decide +kernel
theorem dX1_countThisTime_39 : decode cX1_countThisTime 39 = .ok (.iload_n 3, 1) := by decide +kernel
theorem dX1_countThisTime_40 : decode cX1_countThisTime 40 = .ok (.iadd, 1) := by decide +kernel
theorem dX1_countThisTime_41 : decode cX1_countThisTime 41 = .ok (.dup2, 1) := by decide +kernel
theorem dX1_countThisTime_42 : decode cX1_countThisTime 42 = .ok (.iaload, 1) := by decide +kernel
theorem dX1_countThisTime_43 : decode cX1_countThisTime 43 = .ok (.iconst 1, 1) := by decide +kernel
theorem dX1_countThisTime_44 : decode cX1_countThisTime 44 = .ok (.iadd, 1) := by decide +kernel
theorem dX1_countThisTime_45 : decode cX1_countThisTime 45 = .ok (.iastore, 1) := by decide +kernel
theorem dX1_countThisTime_46 : decode cX1_countThisTime 46 = .ok (.aload_n 0, 1) := by decide +kernel
theorem dX1_countThisTime_47 : decode cX1_countThisTime 47 = .ok (.getfield 24, 3) := by decide +kernel
theorem dX1_countThisTime_50 : decode cX1_countThisTime 50 = .ok (.iload_n 3, 1) := by decide +kernel
theorem dX1_countThisTime_51 : decode cX1_countThisTime 51 = .ok (.iaload, 1) := by decide +kernel
theorem dX1_countThisTime_52 : decode cX1_countThisTime 52 = .ok (.aload_n 0, 1) := by decide +kernel
theorem dX1_countThisTime_53 : decode cX1_countThisTime 53 = .ok (.getfield 24, 3) := by decide +kernel
theorem dX1_countThisTime_56 : decode cX1_countThisTime 56 = .ok (.iload_n 2, 1) := by decide +kernel
theorem dX1_countThisTime_57 : decode cX1_countThisTime 57 = .ok (.iaload, 1) := by decide +kernel
theorem dX1_countThisTime_58 : decode cX1_countThisTime 58 = .ok (.if_icmp .lt 18, 3) := by decide +kernel
theorem dX1_countThisTime_61 : decode cX1_countThisTime 61 = .ok (.aload_n 0, 1) := by decide +kernel
theorem dX1_countThisTime_62 : decode cX1_countThisTime 62 = .ok (.getfield 27, 3) := by decide +kernel
theorem dX1_countThisTime_65 : decode cX1_countThisTime 65 = .ok (.iload_n 3, 1) := by decide +kernel
theorem dX1_countThisTime_66 : decode cX1_countThisTime 66 = .ok (.bipush 16, 2) := by decide +kernel
theorem dX1_countThisTime_68 : decode cX1_countThisTime 68 = .ok (.imul, 1) := by decide +kernel
theorem dX1_countThisTime_69 : decode cX1_countThisTime 69 = .ok (.iload_n 2, 1) := by decide +kernel
theorem dX1_countThisTime_70 : decode cX1_countThisTime 70 = .ok (.iadd, 1) := by decide +kernel
theorem dX1_countThisTime_71 : decode cX1_countThisTime 71 = .ok (.dup2, 1) := by decide +kernel
theorem dX1_countThisTime_72 : decode cX1_countThisTime 72 = .ok (.iaload, 1) := by decide +kernel
theorem dX1_countThisTime_73 : decode cX1_countThisTime 73 = .ok (.iconst 1, 1) := by decide +kernel
theorem dX1_countThisTime_74 : decode cX1_countThisTime 74 = .ok (.iadd, 1) := by decide +kernel
theorem dX1_countThisTime_75 : decode cX1_countThisTime 75 = .ok (.iastore, 1) := by decide +kernel
theorem dX1_countThisTime_76 : decode cX1_countThisTime 76 = .ok (.iinc 3 1, 3) := by decide +kernel
theorem dX1_countThisTime_79 : decode cX1_countThisTime 79 = .ok (.goto (-68), 3) := by decide +kernel
theorem dX1_countThisTime_82 : decode cX1_countThisTime 82 = .ok (.iinc 2 1, 3) := by decide +kernel
theorem dX1_countThisTime_85 : decode cX1_countThisTime 85 = .ok (.goto (-83), 3) := by decide +kernel
theorem dX1_countThisTime_88 : decode cX1_countThisTime 88 = .ok (.return_, 1) := by decide +kernel
def xX1_countThisTime_88 (J2 : zq_P) (J11 : zq_P) (Q : zq_Q) (ls : zq_L) (st : List Value) (h : zq_H) : Prop := (zi_vret Q) ls st h
theorem kX1_countThisTime_88 {X : zq_X} {d : Nat} (C : zq_C X cX1_countThisTime 4 RX1 d) {J2 : zq_P} (j2 : zq_ok X 4 2 J2) {J11 : zq_P} (j11 : zq_ok X 4 11 J11) {Q : zq_Q} (hq : zq_R X none 0 Q) : zq_ok X 4 88 (xX1_countThisTime_88 J2 J11 Q) := by
  exact zs_vret C hq dX1_countThisTime_88
def xX1_countThisTime_82 (J2 : zq_P) (J11 : zq_P) (Q : zq_Q) (ls : zq_L) (st : List Value) (h : zq_H) : Prop := (zi_iinc 2 1 (J2)) ls st h
theorem kX1_countThisTime_82 {X : zq_X} {d : Nat} (C : zq_C X cX1_countThisTime 4 RX1 d) {J2 : zq_P} (j2 : zq_ok X 4 2 J2) {J11 : zq_P} (j11 : zq_ok X 4 11 J11) {Q : zq_Q} (hq : zq_R X none 0 Q) : zq_ok X 4 82 (xX1_countThisTime_82 J2 J11 Q) := by
  refine zs_iinc C dX1_countThisTime_82 (by decide) (by decide) ?_
  exact zs_goto C dX1_countThisTime_85 (by decide) (j2)
def xX1_countThisTime_76 (J2 : zq_P) (J11 : zq_P) (Q : zq_Q) (ls : zq_L) (st : List Value) (h : zq_H) : Prop := (zi_iinc 3 1 (J11)) ls st h
theorem kX1_countThisTime_76 {X : zq_X} {d : Nat} (C : zq_C X cX1_countThisTime 4 RX1 d) {J2 : zq_P} (j2 : zq_ok X 4 2 J2) {J11 : zq_P} (j11 : zq_ok X 4 11 J11) {Q : zq_Q} (hq : zq_R X none 0 Q) : zq_ok X 4 76 (xX1_countThisTime_76 J2 J11 Q) := by
  refine zs_iinc C dX1_countThisTime_76 (by decide) (by decide) ?_
  exact zs_goto C dX1_countThisTime_79 (by decide) (j11)
def xX1_countThisTime_61 (J2 : zq_P) (J11 : zq_P) (Q : zq_Q) (ls : zq_L) (st : List Value) (h : zq_H) : Prop := (zi_aload 0 (zi_getR 15 21 (zi_iload 3 (zi_push (.int 16) (zi_i2 (fun x y => x * y) (zi_iload 2 (zi_i2 (fun x y => x + y) (zi_dup2 (zi_aldI 21 256 (zi_push (.int 1) (zi_i2 (fun x y => x + y) (zi_astI 21 256 ((xX1_countThisTime_76 J2 J11 Q)))))))))))))) ls st h
theorem kX1_countThisTime_61 {X : zq_X} {d : Nat} (C : zq_C X cX1_countThisTime 4 RX1 d) {J2 : zq_P} (j2 : zq_ok X 4 2 J2) {J11 : zq_P} (j11 : zq_ok X 4 11 J11) {Q : zq_Q} (hq : zq_R X none 0 Q) : zq_ok X 4 61 (xX1_countThisTime_61 J2 J11 Q) := by
  refine zs_aload_n C dX1_countThisTime_61 rfl ?_
  refine zs_getR C zp_15 zF1 (j := 5) ⟨by decide, rfl⟩ zw_150 dX1_countThisTime_62 ?_
  refine zs_iload_n C dX1_countThisTime_65 rfl ?_
  refine zs_bipush C dX1_countThisTime_66 (by decide) ?_
  refine zs_imul C dX1_countThisTime_68 ?_
  refine zs_iload_n C dX1_countThisTime_69 rfl ?_
  refine zs_iadd C dX1_countThisTime_70 ?_
  refine zs_dup2 C dX1_countThisTime_71 ?_
  refine zs_iaload C zp_21 dX1_countThisTime_72 ?_
  refine zs_iconst C dX1_countThisTime_73 (by decide) ?_
  refine zs_iadd C dX1_countThisTime_74 ?_
  refine zs_iastore C zp_21 dX1_countThisTime_75 ?_
  exact kX1_countThisTime_76 C j2 j11 hq
def xX1_countThisTime_46 (J2 : zq_P) (J11 : zq_P) (Q : zq_Q) (ls : zq_L) (st : List Value) (h : zq_H) : Prop := (zi_aload 0 (zi_getR 15 20 (zi_iload 3 (zi_aldI 20 16 (zi_aload 0 (zi_getR 15 20 (zi_iload 2 (zi_aldI 20 16 (zi_if2 (fun x y => x < y) (xX1_countThisTime_76 J2 J11 Q) (xX1_countThisTime_61 J2 J11 Q)))))))))) ls st h
theorem kX1_countThisTime_46 {X : zq_X} {d : Nat} (C : zq_C X cX1_countThisTime 4 RX1 d) {J2 : zq_P} (j2 : zq_ok X 4 2 J2) {J11 : zq_P} (j11 : zq_ok X 4 11 J11) {Q : zq_Q} (hq : zq_R X none 0 Q) : zq_ok X 4 46 (xX1_countThisTime_46 J2 J11 Q) := by
  refine zs_aload_n C dX1_countThisTime_46 rfl ?_
  refine zs_getR C zp_15 zF1 (j := 4) ⟨by decide, rfl⟩ zw_149 dX1_countThisTime_47 ?_
  refine zs_iload_n C dX1_countThisTime_50 rfl ?_
  refine zs_iaload C zp_20 dX1_countThisTime_51 ?_
  refine zs_aload_n C dX1_countThisTime_52 rfl ?_
  refine zs_getR C zp_15 zF1 (j := 4) ⟨by decide, rfl⟩ zw_149 dX1_countThisTime_53 ?_
  refine zs_iload_n C dX1_countThisTime_56 rfl ?_
  refine zs_iaload C zp_20 dX1_countThisTime_57 ?_
  exact zs_icmp_lt C dX1_countThisTime_58 (by decide) (kX1_countThisTime_76 C j2 j11 hq) (kX1_countThisTime_61 C j2 j11 hq)
def xX1_countThisTime_31 (J2 : zq_P) (J11 : zq_P) (Q : zq_Q) (ls : zq_L) (st : List Value) (h : zq_H) : Prop := (zi_aload 0 (zi_getR 15 21 (zi_iload 2 (zi_push (.int 16) (zi_i2 (fun x y => x * y) (zi_iload 3 (zi_i2 (fun x y => x + y) (zi_dup2 (zi_aldI 21 256 (zi_push (.int 1) (zi_i2 (fun x y => x + y) (zi_astI 21 256 ((xX1_countThisTime_46 J2 J11 Q)))))))))))))) ls st h
theorem kX1_countThisTime_31 {X : zq_X} {d : Nat} (C : zq_C X cX1_countThisTime 4 RX1 d) {J2 : zq_P} (j2 : zq_ok X 4 2 J2) {J11 : zq_P} (j11 : zq_ok X 4 11 J11) {Q : zq_Q} (hq : zq_R X none 0 Q) : zq_ok X 4 31 (xX1_countThisTime_31 J2 J11 Q) := by
  refine zs_aload_n C dX1_countThisTime_31 rfl ?_
  refine zs_getR C zp_15 zF1 (j := 5) ⟨by decide, rfl⟩ zw_150 dX1_countThisTime_32 ?_
  refine zs_iload_n C dX1_countThisTime_35 rfl ?_
  refine zs_bipush C dX1_countThisTime_36 (by decide) ?_
  refine zs_imul C dX1_countThisTime_38 ?_
  refine zs_iload_n C dX1_countThisTime_39 rfl ?_
  refine zs_iadd C dX1_countThisTime_40 ?_
  refine zs_dup2 C dX1_countThisTime_41 ?_
  refine zs_iaload C zp_21 dX1_countThisTime_42 ?_
  refine zs_iconst C dX1_countThisTime_43 (by decide) ?_
  refine zs_iadd C dX1_countThisTime_44 ?_
  refine zs_iastore C zp_21 dX1_countThisTime_45 ?_
  exact kX1_countThisTime_46 C j2 j11 hq
def xX1_countThisTime_16 (J2 : zq_P) (J11 : zq_P) (Q : zq_Q) (ls : zq_L) (st : List Value) (h : zq_H) : Prop := (zi_aload 0 (zi_getR 15 20 (zi_iload 2 (zi_aldI 20 16 (zi_aload 0 (zi_getR 15 20 (zi_iload 3 (zi_aldI 20 16 (zi_if2 (fun x y => x < y) (xX1_countThisTime_46 J2 J11 Q) (xX1_countThisTime_31 J2 J11 Q)))))))))) ls st h
theorem kX1_countThisTime_16 {X : zq_X} {d : Nat} (C : zq_C X cX1_countThisTime 4 RX1 d) {J2 : zq_P} (j2 : zq_ok X 4 2 J2) {J11 : zq_P} (j11 : zq_ok X 4 11 J11) {Q : zq_Q} (hq : zq_R X none 0 Q) : zq_ok X 4 16 (xX1_countThisTime_16 J2 J11 Q) := by
  refine zs_aload_n C dX1_countThisTime_16 rfl ?_
  refine zs_getR C zp_15 zF1 (j := 4) ⟨by decide, rfl⟩ zw_149 dX1_countThisTime_17 ?_
  refine zs_iload_n C dX1_countThisTime_20 rfl ?_
  refine zs_iaload C zp_20 dX1_countThisTime_21 ?_
  refine zs_aload_n C dX1_countThisTime_22 rfl ?_
  refine zs_getR C zp_15 zF1 (j := 4) ⟨by decide, rfl⟩ zw_149 dX1_countThisTime_23 ?_
  refine zs_iload_n C dX1_countThisTime_26 rfl ?_
  refine zs_iaload C zp_20 dX1_countThisTime_27 ?_
  exact zs_icmp_lt C dX1_countThisTime_28 (by decide) (kX1_countThisTime_46 C j2 j11 hq) (kX1_countThisTime_31 C j2 j11 hq)
def xX1_countThisTime_11 (J2 : zq_P) (J11 : zq_P) (Q : zq_Q) (ls : zq_L) (st : List Value) (h : zq_H) : Prop := (zi_iload 3 (zi_iload 1 (zi_if2 (fun x y => y ≤ x) (xX1_countThisTime_82 J2 J11 Q) (xX1_countThisTime_16 J2 J11 Q)))) ls st h
theorem kX1_countThisTime_11 {X : zq_X} {d : Nat} (C : zq_C X cX1_countThisTime 4 RX1 d) {J2 : zq_P} (j2 : zq_ok X 4 2 J2) {J11 : zq_P} (j11 : zq_ok X 4 11 J11) {Q : zq_Q} (hq : zq_R X none 0 Q) : zq_ok X 4 11 (xX1_countThisTime_11 J2 J11 Q) := by
  refine zs_iload_n C dX1_countThisTime_11 rfl ?_
  refine zs_iload_n C dX1_countThisTime_12 rfl ?_
  exact zs_icmp_ge C dX1_countThisTime_13 (by decide) (kX1_countThisTime_82 C j2 j11 hq) (kX1_countThisTime_16 C j2 j11 hq)
def xX1_countThisTime_7 (J2 : zq_P) (J11 : zq_P) (Q : zq_Q) (ls : zq_L) (st : List Value) (h : zq_H) : Prop := (zi_iload 2 (zi_push (.int 1) (zi_i2 (fun x y => x + y) (zi_istore 3 (J11))))) ls st h
theorem kX1_countThisTime_7 {X : zq_X} {d : Nat} (C : zq_C X cX1_countThisTime 4 RX1 d) {J2 : zq_P} (j2 : zq_ok X 4 2 J2) {J11 : zq_P} (j11 : zq_ok X 4 11 J11) {Q : zq_Q} (hq : zq_R X none 0 Q) : zq_ok X 4 7 (xX1_countThisTime_7 J2 J11 Q) := by
  refine zs_iload_n C dX1_countThisTime_7 rfl ?_
  refine zs_iconst C dX1_countThisTime_8 (by decide) ?_
  refine zs_iadd C dX1_countThisTime_9 ?_
  refine zs_istore_n C dX1_countThisTime_10 rfl (by decide) ?_
  exact j11
def xX1_countThisTime_2 (J2 : zq_P) (J11 : zq_P) (Q : zq_Q) (ls : zq_L) (st : List Value) (h : zq_H) : Prop := (zi_iload 2 (zi_iload 1 (zi_if2 (fun x y => y ≤ x) (xX1_countThisTime_88 J2 J11 Q) (xX1_countThisTime_7 J2 J11 Q)))) ls st h
theorem kX1_countThisTime_2 {X : zq_X} {d : Nat} (C : zq_C X cX1_countThisTime 4 RX1 d) {J2 : zq_P} (j2 : zq_ok X 4 2 J2) {J11 : zq_P} (j11 : zq_ok X 4 11 J11) {Q : zq_Q} (hq : zq_R X none 0 Q) : zq_ok X 4 2 (xX1_countThisTime_2 J2 J11 Q) := by
  refine zs_iload_n C dX1_countThisTime_2 rfl ?_
  refine zs_iload_n C dX1_countThisTime_3 rfl ?_
  exact zs_icmp_ge C dX1_countThisTime_4 (by decide) (kX1_countThisTime_88 C j2 j11 hq) (kX1_countThisTime_7 C j2 j11 hq)
def xX1_countThisTime_0 (J2 : zq_P) (J11 : zq_P) (Q : zq_Q) (ls : zq_L) (st : List Value) (h : zq_H) : Prop := (zi_push (.int 0) (zi_istore 2 (J2))) ls st h
theorem kX1_countThisTime_0 {X : zq_X} {d : Nat} (C : zq_C X cX1_countThisTime 4 RX1 d) {J2 : zq_P} (j2 : zq_ok X 4 2 J2) {J11 : zq_P} (j11 : zq_ok X 4 11 J11) {Q : zq_Q} (hq : zq_R X none 0 Q) : zq_ok X 4 0 (xX1_countThisTime_0 J2 J11 Q) := by
  refine zs_iconst C dX1_countThisTime_0 (by decide) ?_
  refine zs_istore_n C dX1_countThisTime_1 rfl (by decide) ?_
  exact j2
theorem mX1_countThisTime {d : Nat} {spec : zq_Sp} {σ2 : Type} {σ11 : Type} (μ2 : σ2 → Nat) (I2 : zq_Q → σ2 → zq_P) (μ11 : σ11 → Nat) (I11 : zq_Q → σ11 → zq_P) (v : ∀ args h Q, spec args h Q → (zq_a args).length ≤ 4 ∧ xX1_countThisTime_0 (fun ls st h => ∃ b, I2 Q b ls st h) (fun ls st h => ∃ b, I11 Q b ls st h) Q (zq_l0 4 args) [] h) (v2 : ∀ Q a ls st h, I2 Q a ls st h → xX1_countThisTime_2 (fun ls st h => ∃ b, μ2 b < μ2 a ∧ I2 Q b ls st h) (fun ls st h => ∃ b, μ11 b < μ2 a ∧ I11 Q b ls st h) Q ls st h) (v11 : ∀ Q a ls st h, I11 Q a ls st h → xX1_countThisTime_11 (fun ls st h => ∃ b, μ2 b < μ11 a ∧ I2 Q b ls st h) (fun ls st h => ∃ b, μ11 b < μ11 a ∧ I11 Q b ls st h) Q ls st h) : zq_M yX1_countThisTime cX1_countThisTime 4 none 0 d spec := by
  refine zq_met (by decide +kernel) (by decide) (fun X Q args h C hq hs => ⟨(v args h Q hs).1, _, ?_, (v args h Q hs).2⟩)
  have hl := zq_loop2 (X := X) (nL := 4) (pc1 := 2) (pc2 := 11) μ2 μ11 (I2 Q) (I11 Q) (fun J2 J11 => xX1_countThisTime_2 J2 J11 Q) (fun J2 J11 => xX1_countThisTime_11 J2 J11 Q) (fun j2 j11 => kX1_countThisTime_2 C j2 j11 hq) (fun j2 j11 => kX1_countThisTime_11 C j2 j11 hq) (v2 Q) (v11 Q)
  exact kX1_countThisTime_0 C hl.1 hl.2 hq
/-! ToOneCrumb$Choices.leftAtMost(II)I -/
theorem dX1_leftAtMost_0 : decode cX1_leftAtMost 0 = .ok (.aload_n 0, 1) := by decide +kernel
theorem dX1_leftAtMost_1 : decode cX1_leftAtMost 1 = .ok (.getfield 27, 3) := by decide +kernel
theorem dX1_leftAtMost_4 : decode cX1_leftAtMost 4 = .ok (.iload_n 1, 1) := by decide +kernel
theorem dX1_leftAtMost_5 : decode cX1_leftAtMost 5 = .ok (.bipush 16, 2) := by decide +kernel
theorem dX1_leftAtMost_7 : decode cX1_leftAtMost 7 = .ok (.imul, 1) := by decide +kernel
theorem dX1_leftAtMost_8 : decode cX1_leftAtMost 8 = .ok (.iload_n 2, 1) := by decide +kernel
theorem dX1_leftAtMost_9 : decode cX1_leftAtMost 9 = .ok (.iadd, 1) := by decide +kernel
theorem dX1_leftAtMost_10 : decode cX1_leftAtMost 10 = .ok (.iaload, 1) := by decide +kernel
theorem dX1_leftAtMost_11 : decode cX1_leftAtMost 11 = .ok (.aload_n 0, 1) := by decide +kernel
theorem dX1_leftAtMost_12 : decode cX1_leftAtMost 12 = .ok (.getfield 27, 3) := by decide +kernel
theorem dX1_leftAtMost_15 : decode cX1_leftAtMost 15 = .ok (.iload_n 2, 1) := by decide +kernel
theorem dX1_leftAtMost_16 : decode cX1_leftAtMost 16 = .ok (.bipush 16, 2) := by decide +kernel
theorem dX1_leftAtMost_18 : decode cX1_leftAtMost 18 = .ok (.imul, 1) := by decide +kernel
theorem dX1_leftAtMost_19 : decode cX1_leftAtMost 19 = .ok (.iload_n 1, 1) := by decide +kernel
theorem dX1_leftAtMost_20 : decode cX1_leftAtMost 20 = .ok (.iadd, 1) := by decide +kernel
theorem dX1_leftAtMost_21 : decode cX1_leftAtMost 21 = .ok (.iaload, 1) := by decide +kernel
theorem dX1_leftAtMost_22 : decode cX1_leftAtMost 22 = .ok (.invokestatic 63, 3) := by decide +kernel
theorem dX1_leftAtMost_25 : decode cX1_leftAtMost 25 = .ok (.ireturn, 1) := by decide +kernel
def xX1_leftAtMost_0 (Q : zq_Q) (ls : zq_L) (st : List Value) (h : zq_H) : Prop := (zi_aload 0 (zi_getR 15 21 (zi_iload 1 (zi_push (.int 16) (zi_i2 (fun x y => x * y) (zi_iload 2 (zi_i2 (fun x y => x + y) (zi_aldI 21 256 (zi_aload 0 (zi_getR 15 21 (zi_iload 2 (zi_push (.int 16) (zi_i2 (fun x y => x * y) (zi_iload 1 (zi_i2 (fun x y => x + y) (zi_aldI 21 256 (zi_m2 zf_max (zi_iret Q)))))))))))))))))) ls st h
theorem kX1_leftAtMost_0 {X : zq_X} {d : Nat} (C : zq_C X cX1_leftAtMost 3 RX1 d) (hd1 : 1 ≤ d) {Q : zq_Q} (hq : zq_R X (some .int) 1 Q) : zq_ok X 3 0 (xX1_leftAtMost_0 Q) := by
  refine zs_aload_n C dX1_leftAtMost_0 rfl ?_
  refine zs_getR C zp_15 zF1 (j := 5) ⟨by decide, rfl⟩ zw_150 dX1_leftAtMost_1 ?_
  refine zs_iload_n C dX1_leftAtMost_4 rfl ?_
  refine zs_bipush C dX1_leftAtMost_5 (by decide) ?_
  refine zs_imul C dX1_leftAtMost_7 ?_
  refine zs_iload_n C dX1_leftAtMost_8 rfl ?_
  refine zs_iadd C dX1_leftAtMost_9 ?_
  refine zs_iaload C zp_21 dX1_leftAtMost_10 ?_
  refine zs_aload_n C dX1_leftAtMost_11 rfl ?_
  refine zs_getR C zp_15 zF1 (j := 5) ⟨by decide, rfl⟩ zw_150 dX1_leftAtMost_12 ?_
  refine zs_iload_n C dX1_leftAtMost_15 rfl ?_
  refine zs_bipush C dX1_leftAtMost_16 (by decide) ?_
  refine zs_imul C dX1_leftAtMost_18 ?_
  refine zs_iload_n C dX1_leftAtMost_19 rfl ?_
  refine zs_iadd C dX1_leftAtMost_20 ?_
  refine zs_iaload C zp_21 dX1_leftAtMost_21 ?_
  refine zs_mmax C hd1 zw_922 zw_454 zw_14 zw_455 dX1_leftAtMost_22 ?_
  exact zs_iret C hq dX1_leftAtMost_25
theorem mX1_leftAtMost {d : Nat} {spec : zq_Sp} (hd1 : 1 ≤ d) (v : ∀ args h Q, spec args h Q → (zq_a args).length ≤ 3 ∧ xX1_leftAtMost_0 Q (zq_l0 3 args) [] h) : zq_M yX1_leftAtMost cX1_leftAtMost 3 (some .int) 1 d spec := by
  refine zq_met (by decide +kernel) (by decide) (fun X Q args h C hq hs => ⟨(v args h Q hs).1, _, ?_, (v args h Q hs).2⟩)
  exact kX1_leftAtMost_0 C hd1 hq
/-! ToOneCrumb$Choices.fits(ILToOneCrumb$Rule;LToOneCrumb$Loaf;I)Z -/
theorem dX1_fits_0 : decode cX1_fits 0 = .ok (.aload_n 0, 1) := by decide +kernel
theorem dX1_fits_1 : decode cX1_fits 1 = .ok (.getfield 18, 3) := by decide +kernel
theorem dX1_fits_4 : decode cX1_fits 4 = .ok (.iconst 0, 1) := by decide +kernel
theorem dX1_fits_5 : decode cX1_fits 5 = .ok (.iload_n 1, 1) := by decide +kernel
theorem dX1_fits_6 : decode cX1_fits 6 = .ok (.bipush 100, 2) := by decide +kernel
theorem dX1_fits_8 : decode cX1_fits 8 = .ok (.idiv, 1) := by decide +kernel
theorem dX1_fits_9 : decode cX1_fits 9 = .ok (.iastore, 1) := by decide +kernel
theorem dX1_fits_10 : decode cX1_fits 10 = .ok (.aload_n 0, 1) := by decide +kernel
theorem dX1_fits_11 : decode cX1_fits 11 = .ok (.getfield 18, 3) := by decide +kernel
theorem dX1_fits_14 : decode cX1_fits 14 = .ok (.iconst 1, 1) := by decide +kernel
theorem dX1_fits_15 : decode cX1_fits 15 = .ok (.iload_n 1, 1) := by decide +kernel
theorem dX1_fits_16 : decode cX1_fits 16 = .ok (.bipush 10, 2) := by decide +kernel
theorem dX1_fits_18 : decode cX1_fits 18 = .ok (.idiv, 1) := by decide +kernel
theorem dX1_fits_19 : decode cX1_fits 19 = .ok (.bipush 10, 2) := by decide +kernel
theorem dX1_fits_21 : decode cX1_fits 21 = .ok (.irem, 1) := by decide +kernel
theorem dX1_fits_22 : decode cX1_fits 22 = .ok (.iastore, 1) := by decide +kernel
theorem dX1_fits_23 : decode cX1_fits 23 = .ok (.aload_n 0, 1) := by decide +kernel
theorem dX1_fits_24 : decode cX1_fits 24 = .ok (.getfield 18, 3) := by decide +kernel
theorem dX1_fits_27 : decode cX1_fits 27 = .ok (.iconst 2, 1) := by decide +kernel
theorem dX1_fits_28 : decode cX1_fits 28 = .ok (.iload_n 1, 1) := by decide +kernel
theorem dX1_fits_29 : decode cX1_fits 29 = .ok (.bipush 10, 2) := by decide +kernel
theorem dX1_fits_31 : decode cX1_fits 31 = .ok (.irem, 1) := by decide +kernel
theorem dX1_fits_32 : decode cX1_fits 32 = .ok (.iastore, 1) := by decide +kernel
theorem dX1_fits_33 : decode cX1_fits 33 = .ok (.aload_n 0, 1) := by decide +kernel
theorem dX1_fits_34 : decode cX1_fits 34 = .ok (.iconst 0, 1) := by decide +kernel
theorem dX1_fits_35 : decode cX1_fits 35 = .ok (.putfield 69, 3) := by decide +kernel
theorem dX1_fits_38 : decode cX1_fits 38 = .ok (.iconst 0, 1) := by decide +kernel
theorem dX1_fits_39 : decode cX1_fits 39 = .ok (.istore 5, 2) := by decide +kernel
theorem dX1_fits_41 : decode cX1_fits 41 = .ok (.iload 5, 2) := by decide +kernel
theorem dX1_fits_43 : decode cX1_fits 43 = .ok (.aload_n 0, 1) := by decide +kernel
theorem dX1_fits_44 : decode cX1_fits 44 = .ok (.getfield 30, 3) := by decide +kernel
theorem dX1_fits_47 : decode cX1_fits 47 = .ok (.if_icmp .ge 48, 3) := by decide +kernel
theorem dX1_fits_50 : decode cX1_fits 50 = .ok (.aload_n 0, 1) := by decide +kernel
theorem dX1_fits_51 : decode cX1_fits 51 = .ok (.aload_n 0, 1) := by decide +kernel
theorem dX1_fits_52 : decode cX1_fits 52 = .ok (.getfield 11, 3) := by decide +kernel
theorem dX1_fits_55 : decode cX1_fits 55 = .ok (.iload 5, 2) := by decide +kernel
theorem dX1_fits_57 : decode cX1_fits 57 = .ok (.iaload, 1) := by decide +kernel
theorem dX1_fits_58 : decode cX1_fits 58 = .ok (.aload_n 2, 1) := by decide +kernel
theorem dX1_fits_59 : decode cX1_fits 59 = .ok (.aload_n 3, 1) := by decide +kernel
theorem dX1_fits_60 : decode cX1_fits 60 = .ok (.iload 4, 2) := by decide +kernel
theorem dX1_fits_62 : decode cX1_fits 62 = .ok (.invokevirtual 55, 3) := by decide +kernel
theorem dX1_fits_65 : decode cX1_fits 65 = .ok (.istore 6, 2) := by decide +kernel
theorem dX1_fits_67 : decode cX1_fits 67 = .ok (.iload 6, 2) := by decide +kernel
theorem dX1_fits_69 : decode cX1_fits 69 = .ok (.aload_n 0, 1) := by decide +kernel
theorem dX1_fits_70 : decode cX1_fits 70 = .ok (.aload_n 0, 1) := by decide +kernel
theorem dX1_fits_71 : decode cX1_fits 71 = .ok (.getfield 15, 3) := by decide +kernel
theorem dX1_fits_74 : decode cX1_fits 74 = .ok (.iload 5, 2) := by decide +kernel
theorem dX1_fits_76 : decode cX1_fits 76 = .ok (.iaload, 1) := by decide +kernel
theorem dX1_fits_77 : decode cX1_fits 77 = .ok (.aload_n 2, 1) := by decide +kernel
theorem dX1_fits_78 : decode cX1_fits 78 = .ok (.aload_n 3, 1) := by decide +kernel
theorem dX1_fits_79 : decode cX1_fits 79 = .ok (.iload 4, 2) := by decide +kernel
theorem dX1_fits_81 : decode cX1_fits 81 = .ok (.invokevirtual 55, 3) := by decide +kernel
theorem dX1_fits_84 : decode cX1_fits 84 = .ok (.if_icmp .ge 5, 3) := by decide +kernel
theorem dX1_fits_87 : decode cX1_fits 87 = .ok (.iconst 0, 1) := by decide +kernel
theorem dX1_fits_88 : decode cX1_fits 88 = .ok (.ireturn, 1) := by decide +kernel
theorem dX1_fits_89 : decode cX1_fits 89 = .ok (.iinc 5 1, 3) := by decide +kernel
theorem dX1_fits_92 : decode cX1_fits 92 = .ok (.goto (-51), 3) := by decide +kernel
theorem dX1_fits_95 : decode cX1_fits 95 = .ok (.iconst 1, 1) := by decide +kernel
theorem dX1_fits_96 : decode cX1_fits 96 = .ok (.ireturn, 1) := by decide +kernel
def xX1_fits_95 (s_X1_ask : zq_Sp) (J41 : zq_P) (Q : zq_Q) (ls : zq_L) (st : List Value) (h : zq_H) : Prop := (zi_push (.int 1) (zi_zret Q)) ls st h
theorem kX1_fits_95 {X : zq_X} {d : Nat} (C : zq_C X cX1_fits 7 RX1 d) {d_X1_ask : Nat} {s_X1_ask : zq_Sp} (h_X1_ask : zq_M yX1_ask cX1_ask 5 (some .int) 1 d_X1_ask s_X1_ask) (g_X1_ask : d_X1_ask + 1 ≤ d) {J41 : zq_P} (j41 : zq_ok X 7 41 J41) {Q : zq_Q} (hq : zq_R X (some .boolean) 1 Q) : zq_ok X 7 95 (xX1_fits_95 s_X1_ask J41 Q) := by
  refine zs_iconst C dX1_fits_95 (by decide) ?_
  exact zs_zret C hq dX1_fits_96
def xX1_fits_89 (s_X1_ask : zq_Sp) (J41 : zq_P) (Q : zq_Q) (ls : zq_L) (st : List Value) (h : zq_H) : Prop := (zi_iinc 5 1 (J41)) ls st h
theorem kX1_fits_89 {X : zq_X} {d : Nat} (C : zq_C X cX1_fits 7 RX1 d) {d_X1_ask : Nat} {s_X1_ask : zq_Sp} (h_X1_ask : zq_M yX1_ask cX1_ask 5 (some .int) 1 d_X1_ask s_X1_ask) (g_X1_ask : d_X1_ask + 1 ≤ d) {J41 : zq_P} (j41 : zq_ok X 7 41 J41) {Q : zq_Q} (hq : zq_R X (some .boolean) 1 Q) : zq_ok X 7 89 (xX1_fits_89 s_X1_ask J41 Q) := by
  refine zs_iinc C dX1_fits_89 (by decide) (by decide) ?_
  exact zs_goto C dX1_fits_92 (by decide) (j41)
def xX1_fits_87 (s_X1_ask : zq_Sp) (J41 : zq_P) (Q : zq_Q) (ls : zq_L) (st : List Value) (h : zq_H) : Prop := (zi_push (.int 0) (zi_zret Q)) ls st h
theorem kX1_fits_87 {X : zq_X} {d : Nat} (C : zq_C X cX1_fits 7 RX1 d) {d_X1_ask : Nat} {s_X1_ask : zq_Sp} (h_X1_ask : zq_M yX1_ask cX1_ask 5 (some .int) 1 d_X1_ask s_X1_ask) (g_X1_ask : d_X1_ask + 1 ≤ d) {J41 : zq_P} (j41 : zq_ok X 7 41 J41) {Q : zq_Q} (hq : zq_R X (some .boolean) 1 Q) : zq_ok X 7 87 (xX1_fits_87 s_X1_ask J41 Q) := by
  refine zs_iconst C dX1_fits_87 (by decide) ?_
  exact zs_zret C hq dX1_fits_88
def xX1_fits_50 (s_X1_ask : zq_Sp) (J41 : zq_P) (Q : zq_Q) (ls : zq_L) (st : List Value) (h : zq_H) : Prop := (zi_aload 0 (zi_aload 0 (zi_getR 15 16 (zi_iload 5 (zi_aldI 16 12 (zi_aload 2 (zi_aload 3 (zi_iload 4 (zi_callV 4 15 s_X1_ask (zi_istore 6 (zi_iload 6 (zi_aload 0 (zi_aload 0 (zi_getR 15 17 (zi_iload 5 (zi_aldI 17 12 (zi_aload 2 (zi_aload 3 (zi_iload 4 (zi_callV 4 15 s_X1_ask (zi_if2 (fun x y => y ≤ x) (xX1_fits_89 s_X1_ask J41 Q) (xX1_fits_87 s_X1_ask J41 Q)))))))))))))))))))))) ls st h
theorem kX1_fits_50 {X : zq_X} {d : Nat} (C : zq_C X cX1_fits 7 RX1 d) {d_X1_ask : Nat} {s_X1_ask : zq_Sp} (h_X1_ask : zq_M yX1_ask cX1_ask 5 (some .int) 1 d_X1_ask s_X1_ask) (g_X1_ask : d_X1_ask + 1 ≤ d) {J41 : zq_P} (j41 : zq_ok X 7 41 J41) {Q : zq_Q} (hq : zq_R X (some .boolean) 1 Q) : zq_ok X 7 50 (xX1_fits_50 s_X1_ask J41 Q) := by
  refine zs_aload_n C dX1_fits_50 rfl ?_
  refine zs_aload_n C dX1_fits_51 rfl ?_
  refine zs_getR C zp_15 zF1 (j := 0) ⟨by decide, rfl⟩ zw_144 dX1_fits_52 ?_
  refine zs_iload C dX1_fits_55 ?_
  refine zs_iaload C zp_16 dX1_fits_57 ?_
  refine zs_aload_n C dX1_fits_58 rfl ?_
  refine zs_aload_n C dX1_fits_59 rfl ?_
  refine zs_iload C dX1_fits_60 ?_
  refine zs_callV C h_X1_ask g_X1_ask zy_X1_ask zp_15 (show vwCl[1]? = some (RX1, TX1, 8) from rfl) zw_899 zw_901 zs9_X1_ask dX1_fits_62 ?_
  refine zs_istore C dX1_fits_65 (by decide) ?_
  refine zs_iload C dX1_fits_67 ?_
  refine zs_aload_n C dX1_fits_69 rfl ?_
  refine zs_aload_n C dX1_fits_70 rfl ?_
  refine zs_getR C zp_15 zF1 (j := 1) ⟨by decide, rfl⟩ zw_145 dX1_fits_71 ?_
  refine zs_iload C dX1_fits_74 ?_
  refine zs_iaload C zp_17 dX1_fits_76 ?_
  refine zs_aload_n C dX1_fits_77 rfl ?_
  refine zs_aload_n C dX1_fits_78 rfl ?_
  refine zs_iload C dX1_fits_79 ?_
  refine zs_callV C h_X1_ask g_X1_ask zy_X1_ask zp_15 (show vwCl[1]? = some (RX1, TX1, 8) from rfl) zw_899 zw_901 zs9_X1_ask dX1_fits_81 ?_
  exact zs_icmp_ge C dX1_fits_84 (by decide) (kX1_fits_89 C h_X1_ask g_X1_ask j41 hq) (kX1_fits_87 C h_X1_ask g_X1_ask j41 hq)
def xX1_fits_41 (s_X1_ask : zq_Sp) (J41 : zq_P) (Q : zq_Q) (ls : zq_L) (st : List Value) (h : zq_H) : Prop := (zi_iload 5 (zi_aload 0 (zi_getI 15 7 (zi_if2 (fun x y => y ≤ x) (xX1_fits_95 s_X1_ask J41 Q) (xX1_fits_50 s_X1_ask J41 Q))))) ls st h
theorem kX1_fits_41 {X : zq_X} {d : Nat} (C : zq_C X cX1_fits 7 RX1 d) {d_X1_ask : Nat} {s_X1_ask : zq_Sp} (h_X1_ask : zq_M yX1_ask cX1_ask 5 (some .int) 1 d_X1_ask s_X1_ask) (g_X1_ask : d_X1_ask + 1 ≤ d) {J41 : zq_P} (j41 : zq_ok X 7 41 J41) {Q : zq_Q} (hq : zq_R X (some .boolean) 1 Q) : zq_ok X 7 41 (xX1_fits_41 s_X1_ask J41 Q) := by
  refine zs_iload C dX1_fits_41 ?_
  refine zs_aload_n C dX1_fits_43 rfl ?_
  refine zs_getI C zp_15 zF1 (j := 7) ⟨by decide, rfl⟩ zw_152 dX1_fits_44 ?_
  exact zs_icmp_ge C dX1_fits_47 (by decide) (kX1_fits_95 C h_X1_ask g_X1_ask j41 hq) (kX1_fits_50 C h_X1_ask g_X1_ask j41 hq)
def xX1_fits_0 (s_X1_ask : zq_Sp) (J41 : zq_P) (Q : zq_Q) (ls : zq_L) (st : List Value) (h : zq_H) : Prop := (zi_aload 0 (zi_getR 15 18 (zi_push (.int 0) (zi_iload 1 (zi_push (.int 100) (zi_idv (fun x y => x / y) (zi_astI 18 3 (zi_aload 0 (zi_getR 15 18 (zi_push (.int 1) (zi_iload 1 (zi_push (.int 10) (zi_idv (fun x y => x / y) (zi_push (.int 10) (zi_idv zf_rem (zi_astI 18 3 (zi_aload 0 (zi_getR 15 18 (zi_push (.int 2) (zi_iload 1 (zi_push (.int 10) (zi_idv zf_rem (zi_astI 18 3 (zi_aload 0 (zi_push (.int 0) (zi_putI 15 6 (zi_push (.int 0) (zi_istore 5 (J41))))))))))))))))))))))))))))) ls st h
theorem kX1_fits_0 {X : zq_X} {d : Nat} (C : zq_C X cX1_fits 7 RX1 d) {d_X1_ask : Nat} {s_X1_ask : zq_Sp} (h_X1_ask : zq_M yX1_ask cX1_ask 5 (some .int) 1 d_X1_ask s_X1_ask) (g_X1_ask : d_X1_ask + 1 ≤ d) {J41 : zq_P} (j41 : zq_ok X 7 41 J41) {Q : zq_Q} (hq : zq_R X (some .boolean) 1 Q) : zq_ok X 7 0 (xX1_fits_0 s_X1_ask J41 Q) := by
  refine zs_aload_n C dX1_fits_0 rfl ?_
  refine zs_getR C zp_15 zF1 (j := 2) ⟨by decide, rfl⟩ zw_146 dX1_fits_1 ?_
  refine zs_iconst C dX1_fits_4 (by decide) ?_
  refine zs_iload_n C dX1_fits_5 rfl ?_
  refine zs_bipush C dX1_fits_6 (by decide) ?_
  refine zs_idiv C dX1_fits_8 ?_
  refine zs_iastore C zp_18 dX1_fits_9 ?_
  refine zs_aload_n C dX1_fits_10 rfl ?_
  refine zs_getR C zp_15 zF1 (j := 2) ⟨by decide, rfl⟩ zw_146 dX1_fits_11 ?_
  refine zs_iconst C dX1_fits_14 (by decide) ?_
  refine zs_iload_n C dX1_fits_15 rfl ?_
  refine zs_bipush C dX1_fits_16 (by decide) ?_
  refine zs_idiv C dX1_fits_18 ?_
  refine zs_bipush C dX1_fits_19 (by decide) ?_
  refine zs_irem C dX1_fits_21 ?_
  refine zs_iastore C zp_18 dX1_fits_22 ?_
  refine zs_aload_n C dX1_fits_23 rfl ?_
  refine zs_getR C zp_15 zF1 (j := 2) ⟨by decide, rfl⟩ zw_146 dX1_fits_24 ?_
  refine zs_iconst C dX1_fits_27 (by decide) ?_
  refine zs_iload_n C dX1_fits_28 rfl ?_
  refine zs_bipush C dX1_fits_29 (by decide) ?_
  refine zs_irem C dX1_fits_31 ?_
  refine zs_iastore C zp_18 dX1_fits_32 ?_
  refine zs_aload_n C dX1_fits_33 rfl ?_
  refine zs_iconst C dX1_fits_34 (by decide) ?_
  refine zs_putI C zp_15 zF1 (j := 6) ⟨by decide, rfl⟩ ⟨rfl, by decide +kernel⟩ zw_151 dX1_fits_35 ?_
  refine zs_iconst C dX1_fits_38 (by decide) ?_
  refine zs_istore C dX1_fits_39 (by decide) ?_
  exact j41
theorem mX1_fits {d : Nat} {spec : zq_Sp} {σ41 : Type} {d_X1_ask : Nat} {s_X1_ask : zq_Sp} (h_X1_ask : zq_M yX1_ask cX1_ask 5 (some .int) 1 d_X1_ask s_X1_ask) (g_X1_ask : d_X1_ask + 1 ≤ d) (μ41 : σ41 → Nat) (I41 : zq_Q → σ41 → zq_P) (v : ∀ args h Q, spec args h Q → (zq_a args).length ≤ 7 ∧ xX1_fits_0 s_X1_ask (fun ls st h => ∃ b, I41 Q b ls st h) Q (zq_l0 7 args) [] h) (v41 : ∀ Q a ls st h, I41 Q a ls st h → xX1_fits_41 s_X1_ask (fun ls st h => ∃ b, μ41 b < μ41 a ∧ I41 Q b ls st h) Q ls st h) : zq_M yX1_fits cX1_fits 7 (some .boolean) 1 d spec := by
  refine zq_met (by decide +kernel) (by decide) (fun X Q args h C hq hs => ⟨(v args h Q hs).1, _, ?_, (v args h Q hs).2⟩)
  have hl := zq_loop1 (X := X) (nL := 7) (pc1 := 41) μ41 (I41 Q) (fun J41 => xX1_fits_41 s_X1_ask J41 Q) (fun j41 => kX1_fits_41 C h_X1_ask g_X1_ask j41 hq) (v41 Q)
  exact kX1_fits_0 C h_X1_ask g_X1_ask hl hq
/-! ToOneCrumb$Choices.ask(ILToOneCrumb$Rule;LToOneCrumb$Loaf;I)I -/
theorem dX1_ask_0 : decode cX1_ask 0 = .ok (.aload_n 0, 1) := by decide +kernel
theorem dX1_ask_1 : decode cX1_ask 1 = .ok (.getfield 69, 3) := by decide +kernel
theorem dX1_ask_4 : decode cX1_ask 4 = .ok (.iload_n 1, 1) := by decide +kernel
theorem dX1_ask_5 : decode cX1_ask 5 = .ok (.ishr, 1) := by decide +kernel
theorem dX1_ask_6 : decode cX1_ask 6 = .ok (.iconst 1, 1) := by decide +kernel
theorem dX1_ask_7 : decode cX1_ask 7 = .ok (.iand, 1) := by decide +kernel
theorem dX1_ask_8 : decode cX1_ask 8 = .ok (.ifCond .ne 34, 3) := by decide +kernel
theorem dX1_ask_11 : decode cX1_ask 11 = .ok (.aload_n 0, 1) := by decide +kernel
theorem dX1_ask_12 : decode cX1_ask 12 = .ok (.getfield 24, 3) := by decide +kernel
theorem dX1_ask_15 : decode cX1_ask 15 = .ok (.iload_n 1, 1) := by decide +kernel
theorem dX1_ask_16 : decode cX1_ask 16 = .ok (.aload_n 2, 1) := by decide +kernel
theorem dX1_ask_17 : decode cX1_ask 17 = .ok (.aload_n 3, 1) := by decide +kernel
theorem dX1_ask_18 : decode cX1_ask 18 = .ok (.iload_n 1, 1) := by decide +kernel
theorem dX1_ask_19 : decode cX1_ask 19 = .ok (.iload 4, 2) := by decide +kernel
theorem dX1_ask_21 : decode cX1_ask 21 = .ok (.aload_n 0, 1) := by decide +kernel
theorem dX1_ask_22 : decode cX1_ask 22 = .ok (.getfield 18, 3) := by decide +kernel
theorem dX1_ask_25 : decode cX1_ask 25 = .ok (.iconst 0, 1) := by decide +kernel
theorem dX1_ask_26 : decode cX1_ask 26 = .ok (.invokevirtual 72, 3) := by decide +kernel
theorem dX1_ask_29 : decode cX1_ask 29 = .ok (.iastore, 1) := by decide +kernel
theorem dX1_ask_30 : decode cX1_ask 30 = .ok (.aload_n 0, 1) := by decide +kernel
theorem dX1_ask_31 : decode cX1_ask 31 = .ok (.dup, 1) := by decide +kernel
theorem dX1_ask_32 : decode cX1_ask 32 = .ok (.getfield 69, 3) := by decide +kernel
theorem dX1_ask_35 : decode cX1_ask 35 = .ok (.iconst 1, 1) := by decide +kernel
theorem dX1_ask_36 : decode cX1_ask 36 = .ok (.iload_n 1, 1) := by decide +kernel
theorem dX1_ask_37 : decode cX1_ask 37 = .ok (.ishl, 1) := by decide +kernel
theorem dX1_ask_38 : decode cX1_ask 38 = .ok (.ior, 1) := by decide +kernel
theorem dX1_ask_39 : decode cX1_ask 39 = .ok (.putfield 69, 3) := by decide +kernel
theorem dX1_ask_42 : decode cX1_ask 42 = .ok (.aload_n 0, 1) := by decide +kernel
theorem dX1_ask_43 : decode cX1_ask 43 = .ok (.getfield 24, 3) := by decide +kernel
theorem dX1_ask_46 : decode cX1_ask 46 = .ok (.iload_n 1, 1) := by decide +kernel
theorem dX1_ask_47 : decode cX1_ask 47 = .ok (.iaload, 1) := by decide +kernel
theorem dX1_ask_48 : decode cX1_ask 48 = .ok (.ireturn, 1) := by decide +kernel
def xX1_ask_42 (s_X6_worthOf : zq_Sp) (Q : zq_Q) (ls : zq_L) (st : List Value) (h : zq_H) : Prop := (zi_aload 0 (zi_getR 15 20 (zi_iload 1 (zi_aldI 20 16 (zi_iret Q))))) ls st h
theorem kX1_ask_42 {X : zq_X} {d : Nat} (C : zq_C X cX1_ask 5 RX1 d) {d_X6_worthOf : Nat} {s_X6_worthOf : zq_Sp} (h_X6_worthOf : zq_M yX6_worthOf cX6_worthOf 7 (some .int) 1 d_X6_worthOf s_X6_worthOf) (g_X6_worthOf : d_X6_worthOf + 1 ≤ d) {Q : zq_Q} (hq : zq_R X (some .int) 1 Q) : zq_ok X 5 42 (xX1_ask_42 s_X6_worthOf Q) := by
  refine zs_aload_n C dX1_ask_42 rfl ?_
  refine zs_getR C zp_15 zF1 (j := 4) ⟨by decide, rfl⟩ zw_149 dX1_ask_43 ?_
  refine zs_iload_n C dX1_ask_46 rfl ?_
  refine zs_iaload C zp_20 dX1_ask_47 ?_
  exact zs_iret C hq dX1_ask_48
def xX1_ask_11 (s_X6_worthOf : zq_Sp) (Q : zq_Q) (ls : zq_L) (st : List Value) (h : zq_H) : Prop := (zi_aload 0 (zi_getR 15 20 (zi_iload 1 (zi_aload 2 (zi_aload 3 (zi_iload 1 (zi_iload 4 (zi_aload 0 (zi_getR 15 18 (zi_push (.int 0) (zi_callV 5 48 s_X6_worthOf (zi_astI 20 16 (zi_aload 0 (zi_dup (zi_getI 15 6 (zi_push (.int 1) (zi_iload 1 (zi_i2 zf_shl (zi_i2 (fun x y => x ||| y) (zi_putI 15 6 ((xX1_ask_42 s_X6_worthOf Q)))))))))))))))))))))) ls st h
theorem kX1_ask_11 {X : zq_X} {d : Nat} (C : zq_C X cX1_ask 5 RX1 d) {d_X6_worthOf : Nat} {s_X6_worthOf : zq_Sp} (h_X6_worthOf : zq_M yX6_worthOf cX6_worthOf 7 (some .int) 1 d_X6_worthOf s_X6_worthOf) (g_X6_worthOf : d_X6_worthOf + 1 ≤ d) {Q : zq_Q} (hq : zq_R X (some .int) 1 Q) : zq_ok X 5 11 (xX1_ask_11 s_X6_worthOf Q) := by
  refine zs_aload_n C dX1_ask_11 rfl ?_
  refine zs_getR C zp_15 zF1 (j := 4) ⟨by decide, rfl⟩ zw_149 dX1_ask_12 ?_
  refine zs_iload_n C dX1_ask_15 rfl ?_
  refine zs_aload_n C dX1_ask_16 rfl ?_
  refine zs_aload_n C dX1_ask_17 rfl ?_
  refine zs_iload_n C dX1_ask_18 rfl ?_
  refine zs_iload C dX1_ask_19 ?_
  refine zs_aload_n C dX1_ask_21 rfl ?_
  refine zs_getR C zp_15 zF1 (j := 2) ⟨by decide, rfl⟩ zw_146 dX1_ask_22 ?_
  refine zs_iconst C dX1_ask_25 (by decide) ?_
  refine zs_callV C h_X6_worthOf g_X6_worthOf zy_X6_worthOf zp_48 (show vwCl[6]? = some (RX6, TX6, 8) from rfl) zw_903 zw_436 zs9_X6_worthOf dX1_ask_26 ?_
  refine zs_iastore C zp_20 dX1_ask_29 ?_
  refine zs_aload_n C dX1_ask_30 rfl ?_
  refine zs_dup C dX1_ask_31 ?_
  refine zs_getI C zp_15 zF1 (j := 6) ⟨by decide, rfl⟩ zw_151 dX1_ask_32 ?_
  refine zs_iconst C dX1_ask_35 (by decide) ?_
  refine zs_iload_n C dX1_ask_36 rfl ?_
  refine zs_ishl C dX1_ask_37 ?_
  refine zs_ior C dX1_ask_38 ?_
  refine zs_putI C zp_15 zF1 (j := 6) ⟨by decide, rfl⟩ ⟨rfl, by decide +kernel⟩ zw_151 dX1_ask_39 ?_
  exact kX1_ask_42 C h_X6_worthOf g_X6_worthOf hq
def xX1_ask_0 (s_X6_worthOf : zq_Sp) (Q : zq_Q) (ls : zq_L) (st : List Value) (h : zq_H) : Prop := (zi_aload 0 (zi_getI 15 6 (zi_iload 1 (zi_i2 zf_shr (zi_push (.int 1) (zi_i2 (fun x y => x &&& y) (zi_if1 (fun x => x = 0) (xX1_ask_11 s_X6_worthOf Q) (xX1_ask_42 s_X6_worthOf Q)))))))) ls st h
theorem kX1_ask_0 {X : zq_X} {d : Nat} (C : zq_C X cX1_ask 5 RX1 d) {d_X6_worthOf : Nat} {s_X6_worthOf : zq_Sp} (h_X6_worthOf : zq_M yX6_worthOf cX6_worthOf 7 (some .int) 1 d_X6_worthOf s_X6_worthOf) (g_X6_worthOf : d_X6_worthOf + 1 ≤ d) {Q : zq_Q} (hq : zq_R X (some .int) 1 Q) : zq_ok X 5 0 (xX1_ask_0 s_X6_worthOf Q) := by
  refine zs_aload_n C dX1_ask_0 rfl ?_
  refine zs_getI C zp_15 zF1 (j := 6) ⟨by decide, rfl⟩ zw_151 dX1_ask_1 ?_
  refine zs_iload_n C dX1_ask_4 rfl ?_
  refine zs_ishr C dX1_ask_5 ?_
  refine zs_iconst C dX1_ask_6 (by decide) ?_
  refine zs_iand C dX1_ask_7 ?_
  exact zs_if_ne C dX1_ask_8 (by decide) (kX1_ask_42 C h_X6_worthOf g_X6_worthOf hq) (kX1_ask_11 C h_X6_worthOf g_X6_worthOf hq)
theorem mX1_ask {d : Nat} {spec : zq_Sp} {d_X6_worthOf : Nat} {s_X6_worthOf : zq_Sp} (h_X6_worthOf : zq_M yX6_worthOf cX6_worthOf 7 (some .int) 1 d_X6_worthOf s_X6_worthOf) (g_X6_worthOf : d_X6_worthOf + 1 ≤ d) (v : ∀ args h Q, spec args h Q → (zq_a args).length ≤ 5 ∧ xX1_ask_0 s_X6_worthOf Q (zq_l0 5 args) [] h) : zq_M yX1_ask cX1_ask 5 (some .int) 1 d spec := by
  refine zq_met (by decide +kernel) (by decide) (fun X Q args h C hq hs => ⟨(v args h Q hs).1, _, ?_, (v args h Q hs).2⟩)
  exact kX1_ask_0 C h_X6_worthOf g_X6_worthOf hq
/-! ToOneCrumb$Placing.start(I)V -/
theorem dX4_start_0 : decode cX4_start 0 = .ok (.aload_n 0, 1) := by decide +kernel
theorem dX4_start_1 : decode cX4_start 1 = .ok (.iconst 0, 1) := by decide +kernel
theorem dX4_start_2 : decode cX4_start 2 = .ok (.putfield 31, 3) := by decide +kernel
theorem dX4_start_5 : decode cX4_start 5 = .ok (.aload_n 0, 1) := by decide +kernel
theorem dX4_start_6 : decode cX4_start 6 = .ok (.iload_n 1, 1) := by decide +kernel
theorem dX4_start_7 : decode cX4_start 7 = .ok (.putfield 35, 3) := by decide +kernel
theorem dX4_start_10 : decode cX4_start 10 = .ok (.return_, 1) := by decide +kernel
def xX4_start_0 (Q : zq_Q) (ls : zq_L) (st : List Value) (h : zq_H) : Prop := (zi_aload 0 (zi_push (.int 0) (zi_putI 22 6 (zi_aload 0 (zi_iload 1 (zi_putI 22 7 (zi_vret Q))))))) ls st h
theorem kX4_start_0 {X : zq_X} {d : Nat} (C : zq_C X cX4_start 2 RX4 d) {Q : zq_Q} (hq : zq_R X none 0 Q) : zq_ok X 2 0 (xX4_start_0 Q) := by
  refine zs_aload_n C dX4_start_0 rfl ?_
  refine zs_iconst C dX4_start_1 (by decide) ?_
  refine zs_putI C zp_22 zF4 (j := 6) ⟨by decide, rfl⟩ ⟨rfl, by decide +kernel⟩ zw_184 dX4_start_2 ?_
  refine zs_aload_n C dX4_start_5 rfl ?_
  refine zs_iload_n C dX4_start_6 rfl ?_
  refine zs_putI C zp_22 zF4 (j := 7) ⟨by decide, rfl⟩ ⟨rfl, by decide +kernel⟩ zw_186 dX4_start_7 ?_
  exact zs_vret C hq dX4_start_10
theorem mX4_start {d : Nat} {spec : zq_Sp} (v : ∀ args h Q, spec args h Q → (zq_a args).length ≤ 2 ∧ xX4_start_0 Q (zq_l0 2 args) [] h) : zq_M yX4_start cX4_start 2 none 0 d spec := by
  refine zq_met (by decide +kernel) (by decide) (fun X Q args h C hq hs => ⟨(v args h Q hs).1, _, ?_, (v args h Q hs).2⟩)
  exact kX4_start_0 C hq
/-! ToOneCrumb$Placing.addMember(IJJ)V -/
theorem dX4_addMember_0 : decode cX4_addMember 0 = .ok (.aload_n 0, 1) := by decide +kernel
theorem dX4_addMember_1 : decode cX4_addMember 1 = .ok (.getfield 31, 3) := by decide +kernel
theorem dX4_addMember_4 : decode cX4_addMember 4 = .ok (.bipush 6, 2) := by decide +kernel
theorem dX4_addMember_6 : decode cX4_addMember 6 = .ok (.if_icmp .ge 44, 3) := by decide +kernel
theorem dX4_addMember_9 : decode cX4_addMember 9 = .ok (.aload_n 0, 1) := by decide +kernel
theorem dX4_addMember_10 : decode cX4_addMember 10 = .ok (.getfield 11, 3) := by decide +kernel
theorem dX4_addMember_13 : decode cX4_addMember 13 = .ok (.aload_n 0, 1) := by decide +kernel
theorem dX4_addMember_14 : decode cX4_addMember 14 = .ok (.getfield 31, 3) := by decide +kernel
theorem dX4_addMember_17 : decode cX4_addMember 17 = .ok (.iload_n 1, 1) := by decide +kernel
theorem dX4_addMember_18 : decode cX4_addMember 18 = .ok (.iastore, 1) := by decide +kernel
theorem dX4_addMember_19 : decode cX4_addMember 19 = .ok (.aload_n 0, 1) := by decide +kernel
theorem dX4_addMember_20 : decode cX4_addMember 20 = .ok (.getfield 15, 3) := by decide +kernel
theorem dX4_addMember_23 : decode cX4_addMember 23 = .ok (.aload_n 0, 1) := by decide +kernel
theorem dX4_addMember_24 : decode cX4_addMember 24 = .ok (.getfield 31, 3) := by decide +kernel
theorem dX4_addMember_27 : decode cX4_addMember 27 = .ok (.lload_n 2, 1) := by decide +kernel
theorem dX4_addMember_28 : decode cX4_addMember 28 = .ok (.lastore, 1) := by decide +kernel
theorem dX4_addMember_29 : decode cX4_addMember 29 = .ok (.aload_n 0, 1) := by decide +kernel
theorem dX4_addMember_30 : decode cX4_addMember 30 = .ok (.getfield 19, 3) := by decide +kernel
theorem dX4_addMember_33 : decode cX4_addMember 33 = .ok (.aload_n 0, 1) := by decide +kernel
theorem dX4_addMember_34 : decode cX4_addMember 34 = .ok (.getfield 31, 3) := by decide +kernel
theorem dX4_addMember_37 : decode cX4_addMember 37 = .ok (.lload 4, 2) := by decide +kernel
theorem dX4_addMember_39 : decode cX4_addMember 39 = .ok (.lastore, 1) := by decide +kernel
theorem dX4_addMember_40 : decode cX4_addMember 40 = .ok (.aload_n 0, 1) := by decide +kernel
theorem dX4_addMember_41 : decode cX4_addMember 41 = .ok (.dup, 1) := by decide +kernel
theorem dX4_addMember_42 : decode cX4_addMember 42 = .ok (.getfield 31, 3) := by decide +kernel
theorem dX4_addMember_45 : decode cX4_addMember 45 = .ok (.iconst 1, 1) := by decide +kernel
theorem dX4_addMember_46 : decode cX4_addMember 46 = .ok (.iadd, 1) := by decide +kernel
theorem dX4_addMember_47 : decode cX4_addMember 47 = .ok (.putfield 31, 3) := by decide +kernel
theorem dX4_addMember_50 : decode cX4_addMember 50 = .ok (.return_, 1) := by decide +kernel
def xX4_addMember_50 (Q : zq_Q) (ls : zq_L) (st : List Value) (h : zq_H) : Prop := (zi_vret Q) ls st h
theorem kX4_addMember_50 {X : zq_X} {d : Nat} (C : zq_C X cX4_addMember 6 RX4 d) {Q : zq_Q} (hq : zq_R X none 0 Q) : zq_ok X 6 50 (xX4_addMember_50 Q) := by
  exact zs_vret C hq dX4_addMember_50
def xX4_addMember_9 (Q : zq_Q) (ls : zq_L) (st : List Value) (h : zq_H) : Prop := (zi_aload 0 (zi_getR 22 23 (zi_aload 0 (zi_getI 22 6 (zi_iload 1 (zi_astI 23 6 (zi_aload 0 (zi_getR 22 24 (zi_aload 0 (zi_getI 22 6 (zi_lload 2 (zi_astL 24 6 (zi_aload 0 (zi_getR 22 25 (zi_aload 0 (zi_getI 22 6 (zi_lload 4 (zi_astL 25 6 (zi_aload 0 (zi_dup (zi_getI 22 6 (zi_push (.int 1) (zi_i2 (fun x y => x + y) (zi_putI 22 6 ((xX4_addMember_50 Q)))))))))))))))))))))))))) ls st h
theorem kX4_addMember_9 {X : zq_X} {d : Nat} (C : zq_C X cX4_addMember 6 RX4 d) {Q : zq_Q} (hq : zq_R X none 0 Q) : zq_ok X 6 9 (xX4_addMember_9 Q) := by
  refine zs_aload_n C dX4_addMember_9 rfl ?_
  refine zs_getR C zp_22 zF4 (j := 0) ⟨by decide, rfl⟩ zw_177 dX4_addMember_10 ?_
  refine zs_aload_n C dX4_addMember_13 rfl ?_
  refine zs_getI C zp_22 zF4 (j := 6) ⟨by decide, rfl⟩ zw_184 dX4_addMember_14 ?_
  refine zs_iload_n C dX4_addMember_17 rfl ?_
  refine zs_iastore C zp_23 dX4_addMember_18 ?_
  refine zs_aload_n C dX4_addMember_19 rfl ?_
  refine zs_getR C zp_22 zF4 (j := 1) ⟨by decide, rfl⟩ zw_178 dX4_addMember_20 ?_
  refine zs_aload_n C dX4_addMember_23 rfl ?_
  refine zs_getI C zp_22 zF4 (j := 6) ⟨by decide, rfl⟩ zw_184 dX4_addMember_24 ?_
  refine zs_lload_n C dX4_addMember_27 rfl ?_
  refine zs_lastore C zp_24 dX4_addMember_28 ?_
  refine zs_aload_n C dX4_addMember_29 rfl ?_
  refine zs_getR C zp_22 zF4 (j := 2) ⟨by decide, rfl⟩ zw_179 dX4_addMember_30 ?_
  refine zs_aload_n C dX4_addMember_33 rfl ?_
  refine zs_getI C zp_22 zF4 (j := 6) ⟨by decide, rfl⟩ zw_184 dX4_addMember_34 ?_
  refine zs_lload C dX4_addMember_37 ?_
  refine zs_lastore C zp_25 dX4_addMember_39 ?_
  refine zs_aload_n C dX4_addMember_40 rfl ?_
  refine zs_dup C dX4_addMember_41 ?_
  refine zs_getI C zp_22 zF4 (j := 6) ⟨by decide, rfl⟩ zw_184 dX4_addMember_42 ?_
  refine zs_iconst C dX4_addMember_45 (by decide) ?_
  refine zs_iadd C dX4_addMember_46 ?_
  refine zs_putI C zp_22 zF4 (j := 6) ⟨by decide, rfl⟩ ⟨rfl, by decide +kernel⟩ zw_184 dX4_addMember_47 ?_
  exact kX4_addMember_50 C hq
def xX4_addMember_0 (Q : zq_Q) (ls : zq_L) (st : List Value) (h : zq_H) : Prop := (zi_aload 0 (zi_getI 22 6 (zi_push (.int 6) (zi_if2 (fun x y => y ≤ x) (xX4_addMember_50 Q) (xX4_addMember_9 Q))))) ls st h
theorem kX4_addMember_0 {X : zq_X} {d : Nat} (C : zq_C X cX4_addMember 6 RX4 d) {Q : zq_Q} (hq : zq_R X none 0 Q) : zq_ok X 6 0 (xX4_addMember_0 Q) := by
  refine zs_aload_n C dX4_addMember_0 rfl ?_
  refine zs_getI C zp_22 zF4 (j := 6) ⟨by decide, rfl⟩ zw_184 dX4_addMember_1 ?_
  refine zs_bipush C dX4_addMember_4 (by decide) ?_
  exact zs_icmp_ge C dX4_addMember_6 (by decide) (kX4_addMember_50 C hq) (kX4_addMember_9 C hq)
theorem mX4_addMember {d : Nat} {spec : zq_Sp} (v : ∀ args h Q, spec args h Q → (zq_a args).length ≤ 6 ∧ xX4_addMember_0 Q (zq_l0 6 args) [] h) : zq_M yX4_addMember cX4_addMember 6 none 0 d spec := by
  refine zq_met (by decide +kernel) (by decide) (fun X Q args h C hq hs => ⟨(v args h Q hs).1, _, ?_, (v args h Q hs).2⟩)
  exact kX4_addMember_0 C hq
/-! ToOneCrumb$Placing.readClaims(LToOneCrumb$Text;I)Z -/
theorem dX4_readClaims_0 : decode cX4_readClaims 0 = .ok (.aload_n 1, 1) := by decide +kernel
theorem dX4_readClaims_1 : decode cX4_readClaims 1 = .ok (.bipush 80, 2) := by decide +kernel
theorem dX4_readClaims_3 : decode cX4_readClaims 3 = .ok (.invokevirtual 38, 3) := by decide +kernel
theorem dX4_readClaims_6 : decode cX4_readClaims 6 = .ok (.iconst 0, 1) := by decide +kernel
theorem dX4_readClaims_7 : decode cX4_readClaims 7 = .ok (.istore_n 3, 1) := by decide +kernel
theorem dX4_readClaims_8 : decode cX4_readClaims 8 = .ok (.iload_n 3, 1) := by decide +kernel
theorem dX4_readClaims_9 : decode cX4_readClaims 9 = .ok (.bipush 6, 2) := by decide +kernel
theorem dX4_readClaims_11 : decode cX4_readClaims 11 = .ok (.if_icmp .ge 63, 3) := by decide +kernel
theorem dX4_readClaims_14 : decode cX4_readClaims 14 = .ok (.aload_n 1, 1) := by decide +kernel
theorem dX4_readClaims_15 : decode cX4_readClaims 15 = .ok (.iload_n 2, 1) := by decide +kernel
theorem dX4_readClaims_16 : decode cX4_readClaims 16 = .ok (.invokevirtual 44, 3) := by decide +kernel
theorem dX4_readClaims_19 : decode cX4_readClaims 19 = .ok (.istore 4, 2) := by decide +kernel
theorem dX4_readClaims_21 : decode cX4_readClaims 21 = .ok (.iload 4, 2) := by decide +kernel
theorem dX4_readClaims_23 : decode cX4_readClaims 23 = .ok (.ifCond .ge 7, 3) := by decide +kernel
theorem dX4_readClaims_26 : decode cX4_readClaims 26 = .ok (.iconst (-1), 1) := by decide +kernel
theorem dX4_readClaims_27 : decode cX4_readClaims 27 = .ok (.goto 8, 3) := by decide +kernel
theorem dX4_readClaims_30 : decode cX4_readClaims 30 = .ok (.aload_n 1, 1) := by decide +kernel
theorem dX4_readClaims_31 : decode cX4_readClaims 31 = .ok (.iconst 3, 1) := by decide +kernel
theorem dX4_readClaims_32 : decode cX4_readClaims 32 = .ok (.invokevirtual 48, 3) := by decide +kernel
theorem dX4_readClaims_35 : decode cX4_readClaims 35 = .ok (.istore 5, 2) := by decide +kernel
theorem dX4_readClaims_37 : decode cX4_readClaims 37 = .ok (.iload 5, 2) := by decide +kernel
theorem dX4_readClaims_39 : decode cX4_readClaims 39 = .ok (.ifCond .ge 5, 3) := by decide +kernel
theorem dX4_readClaims_42 : decode cX4_readClaims 42 = .ok (.iconst 0, 1) := by decide +kernel
theorem dX4_readClaims_43 : decode cX4_readClaims 43 = .ok (.ireturn, 1) := by decide +kernel
theorem dX4_readClaims_44 : decode cX4_readClaims 44 = .ok (.aload_n 0, 1) := by decide +kernel
theorem dX4_readClaims_45 : decode cX4_readClaims 45 = .ok (.iload 4, 2) := by decide +kernel
theorem dX4_readClaims_47 : decode cX4_readClaims 47 = .ok (.lconst 1, 1) := by decide +kernel
theorem dX4_readClaims_48 : decode cX4_readClaims 48 = .ok (.iload 5, 2) := by decide +kernel
theorem dX4_readClaims_50 : decode cX4_readClaims 50 = .ok (.i2l, 1) := by decide +kernel
theorem dX4_readClaims_51 : decode cX4_readClaims 51 = .ok (.invokevirtual 51, 3) := by decide +kernel
theorem dX4_readClaims_54 : decode cX4_readClaims 54 = .ok (.aload_n 1, 1) := by decide +kernel
theorem dX4_readClaims_55 : decode cX4_readClaims 55 = .ok (.bipush 44, 2) := by decide +kernel
theorem dX4_readClaims_57 : decode cX4_readClaims 57 = .ok (.invokevirtual 55, 3) := by decide +kernel
theorem dX4_readClaims_60 : decode cX4_readClaims 60 = .ok (.ifCond .ne 8, 3) := by decide +kernel
theorem dX4_readClaims_63 : decode cX4_readClaims 63 = .ok (.aload_n 1, 1) := by decide +kernel
theorem dX4_readClaims_64 : decode cX4_readClaims 64 = .ok (.invokevirtual 59, 3) := by decide +kernel
theorem dX4_readClaims_67 : decode cX4_readClaims 67 = .ok (.ireturn, 1) := by decide +kernel
theorem dX4_readClaims_68 : decode cX4_readClaims 68 = .ok (.iinc 3 1, 3) := by decide +kernel
theorem dX4_readClaims_71 : decode cX4_readClaims 71 = .ok (.goto (-63), 3) := by decide +kernel
theorem dX4_readClaims_74 : decode cX4_readClaims 74 = .ok (.iconst 0, 1) := by decide +kernel
theorem dX4_readClaims_75 : decode cX4_readClaims 75 = .ok (.ireturn, 1) := by decide +kernel
def xX4_readClaims_74 (s_X8_start : zq_Sp) (s_X8_takeLetter : zq_Sp) (s_X4_addMember : zq_Sp) (s_X8_skip : zq_Sp) (s_X8_isFinished : zq_Sp) (s_X8_takeNumber : zq_Sp) (J8 : zq_P) (Q : zq_Q) (ls : zq_L) (st : List Value) (h : zq_H) : Prop := (zi_push (.int 0) (zi_zret Q)) ls st h
theorem kX4_readClaims_74 {X : zq_X} {d : Nat} (C : zq_C X cX4_readClaims 6 RX4 d) {d_X8_start : Nat} {s_X8_start : zq_Sp} (h_X8_start : zq_M yX8_start cX8_start 2 none 0 d_X8_start s_X8_start) (g_X8_start : d_X8_start + 1 ≤ d) {d_X8_takeLetter : Nat} {s_X8_takeLetter : zq_Sp} (h_X8_takeLetter : zq_M yX8_takeLetter cX8_takeLetter 3 (some .int) 1 d_X8_takeLetter s_X8_takeLetter) (g_X8_takeLetter : d_X8_takeLetter + 1 ≤ d) {d_X4_addMember : Nat} {s_X4_addMember : zq_Sp} (h_X4_addMember : zq_M yX4_addMember cX4_addMember 6 none 0 d_X4_addMember s_X4_addMember) (g_X4_addMember : d_X4_addMember + 1 ≤ d) {d_X8_skip : Nat} {s_X8_skip : zq_Sp} (h_X8_skip : zq_M yX8_skip cX8_skip 2 (some .boolean) 1 d_X8_skip s_X8_skip) (g_X8_skip : d_X8_skip + 1 ≤ d) {d_X8_isFinished : Nat} {s_X8_isFinished : zq_Sp} (h_X8_isFinished : zq_M yX8_isFinished cX8_isFinished 1 (some .boolean) 1 d_X8_isFinished s_X8_isFinished) (g_X8_isFinished : d_X8_isFinished + 1 ≤ d) {d_X8_takeNumber : Nat} {s_X8_takeNumber : zq_Sp} (h_X8_takeNumber : zq_M yX8_takeNumber cX8_takeNumber 5 (some .int) 1 d_X8_takeNumber s_X8_takeNumber) (g_X8_takeNumber : d_X8_takeNumber + 1 ≤ d) {J8 : zq_P} (j8 : zq_ok X 6 8 J8) {Q : zq_Q} (hq : zq_R X (some .boolean) 1 Q) : zq_ok X 6 74 (xX4_readClaims_74 s_X8_start s_X8_takeLetter s_X4_addMember s_X8_skip s_X8_isFinished s_X8_takeNumber J8 Q) := by
  refine zs_iconst C dX4_readClaims_74 (by decide) ?_
  exact zs_zret C hq dX4_readClaims_75
def xX4_readClaims_68 (s_X8_start : zq_Sp) (s_X8_takeLetter : zq_Sp) (s_X4_addMember : zq_Sp) (s_X8_skip : zq_Sp) (s_X8_isFinished : zq_Sp) (s_X8_takeNumber : zq_Sp) (J8 : zq_P) (Q : zq_Q) (ls : zq_L) (st : List Value) (h : zq_H) : Prop := (zi_iinc 3 1 (J8)) ls st h
theorem kX4_readClaims_68 {X : zq_X} {d : Nat} (C : zq_C X cX4_readClaims 6 RX4 d) {d_X8_start : Nat} {s_X8_start : zq_Sp} (h_X8_start : zq_M yX8_start cX8_start 2 none 0 d_X8_start s_X8_start) (g_X8_start : d_X8_start + 1 ≤ d) {d_X8_takeLetter : Nat} {s_X8_takeLetter : zq_Sp} (h_X8_takeLetter : zq_M yX8_takeLetter cX8_takeLetter 3 (some .int) 1 d_X8_takeLetter s_X8_takeLetter) (g_X8_takeLetter : d_X8_takeLetter + 1 ≤ d) {d_X4_addMember : Nat} {s_X4_addMember : zq_Sp} (h_X4_addMember : zq_M yX4_addMember cX4_addMember 6 none 0 d_X4_addMember s_X4_addMember) (g_X4_addMember : d_X4_addMember + 1 ≤ d) {d_X8_skip : Nat} {s_X8_skip : zq_Sp} (h_X8_skip : zq_M yX8_skip cX8_skip 2 (some .boolean) 1 d_X8_skip s_X8_skip) (g_X8_skip : d_X8_skip + 1 ≤ d) {d_X8_isFinished : Nat} {s_X8_isFinished : zq_Sp} (h_X8_isFinished : zq_M yX8_isFinished cX8_isFinished 1 (some .boolean) 1 d_X8_isFinished s_X8_isFinished) (g_X8_isFinished : d_X8_isFinished + 1 ≤ d) {d_X8_takeNumber : Nat} {s_X8_takeNumber : zq_Sp} (h_X8_takeNumber : zq_M yX8_takeNumber cX8_takeNumber 5 (some .int) 1 d_X8_takeNumber s_X8_takeNumber) (g_X8_takeNumber : d_X8_takeNumber + 1 ≤ d) {J8 : zq_P} (j8 : zq_ok X 6 8 J8) {Q : zq_Q} (hq : zq_R X (some .boolean) 1 Q) : zq_ok X 6 68 (xX4_readClaims_68 s_X8_start s_X8_takeLetter s_X4_addMember s_X8_skip s_X8_isFinished s_X8_takeNumber J8 Q) := by
  refine zs_iinc C dX4_readClaims_68 (by decide) (by decide) ?_
  exact zs_goto C dX4_readClaims_71 (by decide) (j8)
def xX4_readClaims_63 (s_X8_start : zq_Sp) (s_X8_takeLetter : zq_Sp) (s_X4_addMember : zq_Sp) (s_X8_skip : zq_Sp) (s_X8_isFinished : zq_Sp) (s_X8_takeNumber : zq_Sp) (J8 : zq_P) (Q : zq_Q) (ls : zq_L) (st : List Value) (h : zq_H) : Prop := (zi_aload 1 (zi_callV 0 1 s_X8_isFinished (zi_zret Q))) ls st h
theorem kX4_readClaims_63 {X : zq_X} {d : Nat} (C : zq_C X cX4_readClaims 6 RX4 d) {d_X8_start : Nat} {s_X8_start : zq_Sp} (h_X8_start : zq_M yX8_start cX8_start 2 none 0 d_X8_start s_X8_start) (g_X8_start : d_X8_start + 1 ≤ d) {d_X8_takeLetter : Nat} {s_X8_takeLetter : zq_Sp} (h_X8_takeLetter : zq_M yX8_takeLetter cX8_takeLetter 3 (some .int) 1 d_X8_takeLetter s_X8_takeLetter) (g_X8_takeLetter : d_X8_takeLetter + 1 ≤ d) {d_X4_addMember : Nat} {s_X4_addMember : zq_Sp} (h_X4_addMember : zq_M yX4_addMember cX4_addMember 6 none 0 d_X4_addMember s_X4_addMember) (g_X4_addMember : d_X4_addMember + 1 ≤ d) {d_X8_skip : Nat} {s_X8_skip : zq_Sp} (h_X8_skip : zq_M yX8_skip cX8_skip 2 (some .boolean) 1 d_X8_skip s_X8_skip) (g_X8_skip : d_X8_skip + 1 ≤ d) {d_X8_isFinished : Nat} {s_X8_isFinished : zq_Sp} (h_X8_isFinished : zq_M yX8_isFinished cX8_isFinished 1 (some .boolean) 1 d_X8_isFinished s_X8_isFinished) (g_X8_isFinished : d_X8_isFinished + 1 ≤ d) {d_X8_takeNumber : Nat} {s_X8_takeNumber : zq_Sp} (h_X8_takeNumber : zq_M yX8_takeNumber cX8_takeNumber 5 (some .int) 1 d_X8_takeNumber s_X8_takeNumber) (g_X8_takeNumber : d_X8_takeNumber + 1 ≤ d) {J8 : zq_P} (j8 : zq_ok X 6 8 J8) {Q : zq_Q} (hq : zq_R X (some .boolean) 1 Q) : zq_ok X 6 63 (xX4_readClaims_63 s_X8_start s_X8_takeLetter s_X4_addMember s_X8_skip s_X8_isFinished s_X8_takeNumber J8 Q) := by
  refine zs_aload_n C dX4_readClaims_63 rfl ?_
  refine zs_callV C h_X8_isFinished g_X8_isFinished zy_X8_isFinished zp_1 (show vwCl[8]? = some (RX8, TX8, 4) from rfl) zw_936 zw_396 zs9_X8_isFinished dX4_readClaims_64 ?_
  exact zs_zret C hq dX4_readClaims_67
def xX4_readClaims_44 (s_X8_start : zq_Sp) (s_X8_takeLetter : zq_Sp) (s_X4_addMember : zq_Sp) (s_X8_skip : zq_Sp) (s_X8_isFinished : zq_Sp) (s_X8_takeNumber : zq_Sp) (J8 : zq_P) (Q : zq_Q) (ls : zq_L) (st : List Value) (h : zq_H) : Prop := (zi_aload 0 (zi_iload 4 (zi_push (.long 1) (zi_iload 5 (zi_i2l (zi_callV 3 22 s_X4_addMember (zi_aload 1 (zi_push (.int 44) (zi_callV 1 1 s_X8_skip (zi_if1 (fun x => x = 0) (xX4_readClaims_63 s_X8_start s_X8_takeLetter s_X4_addMember s_X8_skip s_X8_isFinished s_X8_takeNumber J8 Q) (xX4_readClaims_68 s_X8_start s_X8_takeLetter s_X4_addMember s_X8_skip s_X8_isFinished s_X8_takeNumber J8 Q))))))))))) ls st h
theorem kX4_readClaims_44 {X : zq_X} {d : Nat} (C : zq_C X cX4_readClaims 6 RX4 d) {d_X8_start : Nat} {s_X8_start : zq_Sp} (h_X8_start : zq_M yX8_start cX8_start 2 none 0 d_X8_start s_X8_start) (g_X8_start : d_X8_start + 1 ≤ d) {d_X8_takeLetter : Nat} {s_X8_takeLetter : zq_Sp} (h_X8_takeLetter : zq_M yX8_takeLetter cX8_takeLetter 3 (some .int) 1 d_X8_takeLetter s_X8_takeLetter) (g_X8_takeLetter : d_X8_takeLetter + 1 ≤ d) {d_X4_addMember : Nat} {s_X4_addMember : zq_Sp} (h_X4_addMember : zq_M yX4_addMember cX4_addMember 6 none 0 d_X4_addMember s_X4_addMember) (g_X4_addMember : d_X4_addMember + 1 ≤ d) {d_X8_skip : Nat} {s_X8_skip : zq_Sp} (h_X8_skip : zq_M yX8_skip cX8_skip 2 (some .boolean) 1 d_X8_skip s_X8_skip) (g_X8_skip : d_X8_skip + 1 ≤ d) {d_X8_isFinished : Nat} {s_X8_isFinished : zq_Sp} (h_X8_isFinished : zq_M yX8_isFinished cX8_isFinished 1 (some .boolean) 1 d_X8_isFinished s_X8_isFinished) (g_X8_isFinished : d_X8_isFinished + 1 ≤ d) {d_X8_takeNumber : Nat} {s_X8_takeNumber : zq_Sp} (h_X8_takeNumber : zq_M yX8_takeNumber cX8_takeNumber 5 (some .int) 1 d_X8_takeNumber s_X8_takeNumber) (g_X8_takeNumber : d_X8_takeNumber + 1 ≤ d) {J8 : zq_P} (j8 : zq_ok X 6 8 J8) {Q : zq_Q} (hq : zq_R X (some .boolean) 1 Q) : zq_ok X 6 44 (xX4_readClaims_44 s_X8_start s_X8_takeLetter s_X4_addMember s_X8_skip s_X8_isFinished s_X8_takeNumber J8 Q) := by
  refine zs_aload_n C dX4_readClaims_44 rfl ?_
  refine zs_iload C dX4_readClaims_45 ?_
  refine zs_lconst C dX4_readClaims_47 (by decide) ?_
  refine zs_iload C dX4_readClaims_48 ?_
  refine zs_i2l C dX4_readClaims_50 ?_
  refine zs_callV C h_X4_addMember g_X4_addMember zy_X4_addMember zp_22 (show vwCl[4]? = some (RX4, TX4, 8) from rfl) zw_934 zw_744 zs9_X4_addMember dX4_readClaims_51 ?_
  refine zs_aload_n C dX4_readClaims_54 rfl ?_
  refine zs_bipush C dX4_readClaims_55 (by decide) ?_
  refine zs_callV C h_X8_skip g_X8_skip zy_X8_skip zp_1 (show vwCl[8]? = some (RX8, TX8, 4) from rfl) zw_935 zw_412 zs9_X8_skip dX4_readClaims_57 ?_
  exact zs_if_ne C dX4_readClaims_60 (by decide) (kX4_readClaims_68 C h_X8_start g_X8_start h_X8_takeLetter g_X8_takeLetter h_X4_addMember g_X4_addMember h_X8_skip g_X8_skip h_X8_isFinished g_X8_isFinished h_X8_takeNumber g_X8_takeNumber j8 hq) (kX4_readClaims_63 C h_X8_start g_X8_start h_X8_takeLetter g_X8_takeLetter h_X4_addMember g_X4_addMember h_X8_skip g_X8_skip h_X8_isFinished g_X8_isFinished h_X8_takeNumber g_X8_takeNumber j8 hq)
def xX4_readClaims_42 (s_X8_start : zq_Sp) (s_X8_takeLetter : zq_Sp) (s_X4_addMember : zq_Sp) (s_X8_skip : zq_Sp) (s_X8_isFinished : zq_Sp) (s_X8_takeNumber : zq_Sp) (J8 : zq_P) (Q : zq_Q) (ls : zq_L) (st : List Value) (h : zq_H) : Prop := (zi_push (.int 0) (zi_zret Q)) ls st h
theorem kX4_readClaims_42 {X : zq_X} {d : Nat} (C : zq_C X cX4_readClaims 6 RX4 d) {d_X8_start : Nat} {s_X8_start : zq_Sp} (h_X8_start : zq_M yX8_start cX8_start 2 none 0 d_X8_start s_X8_start) (g_X8_start : d_X8_start + 1 ≤ d) {d_X8_takeLetter : Nat} {s_X8_takeLetter : zq_Sp} (h_X8_takeLetter : zq_M yX8_takeLetter cX8_takeLetter 3 (some .int) 1 d_X8_takeLetter s_X8_takeLetter) (g_X8_takeLetter : d_X8_takeLetter + 1 ≤ d) {d_X4_addMember : Nat} {s_X4_addMember : zq_Sp} (h_X4_addMember : zq_M yX4_addMember cX4_addMember 6 none 0 d_X4_addMember s_X4_addMember) (g_X4_addMember : d_X4_addMember + 1 ≤ d) {d_X8_skip : Nat} {s_X8_skip : zq_Sp} (h_X8_skip : zq_M yX8_skip cX8_skip 2 (some .boolean) 1 d_X8_skip s_X8_skip) (g_X8_skip : d_X8_skip + 1 ≤ d) {d_X8_isFinished : Nat} {s_X8_isFinished : zq_Sp} (h_X8_isFinished : zq_M yX8_isFinished cX8_isFinished 1 (some .boolean) 1 d_X8_isFinished s_X8_isFinished) (g_X8_isFinished : d_X8_isFinished + 1 ≤ d) {d_X8_takeNumber : Nat} {s_X8_takeNumber : zq_Sp} (h_X8_takeNumber : zq_M yX8_takeNumber cX8_takeNumber 5 (some .int) 1 d_X8_takeNumber s_X8_takeNumber) (g_X8_takeNumber : d_X8_takeNumber + 1 ≤ d) {J8 : zq_P} (j8 : zq_ok X 6 8 J8) {Q : zq_Q} (hq : zq_R X (some .boolean) 1 Q) : zq_ok X 6 42 (xX4_readClaims_42 s_X8_start s_X8_takeLetter s_X4_addMember s_X8_skip s_X8_isFinished s_X8_takeNumber J8 Q) := by
  refine zs_iconst C dX4_readClaims_42 (by decide) ?_
  exact zs_zret C hq dX4_readClaims_43
def xX4_readClaims_35 (s_X8_start : zq_Sp) (s_X8_takeLetter : zq_Sp) (s_X4_addMember : zq_Sp) (s_X8_skip : zq_Sp) (s_X8_isFinished : zq_Sp) (s_X8_takeNumber : zq_Sp) (J8 : zq_P) (Q : zq_Q) (ls : zq_L) (st : List Value) (h : zq_H) : Prop := (zi_istore 5 (zi_iload 5 (zi_if1 (fun x => 0 ≤ x) (xX4_readClaims_44 s_X8_start s_X8_takeLetter s_X4_addMember s_X8_skip s_X8_isFinished s_X8_takeNumber J8 Q) (xX4_readClaims_42 s_X8_start s_X8_takeLetter s_X4_addMember s_X8_skip s_X8_isFinished s_X8_takeNumber J8 Q)))) ls st h
theorem kX4_readClaims_35 {X : zq_X} {d : Nat} (C : zq_C X cX4_readClaims 6 RX4 d) {d_X8_start : Nat} {s_X8_start : zq_Sp} (h_X8_start : zq_M yX8_start cX8_start 2 none 0 d_X8_start s_X8_start) (g_X8_start : d_X8_start + 1 ≤ d) {d_X8_takeLetter : Nat} {s_X8_takeLetter : zq_Sp} (h_X8_takeLetter : zq_M yX8_takeLetter cX8_takeLetter 3 (some .int) 1 d_X8_takeLetter s_X8_takeLetter) (g_X8_takeLetter : d_X8_takeLetter + 1 ≤ d) {d_X4_addMember : Nat} {s_X4_addMember : zq_Sp} (h_X4_addMember : zq_M yX4_addMember cX4_addMember 6 none 0 d_X4_addMember s_X4_addMember) (g_X4_addMember : d_X4_addMember + 1 ≤ d) {d_X8_skip : Nat} {s_X8_skip : zq_Sp} (h_X8_skip : zq_M yX8_skip cX8_skip 2 (some .boolean) 1 d_X8_skip s_X8_skip) (g_X8_skip : d_X8_skip + 1 ≤ d) {d_X8_isFinished : Nat} {s_X8_isFinished : zq_Sp} (h_X8_isFinished : zq_M yX8_isFinished cX8_isFinished 1 (some .boolean) 1 d_X8_isFinished s_X8_isFinished) (g_X8_isFinished : d_X8_isFinished + 1 ≤ d) {d_X8_takeNumber : Nat} {s_X8_takeNumber : zq_Sp} (h_X8_takeNumber : zq_M yX8_takeNumber cX8_takeNumber 5 (some .int) 1 d_X8_takeNumber s_X8_takeNumber) (g_X8_takeNumber : d_X8_takeNumber + 1 ≤ d) {J8 : zq_P} (j8 : zq_ok X 6 8 J8) {Q : zq_Q} (hq : zq_R X (some .boolean) 1 Q) : zq_ok X 6 35 (xX4_readClaims_35 s_X8_start s_X8_takeLetter s_X4_addMember s_X8_skip s_X8_isFinished s_X8_takeNumber J8 Q) := by
  refine zs_istore C dX4_readClaims_35 (by decide) ?_
  refine zs_iload C dX4_readClaims_37 ?_
  exact zs_if_ge C dX4_readClaims_39 (by decide) (kX4_readClaims_44 C h_X8_start g_X8_start h_X8_takeLetter g_X8_takeLetter h_X4_addMember g_X4_addMember h_X8_skip g_X8_skip h_X8_isFinished g_X8_isFinished h_X8_takeNumber g_X8_takeNumber j8 hq) (kX4_readClaims_42 C h_X8_start g_X8_start h_X8_takeLetter g_X8_takeLetter h_X4_addMember g_X4_addMember h_X8_skip g_X8_skip h_X8_isFinished g_X8_isFinished h_X8_takeNumber g_X8_takeNumber j8 hq)
def xX4_readClaims_30 (s_X8_start : zq_Sp) (s_X8_takeLetter : zq_Sp) (s_X4_addMember : zq_Sp) (s_X8_skip : zq_Sp) (s_X8_isFinished : zq_Sp) (s_X8_takeNumber : zq_Sp) (J8 : zq_P) (Q : zq_Q) (ls : zq_L) (st : List Value) (h : zq_H) : Prop := (zi_aload 1 (zi_push (.int 3) (zi_callV 1 1 s_X8_takeNumber ((xX4_readClaims_35 s_X8_start s_X8_takeLetter s_X4_addMember s_X8_skip s_X8_isFinished s_X8_takeNumber J8 Q))))) ls st h
theorem kX4_readClaims_30 {X : zq_X} {d : Nat} (C : zq_C X cX4_readClaims 6 RX4 d) {d_X8_start : Nat} {s_X8_start : zq_Sp} (h_X8_start : zq_M yX8_start cX8_start 2 none 0 d_X8_start s_X8_start) (g_X8_start : d_X8_start + 1 ≤ d) {d_X8_takeLetter : Nat} {s_X8_takeLetter : zq_Sp} (h_X8_takeLetter : zq_M yX8_takeLetter cX8_takeLetter 3 (some .int) 1 d_X8_takeLetter s_X8_takeLetter) (g_X8_takeLetter : d_X8_takeLetter + 1 ≤ d) {d_X4_addMember : Nat} {s_X4_addMember : zq_Sp} (h_X4_addMember : zq_M yX4_addMember cX4_addMember 6 none 0 d_X4_addMember s_X4_addMember) (g_X4_addMember : d_X4_addMember + 1 ≤ d) {d_X8_skip : Nat} {s_X8_skip : zq_Sp} (h_X8_skip : zq_M yX8_skip cX8_skip 2 (some .boolean) 1 d_X8_skip s_X8_skip) (g_X8_skip : d_X8_skip + 1 ≤ d) {d_X8_isFinished : Nat} {s_X8_isFinished : zq_Sp} (h_X8_isFinished : zq_M yX8_isFinished cX8_isFinished 1 (some .boolean) 1 d_X8_isFinished s_X8_isFinished) (g_X8_isFinished : d_X8_isFinished + 1 ≤ d) {d_X8_takeNumber : Nat} {s_X8_takeNumber : zq_Sp} (h_X8_takeNumber : zq_M yX8_takeNumber cX8_takeNumber 5 (some .int) 1 d_X8_takeNumber s_X8_takeNumber) (g_X8_takeNumber : d_X8_takeNumber + 1 ≤ d) {J8 : zq_P} (j8 : zq_ok X 6 8 J8) {Q : zq_Q} (hq : zq_R X (some .boolean) 1 Q) : zq_ok X 6 30 (xX4_readClaims_30 s_X8_start s_X8_takeLetter s_X4_addMember s_X8_skip s_X8_isFinished s_X8_takeNumber J8 Q) := by
  refine zs_aload_n C dX4_readClaims_30 rfl ?_
  refine zs_iconst C dX4_readClaims_31 (by decide) ?_
  refine zs_callV C h_X8_takeNumber g_X8_takeNumber zy_X8_takeNumber zp_1 (show vwCl[8]? = some (RX8, TX8, 4) from rfl) zw_933 zw_518 zs9_X8_takeNumber dX4_readClaims_32 ?_
  exact kX4_readClaims_35 C h_X8_start g_X8_start h_X8_takeLetter g_X8_takeLetter h_X4_addMember g_X4_addMember h_X8_skip g_X8_skip h_X8_isFinished g_X8_isFinished h_X8_takeNumber g_X8_takeNumber j8 hq
def xX4_readClaims_26 (s_X8_start : zq_Sp) (s_X8_takeLetter : zq_Sp) (s_X4_addMember : zq_Sp) (s_X8_skip : zq_Sp) (s_X8_isFinished : zq_Sp) (s_X8_takeNumber : zq_Sp) (J8 : zq_P) (Q : zq_Q) (ls : zq_L) (st : List Value) (h : zq_H) : Prop := (zi_push (.int (-1)) ((xX4_readClaims_35 s_X8_start s_X8_takeLetter s_X4_addMember s_X8_skip s_X8_isFinished s_X8_takeNumber J8 Q))) ls st h
theorem kX4_readClaims_26 {X : zq_X} {d : Nat} (C : zq_C X cX4_readClaims 6 RX4 d) {d_X8_start : Nat} {s_X8_start : zq_Sp} (h_X8_start : zq_M yX8_start cX8_start 2 none 0 d_X8_start s_X8_start) (g_X8_start : d_X8_start + 1 ≤ d) {d_X8_takeLetter : Nat} {s_X8_takeLetter : zq_Sp} (h_X8_takeLetter : zq_M yX8_takeLetter cX8_takeLetter 3 (some .int) 1 d_X8_takeLetter s_X8_takeLetter) (g_X8_takeLetter : d_X8_takeLetter + 1 ≤ d) {d_X4_addMember : Nat} {s_X4_addMember : zq_Sp} (h_X4_addMember : zq_M yX4_addMember cX4_addMember 6 none 0 d_X4_addMember s_X4_addMember) (g_X4_addMember : d_X4_addMember + 1 ≤ d) {d_X8_skip : Nat} {s_X8_skip : zq_Sp} (h_X8_skip : zq_M yX8_skip cX8_skip 2 (some .boolean) 1 d_X8_skip s_X8_skip) (g_X8_skip : d_X8_skip + 1 ≤ d) {d_X8_isFinished : Nat} {s_X8_isFinished : zq_Sp} (h_X8_isFinished : zq_M yX8_isFinished cX8_isFinished 1 (some .boolean) 1 d_X8_isFinished s_X8_isFinished) (g_X8_isFinished : d_X8_isFinished + 1 ≤ d) {d_X8_takeNumber : Nat} {s_X8_takeNumber : zq_Sp} (h_X8_takeNumber : zq_M yX8_takeNumber cX8_takeNumber 5 (some .int) 1 d_X8_takeNumber s_X8_takeNumber) (g_X8_takeNumber : d_X8_takeNumber + 1 ≤ d) {J8 : zq_P} (j8 : zq_ok X 6 8 J8) {Q : zq_Q} (hq : zq_R X (some .boolean) 1 Q) : zq_ok X 6 26 (xX4_readClaims_26 s_X8_start s_X8_takeLetter s_X4_addMember s_X8_skip s_X8_isFinished s_X8_takeNumber J8 Q) := by
  refine zs_iconst C dX4_readClaims_26 (by decide) ?_
  exact zs_goto C dX4_readClaims_27 (by decide) (kX4_readClaims_35 C h_X8_start g_X8_start h_X8_takeLetter g_X8_takeLetter h_X4_addMember g_X4_addMember h_X8_skip g_X8_skip h_X8_isFinished g_X8_isFinished h_X8_takeNumber g_X8_takeNumber j8 hq)
def xX4_readClaims_14 (s_X8_start : zq_Sp) (s_X8_takeLetter : zq_Sp) (s_X4_addMember : zq_Sp) (s_X8_skip : zq_Sp) (s_X8_isFinished : zq_Sp) (s_X8_takeNumber : zq_Sp) (J8 : zq_P) (Q : zq_Q) (ls : zq_L) (st : List Value) (h : zq_H) : Prop := (zi_aload 1 (zi_iload 2 (zi_callV 1 1 s_X8_takeLetter (zi_istore 4 (zi_iload 4 (zi_if1 (fun x => 0 ≤ x) (xX4_readClaims_30 s_X8_start s_X8_takeLetter s_X4_addMember s_X8_skip s_X8_isFinished s_X8_takeNumber J8 Q) (xX4_readClaims_26 s_X8_start s_X8_takeLetter s_X4_addMember s_X8_skip s_X8_isFinished s_X8_takeNumber J8 Q))))))) ls st h
theorem kX4_readClaims_14 {X : zq_X} {d : Nat} (C : zq_C X cX4_readClaims 6 RX4 d) {d_X8_start : Nat} {s_X8_start : zq_Sp} (h_X8_start : zq_M yX8_start cX8_start 2 none 0 d_X8_start s_X8_start) (g_X8_start : d_X8_start + 1 ≤ d) {d_X8_takeLetter : Nat} {s_X8_takeLetter : zq_Sp} (h_X8_takeLetter : zq_M yX8_takeLetter cX8_takeLetter 3 (some .int) 1 d_X8_takeLetter s_X8_takeLetter) (g_X8_takeLetter : d_X8_takeLetter + 1 ≤ d) {d_X4_addMember : Nat} {s_X4_addMember : zq_Sp} (h_X4_addMember : zq_M yX4_addMember cX4_addMember 6 none 0 d_X4_addMember s_X4_addMember) (g_X4_addMember : d_X4_addMember + 1 ≤ d) {d_X8_skip : Nat} {s_X8_skip : zq_Sp} (h_X8_skip : zq_M yX8_skip cX8_skip 2 (some .boolean) 1 d_X8_skip s_X8_skip) (g_X8_skip : d_X8_skip + 1 ≤ d) {d_X8_isFinished : Nat} {s_X8_isFinished : zq_Sp} (h_X8_isFinished : zq_M yX8_isFinished cX8_isFinished 1 (some .boolean) 1 d_X8_isFinished s_X8_isFinished) (g_X8_isFinished : d_X8_isFinished + 1 ≤ d) {d_X8_takeNumber : Nat} {s_X8_takeNumber : zq_Sp} (h_X8_takeNumber : zq_M yX8_takeNumber cX8_takeNumber 5 (some .int) 1 d_X8_takeNumber s_X8_takeNumber) (g_X8_takeNumber : d_X8_takeNumber + 1 ≤ d) {J8 : zq_P} (j8 : zq_ok X 6 8 J8) {Q : zq_Q} (hq : zq_R X (some .boolean) 1 Q) : zq_ok X 6 14 (xX4_readClaims_14 s_X8_start s_X8_takeLetter s_X4_addMember s_X8_skip s_X8_isFinished s_X8_takeNumber J8 Q) := by
  refine zs_aload_n C dX4_readClaims_14 rfl ?_
  refine zs_iload_n C dX4_readClaims_15 rfl ?_
  refine zs_callV C h_X8_takeLetter g_X8_takeLetter zy_X8_takeLetter zp_1 (show vwCl[8]? = some (RX8, TX8, 4) from rfl) zw_932 zw_408 zs9_X8_takeLetter dX4_readClaims_16 ?_
  refine zs_istore C dX4_readClaims_19 (by decide) ?_
  refine zs_iload C dX4_readClaims_21 ?_
  exact zs_if_ge C dX4_readClaims_23 (by decide) (kX4_readClaims_30 C h_X8_start g_X8_start h_X8_takeLetter g_X8_takeLetter h_X4_addMember g_X4_addMember h_X8_skip g_X8_skip h_X8_isFinished g_X8_isFinished h_X8_takeNumber g_X8_takeNumber j8 hq) (kX4_readClaims_26 C h_X8_start g_X8_start h_X8_takeLetter g_X8_takeLetter h_X4_addMember g_X4_addMember h_X8_skip g_X8_skip h_X8_isFinished g_X8_isFinished h_X8_takeNumber g_X8_takeNumber j8 hq)
def xX4_readClaims_8 (s_X8_start : zq_Sp) (s_X8_takeLetter : zq_Sp) (s_X4_addMember : zq_Sp) (s_X8_skip : zq_Sp) (s_X8_isFinished : zq_Sp) (s_X8_takeNumber : zq_Sp) (J8 : zq_P) (Q : zq_Q) (ls : zq_L) (st : List Value) (h : zq_H) : Prop := (zi_iload 3 (zi_push (.int 6) (zi_if2 (fun x y => y ≤ x) (xX4_readClaims_74 s_X8_start s_X8_takeLetter s_X4_addMember s_X8_skip s_X8_isFinished s_X8_takeNumber J8 Q) (xX4_readClaims_14 s_X8_start s_X8_takeLetter s_X4_addMember s_X8_skip s_X8_isFinished s_X8_takeNumber J8 Q)))) ls st h
theorem kX4_readClaims_8 {X : zq_X} {d : Nat} (C : zq_C X cX4_readClaims 6 RX4 d) {d_X8_start : Nat} {s_X8_start : zq_Sp} (h_X8_start : zq_M yX8_start cX8_start 2 none 0 d_X8_start s_X8_start) (g_X8_start : d_X8_start + 1 ≤ d) {d_X8_takeLetter : Nat} {s_X8_takeLetter : zq_Sp} (h_X8_takeLetter : zq_M yX8_takeLetter cX8_takeLetter 3 (some .int) 1 d_X8_takeLetter s_X8_takeLetter) (g_X8_takeLetter : d_X8_takeLetter + 1 ≤ d) {d_X4_addMember : Nat} {s_X4_addMember : zq_Sp} (h_X4_addMember : zq_M yX4_addMember cX4_addMember 6 none 0 d_X4_addMember s_X4_addMember) (g_X4_addMember : d_X4_addMember + 1 ≤ d) {d_X8_skip : Nat} {s_X8_skip : zq_Sp} (h_X8_skip : zq_M yX8_skip cX8_skip 2 (some .boolean) 1 d_X8_skip s_X8_skip) (g_X8_skip : d_X8_skip + 1 ≤ d) {d_X8_isFinished : Nat} {s_X8_isFinished : zq_Sp} (h_X8_isFinished : zq_M yX8_isFinished cX8_isFinished 1 (some .boolean) 1 d_X8_isFinished s_X8_isFinished) (g_X8_isFinished : d_X8_isFinished + 1 ≤ d) {d_X8_takeNumber : Nat} {s_X8_takeNumber : zq_Sp} (h_X8_takeNumber : zq_M yX8_takeNumber cX8_takeNumber 5 (some .int) 1 d_X8_takeNumber s_X8_takeNumber) (g_X8_takeNumber : d_X8_takeNumber + 1 ≤ d) {J8 : zq_P} (j8 : zq_ok X 6 8 J8) {Q : zq_Q} (hq : zq_R X (some .boolean) 1 Q) : zq_ok X 6 8 (xX4_readClaims_8 s_X8_start s_X8_takeLetter s_X4_addMember s_X8_skip s_X8_isFinished s_X8_takeNumber J8 Q) := by
  refine zs_iload_n C dX4_readClaims_8 rfl ?_
  refine zs_bipush C dX4_readClaims_9 (by decide) ?_
  exact zs_icmp_ge C dX4_readClaims_11 (by decide) (kX4_readClaims_74 C h_X8_start g_X8_start h_X8_takeLetter g_X8_takeLetter h_X4_addMember g_X4_addMember h_X8_skip g_X8_skip h_X8_isFinished g_X8_isFinished h_X8_takeNumber g_X8_takeNumber j8 hq) (kX4_readClaims_14 C h_X8_start g_X8_start h_X8_takeLetter g_X8_takeLetter h_X4_addMember g_X4_addMember h_X8_skip g_X8_skip h_X8_isFinished g_X8_isFinished h_X8_takeNumber g_X8_takeNumber j8 hq)
def xX4_readClaims_0 (s_X8_start : zq_Sp) (s_X8_takeLetter : zq_Sp) (s_X4_addMember : zq_Sp) (s_X8_skip : zq_Sp) (s_X8_isFinished : zq_Sp) (s_X8_takeNumber : zq_Sp) (J8 : zq_P) (Q : zq_Q) (ls : zq_L) (st : List Value) (h : zq_H) : Prop := (zi_aload 1 (zi_push (.int 80) (zi_callV 1 1 s_X8_start (zi_push (.int 0) (zi_istore 3 (J8)))))) ls st h
theorem kX4_readClaims_0 {X : zq_X} {d : Nat} (C : zq_C X cX4_readClaims 6 RX4 d) {d_X8_start : Nat} {s_X8_start : zq_Sp} (h_X8_start : zq_M yX8_start cX8_start 2 none 0 d_X8_start s_X8_start) (g_X8_start : d_X8_start + 1 ≤ d) {d_X8_takeLetter : Nat} {s_X8_takeLetter : zq_Sp} (h_X8_takeLetter : zq_M yX8_takeLetter cX8_takeLetter 3 (some .int) 1 d_X8_takeLetter s_X8_takeLetter) (g_X8_takeLetter : d_X8_takeLetter + 1 ≤ d) {d_X4_addMember : Nat} {s_X4_addMember : zq_Sp} (h_X4_addMember : zq_M yX4_addMember cX4_addMember 6 none 0 d_X4_addMember s_X4_addMember) (g_X4_addMember : d_X4_addMember + 1 ≤ d) {d_X8_skip : Nat} {s_X8_skip : zq_Sp} (h_X8_skip : zq_M yX8_skip cX8_skip 2 (some .boolean) 1 d_X8_skip s_X8_skip) (g_X8_skip : d_X8_skip + 1 ≤ d) {d_X8_isFinished : Nat} {s_X8_isFinished : zq_Sp} (h_X8_isFinished : zq_M yX8_isFinished cX8_isFinished 1 (some .boolean) 1 d_X8_isFinished s_X8_isFinished) (g_X8_isFinished : d_X8_isFinished + 1 ≤ d) {d_X8_takeNumber : Nat} {s_X8_takeNumber : zq_Sp} (h_X8_takeNumber : zq_M yX8_takeNumber cX8_takeNumber 5 (some .int) 1 d_X8_takeNumber s_X8_takeNumber) (g_X8_takeNumber : d_X8_takeNumber + 1 ≤ d) {J8 : zq_P} (j8 : zq_ok X 6 8 J8) {Q : zq_Q} (hq : zq_R X (some .boolean) 1 Q) : zq_ok X 6 0 (xX4_readClaims_0 s_X8_start s_X8_takeLetter s_X4_addMember s_X8_skip s_X8_isFinished s_X8_takeNumber J8 Q) := by
  refine zs_aload_n C dX4_readClaims_0 rfl ?_
  refine zs_bipush C dX4_readClaims_1 (by decide) ?_
  refine zs_callV C h_X8_start g_X8_start zy_X8_start zp_1 (show vwCl[8]? = some (RX8, TX8, 4) from rfl) zw_931 zw_389 zs9_X8_start dX4_readClaims_3 ?_
  refine zs_iconst C dX4_readClaims_6 (by decide) ?_
  refine zs_istore_n C dX4_readClaims_7 rfl (by decide) ?_
  exact j8
theorem mX4_readClaims {d : Nat} {spec : zq_Sp} {σ8 : Type} {d_X8_start : Nat} {s_X8_start : zq_Sp} (h_X8_start : zq_M yX8_start cX8_start 2 none 0 d_X8_start s_X8_start) (g_X8_start : d_X8_start + 1 ≤ d) {d_X8_takeLetter : Nat} {s_X8_takeLetter : zq_Sp} (h_X8_takeLetter : zq_M yX8_takeLetter cX8_takeLetter 3 (some .int) 1 d_X8_takeLetter s_X8_takeLetter) (g_X8_takeLetter : d_X8_takeLetter + 1 ≤ d) {d_X4_addMember : Nat} {s_X4_addMember : zq_Sp} (h_X4_addMember : zq_M yX4_addMember cX4_addMember 6 none 0 d_X4_addMember s_X4_addMember) (g_X4_addMember : d_X4_addMember + 1 ≤ d) {d_X8_skip : Nat} {s_X8_skip : zq_Sp} (h_X8_skip : zq_M yX8_skip cX8_skip 2 (some .boolean) 1 d_X8_skip s_X8_skip) (g_X8_skip : d_X8_skip + 1 ≤ d) {d_X8_isFinished : Nat} {s_X8_isFinished : zq_Sp} (h_X8_isFinished : zq_M yX8_isFinished cX8_isFinished 1 (some .boolean) 1 d_X8_isFinished s_X8_isFinished) (g_X8_isFinished : d_X8_isFinished + 1 ≤ d) {d_X8_takeNumber : Nat} {s_X8_takeNumber : zq_Sp} (h_X8_takeNumber : zq_M yX8_takeNumber cX8_takeNumber 5 (some .int) 1 d_X8_takeNumber s_X8_takeNumber) (g_X8_takeNumber : d_X8_takeNumber + 1 ≤ d) (μ8 : σ8 → Nat) (I8 : zq_Q → σ8 → zq_P) (v : ∀ args h Q, spec args h Q → (zq_a args).length ≤ 6 ∧ xX4_readClaims_0 s_X8_start s_X8_takeLetter s_X4_addMember s_X8_skip s_X8_isFinished s_X8_takeNumber (fun ls st h => ∃ b, I8 Q b ls st h) Q (zq_l0 6 args) [] h) (v8 : ∀ Q a ls st h, I8 Q a ls st h → xX4_readClaims_8 s_X8_start s_X8_takeLetter s_X4_addMember s_X8_skip s_X8_isFinished s_X8_takeNumber (fun ls st h => ∃ b, μ8 b < μ8 a ∧ I8 Q b ls st h) Q ls st h) : zq_M yX4_readClaims cX4_readClaims 6 (some .boolean) 1 d spec := by
  refine zq_met (by decide +kernel) (by decide) (fun X Q args h C hq hs => ⟨(v args h Q hs).1, _, ?_, (v args h Q hs).2⟩)
  have hl := zq_loop1 (X := X) (nL := 6) (pc1 := 8) μ8 (I8 Q) (fun J8 => xX4_readClaims_8 s_X8_start s_X8_takeLetter s_X4_addMember s_X8_skip s_X8_isFinished s_X8_takeNumber J8 Q) (fun j8 => kX4_readClaims_8 C h_X8_start g_X8_start h_X8_takeLetter g_X8_takeLetter h_X4_addMember g_X4_addMember h_X8_skip g_X8_skip h_X8_isFinished g_X8_isFinished h_X8_takeNumber g_X8_takeNumber j8 hq) (v8 Q)
  exact kX4_readClaims_0 C h_X8_start g_X8_start h_X8_takeLetter g_X8_takeLetter h_X4_addMember g_X4_addMember h_X8_skip g_X8_skip h_X8_isFinished g_X8_isFinished h_X8_takeNumber g_X8_takeNumber hl hq
/-! ToOneCrumb$Placing.spread(LToOneCrumb$Worths;)V -/
theorem dX4_spread_0 : decode cX4_spread 0 = .ok (.iconst 0, 1) := by decide +kernel
theorem dX4_spread_1 : decode cX4_spread 1 = .ok (.istore_n 2, 1) := by decide +kernel
theorem dX4_spread_2 : decode cX4_spread 2 = .ok (.iload_n 2, 1) := by decide +kernel
theorem dX4_spread_3 : decode cX4_spread 3 = .ok (.aload_n 0, 1) := by decide +kernel
theorem dX4_spread_4 : decode cX4_spread 4 = .ok (.getfield 31, 3) := by decide +kernel
theorem dX4_spread_7 : decode cX4_spread 7 = .ok (.if_icmp .ge 43, 3) := by decide +kernel
theorem dX4_spread_10 : decode cX4_spread 10 = .ok (.iconst 0, 1) := by decide +kernel
theorem dX4_spread_11 : decode cX4_spread 11 = .ok (.istore_n 3, 1) := by decide +kernel
theorem dX4_spread_12 : decode cX4_spread 12 = .ok (.iload_n 3, 1) := by decide +kernel
theorem dX4_spread_13 : decode cX4_spread 13 = .ok (.aload_n 0, 1) := by decide +kernel
theorem dX4_spread_14 : decode cX4_spread 14 = .ok (.getfield 35, 3) := by decide +kernel
theorem dX4_spread_17 : decode cX4_spread 17 = .ok (.if_icmp .gt 27, 3) := by decide +kernel
theorem dX4_spread_20 : decode cX4_spread 20 = .ok (.aload_n 0, 1) := by decide +kernel
theorem dX4_spread_21 : decode cX4_spread 21 = .ok (.getfield 22, 3) := by decide +kernel
theorem dX4_spread_24 : decode cX4_spread 24 = .ok (.iload_n 2, 1) := by decide +kernel
theorem dX4_spread_25 : decode cX4_spread 25 = .ok (.bipush 17, 2) := by decide +kernel
theorem dX4_spread_27 : decode cX4_spread 27 = .ok (.imul, 1) := by decide +kernel
theorem dX4_spread_28 : decode cX4_spread 28 = .ok (.iload_n 3, 1) := by decide +kernel
theorem dX4_spread_29 : decode cX4_spread 29 = .ok (.iadd, 1) := by decide +kernel
theorem dX4_spread_30 : decode cX4_spread 30 = .ok (.aload_n 0, 1) := by decide +kernel
theorem dX4_spread_31 : decode cX4_spread 31 = .ok (.aload_n 1, 1) := by decide +kernel
theorem dX4_spread_32 : decode cX4_spread 32 = .ok (.iload_n 2, 1) := by decide +kernel
theorem dX4_spread_33 : decode cX4_spread 33 = .ok (.iload_n 3, 1) := by decide +kernel
theorem dX4_spread_34 : decode cX4_spread 34 = .ok (.invokevirtual 63, 3) := by decide +kernel
theorem dX4_spread_37 : decode cX4_spread 37 = .ok (.iastore, 1) := by decide +kernel
theorem dX4_spread_38 : decode cX4_spread 38 = .ok (.iinc 3 1, 3) := by decide +kernel
theorem dX4_spread_41 : decode cX4_spread 41 = .ok (.goto (-29), 3) := by decide +kernel
theorem dX4_spread_44 : decode cX4_spread 44 = .ok (.iinc 2 1, 3) := by decide +kernel
theorem dX4_spread_47 : decode cX4_spread 47 = .ok (.goto (-45), 3) := by decide +kernel
theorem dX4_spread_50 : decode cX4_spread 50 = .ok (.aload_n 0, 1) := by decide +kernel
theorem dX4_spread_51 : decode cX4_spread 51 = .ok (.getfield 25, 3) := by decide +kernel
theorem dX4_spread_54 : decode cX4_spread 54 = .ok (.iconst 0, 1) := by decide +kernel
theorem dX4_spread_55 : decode cX4_spread 55 = .ok (.iconst 0, 1) := by decide +kernel
theorem dX4_spread_56 : decode cX4_spread 56 = .ok (.iastore, 1) := by decide +kernel
theorem dX4_spread_57 : decode cX4_spread 57 = .ok (.iconst 1, 1) := by decide +kernel
theorem dX4_spread_58 : decode cX4_spread 58 = .ok (.istore_n 2, 1) := by decide +kernel
theorem dX4_spread_59 : decode cX4_spread 59 = .ok (.iload_n 2, 1) := by decide +kernel
theorem dX4_spread_60 : decode cX4_spread 60 = .ok (.iconst 1, 1) := by decide +kernel
theorem dX4_spread_61 : decode cX4_spread 61 = .ok (.aload_n 0, 1) := by decide +kernel
theorem dX4_spread_62 : decode cX4_spread 62 = .ok (.getfield 31, 3) := by decide +kernel
theorem dX4_spread_65 : decode cX4_spread 65 = .ok (.ishl, 1) := by decide +kernel
theorem dX4_spread_66 : decode cX4_spread 66 = .ok (.if_icmp .ge 70, 3) := by decide +kernel
theorem dX4_spread_69 : decode cX4_spread 69 = .ok (.bipush 17, 2) := by decide +kernel
theorem dX4_spread_71 : decode cX4_spread 71 = .ok (.istore_n 3, 1) := by decide +kernel
theorem dX4_spread_72 : decode cX4_spread 72 = .ok (.iconst 0, 1) := by decide +kernel
theorem dX4_spread_73 : decode cX4_spread 73 = .ok (.istore 4, 2) := by decide +kernel
theorem dX4_spread_75 : decode cX4_spread 75 = .ok (.iload 4, 2) := by decide +kernel
theorem dX4_spread_77 : decode cX4_spread 77 = .ok (.aload_n 0, 1) := by decide +kernel
theorem dX4_spread_78 : decode cX4_spread 78 = .ok (.getfield 31, 3) := by decide +kernel
theorem dX4_spread_81 : decode cX4_spread 81 = .ok (.if_icmp .ge 42, 3) := by decide +kernel
theorem dX4_spread_84 : decode cX4_spread 84 = .ok (.iload_n 2, 1) := by decide +kernel
theorem dX4_spread_85 : decode cX4_spread 85 = .ok (.iload 4, 2) := by decide +kernel
theorem dX4_spread_87 : decode cX4_spread 87 = .ok (.ishr, 1) := by decide +kernel
theorem dX4_spread_88 : decode cX4_spread 88 = .ok (.iconst 1, 1) := by decide +kernel
theorem dX4_spread_89 : decode cX4_spread 89 = .ok (.iand, 1) := by decide +kernel
theorem dX4_spread_90 : decode cX4_spread 90 = .ok (.ifCond .eq 27, 3) := by decide +kernel
theorem dX4_spread_93 : decode cX4_spread 93 = .ok (.iload_n 3, 1) := by decide +kernel
theorem dX4_spread_94 : decode cX4_spread 94 = .ok (.aload_n 0, 1) := by decide +kernel
theorem dX4_spread_95 : decode cX4_spread 95 = .ok (.iload 4, 2) := by decide +kernel
theorem dX4_spread_97 : decode cX4_spread 97 = .ok (.aload_n 0, 1) := by decide +kernel
theorem dX4_spread_98 : decode cX4_spread 98 = .ok (.getfield 25, 3) := by decide +kernel
theorem dX4_spread_101 : decode cX4_spread 101 = .ok (.iload_n 2, 1) := by decide +kernel
theorem dX4_spread_102 : decode cX4_spread 102 = .ok (.iconst 1, 1) := by decide +kernel
theorem dX4_spread_103 : decode cX4_spread 103 = .ok (.iload 4, 2) := by decide +kernel
theorem dX4_spread_105 : decode cX4_spread 105 = .ok (.ishl, 1) := by decide +kernel
theorem dX4_spread_106 : decode cX4_spread 106 = .ok (.iconst (-1), 1) := by decide +kernel
theorem dX4_spread_107 : decode cX4_spread 107 = .ok (.ixor, 1) := by decide +kernel
theorem dX4_spread_108 : decode cX4_spread 108 = .ok (.iand, 1) := by decide +kernel
theorem dX4_spread_109 : decode cX4_spread 109 = .ok (.iaload, 1) := by decide +kernel
theorem dX4_spread_110 : decode cX4_spread 110 = .ok (.invokevirtual 67, 3) := by decide +kernel
theorem dX4_spread_113 : decode cX4_spread 113 = .ok (.invokestatic 71, 3) := by decide +kernel
theorem dX4_spread_116 : decode cX4_spread 116 = .ok (.istore_n 3, 1) := by decide +kernel
theorem dX4_spread_117 : decode cX4_spread 117 = .ok (.iinc 4 1, 3) := by decide +kernel
theorem dX4_spread_120 : decode cX4_spread 120 = .ok (.goto (-45), 3) := by decide +kernel
theorem dX4_spread_123 : decode cX4_spread 123 = .ok (.aload_n 0, 1) := by decide +kernel
theorem dX4_spread_124 : decode cX4_spread 124 = .ok (.getfield 25, 3) := by decide +kernel
theorem dX4_spread_127 : decode cX4_spread 127 = .ok (.iload_n 2, 1) := by decide +kernel
theorem dX4_spread_128 : decode cX4_spread 128 = .ok (.iload_n 3, 1) := by decide +kernel
theorem dX4_spread_129 : decode cX4_spread 129 = .ok (.iastore, 1) := by decide +kernel
theorem dX4_spread_130 : decode cX4_spread 130 = .ok (.iinc 2 1, 3) := by decide +kernel
theorem dX4_spread_133 : decode cX4_spread 133 = .ok (.goto (-74), 3) := by decide +kernel
theorem dX4_spread_136 : decode cX4_spread 136 = .ok (.return_, 1) := by decide +kernel
def xX4_spread_136 (s_X4_shortest : zq_Sp) (s_X4_reached : zq_Sp) (J2 : zq_P) (J12 : zq_P) (J59 : zq_P) (J75 : zq_P) (Q : zq_Q) (ls : zq_L) (st : List Value) (h : zq_H) : Prop := (zi_vret Q) ls st h
theorem kX4_spread_136 {X : zq_X} {d : Nat} (C : zq_C X cX4_spread 5 RX4 d) (hd1 : 1 ≤ d) {d_X4_shortest : Nat} {s_X4_shortest : zq_Sp} (h_X4_shortest : zq_M yX4_shortest cX4_shortest 5 (some .int) 1 d_X4_shortest s_X4_shortest) (g_X4_shortest : d_X4_shortest + 1 ≤ d) {d_X4_reached : Nat} {s_X4_reached : zq_Sp} (h_X4_reached : zq_M yX4_reached cX4_reached 3 (some .int) 1 d_X4_reached s_X4_reached) (g_X4_reached : d_X4_reached + 1 ≤ d) {J2 : zq_P} (j2 : zq_ok X 5 2 J2) {J12 : zq_P} (j12 : zq_ok X 5 12 J12) {J59 : zq_P} (j59 : zq_ok X 5 59 J59) {J75 : zq_P} (j75 : zq_ok X 5 75 J75) {Q : zq_Q} (hq : zq_R X none 0 Q) : zq_ok X 5 136 (xX4_spread_136 s_X4_shortest s_X4_reached J2 J12 J59 J75 Q) := by
  exact zs_vret C hq dX4_spread_136
def xX4_spread_123 (s_X4_shortest : zq_Sp) (s_X4_reached : zq_Sp) (J2 : zq_P) (J12 : zq_P) (J59 : zq_P) (J75 : zq_P) (Q : zq_Q) (ls : zq_L) (st : List Value) (h : zq_H) : Prop := (zi_aload 0 (zi_getR 22 27 (zi_iload 2 (zi_iload 3 (zi_astI 27 64 (zi_iinc 2 1 (J59))))))) ls st h
theorem kX4_spread_123 {X : zq_X} {d : Nat} (C : zq_C X cX4_spread 5 RX4 d) (hd1 : 1 ≤ d) {d_X4_shortest : Nat} {s_X4_shortest : zq_Sp} (h_X4_shortest : zq_M yX4_shortest cX4_shortest 5 (some .int) 1 d_X4_shortest s_X4_shortest) (g_X4_shortest : d_X4_shortest + 1 ≤ d) {d_X4_reached : Nat} {s_X4_reached : zq_Sp} (h_X4_reached : zq_M yX4_reached cX4_reached 3 (some .int) 1 d_X4_reached s_X4_reached) (g_X4_reached : d_X4_reached + 1 ≤ d) {J2 : zq_P} (j2 : zq_ok X 5 2 J2) {J12 : zq_P} (j12 : zq_ok X 5 12 J12) {J59 : zq_P} (j59 : zq_ok X 5 59 J59) {J75 : zq_P} (j75 : zq_ok X 5 75 J75) {Q : zq_Q} (hq : zq_R X none 0 Q) : zq_ok X 5 123 (xX4_spread_123 s_X4_shortest s_X4_reached J2 J12 J59 J75 Q) := by
  refine zs_aload_n C dX4_spread_123 rfl ?_
  refine zs_getR C zp_22 zF4 (j := 4) ⟨by decide, rfl⟩ zw_181 dX4_spread_124 ?_
  refine zs_iload_n C dX4_spread_127 rfl ?_
  refine zs_iload_n C dX4_spread_128 rfl ?_
  refine zs_iastore C zp_27 dX4_spread_129 ?_
  refine zs_iinc C dX4_spread_130 (by decide) (by decide) ?_
  exact zs_goto C dX4_spread_133 (by decide) (j59)
def xX4_spread_117 (s_X4_shortest : zq_Sp) (s_X4_reached : zq_Sp) (J2 : zq_P) (J12 : zq_P) (J59 : zq_P) (J75 : zq_P) (Q : zq_Q) (ls : zq_L) (st : List Value) (h : zq_H) : Prop := (zi_iinc 4 1 (J75)) ls st h
theorem kX4_spread_117 {X : zq_X} {d : Nat} (C : zq_C X cX4_spread 5 RX4 d) (hd1 : 1 ≤ d) {d_X4_shortest : Nat} {s_X4_shortest : zq_Sp} (h_X4_shortest : zq_M yX4_shortest cX4_shortest 5 (some .int) 1 d_X4_shortest s_X4_shortest) (g_X4_shortest : d_X4_shortest + 1 ≤ d) {d_X4_reached : Nat} {s_X4_reached : zq_Sp} (h_X4_reached : zq_M yX4_reached cX4_reached 3 (some .int) 1 d_X4_reached s_X4_reached) (g_X4_reached : d_X4_reached + 1 ≤ d) {J2 : zq_P} (j2 : zq_ok X 5 2 J2) {J12 : zq_P} (j12 : zq_ok X 5 12 J12) {J59 : zq_P} (j59 : zq_ok X 5 59 J59) {J75 : zq_P} (j75 : zq_ok X 5 75 J75) {Q : zq_Q} (hq : zq_R X none 0 Q) : zq_ok X 5 117 (xX4_spread_117 s_X4_shortest s_X4_reached J2 J12 J59 J75 Q) := by
  refine zs_iinc C dX4_spread_117 (by decide) (by decide) ?_
  exact zs_goto C dX4_spread_120 (by decide) (j75)
def xX4_spread_93 (s_X4_shortest : zq_Sp) (s_X4_reached : zq_Sp) (J2 : zq_P) (J12 : zq_P) (J59 : zq_P) (J75 : zq_P) (Q : zq_Q) (ls : zq_L) (st : List Value) (h : zq_H) : Prop := (zi_iload 3 (zi_aload 0 (zi_iload 4 (zi_aload 0 (zi_getR 22 27 (zi_iload 2 (zi_push (.int 1) (zi_iload 4 (zi_i2 zf_shl (zi_push (.int (-1)) (zi_i2 (fun x y => x ^^^ y) (zi_i2 (fun x y => x &&& y) (zi_aldI 27 64 (zi_callV 2 22 s_X4_reached (zi_m2 zf_min (zi_istore 3 ((xX4_spread_117 s_X4_shortest s_X4_reached J2 J12 J59 J75 Q)))))))))))))))))) ls st h
theorem kX4_spread_93 {X : zq_X} {d : Nat} (C : zq_C X cX4_spread 5 RX4 d) (hd1 : 1 ≤ d) {d_X4_shortest : Nat} {s_X4_shortest : zq_Sp} (h_X4_shortest : zq_M yX4_shortest cX4_shortest 5 (some .int) 1 d_X4_shortest s_X4_shortest) (g_X4_shortest : d_X4_shortest + 1 ≤ d) {d_X4_reached : Nat} {s_X4_reached : zq_Sp} (h_X4_reached : zq_M yX4_reached cX4_reached 3 (some .int) 1 d_X4_reached s_X4_reached) (g_X4_reached : d_X4_reached + 1 ≤ d) {J2 : zq_P} (j2 : zq_ok X 5 2 J2) {J12 : zq_P} (j12 : zq_ok X 5 12 J12) {J59 : zq_P} (j59 : zq_ok X 5 59 J59) {J75 : zq_P} (j75 : zq_ok X 5 75 J75) {Q : zq_Q} (hq : zq_R X none 0 Q) : zq_ok X 5 93 (xX4_spread_93 s_X4_shortest s_X4_reached J2 J12 J59 J75 Q) := by
  refine zs_iload_n C dX4_spread_93 rfl ?_
  refine zs_aload_n C dX4_spread_94 rfl ?_
  refine zs_iload C dX4_spread_95 ?_
  refine zs_aload_n C dX4_spread_97 rfl ?_
  refine zs_getR C zp_22 zF4 (j := 4) ⟨by decide, rfl⟩ zw_181 dX4_spread_98 ?_
  refine zs_iload_n C dX4_spread_101 rfl ?_
  refine zs_iconst C dX4_spread_102 (by decide) ?_
  refine zs_iload C dX4_spread_103 ?_
  refine zs_ishl C dX4_spread_105 ?_
  refine zs_iconst C dX4_spread_106 (by decide) ?_
  refine zs_ixor C dX4_spread_107 ?_
  refine zs_iand C dX4_spread_108 ?_
  refine zs_iaload C zp_27 dX4_spread_109 ?_
  refine zs_callV C h_X4_reached g_X4_reached zy_X4_reached zp_22 (show vwCl[4]? = some (RX4, TX4, 8) from rfl) zw_756 zw_758 zs9_X4_reached dX4_spread_110 ?_
  refine zs_mmin C hd1 zw_760 zw_393 zw_14 zw_394 dX4_spread_113 ?_
  refine zs_istore_n C dX4_spread_116 rfl (by decide) ?_
  exact kX4_spread_117 C hd1 h_X4_shortest g_X4_shortest h_X4_reached g_X4_reached j2 j12 j59 j75 hq
def xX4_spread_84 (s_X4_shortest : zq_Sp) (s_X4_reached : zq_Sp) (J2 : zq_P) (J12 : zq_P) (J59 : zq_P) (J75 : zq_P) (Q : zq_Q) (ls : zq_L) (st : List Value) (h : zq_H) : Prop := (zi_iload 2 (zi_iload 4 (zi_i2 zf_shr (zi_push (.int 1) (zi_i2 (fun x y => x &&& y) (zi_if1 (fun x => x = 0) (xX4_spread_117 s_X4_shortest s_X4_reached J2 J12 J59 J75 Q) (xX4_spread_93 s_X4_shortest s_X4_reached J2 J12 J59 J75 Q))))))) ls st h
theorem kX4_spread_84 {X : zq_X} {d : Nat} (C : zq_C X cX4_spread 5 RX4 d) (hd1 : 1 ≤ d) {d_X4_shortest : Nat} {s_X4_shortest : zq_Sp} (h_X4_shortest : zq_M yX4_shortest cX4_shortest 5 (some .int) 1 d_X4_shortest s_X4_shortest) (g_X4_shortest : d_X4_shortest + 1 ≤ d) {d_X4_reached : Nat} {s_X4_reached : zq_Sp} (h_X4_reached : zq_M yX4_reached cX4_reached 3 (some .int) 1 d_X4_reached s_X4_reached) (g_X4_reached : d_X4_reached + 1 ≤ d) {J2 : zq_P} (j2 : zq_ok X 5 2 J2) {J12 : zq_P} (j12 : zq_ok X 5 12 J12) {J59 : zq_P} (j59 : zq_ok X 5 59 J59) {J75 : zq_P} (j75 : zq_ok X 5 75 J75) {Q : zq_Q} (hq : zq_R X none 0 Q) : zq_ok X 5 84 (xX4_spread_84 s_X4_shortest s_X4_reached J2 J12 J59 J75 Q) := by
  refine zs_iload_n C dX4_spread_84 rfl ?_
  refine zs_iload C dX4_spread_85 ?_
  refine zs_ishr C dX4_spread_87 ?_
  refine zs_iconst C dX4_spread_88 (by decide) ?_
  refine zs_iand C dX4_spread_89 ?_
  exact zs_if_eq C dX4_spread_90 (by decide) (kX4_spread_117 C hd1 h_X4_shortest g_X4_shortest h_X4_reached g_X4_reached j2 j12 j59 j75 hq) (kX4_spread_93 C hd1 h_X4_shortest g_X4_shortest h_X4_reached g_X4_reached j2 j12 j59 j75 hq)
def xX4_spread_75 (s_X4_shortest : zq_Sp) (s_X4_reached : zq_Sp) (J2 : zq_P) (J12 : zq_P) (J59 : zq_P) (J75 : zq_P) (Q : zq_Q) (ls : zq_L) (st : List Value) (h : zq_H) : Prop := (zi_iload 4 (zi_aload 0 (zi_getI 22 6 (zi_if2 (fun x y => y ≤ x) (xX4_spread_123 s_X4_shortest s_X4_reached J2 J12 J59 J75 Q) (xX4_spread_84 s_X4_shortest s_X4_reached J2 J12 J59 J75 Q))))) ls st h
theorem kX4_spread_75 {X : zq_X} {d : Nat} (C : zq_C X cX4_spread 5 RX4 d) (hd1 : 1 ≤ d) {d_X4_shortest : Nat} {s_X4_shortest : zq_Sp} (h_X4_shortest : zq_M yX4_shortest cX4_shortest 5 (some .int) 1 d_X4_shortest s_X4_shortest) (g_X4_shortest : d_X4_shortest + 1 ≤ d) {d_X4_reached : Nat} {s_X4_reached : zq_Sp} (h_X4_reached : zq_M yX4_reached cX4_reached 3 (some .int) 1 d_X4_reached s_X4_reached) (g_X4_reached : d_X4_reached + 1 ≤ d) {J2 : zq_P} (j2 : zq_ok X 5 2 J2) {J12 : zq_P} (j12 : zq_ok X 5 12 J12) {J59 : zq_P} (j59 : zq_ok X 5 59 J59) {J75 : zq_P} (j75 : zq_ok X 5 75 J75) {Q : zq_Q} (hq : zq_R X none 0 Q) : zq_ok X 5 75 (xX4_spread_75 s_X4_shortest s_X4_reached J2 J12 J59 J75 Q) := by
  refine zs_iload C dX4_spread_75 ?_
  refine zs_aload_n C dX4_spread_77 rfl ?_
  refine zs_getI C zp_22 zF4 (j := 6) ⟨by decide, rfl⟩ zw_184 dX4_spread_78 ?_
  exact zs_icmp_ge C dX4_spread_81 (by decide) (kX4_spread_123 C hd1 h_X4_shortest g_X4_shortest h_X4_reached g_X4_reached j2 j12 j59 j75 hq) (kX4_spread_84 C hd1 h_X4_shortest g_X4_shortest h_X4_reached g_X4_reached j2 j12 j59 j75 hq)
def xX4_spread_69 (s_X4_shortest : zq_Sp) (s_X4_reached : zq_Sp) (J2 : zq_P) (J12 : zq_P) (J59 : zq_P) (J75 : zq_P) (Q : zq_Q) (ls : zq_L) (st : List Value) (h : zq_H) : Prop := (zi_push (.int 17) (zi_istore 3 (zi_push (.int 0) (zi_istore 4 (J75))))) ls st h
theorem kX4_spread_69 {X : zq_X} {d : Nat} (C : zq_C X cX4_spread 5 RX4 d) (hd1 : 1 ≤ d) {d_X4_shortest : Nat} {s_X4_shortest : zq_Sp} (h_X4_shortest : zq_M yX4_shortest cX4_shortest 5 (some .int) 1 d_X4_shortest s_X4_shortest) (g_X4_shortest : d_X4_shortest + 1 ≤ d) {d_X4_reached : Nat} {s_X4_reached : zq_Sp} (h_X4_reached : zq_M yX4_reached cX4_reached 3 (some .int) 1 d_X4_reached s_X4_reached) (g_X4_reached : d_X4_reached + 1 ≤ d) {J2 : zq_P} (j2 : zq_ok X 5 2 J2) {J12 : zq_P} (j12 : zq_ok X 5 12 J12) {J59 : zq_P} (j59 : zq_ok X 5 59 J59) {J75 : zq_P} (j75 : zq_ok X 5 75 J75) {Q : zq_Q} (hq : zq_R X none 0 Q) : zq_ok X 5 69 (xX4_spread_69 s_X4_shortest s_X4_reached J2 J12 J59 J75 Q) := by
  refine zs_bipush C dX4_spread_69 (by decide) ?_
  refine zs_istore_n C dX4_spread_71 rfl (by decide) ?_
  refine zs_iconst C dX4_spread_72 (by decide) ?_
  refine zs_istore C dX4_spread_73 (by decide) ?_
  exact j75
def xX4_spread_59 (s_X4_shortest : zq_Sp) (s_X4_reached : zq_Sp) (J2 : zq_P) (J12 : zq_P) (J59 : zq_P) (J75 : zq_P) (Q : zq_Q) (ls : zq_L) (st : List Value) (h : zq_H) : Prop := (zi_iload 2 (zi_push (.int 1) (zi_aload 0 (zi_getI 22 6 (zi_i2 zf_shl (zi_if2 (fun x y => y ≤ x) (xX4_spread_136 s_X4_shortest s_X4_reached J2 J12 J59 J75 Q) (xX4_spread_69 s_X4_shortest s_X4_reached J2 J12 J59 J75 Q))))))) ls st h
theorem kX4_spread_59 {X : zq_X} {d : Nat} (C : zq_C X cX4_spread 5 RX4 d) (hd1 : 1 ≤ d) {d_X4_shortest : Nat} {s_X4_shortest : zq_Sp} (h_X4_shortest : zq_M yX4_shortest cX4_shortest 5 (some .int) 1 d_X4_shortest s_X4_shortest) (g_X4_shortest : d_X4_shortest + 1 ≤ d) {d_X4_reached : Nat} {s_X4_reached : zq_Sp} (h_X4_reached : zq_M yX4_reached cX4_reached 3 (some .int) 1 d_X4_reached s_X4_reached) (g_X4_reached : d_X4_reached + 1 ≤ d) {J2 : zq_P} (j2 : zq_ok X 5 2 J2) {J12 : zq_P} (j12 : zq_ok X 5 12 J12) {J59 : zq_P} (j59 : zq_ok X 5 59 J59) {J75 : zq_P} (j75 : zq_ok X 5 75 J75) {Q : zq_Q} (hq : zq_R X none 0 Q) : zq_ok X 5 59 (xX4_spread_59 s_X4_shortest s_X4_reached J2 J12 J59 J75 Q) := by
  refine zs_iload_n C dX4_spread_59 rfl ?_
  refine zs_iconst C dX4_spread_60 (by decide) ?_
  refine zs_aload_n C dX4_spread_61 rfl ?_
  refine zs_getI C zp_22 zF4 (j := 6) ⟨by decide, rfl⟩ zw_184 dX4_spread_62 ?_
  refine zs_ishl C dX4_spread_65 ?_
  exact zs_icmp_ge C dX4_spread_66 (by decide) (kX4_spread_136 C hd1 h_X4_shortest g_X4_shortest h_X4_reached g_X4_reached j2 j12 j59 j75 hq) (kX4_spread_69 C hd1 h_X4_shortest g_X4_shortest h_X4_reached g_X4_reached j2 j12 j59 j75 hq)
def xX4_spread_50 (s_X4_shortest : zq_Sp) (s_X4_reached : zq_Sp) (J2 : zq_P) (J12 : zq_P) (J59 : zq_P) (J75 : zq_P) (Q : zq_Q) (ls : zq_L) (st : List Value) (h : zq_H) : Prop := (zi_aload 0 (zi_getR 22 27 (zi_push (.int 0) (zi_push (.int 0) (zi_astI 27 64 (zi_push (.int 1) (zi_istore 2 (J59)))))))) ls st h
theorem kX4_spread_50 {X : zq_X} {d : Nat} (C : zq_C X cX4_spread 5 RX4 d) (hd1 : 1 ≤ d) {d_X4_shortest : Nat} {s_X4_shortest : zq_Sp} (h_X4_shortest : zq_M yX4_shortest cX4_shortest 5 (some .int) 1 d_X4_shortest s_X4_shortest) (g_X4_shortest : d_X4_shortest + 1 ≤ d) {d_X4_reached : Nat} {s_X4_reached : zq_Sp} (h_X4_reached : zq_M yX4_reached cX4_reached 3 (some .int) 1 d_X4_reached s_X4_reached) (g_X4_reached : d_X4_reached + 1 ≤ d) {J2 : zq_P} (j2 : zq_ok X 5 2 J2) {J12 : zq_P} (j12 : zq_ok X 5 12 J12) {J59 : zq_P} (j59 : zq_ok X 5 59 J59) {J75 : zq_P} (j75 : zq_ok X 5 75 J75) {Q : zq_Q} (hq : zq_R X none 0 Q) : zq_ok X 5 50 (xX4_spread_50 s_X4_shortest s_X4_reached J2 J12 J59 J75 Q) := by
  refine zs_aload_n C dX4_spread_50 rfl ?_
  refine zs_getR C zp_22 zF4 (j := 4) ⟨by decide, rfl⟩ zw_181 dX4_spread_51 ?_
  refine zs_iconst C dX4_spread_54 (by decide) ?_
  refine zs_iconst C dX4_spread_55 (by decide) ?_
  refine zs_iastore C zp_27 dX4_spread_56 ?_
  refine zs_iconst C dX4_spread_57 (by decide) ?_
  refine zs_istore_n C dX4_spread_58 rfl (by decide) ?_
  exact j59
def xX4_spread_44 (s_X4_shortest : zq_Sp) (s_X4_reached : zq_Sp) (J2 : zq_P) (J12 : zq_P) (J59 : zq_P) (J75 : zq_P) (Q : zq_Q) (ls : zq_L) (st : List Value) (h : zq_H) : Prop := (zi_iinc 2 1 (J2)) ls st h
theorem kX4_spread_44 {X : zq_X} {d : Nat} (C : zq_C X cX4_spread 5 RX4 d) (hd1 : 1 ≤ d) {d_X4_shortest : Nat} {s_X4_shortest : zq_Sp} (h_X4_shortest : zq_M yX4_shortest cX4_shortest 5 (some .int) 1 d_X4_shortest s_X4_shortest) (g_X4_shortest : d_X4_shortest + 1 ≤ d) {d_X4_reached : Nat} {s_X4_reached : zq_Sp} (h_X4_reached : zq_M yX4_reached cX4_reached 3 (some .int) 1 d_X4_reached s_X4_reached) (g_X4_reached : d_X4_reached + 1 ≤ d) {J2 : zq_P} (j2 : zq_ok X 5 2 J2) {J12 : zq_P} (j12 : zq_ok X 5 12 J12) {J59 : zq_P} (j59 : zq_ok X 5 59 J59) {J75 : zq_P} (j75 : zq_ok X 5 75 J75) {Q : zq_Q} (hq : zq_R X none 0 Q) : zq_ok X 5 44 (xX4_spread_44 s_X4_shortest s_X4_reached J2 J12 J59 J75 Q) := by
  refine zs_iinc C dX4_spread_44 (by decide) (by decide) ?_
  exact zs_goto C dX4_spread_47 (by decide) (j2)
def xX4_spread_20 (s_X4_shortest : zq_Sp) (s_X4_reached : zq_Sp) (J2 : zq_P) (J12 : zq_P) (J59 : zq_P) (J75 : zq_P) (Q : zq_Q) (ls : zq_L) (st : List Value) (h : zq_H) : Prop := (zi_aload 0 (zi_getR 22 26 (zi_iload 2 (zi_push (.int 17) (zi_i2 (fun x y => x * y) (zi_iload 3 (zi_i2 (fun x y => x + y) (zi_aload 0 (zi_aload 1 (zi_iload 2 (zi_iload 3 (zi_callV 3 22 s_X4_shortest (zi_astI 26 102 (zi_iinc 3 1 (J12))))))))))))))) ls st h
theorem kX4_spread_20 {X : zq_X} {d : Nat} (C : zq_C X cX4_spread 5 RX4 d) (hd1 : 1 ≤ d) {d_X4_shortest : Nat} {s_X4_shortest : zq_Sp} (h_X4_shortest : zq_M yX4_shortest cX4_shortest 5 (some .int) 1 d_X4_shortest s_X4_shortest) (g_X4_shortest : d_X4_shortest + 1 ≤ d) {d_X4_reached : Nat} {s_X4_reached : zq_Sp} (h_X4_reached : zq_M yX4_reached cX4_reached 3 (some .int) 1 d_X4_reached s_X4_reached) (g_X4_reached : d_X4_reached + 1 ≤ d) {J2 : zq_P} (j2 : zq_ok X 5 2 J2) {J12 : zq_P} (j12 : zq_ok X 5 12 J12) {J59 : zq_P} (j59 : zq_ok X 5 59 J59) {J75 : zq_P} (j75 : zq_ok X 5 75 J75) {Q : zq_Q} (hq : zq_R X none 0 Q) : zq_ok X 5 20 (xX4_spread_20 s_X4_shortest s_X4_reached J2 J12 J59 J75 Q) := by
  refine zs_aload_n C dX4_spread_20 rfl ?_
  refine zs_getR C zp_22 zF4 (j := 3) ⟨by decide, rfl⟩ zw_180 dX4_spread_21 ?_
  refine zs_iload_n C dX4_spread_24 rfl ?_
  refine zs_bipush C dX4_spread_25 (by decide) ?_
  refine zs_imul C dX4_spread_27 ?_
  refine zs_iload_n C dX4_spread_28 rfl ?_
  refine zs_iadd C dX4_spread_29 ?_
  refine zs_aload_n C dX4_spread_30 rfl ?_
  refine zs_aload_n C dX4_spread_31 rfl ?_
  refine zs_iload_n C dX4_spread_32 rfl ?_
  refine zs_iload_n C dX4_spread_33 rfl ?_
  refine zs_callV C h_X4_shortest g_X4_shortest zy_X4_shortest zp_22 (show vwCl[4]? = some (RX4, TX4, 8) from rfl) zw_751 zw_753 zs9_X4_shortest dX4_spread_34 ?_
  refine zs_iastore C zp_26 dX4_spread_37 ?_
  refine zs_iinc C dX4_spread_38 (by decide) (by decide) ?_
  exact zs_goto C dX4_spread_41 (by decide) (j12)
def xX4_spread_12 (s_X4_shortest : zq_Sp) (s_X4_reached : zq_Sp) (J2 : zq_P) (J12 : zq_P) (J59 : zq_P) (J75 : zq_P) (Q : zq_Q) (ls : zq_L) (st : List Value) (h : zq_H) : Prop := (zi_iload 3 (zi_aload 0 (zi_getI 22 7 (zi_if2 (fun x y => y < x) (xX4_spread_44 s_X4_shortest s_X4_reached J2 J12 J59 J75 Q) (xX4_spread_20 s_X4_shortest s_X4_reached J2 J12 J59 J75 Q))))) ls st h
theorem kX4_spread_12 {X : zq_X} {d : Nat} (C : zq_C X cX4_spread 5 RX4 d) (hd1 : 1 ≤ d) {d_X4_shortest : Nat} {s_X4_shortest : zq_Sp} (h_X4_shortest : zq_M yX4_shortest cX4_shortest 5 (some .int) 1 d_X4_shortest s_X4_shortest) (g_X4_shortest : d_X4_shortest + 1 ≤ d) {d_X4_reached : Nat} {s_X4_reached : zq_Sp} (h_X4_reached : zq_M yX4_reached cX4_reached 3 (some .int) 1 d_X4_reached s_X4_reached) (g_X4_reached : d_X4_reached + 1 ≤ d) {J2 : zq_P} (j2 : zq_ok X 5 2 J2) {J12 : zq_P} (j12 : zq_ok X 5 12 J12) {J59 : zq_P} (j59 : zq_ok X 5 59 J59) {J75 : zq_P} (j75 : zq_ok X 5 75 J75) {Q : zq_Q} (hq : zq_R X none 0 Q) : zq_ok X 5 12 (xX4_spread_12 s_X4_shortest s_X4_reached J2 J12 J59 J75 Q) := by
  refine zs_iload_n C dX4_spread_12 rfl ?_
  refine zs_aload_n C dX4_spread_13 rfl ?_
  refine zs_getI C zp_22 zF4 (j := 7) ⟨by decide, rfl⟩ zw_186 dX4_spread_14 ?_
  exact zs_icmp_gt C dX4_spread_17 (by decide) (kX4_spread_44 C hd1 h_X4_shortest g_X4_shortest h_X4_reached g_X4_reached j2 j12 j59 j75 hq) (kX4_spread_20 C hd1 h_X4_shortest g_X4_shortest h_X4_reached g_X4_reached j2 j12 j59 j75 hq)
def xX4_spread_10 (s_X4_shortest : zq_Sp) (s_X4_reached : zq_Sp) (J2 : zq_P) (J12 : zq_P) (J59 : zq_P) (J75 : zq_P) (Q : zq_Q) (ls : zq_L) (st : List Value) (h : zq_H) : Prop := (zi_push (.int 0) (zi_istore 3 (J12))) ls st h
theorem kX4_spread_10 {X : zq_X} {d : Nat} (C : zq_C X cX4_spread 5 RX4 d) (hd1 : 1 ≤ d) {d_X4_shortest : Nat} {s_X4_shortest : zq_Sp} (h_X4_shortest : zq_M yX4_shortest cX4_shortest 5 (some .int) 1 d_X4_shortest s_X4_shortest) (g_X4_shortest : d_X4_shortest + 1 ≤ d) {d_X4_reached : Nat} {s_X4_reached : zq_Sp} (h_X4_reached : zq_M yX4_reached cX4_reached 3 (some .int) 1 d_X4_reached s_X4_reached) (g_X4_reached : d_X4_reached + 1 ≤ d) {J2 : zq_P} (j2 : zq_ok X 5 2 J2) {J12 : zq_P} (j12 : zq_ok X 5 12 J12) {J59 : zq_P} (j59 : zq_ok X 5 59 J59) {J75 : zq_P} (j75 : zq_ok X 5 75 J75) {Q : zq_Q} (hq : zq_R X none 0 Q) : zq_ok X 5 10 (xX4_spread_10 s_X4_shortest s_X4_reached J2 J12 J59 J75 Q) := by
  refine zs_iconst C dX4_spread_10 (by decide) ?_
  refine zs_istore_n C dX4_spread_11 rfl (by decide) ?_
  exact j12
def xX4_spread_2 (s_X4_shortest : zq_Sp) (s_X4_reached : zq_Sp) (J2 : zq_P) (J12 : zq_P) (J59 : zq_P) (J75 : zq_P) (Q : zq_Q) (ls : zq_L) (st : List Value) (h : zq_H) : Prop := (zi_iload 2 (zi_aload 0 (zi_getI 22 6 (zi_if2 (fun x y => y ≤ x) (xX4_spread_50 s_X4_shortest s_X4_reached J2 J12 J59 J75 Q) (xX4_spread_10 s_X4_shortest s_X4_reached J2 J12 J59 J75 Q))))) ls st h
theorem kX4_spread_2 {X : zq_X} {d : Nat} (C : zq_C X cX4_spread 5 RX4 d) (hd1 : 1 ≤ d) {d_X4_shortest : Nat} {s_X4_shortest : zq_Sp} (h_X4_shortest : zq_M yX4_shortest cX4_shortest 5 (some .int) 1 d_X4_shortest s_X4_shortest) (g_X4_shortest : d_X4_shortest + 1 ≤ d) {d_X4_reached : Nat} {s_X4_reached : zq_Sp} (h_X4_reached : zq_M yX4_reached cX4_reached 3 (some .int) 1 d_X4_reached s_X4_reached) (g_X4_reached : d_X4_reached + 1 ≤ d) {J2 : zq_P} (j2 : zq_ok X 5 2 J2) {J12 : zq_P} (j12 : zq_ok X 5 12 J12) {J59 : zq_P} (j59 : zq_ok X 5 59 J59) {J75 : zq_P} (j75 : zq_ok X 5 75 J75) {Q : zq_Q} (hq : zq_R X none 0 Q) : zq_ok X 5 2 (xX4_spread_2 s_X4_shortest s_X4_reached J2 J12 J59 J75 Q) := by
  refine zs_iload_n C dX4_spread_2 rfl ?_
  refine zs_aload_n C dX4_spread_3 rfl ?_
  refine zs_getI C zp_22 zF4 (j := 6) ⟨by decide, rfl⟩ zw_184 dX4_spread_4 ?_
  exact zs_icmp_ge C dX4_spread_7 (by decide) (kX4_spread_50 C hd1 h_X4_shortest g_X4_shortest h_X4_reached g_X4_reached j2 j12 j59 j75 hq) (kX4_spread_10 C hd1 h_X4_shortest g_X4_shortest h_X4_reached g_X4_reached j2 j12 j59 j75 hq)
def xX4_spread_0 (s_X4_shortest : zq_Sp) (s_X4_reached : zq_Sp) (J2 : zq_P) (J12 : zq_P) (J59 : zq_P) (J75 : zq_P) (Q : zq_Q) (ls : zq_L) (st : List Value) (h : zq_H) : Prop := (zi_push (.int 0) (zi_istore 2 (J2))) ls st h
theorem kX4_spread_0 {X : zq_X} {d : Nat} (C : zq_C X cX4_spread 5 RX4 d) (hd1 : 1 ≤ d) {d_X4_shortest : Nat} {s_X4_shortest : zq_Sp} (h_X4_shortest : zq_M yX4_shortest cX4_shortest 5 (some .int) 1 d_X4_shortest s_X4_shortest) (g_X4_shortest : d_X4_shortest + 1 ≤ d) {d_X4_reached : Nat} {s_X4_reached : zq_Sp} (h_X4_reached : zq_M yX4_reached cX4_reached 3 (some .int) 1 d_X4_reached s_X4_reached) (g_X4_reached : d_X4_reached + 1 ≤ d) {J2 : zq_P} (j2 : zq_ok X 5 2 J2) {J12 : zq_P} (j12 : zq_ok X 5 12 J12) {J59 : zq_P} (j59 : zq_ok X 5 59 J59) {J75 : zq_P} (j75 : zq_ok X 5 75 J75) {Q : zq_Q} (hq : zq_R X none 0 Q) : zq_ok X 5 0 (xX4_spread_0 s_X4_shortest s_X4_reached J2 J12 J59 J75 Q) := by
  refine zs_iconst C dX4_spread_0 (by decide) ?_
  refine zs_istore_n C dX4_spread_1 rfl (by decide) ?_
  exact j2
theorem mX4_spread {d : Nat} {spec : zq_Sp} {σ2 : Type} {σ12 : Type} {σ59 : Type} {σ75 : Type} {d_X4_shortest : Nat} {s_X4_shortest : zq_Sp} (h_X4_shortest : zq_M yX4_shortest cX4_shortest 5 (some .int) 1 d_X4_shortest s_X4_shortest) (g_X4_shortest : d_X4_shortest + 1 ≤ d) {d_X4_reached : Nat} {s_X4_reached : zq_Sp} (h_X4_reached : zq_M yX4_reached cX4_reached 3 (some .int) 1 d_X4_reached s_X4_reached) (g_X4_reached : d_X4_reached + 1 ≤ d) (hd1 : 1 ≤ d) (μ2 : σ2 → Nat) (I2 : zq_Q → σ2 → zq_P) (μ12 : σ12 → Nat) (I12 : zq_Q → σ12 → zq_P) (μ59 : σ59 → Nat) (I59 : zq_Q → σ59 → zq_P) (μ75 : σ75 → Nat) (I75 : zq_Q → σ75 → zq_P) (v : ∀ args h Q, spec args h Q → (zq_a args).length ≤ 5 ∧ xX4_spread_0 s_X4_shortest s_X4_reached (fun ls st h => ∃ b, I2 Q b ls st h) (fun ls st h => ∃ b, I12 Q b ls st h) (fun ls st h => ∃ b, I59 Q b ls st h) (fun ls st h => ∃ b, I75 Q b ls st h) Q (zq_l0 5 args) [] h) (v2 : ∀ Q a ls st h, I2 Q a ls st h → xX4_spread_2 s_X4_shortest s_X4_reached (fun ls st h => ∃ b, μ2 b < μ2 a ∧ I2 Q b ls st h) (fun ls st h => ∃ b, μ12 b < μ2 a ∧ I12 Q b ls st h) (fun ls st h => ∃ b, μ59 b < μ2 a ∧ I59 Q b ls st h) (fun ls st h => ∃ b, μ75 b < μ2 a ∧ I75 Q b ls st h) Q ls st h) (v12 : ∀ Q a ls st h, I12 Q a ls st h → xX4_spread_12 s_X4_shortest s_X4_reached (fun ls st h => ∃ b, μ2 b < μ12 a ∧ I2 Q b ls st h) (fun ls st h => ∃ b, μ12 b < μ12 a ∧ I12 Q b ls st h) (fun ls st h => ∃ b, μ59 b < μ12 a ∧ I59 Q b ls st h) (fun ls st h => ∃ b, μ75 b < μ12 a ∧ I75 Q b ls st h) Q ls st h) (v59 : ∀ Q a ls st h, I59 Q a ls st h → xX4_spread_59 s_X4_shortest s_X4_reached (fun ls st h => ∃ b, μ2 b < μ59 a ∧ I2 Q b ls st h) (fun ls st h => ∃ b, μ12 b < μ59 a ∧ I12 Q b ls st h) (fun ls st h => ∃ b, μ59 b < μ59 a ∧ I59 Q b ls st h) (fun ls st h => ∃ b, μ75 b < μ59 a ∧ I75 Q b ls st h) Q ls st h) (v75 : ∀ Q a ls st h, I75 Q a ls st h → xX4_spread_75 s_X4_shortest s_X4_reached (fun ls st h => ∃ b, μ2 b < μ75 a ∧ I2 Q b ls st h) (fun ls st h => ∃ b, μ12 b < μ75 a ∧ I12 Q b ls st h) (fun ls st h => ∃ b, μ59 b < μ75 a ∧ I59 Q b ls st h) (fun ls st h => ∃ b, μ75 b < μ75 a ∧ I75 Q b ls st h) Q ls st h) : zq_M yX4_spread cX4_spread 5 none 0 d spec := by
  refine zq_met (by decide +kernel) (by decide) (fun X Q args h C hq hs => ⟨(v args h Q hs).1, _, ?_, (v args h Q hs).2⟩)
  have hl := zq_loop4 (X := X) (nL := 5) (pc1 := 2) (pc2 := 12) (pc3 := 59) (pc4 := 75) μ2 μ12 μ59 μ75 (I2 Q) (I12 Q) (I59 Q) (I75 Q) (fun J2 J12 J59 J75 => xX4_spread_2 s_X4_shortest s_X4_reached J2 J12 J59 J75 Q) (fun J2 J12 J59 J75 => xX4_spread_12 s_X4_shortest s_X4_reached J2 J12 J59 J75 Q) (fun J2 J12 J59 J75 => xX4_spread_59 s_X4_shortest s_X4_reached J2 J12 J59 J75 Q) (fun J2 J12 J59 J75 => xX4_spread_75 s_X4_shortest s_X4_reached J2 J12 J59 J75 Q) (fun j2 j12 j59 j75 => kX4_spread_2 C hd1 h_X4_shortest g_X4_shortest h_X4_reached g_X4_reached j2 j12 j59 j75 hq) (fun j2 j12 j59 j75 => kX4_spread_12 C hd1 h_X4_shortest g_X4_shortest h_X4_reached g_X4_reached j2 j12 j59 j75 hq) (fun j2 j12 j59 j75 => kX4_spread_59 C hd1 h_X4_shortest g_X4_shortest h_X4_reached g_X4_reached j2 j12 j59 j75 hq) (fun j2 j12 j59 j75 => kX4_spread_75 C hd1 h_X4_shortest g_X4_shortest h_X4_reached g_X4_reached j2 j12 j59 j75 hq) (v2 Q) (v12 Q) (v59 Q) (v75 Q)
  exact kX4_spread_0 C hd1 h_X4_shortest g_X4_shortest h_X4_reached g_X4_reached hl.1 hl.2.1 hl.2.2.1 hl.2.2.2 hq
/-! ToOneCrumb$Placing.shortest(LToOneCrumb$Worths;II)I -/
theorem dX4_shortest_0 : decode cX4_shortest 0 = .ok (.iload_n 3, 1) := by decide +kernel
theorem dX4_shortest_1 : decode cX4_shortest 1 = .ok (.istore 4, 2) := by decide +kernel
theorem dX4_shortest_3 : decode cX4_shortest 3 = .ok (.iload 4, 2) := by decide +kernel
theorem dX4_shortest_5 : decode cX4_shortest 5 = .ok (.aload_n 0, 1) := by decide +kernel
theorem dX4_shortest_6 : decode cX4_shortest 6 = .ok (.getfield 35, 3) := by decide +kernel
theorem dX4_shortest_9 : decode cX4_shortest 9 = .ok (.if_icmp .gt 43, 3) := by decide +kernel
theorem dX4_shortest_12 : decode cX4_shortest 12 = .ok (.aload_n 1, 1) := by decide +kernel
theorem dX4_shortest_13 : decode cX4_shortest 13 = .ok (.aload_n 0, 1) := by decide +kernel
theorem dX4_shortest_14 : decode cX4_shortest 14 = .ok (.getfield 11, 3) := by decide +kernel
theorem dX4_shortest_17 : decode cX4_shortest 17 = .ok (.iload_n 2, 1) := by decide +kernel
theorem dX4_shortest_18 : decode cX4_shortest 18 = .ok (.iaload, 1) := by decide +kernel
theorem dX4_shortest_19 : decode cX4_shortest 19 = .ok (.iload_n 3, 1) := by decide +kernel
theorem dX4_shortest_20 : decode cX4_shortest 20 = .ok (.iload 4, 2) := by decide +kernel
theorem dX4_shortest_22 : decode cX4_shortest 22 = .ok (.invokevirtual 76, 3) := by decide +kernel
theorem dX4_shortest_25 : decode cX4_shortest 25 = .ok (.i2l, 1) := by decide +kernel
theorem dX4_shortest_26 : decode cX4_shortest 26 = .ok (.aload_n 0, 1) := by decide +kernel
theorem dX4_shortest_27 : decode cX4_shortest 27 = .ok (.getfield 15, 3) := by decide +kernel
theorem dX4_shortest_30 : decode cX4_shortest 30 = .ok (.iload_n 2, 1) := by decide +kernel
theorem dX4_shortest_31 : decode cX4_shortest 31 = .ok (.laload, 1) := by decide +kernel
theorem dX4_shortest_32 : decode cX4_shortest 32 = .ok (.lmul, 1) := by decide +kernel
theorem dX4_shortest_33 : decode cX4_shortest 33 = .ok (.aload_n 0, 1) := by decide +kernel
theorem dX4_shortest_34 : decode cX4_shortest 34 = .ok (.getfield 19, 3) := by decide +kernel
theorem dX4_shortest_37 : decode cX4_shortest 37 = .ok (.iload_n 2, 1) := by decide +kernel
theorem dX4_shortest_38 : decode cX4_shortest 38 = .ok (.laload, 1) := by decide +kernel
theorem dX4_shortest_39 : decode cX4_shortest 39 = .ok (.lcmp, 1) := by decide +kernel
theorem dX4_shortest_40 : decode cX4_shortest 40 = .ok (.ifCond .lt 6, 3) := by decide +kernel
theorem dX4_shortest_43 : decode cX4_shortest 43 = .ok (.iload 4, 2) := by decide +kernel
theorem dX4_shortest_45 : decode cX4_shortest 45 = .ok (.ireturn, 1) := by decide +kernel
theorem dX4_shortest_46 : decode cX4_shortest 46 = .ok (.iinc 4 1, 3) := by decide +kernel
theorem dX4_shortest_49 : decode cX4_shortest 49 = .ok (.goto (-46), 3) := by decide +kernel
theorem dX4_shortest_52 : decode cX4_shortest 52 = .ok (.bipush 17, 2) := by decide +kernel
theorem dX4_shortest_54 : decode cX4_shortest 54 = .ok (.ireturn, 1) := by decide +kernel
def xX4_shortest_52 (s_X10_between : zq_Sp) (J3 : zq_P) (Q : zq_Q) (ls : zq_L) (st : List Value) (h : zq_H) : Prop := (zi_push (.int 17) (zi_iret Q)) ls st h
theorem kX4_shortest_52 {X : zq_X} {d : Nat} (C : zq_C X cX4_shortest 5 RX4 d) {d_X10_between : Nat} {s_X10_between : zq_Sp} (h_X10_between : zq_M yX10_between cX10_between 4 (some .int) 1 d_X10_between s_X10_between) (g_X10_between : d_X10_between + 1 ≤ d) {J3 : zq_P} (j3 : zq_ok X 5 3 J3) {Q : zq_Q} (hq : zq_R X (some .int) 1 Q) : zq_ok X 5 52 (xX4_shortest_52 s_X10_between J3 Q) := by
  refine zs_bipush C dX4_shortest_52 (by decide) ?_
  exact zs_iret C hq dX4_shortest_54
def xX4_shortest_46 (s_X10_between : zq_Sp) (J3 : zq_P) (Q : zq_Q) (ls : zq_L) (st : List Value) (h : zq_H) : Prop := (zi_iinc 4 1 (J3)) ls st h
theorem kX4_shortest_46 {X : zq_X} {d : Nat} (C : zq_C X cX4_shortest 5 RX4 d) {d_X10_between : Nat} {s_X10_between : zq_Sp} (h_X10_between : zq_M yX10_between cX10_between 4 (some .int) 1 d_X10_between s_X10_between) (g_X10_between : d_X10_between + 1 ≤ d) {J3 : zq_P} (j3 : zq_ok X 5 3 J3) {Q : zq_Q} (hq : zq_R X (some .int) 1 Q) : zq_ok X 5 46 (xX4_shortest_46 s_X10_between J3 Q) := by
  refine zs_iinc C dX4_shortest_46 (by decide) (by decide) ?_
  exact zs_goto C dX4_shortest_49 (by decide) (j3)
def xX4_shortest_43 (s_X10_between : zq_Sp) (J3 : zq_P) (Q : zq_Q) (ls : zq_L) (st : List Value) (h : zq_H) : Prop := (zi_iload 4 (zi_iret Q)) ls st h
theorem kX4_shortest_43 {X : zq_X} {d : Nat} (C : zq_C X cX4_shortest 5 RX4 d) {d_X10_between : Nat} {s_X10_between : zq_Sp} (h_X10_between : zq_M yX10_between cX10_between 4 (some .int) 1 d_X10_between s_X10_between) (g_X10_between : d_X10_between + 1 ≤ d) {J3 : zq_P} (j3 : zq_ok X 5 3 J3) {Q : zq_Q} (hq : zq_R X (some .int) 1 Q) : zq_ok X 5 43 (xX4_shortest_43 s_X10_between J3 Q) := by
  refine zs_iload C dX4_shortest_43 ?_
  exact zs_iret C hq dX4_shortest_45
def xX4_shortest_12 (s_X10_between : zq_Sp) (J3 : zq_P) (Q : zq_Q) (ls : zq_L) (st : List Value) (h : zq_H) : Prop := (zi_aload 1 (zi_aload 0 (zi_getR 22 23 (zi_iload 2 (zi_aldI 23 6 (zi_iload 3 (zi_iload 4 (zi_callV 3 9 s_X10_between (zi_i2l (zi_aload 0 (zi_getR 22 24 (zi_iload 2 (zi_aldL 24 6 (zi_l2 (fun x y => x * y) (zi_aload 0 (zi_getR 22 25 (zi_iload 2 (zi_aldL 25 6 (zi_lcmp (zi_if1 (fun x => x < 0) (xX4_shortest_46 s_X10_between J3 Q) (xX4_shortest_43 s_X10_between J3 Q))))))))))))))))))))) ls st h
theorem kX4_shortest_12 {X : zq_X} {d : Nat} (C : zq_C X cX4_shortest 5 RX4 d) {d_X10_between : Nat} {s_X10_between : zq_Sp} (h_X10_between : zq_M yX10_between cX10_between 4 (some .int) 1 d_X10_between s_X10_between) (g_X10_between : d_X10_between + 1 ≤ d) {J3 : zq_P} (j3 : zq_ok X 5 3 J3) {Q : zq_Q} (hq : zq_R X (some .int) 1 Q) : zq_ok X 5 12 (xX4_shortest_12 s_X10_between J3 Q) := by
  refine zs_aload_n C dX4_shortest_12 rfl ?_
  refine zs_aload_n C dX4_shortest_13 rfl ?_
  refine zs_getR C zp_22 zF4 (j := 0) ⟨by decide, rfl⟩ zw_177 dX4_shortest_14 ?_
  refine zs_iload_n C dX4_shortest_17 rfl ?_
  refine zs_iaload C zp_23 dX4_shortest_18 ?_
  refine zs_iload_n C dX4_shortest_19 rfl ?_
  refine zs_iload C dX4_shortest_20 ?_
  refine zs_callV C h_X10_between g_X10_between zy_X10_between zp_9 (show vwCl[10]? = some (RX10, TX10, 3) from rfl) zw_755 zw_598 zs9_X10_between dX4_shortest_22 ?_
  refine zs_i2l C dX4_shortest_25 ?_
  refine zs_aload_n C dX4_shortest_26 rfl ?_
  refine zs_getR C zp_22 zF4 (j := 1) ⟨by decide, rfl⟩ zw_178 dX4_shortest_27 ?_
  refine zs_iload_n C dX4_shortest_30 rfl ?_
  refine zs_laload C zp_24 dX4_shortest_31 ?_
  refine zs_lmul C dX4_shortest_32 ?_
  refine zs_aload_n C dX4_shortest_33 rfl ?_
  refine zs_getR C zp_22 zF4 (j := 2) ⟨by decide, rfl⟩ zw_179 dX4_shortest_34 ?_
  refine zs_iload_n C dX4_shortest_37 rfl ?_
  refine zs_laload C zp_25 dX4_shortest_38 ?_
  refine zs_lcmp C dX4_shortest_39 ?_
  exact zs_if_lt C dX4_shortest_40 (by decide) (kX4_shortest_46 C h_X10_between g_X10_between j3 hq) (kX4_shortest_43 C h_X10_between g_X10_between j3 hq)
def xX4_shortest_3 (s_X10_between : zq_Sp) (J3 : zq_P) (Q : zq_Q) (ls : zq_L) (st : List Value) (h : zq_H) : Prop := (zi_iload 4 (zi_aload 0 (zi_getI 22 7 (zi_if2 (fun x y => y < x) (xX4_shortest_52 s_X10_between J3 Q) (xX4_shortest_12 s_X10_between J3 Q))))) ls st h
theorem kX4_shortest_3 {X : zq_X} {d : Nat} (C : zq_C X cX4_shortest 5 RX4 d) {d_X10_between : Nat} {s_X10_between : zq_Sp} (h_X10_between : zq_M yX10_between cX10_between 4 (some .int) 1 d_X10_between s_X10_between) (g_X10_between : d_X10_between + 1 ≤ d) {J3 : zq_P} (j3 : zq_ok X 5 3 J3) {Q : zq_Q} (hq : zq_R X (some .int) 1 Q) : zq_ok X 5 3 (xX4_shortest_3 s_X10_between J3 Q) := by
  refine zs_iload C dX4_shortest_3 ?_
  refine zs_aload_n C dX4_shortest_5 rfl ?_
  refine zs_getI C zp_22 zF4 (j := 7) ⟨by decide, rfl⟩ zw_186 dX4_shortest_6 ?_
  exact zs_icmp_gt C dX4_shortest_9 (by decide) (kX4_shortest_52 C h_X10_between g_X10_between j3 hq) (kX4_shortest_12 C h_X10_between g_X10_between j3 hq)
def xX4_shortest_0 (s_X10_between : zq_Sp) (J3 : zq_P) (Q : zq_Q) (ls : zq_L) (st : List Value) (h : zq_H) : Prop := (zi_iload 3 (zi_istore 4 (J3))) ls st h
theorem kX4_shortest_0 {X : zq_X} {d : Nat} (C : zq_C X cX4_shortest 5 RX4 d) {d_X10_between : Nat} {s_X10_between : zq_Sp} (h_X10_between : zq_M yX10_between cX10_between 4 (some .int) 1 d_X10_between s_X10_between) (g_X10_between : d_X10_between + 1 ≤ d) {J3 : zq_P} (j3 : zq_ok X 5 3 J3) {Q : zq_Q} (hq : zq_R X (some .int) 1 Q) : zq_ok X 5 0 (xX4_shortest_0 s_X10_between J3 Q) := by
  refine zs_iload_n C dX4_shortest_0 rfl ?_
  refine zs_istore C dX4_shortest_1 (by decide) ?_
  exact j3
theorem mX4_shortest {d : Nat} {spec : zq_Sp} {σ3 : Type} {d_X10_between : Nat} {s_X10_between : zq_Sp} (h_X10_between : zq_M yX10_between cX10_between 4 (some .int) 1 d_X10_between s_X10_between) (g_X10_between : d_X10_between + 1 ≤ d) (μ3 : σ3 → Nat) (I3 : zq_Q → σ3 → zq_P) (v : ∀ args h Q, spec args h Q → (zq_a args).length ≤ 5 ∧ xX4_shortest_0 s_X10_between (fun ls st h => ∃ b, I3 Q b ls st h) Q (zq_l0 5 args) [] h) (v3 : ∀ Q a ls st h, I3 Q a ls st h → xX4_shortest_3 s_X10_between (fun ls st h => ∃ b, μ3 b < μ3 a ∧ I3 Q b ls st h) Q ls st h) : zq_M yX4_shortest cX4_shortest 5 (some .int) 1 d spec := by
  refine zq_met (by decide +kernel) (by decide) (fun X Q args h C hq hs => ⟨(v args h Q hs).1, _, ?_, (v args h Q hs).2⟩)
  have hl := zq_loop1 (X := X) (nL := 5) (pc1 := 3) μ3 (I3 Q) (fun J3 => xX4_shortest_3 s_X10_between J3 Q) (fun j3 => kX4_shortest_3 C h_X10_between g_X10_between j3 hq) (v3 Q)
  exact kX4_shortest_0 C h_X10_between g_X10_between hl hq
/-! ToOneCrumb$Placing.reached(II)I -/
theorem dX4_reached_0 : decode cX4_reached 0 = .ok (.iload_n 2, 1) := by decide +kernel
theorem dX4_reached_1 : decode cX4_reached 1 = .ok (.aload_n 0, 1) := by decide +kernel
theorem dX4_reached_2 : decode cX4_reached 2 = .ok (.getfield 35, 3) := by decide +kernel
theorem dX4_reached_5 : decode cX4_reached 5 = .ok (.if_icmp .gt 17, 3) := by decide +kernel
theorem dX4_reached_8 : decode cX4_reached 8 = .ok (.aload_n 0, 1) := by decide +kernel
theorem dX4_reached_9 : decode cX4_reached 9 = .ok (.getfield 22, 3) := by decide +kernel
theorem dX4_reached_12 : decode cX4_reached 12 = .ok (.iload_n 1, 1) := by decide +kernel
theorem dX4_reached_13 : decode cX4_reached 13 = .ok (.bipush 17, 2) := by decide +kernel
theorem dX4_reached_15 : decode cX4_reached 15 = .ok (.imul, 1) := by decide +kernel
theorem dX4_reached_16 : decode cX4_reached 16 = .ok (.iload_n 2, 1) := by decide +kernel
theorem dX4_reached_17 : decode cX4_reached 17 = .ok (.iadd, 1) := by decide +kernel
theorem dX4_reached_18 : decode cX4_reached 18 = .ok (.iaload, 1) := by decide +kernel
theorem dX4_reached_19 : decode cX4_reached 19 = .ok (.goto 5, 3) := by decide +kernel
theorem dX4_reached_22 : decode cX4_reached 22 = .ok (.bipush 17, 2) := by decide +kernel
theorem dX4_reached_24 : decode cX4_reached 24 = .ok (.ireturn, 1) := by decide +kernel
def xX4_reached_24 (Q : zq_Q) (ls : zq_L) (st : List Value) (h : zq_H) : Prop := (zi_iret Q) ls st h
theorem kX4_reached_24 {X : zq_X} {d : Nat} (C : zq_C X cX4_reached 3 RX4 d) {Q : zq_Q} (hq : zq_R X (some .int) 1 Q) : zq_ok X 3 24 (xX4_reached_24 Q) := by
  exact zs_iret C hq dX4_reached_24
def xX4_reached_22 (Q : zq_Q) (ls : zq_L) (st : List Value) (h : zq_H) : Prop := (zi_push (.int 17) ((xX4_reached_24 Q))) ls st h
theorem kX4_reached_22 {X : zq_X} {d : Nat} (C : zq_C X cX4_reached 3 RX4 d) {Q : zq_Q} (hq : zq_R X (some .int) 1 Q) : zq_ok X 3 22 (xX4_reached_22 Q) := by
  refine zs_bipush C dX4_reached_22 (by decide) ?_
  exact kX4_reached_24 C hq
def xX4_reached_8 (Q : zq_Q) (ls : zq_L) (st : List Value) (h : zq_H) : Prop := (zi_aload 0 (zi_getR 22 26 (zi_iload 1 (zi_push (.int 17) (zi_i2 (fun x y => x * y) (zi_iload 2 (zi_i2 (fun x y => x + y) (zi_aldI 26 102 ((xX4_reached_24 Q)))))))))) ls st h
theorem kX4_reached_8 {X : zq_X} {d : Nat} (C : zq_C X cX4_reached 3 RX4 d) {Q : zq_Q} (hq : zq_R X (some .int) 1 Q) : zq_ok X 3 8 (xX4_reached_8 Q) := by
  refine zs_aload_n C dX4_reached_8 rfl ?_
  refine zs_getR C zp_22 zF4 (j := 3) ⟨by decide, rfl⟩ zw_180 dX4_reached_9 ?_
  refine zs_iload_n C dX4_reached_12 rfl ?_
  refine zs_bipush C dX4_reached_13 (by decide) ?_
  refine zs_imul C dX4_reached_15 ?_
  refine zs_iload_n C dX4_reached_16 rfl ?_
  refine zs_iadd C dX4_reached_17 ?_
  refine zs_iaload C zp_26 dX4_reached_18 ?_
  exact zs_goto C dX4_reached_19 (by decide) (kX4_reached_24 C hq)
def xX4_reached_0 (Q : zq_Q) (ls : zq_L) (st : List Value) (h : zq_H) : Prop := (zi_iload 2 (zi_aload 0 (zi_getI 22 7 (zi_if2 (fun x y => y < x) (xX4_reached_22 Q) (xX4_reached_8 Q))))) ls st h
theorem kX4_reached_0 {X : zq_X} {d : Nat} (C : zq_C X cX4_reached 3 RX4 d) {Q : zq_Q} (hq : zq_R X (some .int) 1 Q) : zq_ok X 3 0 (xX4_reached_0 Q) := by
  refine zs_iload_n C dX4_reached_0 rfl ?_
  refine zs_aload_n C dX4_reached_1 rfl ?_
  refine zs_getI C zp_22 zF4 (j := 7) ⟨by decide, rfl⟩ zw_186 dX4_reached_2 ?_
  exact zs_icmp_gt C dX4_reached_5 (by decide) (kX4_reached_22 C hq) (kX4_reached_8 C hq)
theorem mX4_reached {d : Nat} {spec : zq_Sp} (v : ∀ args h Q, spec args h Q → (zq_a args).length ≤ 3 ∧ xX4_reached_0 Q (zq_l0 3 args) [] h) : zq_M yX4_reached cX4_reached 3 (some .int) 1 d spec := by
  refine zq_met (by decide +kernel) (by decide) (fun X Q args h C hq hs => ⟨(v args h Q hs).1, _, ?_, (v args h Q hs).2⟩)
  exact kX4_reached_0 C hq
/-! ToOneCrumb$Placing.canServe(I)Z -/
theorem dX4_canServe_0 : decode cX4_canServe 0 = .ok (.aload_n 0, 1) := by decide +kernel
theorem dX4_canServe_1 : decode cX4_canServe 1 = .ok (.getfield 25, 3) := by decide +kernel
theorem dX4_canServe_4 : decode cX4_canServe 4 = .ok (.iload_n 1, 1) := by decide +kernel
theorem dX4_canServe_5 : decode cX4_canServe 5 = .ok (.iaload, 1) := by decide +kernel
theorem dX4_canServe_6 : decode cX4_canServe 6 = .ok (.aload_n 0, 1) := by decide +kernel
theorem dX4_canServe_7 : decode cX4_canServe 7 = .ok (.getfield 35, 3) := by decide +kernel
theorem dX4_canServe_10 : decode cX4_canServe 10 = .ok (.if_icmp .gt 7, 3) := by decide +kernel
theorem dX4_canServe_13 : decode cX4_canServe 13 = .ok (.iconst 1, 1) := by decide +kernel
theorem dX4_canServe_14 : decode cX4_canServe 14 = .ok (.goto 4, 3) := by decide +kernel
theorem dX4_canServe_17 : decode cX4_canServe 17 = .ok (.iconst 0, 1) := by decide +kernel
theorem dX4_canServe_18 : decode cX4_canServe 18 = .ok (.ireturn, 1) := by decide +kernel
def xX4_canServe_18 (Q : zq_Q) (ls : zq_L) (st : List Value) (h : zq_H) : Prop := (zi_zret Q) ls st h
theorem kX4_canServe_18 {X : zq_X} {d : Nat} (C : zq_C X cX4_canServe 2 RX4 d) {Q : zq_Q} (hq : zq_R X (some .boolean) 1 Q) : zq_ok X 2 18 (xX4_canServe_18 Q) := by
  exact zs_zret C hq dX4_canServe_18
def xX4_canServe_17 (Q : zq_Q) (ls : zq_L) (st : List Value) (h : zq_H) : Prop := (zi_push (.int 0) ((xX4_canServe_18 Q))) ls st h
theorem kX4_canServe_17 {X : zq_X} {d : Nat} (C : zq_C X cX4_canServe 2 RX4 d) {Q : zq_Q} (hq : zq_R X (some .boolean) 1 Q) : zq_ok X 2 17 (xX4_canServe_17 Q) := by
  refine zs_iconst C dX4_canServe_17 (by decide) ?_
  exact kX4_canServe_18 C hq
def xX4_canServe_13 (Q : zq_Q) (ls : zq_L) (st : List Value) (h : zq_H) : Prop := (zi_push (.int 1) ((xX4_canServe_18 Q))) ls st h
theorem kX4_canServe_13 {X : zq_X} {d : Nat} (C : zq_C X cX4_canServe 2 RX4 d) {Q : zq_Q} (hq : zq_R X (some .boolean) 1 Q) : zq_ok X 2 13 (xX4_canServe_13 Q) := by
  refine zs_iconst C dX4_canServe_13 (by decide) ?_
  exact zs_goto C dX4_canServe_14 (by decide) (kX4_canServe_18 C hq)
def xX4_canServe_0 (Q : zq_Q) (ls : zq_L) (st : List Value) (h : zq_H) : Prop := (zi_aload 0 (zi_getR 22 27 (zi_iload 1 (zi_aldI 27 64 (zi_aload 0 (zi_getI 22 7 (zi_if2 (fun x y => y < x) (xX4_canServe_17 Q) (xX4_canServe_13 Q)))))))) ls st h
theorem kX4_canServe_0 {X : zq_X} {d : Nat} (C : zq_C X cX4_canServe 2 RX4 d) {Q : zq_Q} (hq : zq_R X (some .boolean) 1 Q) : zq_ok X 2 0 (xX4_canServe_0 Q) := by
  refine zs_aload_n C dX4_canServe_0 rfl ?_
  refine zs_getR C zp_22 zF4 (j := 4) ⟨by decide, rfl⟩ zw_181 dX4_canServe_1 ?_
  refine zs_iload_n C dX4_canServe_4 rfl ?_
  refine zs_iaload C zp_27 dX4_canServe_5 ?_
  refine zs_aload_n C dX4_canServe_6 rfl ?_
  refine zs_getI C zp_22 zF4 (j := 7) ⟨by decide, rfl⟩ zw_186 dX4_canServe_7 ?_
  exact zs_icmp_gt C dX4_canServe_10 (by decide) (kX4_canServe_17 C hq) (kX4_canServe_13 C hq)
theorem mX4_canServe {d : Nat} {spec : zq_Sp} (v : ∀ args h Q, spec args h Q → (zq_a args).length ≤ 2 ∧ xX4_canServe_0 Q (zq_l0 2 args) [] h) : zq_M yX4_canServe cX4_canServe 2 (some .boolean) 1 d spec := by
  refine zq_met (by decide +kernel) (by decide) (fun X Q args h C hq hs => ⟨(v args h Q hs).1, _, ?_, (v args h Q hs).2⟩)
  exact kX4_canServe_0 C hq
/-! ToOneCrumb$Placing.tellOrder(ILToOneCrumb$Row;)V -/
theorem dX4_tellOrder_0 : decode cX4_tellOrder 0 = .ok (.aload_n 0, 1) := by decide +kernel
theorem dX4_tellOrder_1 : decode cX4_tellOrder 1 = .ok (.getfield 25, 3) := by decide +kernel
theorem dX4_tellOrder_4 : decode cX4_tellOrder 4 = .ok (.iload_n 1, 1) := by decide +kernel
theorem dX4_tellOrder_5 : decode cX4_tellOrder 5 = .ok (.iaload, 1) := by decide +kernel
theorem dX4_tellOrder_6 : decode cX4_tellOrder 6 = .ok (.istore_n 3, 1) := by decide +kernel
theorem dX4_tellOrder_7 : decode cX4_tellOrder 7 = .ok (.aload_n 0, 1) := by decide +kernel
theorem dX4_tellOrder_8 : decode cX4_tellOrder 8 = .ok (.iload_n 1, 1) := by decide +kernel
theorem dX4_tellOrder_9 : decode cX4_tellOrder 9 = .ok (.iconst 0, 1) := by decide +kernel
theorem dX4_tellOrder_10 : decode cX4_tellOrder 10 = .ok (.iconst 0, 1) := by decide +kernel
theorem dX4_tellOrder_11 : decode cX4_tellOrder 11 = .ok (.iload_n 3, 1) := by decide +kernel
theorem dX4_tellOrder_12 : decode cX4_tellOrder 12 = .ok (.invokevirtual 82, 3) := by decide +kernel
theorem dX4_tellOrder_15 : decode cX4_tellOrder 15 = .ok (.ifCond .ne 4, 3) := by decide +kernel
theorem dX4_tellOrder_18 : decode cX4_tellOrder 18 = .ok (.return_, 1) := by decide +kernel
theorem dX4_tellOrder_19 : decode cX4_tellOrder 19 = .ok (.iconst 0, 1) := by decide +kernel
theorem dX4_tellOrder_20 : decode cX4_tellOrder 20 = .ok (.istore 4, 2) := by decide +kernel
theorem dX4_tellOrder_22 : decode cX4_tellOrder 22 = .ok (.iload_n 1, 1) := by decide +kernel
theorem dX4_tellOrder_23 : decode cX4_tellOrder 23 = .ok (.invokestatic 86, 3) := by decide +kernel
theorem dX4_tellOrder_26 : decode cX4_tellOrder 26 = .ok (.istore 5, 2) := by decide +kernel
theorem dX4_tellOrder_28 : decode cX4_tellOrder 28 = .ok (.iconst 0, 1) := by decide +kernel
theorem dX4_tellOrder_29 : decode cX4_tellOrder 29 = .ok (.istore 6, 2) := by decide +kernel
theorem dX4_tellOrder_31 : decode cX4_tellOrder 31 = .ok (.iload 6, 2) := by decide +kernel
theorem dX4_tellOrder_33 : decode cX4_tellOrder 33 = .ok (.iload 5, 2) := by decide +kernel
theorem dX4_tellOrder_35 : decode cX4_tellOrder 35 = .ok (.if_icmp .ge 67, 3) := by decide +kernel
theorem dX4_tellOrder_38 : decode cX4_tellOrder 38 = .ok (.aload_n 0, 1) := by decide +kernel
theorem dX4_tellOrder_39 : decode cX4_tellOrder 39 = .ok (.aload_n 0, 1) := by decide +kernel
theorem dX4_tellOrder_40 : decode cX4_tellOrder 40 = .ok (.getfield 28, 3) := by decide +kernel
theorem dX4_tellOrder_43 : decode cX4_tellOrder 43 = .ok (.iload 6, 2) := by decide +kernel
theorem dX4_tellOrder_45 : decode cX4_tellOrder 45 = .ok (.iaload, 1) := by decide +kernel
theorem dX4_tellOrder_46 : decode cX4_tellOrder 46 = .ok (.iload 4, 2) := by decide +kernel
theorem dX4_tellOrder_48 : decode cX4_tellOrder 48 = .ok (.invokevirtual 67, 3) := by decide +kernel
theorem dX4_tellOrder_51 : decode cX4_tellOrder 51 = .ok (.istore 7, 2) := by decide +kernel
theorem dX4_tellOrder_53 : decode cX4_tellOrder 53 = .ok (.aload_n 2, 1) := by decide +kernel
theorem dX4_tellOrder_54 : decode cX4_tellOrder 54 = .ok (.aload_n 0, 1) := by decide +kernel
theorem dX4_tellOrder_55 : decode cX4_tellOrder 55 = .ok (.getfield 11, 3) := by decide +kernel
theorem dX4_tellOrder_58 : decode cX4_tellOrder 58 = .ok (.aload_n 0, 1) := by decide +kernel
theorem dX4_tellOrder_59 : decode cX4_tellOrder 59 = .ok (.getfield 28, 3) := by decide +kernel
theorem dX4_tellOrder_62 : decode cX4_tellOrder 62 = .ok (.iload 6, 2) := by decide +kernel
theorem dX4_tellOrder_64 : decode cX4_tellOrder 64 = .ok (.iaload, 1) := by decide +kernel
theorem dX4_tellOrder_65 : decode cX4_tellOrder 65 = .ok (.iaload, 1) := by decide +kernel
theorem dX4_tellOrder_66 : decode cX4_tellOrder 66 = .ok (.i2l, 1) := by decide +kernel
theorem dX4_tellOrder_67 : decode cX4_tellOrder 67 = .ok (.invokevirtual 91, 3) := by decide +kernel
theorem dX4_tellOrder_70 : decode cX4_tellOrder 70 = .ok (.aload_n 2, 1) := by decide +kernel
theorem dX4_tellOrder_71 : decode cX4_tellOrder 71 = .ok (.iload 7, 2) := by decide +kernel
theorem dX4_tellOrder_73 : decode cX4_tellOrder 73 = .ok (.iload 4, 2) := by decide +kernel
theorem dX4_tellOrder_75 : decode cX4_tellOrder 75 = .ok (.if_icmp .ne 9, 3) := by decide +kernel
theorem dX4_tellOrder_78 : decode cX4_tellOrder 78 = .ok (.ldc2_w 97, 3) := by decide +kernel
theorem dX4_tellOrder_81 : decode cX4_tellOrder 81 = .ok (.goto 8, 3) := by decide +kernel
theorem dX4_tellOrder_84 : decode cX4_tellOrder 84 = .ok (.iload 7, 2) := by decide +kernel
theorem dX4_tellOrder_86 : decode cX4_tellOrder 86 = .ok (.iconst 1, 1) := by decide +kernel
theorem dX4_tellOrder_87 : decode cX4_tellOrder 87 = .ok (.isub, 1) := by decide +kernel
theorem dX4_tellOrder_88 : decode cX4_tellOrder 88 = .ok (.i2l, 1) := by decide +kernel
theorem dX4_tellOrder_89 : decode cX4_tellOrder 89 = .ok (.invokevirtual 91, 3) := by decide +kernel
theorem dX4_tellOrder_92 : decode cX4_tellOrder 92 = .ok (.iload 7, 2) := by decide +kernel
theorem dX4_tellOrder_94 : decode cX4_tellOrder 94 = .ok (.istore 4, 2) := by decide +kernel
theorem dX4_tellOrder_96 : decode cX4_tellOrder 96 = .ok (.iinc 6 1, 3) := by decide +kernel
theorem dX4_tellOrder_99 : decode cX4_tellOrder 99 = .ok (.goto (-68), 3) := by decide +kernel
theorem dX4_tellOrder_102 : decode cX4_tellOrder 102 = .ok (.return_, 1) := by decide +kernel
def xX4_tellOrder_102 (s_X4_findOrder : zq_Sp) (s_J6_bitCount_0f7a4 : zq_Sp) (s_X4_reached : zq_Sp) (s_X5_add : zq_Sp) (J31 : zq_P) (Q : zq_Q) (ls : zq_L) (st : List Value) (h : zq_H) : Prop := (zi_vret Q) ls st h
theorem kX4_tellOrder_102 {X : zq_X} {d : Nat} (C : zq_C X cX4_tellOrder 8 RX4 d) {d_X4_findOrder : Nat} {s_X4_findOrder : zq_Sp} (h_X4_findOrder : zq_M yX4_findOrder cX4_findOrder 7 (some .boolean) 1 d_X4_findOrder s_X4_findOrder) (g_X4_findOrder : d_X4_findOrder + 1 ≤ d) {d_J6_bitCount_0f7a4 : Nat} {s_J6_bitCount_0f7a4 : zq_Sp} (h_J6_bitCount_0f7a4 : zq_M yJ6_bitCount_0f7a4 cJ6_bitCount_0f7a4 1 (some .int) 1 d_J6_bitCount_0f7a4 s_J6_bitCount_0f7a4) (g_J6_bitCount_0f7a4 : d_J6_bitCount_0f7a4 + 1 ≤ d) {d_X4_reached : Nat} {s_X4_reached : zq_Sp} (h_X4_reached : zq_M yX4_reached cX4_reached 3 (some .int) 1 d_X4_reached s_X4_reached) (g_X4_reached : d_X4_reached + 1 ≤ d) {d_X5_add : Nat} {s_X5_add : zq_Sp} (h_X5_add : zq_M yX5_add cX5_add 3 none 0 d_X5_add s_X5_add) (g_X5_add : d_X5_add + 1 ≤ d) {J31 : zq_P} (j31 : zq_ok X 8 31 J31) {Q : zq_Q} (hq : zq_R X none 0 Q) : zq_ok X 8 102 (xX4_tellOrder_102 s_X4_findOrder s_J6_bitCount_0f7a4 s_X4_reached s_X5_add J31 Q) := by
  exact zs_vret C hq dX4_tellOrder_102
def xX4_tellOrder_89 (s_X4_findOrder : zq_Sp) (s_J6_bitCount_0f7a4 : zq_Sp) (s_X4_reached : zq_Sp) (s_X5_add : zq_Sp) (J31 : zq_P) (Q : zq_Q) (ls : zq_L) (st : List Value) (h : zq_H) : Prop := (zi_callV 1 3 s_X5_add (zi_iload 7 (zi_istore 4 (zi_iinc 6 1 (J31))))) ls st h
theorem kX4_tellOrder_89 {X : zq_X} {d : Nat} (C : zq_C X cX4_tellOrder 8 RX4 d) {d_X4_findOrder : Nat} {s_X4_findOrder : zq_Sp} (h_X4_findOrder : zq_M yX4_findOrder cX4_findOrder 7 (some .boolean) 1 d_X4_findOrder s_X4_findOrder) (g_X4_findOrder : d_X4_findOrder + 1 ≤ d) {d_J6_bitCount_0f7a4 : Nat} {s_J6_bitCount_0f7a4 : zq_Sp} (h_J6_bitCount_0f7a4 : zq_M yJ6_bitCount_0f7a4 cJ6_bitCount_0f7a4 1 (some .int) 1 d_J6_bitCount_0f7a4 s_J6_bitCount_0f7a4) (g_J6_bitCount_0f7a4 : d_J6_bitCount_0f7a4 + 1 ≤ d) {d_X4_reached : Nat} {s_X4_reached : zq_Sp} (h_X4_reached : zq_M yX4_reached cX4_reached 3 (some .int) 1 d_X4_reached s_X4_reached) (g_X4_reached : d_X4_reached + 1 ≤ d) {d_X5_add : Nat} {s_X5_add : zq_Sp} (h_X5_add : zq_M yX5_add cX5_add 3 none 0 d_X5_add s_X5_add) (g_X5_add : d_X5_add + 1 ≤ d) {J31 : zq_P} (j31 : zq_ok X 8 31 J31) {Q : zq_Q} (hq : zq_R X none 0 Q) : zq_ok X 8 89 (xX4_tellOrder_89 s_X4_findOrder s_J6_bitCount_0f7a4 s_X4_reached s_X5_add J31 Q) := by
  refine zs_callV C h_X5_add g_X5_add zy_X5_add zp_3 (show vwCl[5]? = some (RX5, TX5, 2) from rfl) zw_774 zw_655 zs9_X5_add dX4_tellOrder_89 ?_
  refine zs_iload C dX4_tellOrder_92 ?_
  refine zs_istore C dX4_tellOrder_94 (by decide) ?_
  refine zs_iinc C dX4_tellOrder_96 (by decide) (by decide) ?_
  exact zs_goto C dX4_tellOrder_99 (by decide) (j31)
def xX4_tellOrder_84 (s_X4_findOrder : zq_Sp) (s_J6_bitCount_0f7a4 : zq_Sp) (s_X4_reached : zq_Sp) (s_X5_add : zq_Sp) (J31 : zq_P) (Q : zq_Q) (ls : zq_L) (st : List Value) (h : zq_H) : Prop := (zi_iload 7 (zi_push (.int 1) (zi_i2 (fun x y => x - y) (zi_i2l ((xX4_tellOrder_89 s_X4_findOrder s_J6_bitCount_0f7a4 s_X4_reached s_X5_add J31 Q)))))) ls st h
theorem kX4_tellOrder_84 {X : zq_X} {d : Nat} (C : zq_C X cX4_tellOrder 8 RX4 d) {d_X4_findOrder : Nat} {s_X4_findOrder : zq_Sp} (h_X4_findOrder : zq_M yX4_findOrder cX4_findOrder 7 (some .boolean) 1 d_X4_findOrder s_X4_findOrder) (g_X4_findOrder : d_X4_findOrder + 1 ≤ d) {d_J6_bitCount_0f7a4 : Nat} {s_J6_bitCount_0f7a4 : zq_Sp} (h_J6_bitCount_0f7a4 : zq_M yJ6_bitCount_0f7a4 cJ6_bitCount_0f7a4 1 (some .int) 1 d_J6_bitCount_0f7a4 s_J6_bitCount_0f7a4) (g_J6_bitCount_0f7a4 : d_J6_bitCount_0f7a4 + 1 ≤ d) {d_X4_reached : Nat} {s_X4_reached : zq_Sp} (h_X4_reached : zq_M yX4_reached cX4_reached 3 (some .int) 1 d_X4_reached s_X4_reached) (g_X4_reached : d_X4_reached + 1 ≤ d) {d_X5_add : Nat} {s_X5_add : zq_Sp} (h_X5_add : zq_M yX5_add cX5_add 3 none 0 d_X5_add s_X5_add) (g_X5_add : d_X5_add + 1 ≤ d) {J31 : zq_P} (j31 : zq_ok X 8 31 J31) {Q : zq_Q} (hq : zq_R X none 0 Q) : zq_ok X 8 84 (xX4_tellOrder_84 s_X4_findOrder s_J6_bitCount_0f7a4 s_X4_reached s_X5_add J31 Q) := by
  refine zs_iload C dX4_tellOrder_84 ?_
  refine zs_iconst C dX4_tellOrder_86 (by decide) ?_
  refine zs_isub C dX4_tellOrder_87 ?_
  refine zs_i2l C dX4_tellOrder_88 ?_
  exact kX4_tellOrder_89 C h_X4_findOrder g_X4_findOrder h_J6_bitCount_0f7a4 g_J6_bitCount_0f7a4 h_X4_reached g_X4_reached h_X5_add g_X5_add j31 hq
def xX4_tellOrder_78 (s_X4_findOrder : zq_Sp) (s_J6_bitCount_0f7a4 : zq_Sp) (s_X4_reached : zq_Sp) (s_X5_add : zq_Sp) (J31 : zq_P) (Q : zq_Q) (ls : zq_L) (st : List Value) (h : zq_H) : Prop := (zi_push (.long (-1)) ((xX4_tellOrder_89 s_X4_findOrder s_J6_bitCount_0f7a4 s_X4_reached s_X5_add J31 Q))) ls st h
theorem kX4_tellOrder_78 {X : zq_X} {d : Nat} (C : zq_C X cX4_tellOrder 8 RX4 d) {d_X4_findOrder : Nat} {s_X4_findOrder : zq_Sp} (h_X4_findOrder : zq_M yX4_findOrder cX4_findOrder 7 (some .boolean) 1 d_X4_findOrder s_X4_findOrder) (g_X4_findOrder : d_X4_findOrder + 1 ≤ d) {d_J6_bitCount_0f7a4 : Nat} {s_J6_bitCount_0f7a4 : zq_Sp} (h_J6_bitCount_0f7a4 : zq_M yJ6_bitCount_0f7a4 cJ6_bitCount_0f7a4 1 (some .int) 1 d_J6_bitCount_0f7a4 s_J6_bitCount_0f7a4) (g_J6_bitCount_0f7a4 : d_J6_bitCount_0f7a4 + 1 ≤ d) {d_X4_reached : Nat} {s_X4_reached : zq_Sp} (h_X4_reached : zq_M yX4_reached cX4_reached 3 (some .int) 1 d_X4_reached s_X4_reached) (g_X4_reached : d_X4_reached + 1 ≤ d) {d_X5_add : Nat} {s_X5_add : zq_Sp} (h_X5_add : zq_M yX5_add cX5_add 3 none 0 d_X5_add s_X5_add) (g_X5_add : d_X5_add + 1 ≤ d) {J31 : zq_P} (j31 : zq_ok X 8 31 J31) {Q : zq_Q} (hq : zq_R X none 0 Q) : zq_ok X 8 78 (xX4_tellOrder_78 s_X4_findOrder s_J6_bitCount_0f7a4 s_X4_reached s_X5_add J31 Q) := by
  refine zs_ldc2 C dX4_tellOrder_78 zw_775 ?_
  exact zs_goto C dX4_tellOrder_81 (by decide) (kX4_tellOrder_89 C h_X4_findOrder g_X4_findOrder h_J6_bitCount_0f7a4 g_J6_bitCount_0f7a4 h_X4_reached g_X4_reached h_X5_add g_X5_add j31 hq)
def xX4_tellOrder_38 (s_X4_findOrder : zq_Sp) (s_J6_bitCount_0f7a4 : zq_Sp) (s_X4_reached : zq_Sp) (s_X5_add : zq_Sp) (J31 : zq_P) (Q : zq_Q) (ls : zq_L) (st : List Value) (h : zq_H) : Prop := (zi_aload 0 (zi_aload 0 (zi_getR 22 28 (zi_iload 6 (zi_aldI 28 6 (zi_iload 4 (zi_callV 2 22 s_X4_reached (zi_istore 7 (zi_aload 2 (zi_aload 0 (zi_getR 22 23 (zi_aload 0 (zi_getR 22 28 (zi_iload 6 (zi_aldI 28 6 (zi_aldI 23 6 (zi_i2l (zi_callV 1 3 s_X5_add (zi_aload 2 (zi_iload 7 (zi_iload 4 (zi_if2 (fun x y => x = y) (xX4_tellOrder_78 s_X4_findOrder s_J6_bitCount_0f7a4 s_X4_reached s_X5_add J31 Q) (xX4_tellOrder_84 s_X4_findOrder s_J6_bitCount_0f7a4 s_X4_reached s_X5_add J31 Q))))))))))))))))))))))) ls st h
theorem kX4_tellOrder_38 {X : zq_X} {d : Nat} (C : zq_C X cX4_tellOrder 8 RX4 d) {d_X4_findOrder : Nat} {s_X4_findOrder : zq_Sp} (h_X4_findOrder : zq_M yX4_findOrder cX4_findOrder 7 (some .boolean) 1 d_X4_findOrder s_X4_findOrder) (g_X4_findOrder : d_X4_findOrder + 1 ≤ d) {d_J6_bitCount_0f7a4 : Nat} {s_J6_bitCount_0f7a4 : zq_Sp} (h_J6_bitCount_0f7a4 : zq_M yJ6_bitCount_0f7a4 cJ6_bitCount_0f7a4 1 (some .int) 1 d_J6_bitCount_0f7a4 s_J6_bitCount_0f7a4) (g_J6_bitCount_0f7a4 : d_J6_bitCount_0f7a4 + 1 ≤ d) {d_X4_reached : Nat} {s_X4_reached : zq_Sp} (h_X4_reached : zq_M yX4_reached cX4_reached 3 (some .int) 1 d_X4_reached s_X4_reached) (g_X4_reached : d_X4_reached + 1 ≤ d) {d_X5_add : Nat} {s_X5_add : zq_Sp} (h_X5_add : zq_M yX5_add cX5_add 3 none 0 d_X5_add s_X5_add) (g_X5_add : d_X5_add + 1 ≤ d) {J31 : zq_P} (j31 : zq_ok X 8 31 J31) {Q : zq_Q} (hq : zq_R X none 0 Q) : zq_ok X 8 38 (xX4_tellOrder_38 s_X4_findOrder s_J6_bitCount_0f7a4 s_X4_reached s_X5_add J31 Q) := by
  refine zs_aload_n C dX4_tellOrder_38 rfl ?_
  refine zs_aload_n C dX4_tellOrder_39 rfl ?_
  refine zs_getR C zp_22 zF4 (j := 5) ⟨by decide, rfl⟩ zw_183 dX4_tellOrder_40 ?_
  refine zs_iload C dX4_tellOrder_43 ?_
  refine zs_iaload C zp_28 dX4_tellOrder_45 ?_
  refine zs_iload C dX4_tellOrder_46 ?_
  refine zs_callV C h_X4_reached g_X4_reached zy_X4_reached zp_22 (show vwCl[4]? = some (RX4, TX4, 8) from rfl) zw_756 zw_758 zs9_X4_reached dX4_tellOrder_48 ?_
  refine zs_istore C dX4_tellOrder_51 (by decide) ?_
  refine zs_aload_n C dX4_tellOrder_53 rfl ?_
  refine zs_aload_n C dX4_tellOrder_54 rfl ?_
  refine zs_getR C zp_22 zF4 (j := 0) ⟨by decide, rfl⟩ zw_177 dX4_tellOrder_55 ?_
  refine zs_aload_n C dX4_tellOrder_58 rfl ?_
  refine zs_getR C zp_22 zF4 (j := 5) ⟨by decide, rfl⟩ zw_183 dX4_tellOrder_59 ?_
  refine zs_iload C dX4_tellOrder_62 ?_
  refine zs_iaload C zp_28 dX4_tellOrder_64 ?_
  refine zs_iaload C zp_23 dX4_tellOrder_65 ?_
  refine zs_i2l C dX4_tellOrder_66 ?_
  refine zs_callV C h_X5_add g_X5_add zy_X5_add zp_3 (show vwCl[5]? = some (RX5, TX5, 2) from rfl) zw_774 zw_655 zs9_X5_add dX4_tellOrder_67 ?_
  refine zs_aload_n C dX4_tellOrder_70 rfl ?_
  refine zs_iload C dX4_tellOrder_71 ?_
  refine zs_iload C dX4_tellOrder_73 ?_
  exact zs_icmp_ne C dX4_tellOrder_75 (by decide) (kX4_tellOrder_84 C h_X4_findOrder g_X4_findOrder h_J6_bitCount_0f7a4 g_J6_bitCount_0f7a4 h_X4_reached g_X4_reached h_X5_add g_X5_add j31 hq) (kX4_tellOrder_78 C h_X4_findOrder g_X4_findOrder h_J6_bitCount_0f7a4 g_J6_bitCount_0f7a4 h_X4_reached g_X4_reached h_X5_add g_X5_add j31 hq)
def xX4_tellOrder_31 (s_X4_findOrder : zq_Sp) (s_J6_bitCount_0f7a4 : zq_Sp) (s_X4_reached : zq_Sp) (s_X5_add : zq_Sp) (J31 : zq_P) (Q : zq_Q) (ls : zq_L) (st : List Value) (h : zq_H) : Prop := (zi_iload 6 (zi_iload 5 (zi_if2 (fun x y => y ≤ x) (xX4_tellOrder_102 s_X4_findOrder s_J6_bitCount_0f7a4 s_X4_reached s_X5_add J31 Q) (xX4_tellOrder_38 s_X4_findOrder s_J6_bitCount_0f7a4 s_X4_reached s_X5_add J31 Q)))) ls st h
theorem kX4_tellOrder_31 {X : zq_X} {d : Nat} (C : zq_C X cX4_tellOrder 8 RX4 d) {d_X4_findOrder : Nat} {s_X4_findOrder : zq_Sp} (h_X4_findOrder : zq_M yX4_findOrder cX4_findOrder 7 (some .boolean) 1 d_X4_findOrder s_X4_findOrder) (g_X4_findOrder : d_X4_findOrder + 1 ≤ d) {d_J6_bitCount_0f7a4 : Nat} {s_J6_bitCount_0f7a4 : zq_Sp} (h_J6_bitCount_0f7a4 : zq_M yJ6_bitCount_0f7a4 cJ6_bitCount_0f7a4 1 (some .int) 1 d_J6_bitCount_0f7a4 s_J6_bitCount_0f7a4) (g_J6_bitCount_0f7a4 : d_J6_bitCount_0f7a4 + 1 ≤ d) {d_X4_reached : Nat} {s_X4_reached : zq_Sp} (h_X4_reached : zq_M yX4_reached cX4_reached 3 (some .int) 1 d_X4_reached s_X4_reached) (g_X4_reached : d_X4_reached + 1 ≤ d) {d_X5_add : Nat} {s_X5_add : zq_Sp} (h_X5_add : zq_M yX5_add cX5_add 3 none 0 d_X5_add s_X5_add) (g_X5_add : d_X5_add + 1 ≤ d) {J31 : zq_P} (j31 : zq_ok X 8 31 J31) {Q : zq_Q} (hq : zq_R X none 0 Q) : zq_ok X 8 31 (xX4_tellOrder_31 s_X4_findOrder s_J6_bitCount_0f7a4 s_X4_reached s_X5_add J31 Q) := by
  refine zs_iload C dX4_tellOrder_31 ?_
  refine zs_iload C dX4_tellOrder_33 ?_
  exact zs_icmp_ge C dX4_tellOrder_35 (by decide) (kX4_tellOrder_102 C h_X4_findOrder g_X4_findOrder h_J6_bitCount_0f7a4 g_J6_bitCount_0f7a4 h_X4_reached g_X4_reached h_X5_add g_X5_add j31 hq) (kX4_tellOrder_38 C h_X4_findOrder g_X4_findOrder h_J6_bitCount_0f7a4 g_J6_bitCount_0f7a4 h_X4_reached g_X4_reached h_X5_add g_X5_add j31 hq)
def xX4_tellOrder_19 (s_X4_findOrder : zq_Sp) (s_J6_bitCount_0f7a4 : zq_Sp) (s_X4_reached : zq_Sp) (s_X5_add : zq_Sp) (J31 : zq_P) (Q : zq_Q) (ls : zq_L) (st : List Value) (h : zq_H) : Prop := (zi_push (.int 0) (zi_istore 4 (zi_iload 1 (zi_callS 1 s_J6_bitCount_0f7a4 (zi_istore 5 (zi_push (.int 0) (zi_istore 6 (J31)))))))) ls st h
theorem kX4_tellOrder_19 {X : zq_X} {d : Nat} (C : zq_C X cX4_tellOrder 8 RX4 d) {d_X4_findOrder : Nat} {s_X4_findOrder : zq_Sp} (h_X4_findOrder : zq_M yX4_findOrder cX4_findOrder 7 (some .boolean) 1 d_X4_findOrder s_X4_findOrder) (g_X4_findOrder : d_X4_findOrder + 1 ≤ d) {d_J6_bitCount_0f7a4 : Nat} {s_J6_bitCount_0f7a4 : zq_Sp} (h_J6_bitCount_0f7a4 : zq_M yJ6_bitCount_0f7a4 cJ6_bitCount_0f7a4 1 (some .int) 1 d_J6_bitCount_0f7a4 s_J6_bitCount_0f7a4) (g_J6_bitCount_0f7a4 : d_J6_bitCount_0f7a4 + 1 ≤ d) {d_X4_reached : Nat} {s_X4_reached : zq_Sp} (h_X4_reached : zq_M yX4_reached cX4_reached 3 (some .int) 1 d_X4_reached s_X4_reached) (g_X4_reached : d_X4_reached + 1 ≤ d) {d_X5_add : Nat} {s_X5_add : zq_Sp} (h_X5_add : zq_M yX5_add cX5_add 3 none 0 d_X5_add s_X5_add) (g_X5_add : d_X5_add + 1 ≤ d) {J31 : zq_P} (j31 : zq_ok X 8 31 J31) {Q : zq_Q} (hq : zq_R X none 0 Q) : zq_ok X 8 19 (xX4_tellOrder_19 s_X4_findOrder s_J6_bitCount_0f7a4 s_X4_reached s_X5_add J31 Q) := by
  refine zs_iconst C dX4_tellOrder_19 (by decide) ?_
  refine zs_istore C dX4_tellOrder_20 (by decide) ?_
  refine zs_iload_n C dX4_tellOrder_22 rfl ?_
  refine zs_callS C h_J6_bitCount_0f7a4 g_J6_bitCount_0f7a4 zy_J6_bitCount_0f7a4 zw_773 zw_696 dX4_tellOrder_23 ?_
  refine zs_istore C dX4_tellOrder_26 (by decide) ?_
  refine zs_iconst C dX4_tellOrder_28 (by decide) ?_
  refine zs_istore C dX4_tellOrder_29 (by decide) ?_
  exact j31
def xX4_tellOrder_18 (s_X4_findOrder : zq_Sp) (s_J6_bitCount_0f7a4 : zq_Sp) (s_X4_reached : zq_Sp) (s_X5_add : zq_Sp) (J31 : zq_P) (Q : zq_Q) (ls : zq_L) (st : List Value) (h : zq_H) : Prop := (zi_vret Q) ls st h
theorem kX4_tellOrder_18 {X : zq_X} {d : Nat} (C : zq_C X cX4_tellOrder 8 RX4 d) {d_X4_findOrder : Nat} {s_X4_findOrder : zq_Sp} (h_X4_findOrder : zq_M yX4_findOrder cX4_findOrder 7 (some .boolean) 1 d_X4_findOrder s_X4_findOrder) (g_X4_findOrder : d_X4_findOrder + 1 ≤ d) {d_J6_bitCount_0f7a4 : Nat} {s_J6_bitCount_0f7a4 : zq_Sp} (h_J6_bitCount_0f7a4 : zq_M yJ6_bitCount_0f7a4 cJ6_bitCount_0f7a4 1 (some .int) 1 d_J6_bitCount_0f7a4 s_J6_bitCount_0f7a4) (g_J6_bitCount_0f7a4 : d_J6_bitCount_0f7a4 + 1 ≤ d) {d_X4_reached : Nat} {s_X4_reached : zq_Sp} (h_X4_reached : zq_M yX4_reached cX4_reached 3 (some .int) 1 d_X4_reached s_X4_reached) (g_X4_reached : d_X4_reached + 1 ≤ d) {d_X5_add : Nat} {s_X5_add : zq_Sp} (h_X5_add : zq_M yX5_add cX5_add 3 none 0 d_X5_add s_X5_add) (g_X5_add : d_X5_add + 1 ≤ d) {J31 : zq_P} (j31 : zq_ok X 8 31 J31) {Q : zq_Q} (hq : zq_R X none 0 Q) : zq_ok X 8 18 (xX4_tellOrder_18 s_X4_findOrder s_J6_bitCount_0f7a4 s_X4_reached s_X5_add J31 Q) := by
  exact zs_vret C hq dX4_tellOrder_18
def xX4_tellOrder_0 (s_X4_findOrder : zq_Sp) (s_J6_bitCount_0f7a4 : zq_Sp) (s_X4_reached : zq_Sp) (s_X5_add : zq_Sp) (J31 : zq_P) (Q : zq_Q) (ls : zq_L) (st : List Value) (h : zq_H) : Prop := (zi_aload 0 (zi_getR 22 27 (zi_iload 1 (zi_aldI 27 64 (zi_istore 3 (zi_aload 0 (zi_iload 1 (zi_push (.int 0) (zi_push (.int 0) (zi_iload 3 (zi_callV 4 22 s_X4_findOrder (zi_if1 (fun x => x = 0) (xX4_tellOrder_18 s_X4_findOrder s_J6_bitCount_0f7a4 s_X4_reached s_X5_add J31 Q) (xX4_tellOrder_19 s_X4_findOrder s_J6_bitCount_0f7a4 s_X4_reached s_X5_add J31 Q))))))))))))) ls st h
theorem kX4_tellOrder_0 {X : zq_X} {d : Nat} (C : zq_C X cX4_tellOrder 8 RX4 d) {d_X4_findOrder : Nat} {s_X4_findOrder : zq_Sp} (h_X4_findOrder : zq_M yX4_findOrder cX4_findOrder 7 (some .boolean) 1 d_X4_findOrder s_X4_findOrder) (g_X4_findOrder : d_X4_findOrder + 1 ≤ d) {d_J6_bitCount_0f7a4 : Nat} {s_J6_bitCount_0f7a4 : zq_Sp} (h_J6_bitCount_0f7a4 : zq_M yJ6_bitCount_0f7a4 cJ6_bitCount_0f7a4 1 (some .int) 1 d_J6_bitCount_0f7a4 s_J6_bitCount_0f7a4) (g_J6_bitCount_0f7a4 : d_J6_bitCount_0f7a4 + 1 ≤ d) {d_X4_reached : Nat} {s_X4_reached : zq_Sp} (h_X4_reached : zq_M yX4_reached cX4_reached 3 (some .int) 1 d_X4_reached s_X4_reached) (g_X4_reached : d_X4_reached + 1 ≤ d) {d_X5_add : Nat} {s_X5_add : zq_Sp} (h_X5_add : zq_M yX5_add cX5_add 3 none 0 d_X5_add s_X5_add) (g_X5_add : d_X5_add + 1 ≤ d) {J31 : zq_P} (j31 : zq_ok X 8 31 J31) {Q : zq_Q} (hq : zq_R X none 0 Q) : zq_ok X 8 0 (xX4_tellOrder_0 s_X4_findOrder s_J6_bitCount_0f7a4 s_X4_reached s_X5_add J31 Q) := by
  refine zs_aload_n C dX4_tellOrder_0 rfl ?_
  refine zs_getR C zp_22 zF4 (j := 4) ⟨by decide, rfl⟩ zw_181 dX4_tellOrder_1 ?_
  refine zs_iload_n C dX4_tellOrder_4 rfl ?_
  refine zs_iaload C zp_27 dX4_tellOrder_5 ?_
  refine zs_istore_n C dX4_tellOrder_6 rfl (by decide) ?_
  refine zs_aload_n C dX4_tellOrder_7 rfl ?_
  refine zs_iload_n C dX4_tellOrder_8 rfl ?_
  refine zs_iconst C dX4_tellOrder_9 (by decide) ?_
  refine zs_iconst C dX4_tellOrder_10 (by decide) ?_
  refine zs_iload_n C dX4_tellOrder_11 rfl ?_
  refine zs_callV C h_X4_findOrder g_X4_findOrder zy_X4_findOrder zp_22 (show vwCl[4]? = some (RX4, TX4, 8) from rfl) zw_769 zw_771 zs9_X4_findOrder dX4_tellOrder_12 ?_
  exact zs_if_ne C dX4_tellOrder_15 (by decide) (kX4_tellOrder_19 C h_X4_findOrder g_X4_findOrder h_J6_bitCount_0f7a4 g_J6_bitCount_0f7a4 h_X4_reached g_X4_reached h_X5_add g_X5_add j31 hq) (kX4_tellOrder_18 C h_X4_findOrder g_X4_findOrder h_J6_bitCount_0f7a4 g_J6_bitCount_0f7a4 h_X4_reached g_X4_reached h_X5_add g_X5_add j31 hq)
theorem mX4_tellOrder {d : Nat} {spec : zq_Sp} {σ31 : Type} {d_X4_findOrder : Nat} {s_X4_findOrder : zq_Sp} (h_X4_findOrder : zq_M yX4_findOrder cX4_findOrder 7 (some .boolean) 1 d_X4_findOrder s_X4_findOrder) (g_X4_findOrder : d_X4_findOrder + 1 ≤ d) {d_J6_bitCount_0f7a4 : Nat} {s_J6_bitCount_0f7a4 : zq_Sp} (h_J6_bitCount_0f7a4 : zq_M yJ6_bitCount_0f7a4 cJ6_bitCount_0f7a4 1 (some .int) 1 d_J6_bitCount_0f7a4 s_J6_bitCount_0f7a4) (g_J6_bitCount_0f7a4 : d_J6_bitCount_0f7a4 + 1 ≤ d) {d_X4_reached : Nat} {s_X4_reached : zq_Sp} (h_X4_reached : zq_M yX4_reached cX4_reached 3 (some .int) 1 d_X4_reached s_X4_reached) (g_X4_reached : d_X4_reached + 1 ≤ d) {d_X5_add : Nat} {s_X5_add : zq_Sp} (h_X5_add : zq_M yX5_add cX5_add 3 none 0 d_X5_add s_X5_add) (g_X5_add : d_X5_add + 1 ≤ d) (μ31 : σ31 → Nat) (I31 : zq_Q → σ31 → zq_P) (v : ∀ args h Q, spec args h Q → (zq_a args).length ≤ 8 ∧ xX4_tellOrder_0 s_X4_findOrder s_J6_bitCount_0f7a4 s_X4_reached s_X5_add (fun ls st h => ∃ b, I31 Q b ls st h) Q (zq_l0 8 args) [] h) (v31 : ∀ Q a ls st h, I31 Q a ls st h → xX4_tellOrder_31 s_X4_findOrder s_J6_bitCount_0f7a4 s_X4_reached s_X5_add (fun ls st h => ∃ b, μ31 b < μ31 a ∧ I31 Q b ls st h) Q ls st h) : zq_M yX4_tellOrder cX4_tellOrder 8 none 0 d spec := by
  refine zq_met (by decide +kernel) (by decide) (fun X Q args h C hq hs => ⟨(v args h Q hs).1, _, ?_, (v args h Q hs).2⟩)
  have hl := zq_loop1 (X := X) (nL := 8) (pc1 := 31) μ31 (I31 Q) (fun J31 => xX4_tellOrder_31 s_X4_findOrder s_J6_bitCount_0f7a4 s_X4_reached s_X5_add J31 Q) (fun j31 => kX4_tellOrder_31 C h_X4_findOrder g_X4_findOrder h_J6_bitCount_0f7a4 g_J6_bitCount_0f7a4 h_X4_reached g_X4_reached h_X5_add g_X5_add j31 hq) (v31 Q)
  exact kX4_tellOrder_0 C h_X4_findOrder g_X4_findOrder h_J6_bitCount_0f7a4 g_J6_bitCount_0f7a4 h_X4_reached g_X4_reached h_X5_add g_X5_add hl hq
/-! ToOneCrumb$Placing.findOrder(IIII)Z -/
theorem dX4_findOrder_0 : decode cX4_findOrder 0 = .ok (.iload_n 1, 1) := by decide +kernel
theorem dX4_findOrder_1 : decode cX4_findOrder 1 = .ok (.ifCond .eq 9, 3) := by decide +kernel
theorem dX4_findOrder_4 : decode cX4_findOrder 4 = .ok (.iload_n 3, 1) := by decide +kernel
theorem dX4_findOrder_5 : decode cX4_findOrder 5 = .ok (.bipush 6, 2) := by decide +kernel
theorem dX4_findOrder_7 : decode cX4_findOrder 7 = .ok (.if_icmp .lt 15, 3) := by decide +kernel
theorem dX4_findOrder_10 : decode cX4_findOrder 10 = .ok (.iload_n 2, 1) := by decide +kernel
theorem dX4_findOrder_11 : decode cX4_findOrder 11 = .ok (.iload 4, 2) := by decide +kernel
theorem dX4_findOrder_13 : decode cX4_findOrder 13 = .ok (.if_icmp .ne 7, 3) := by decide +kernel
theorem dX4_findOrder_16 : decode cX4_findOrder 16 = .ok (.iconst 1, 1) := by decide +kernel
theorem dX4_findOrder_17 : decode cX4_findOrder 17 = .ok (.goto 4, 3) := by decide +kernel
theorem dX4_findOrder_20 : decode cX4_findOrder 20 = .ok (.iconst 0, 1) := by decide +kernel
theorem dX4_findOrder_21 : decode cX4_findOrder 21 = .ok (.ireturn, 1) := by decide +kernel
theorem dX4_findOrder_22 : decode cX4_findOrder 22 = .ok (.iconst 0, 1) := by decide +kernel
theorem dX4_findOrder_23 : decode cX4_findOrder 23 = .ok (.istore 5, 2) := by decide +kernel
theorem dX4_findOrder_25 : decode cX4_findOrder 25 = .ok (.iload 5, 2) := by decide +kernel
theorem dX4_findOrder_27 : decode cX4_findOrder 27 = .ok (.aload_n 0, 1) := by decide +kernel
theorem dX4_findOrder_28 : decode cX4_findOrder 28 = .ok (.getfield 31, 3) := by decide +kernel
theorem dX4_findOrder_31 : decode cX4_findOrder 31 = .ok (.if_icmp .ge 66, 3) := by decide +kernel
theorem dX4_findOrder_34 : decode cX4_findOrder 34 = .ok (.iload_n 1, 1) := by decide +kernel
theorem dX4_findOrder_35 : decode cX4_findOrder 35 = .ok (.iload 5, 2) := by decide +kernel
theorem dX4_findOrder_37 : decode cX4_findOrder 37 = .ok (.ishr, 1) := by decide +kernel
theorem dX4_findOrder_38 : decode cX4_findOrder 38 = .ok (.iconst 1, 1) := by decide +kernel
theorem dX4_findOrder_39 : decode cX4_findOrder 39 = .ok (.iand, 1) := by decide +kernel
theorem dX4_findOrder_40 : decode cX4_findOrder 40 = .ok (.ifCond .eq 51, 3) := by decide +kernel
theorem dX4_findOrder_43 : decode cX4_findOrder 43 = .ok (.aload_n 0, 1) := by decide +kernel
theorem dX4_findOrder_44 : decode cX4_findOrder 44 = .ok (.iload 5, 2) := by decide +kernel
theorem dX4_findOrder_46 : decode cX4_findOrder 46 = .ok (.iload_n 2, 1) := by decide +kernel
theorem dX4_findOrder_47 : decode cX4_findOrder 47 = .ok (.invokevirtual 67, 3) := by decide +kernel
theorem dX4_findOrder_50 : decode cX4_findOrder 50 = .ok (.istore 6, 2) := by decide +kernel
theorem dX4_findOrder_52 : decode cX4_findOrder 52 = .ok (.aload_n 0, 1) := by decide +kernel
theorem dX4_findOrder_53 : decode cX4_findOrder 53 = .ok (.getfield 28, 3) := by decide +kernel
theorem dX4_findOrder_56 : decode cX4_findOrder 56 = .ok (.iload_n 3, 1) := by decide +kernel
theorem dX4_findOrder_57 : decode cX4_findOrder 57 = .ok (.iload 5, 2) := by decide +kernel
theorem dX4_findOrder_59 : decode cX4_findOrder 59 = .ok (.iastore, 1) := by decide +kernel
theorem dX4_findOrder_60 : decode cX4_findOrder 60 = .ok (.iload 6, 2) := by decide +kernel
theorem dX4_findOrder_62 : decode cX4_findOrder 62 = .ok (.iload 4, 2) := by decide +kernel
theorem dX4_findOrder_64 : decode cX4_findOrder 64 = .ok (.if_icmp .gt 27, 3) := by decide +kernel
theorem dX4_findOrder_67 : decode cX4_findOrder 67 = .ok (.aload_n 0, 1) := by decide +kernel
theorem dX4_findOrder_68 : decode cX4_findOrder 68 = .ok (.iload_n 1, 1) := by decide +kernel
theorem dX4_findOrder_69 : decode cX4_findOrder 69 = .ok (.iconst 1, 1) := by decide +kernel
theorem dX4_findOrder_70 : decode cX4_findOrder 70 = .ok (.iload 5, 2) := by decide +kernel
theorem dX4_findOrder_72 : decode cX4_findOrder 72 = .ok (.ishl, 1) := by decide +kernel
theorem dX4_findOrder_73 : decode cX4_findOrder 73 = .ok (.iconst (-1), 1) := by decide +kernel
theorem dX4_findOrder_74 : decode cX4_findOrder 74 = .ok (.ixor, 1) := by decide +kernel
theorem dX4_findOrder_75 : decode cX4_findOrder 75 = .ok (.iand, 1) := by decide +kernel
theorem dX4_findOrder_76 : decode cX4_findOrder 76 = .ok (.iload 6, 2) := by decide +kernel
theorem dX4_findOrder_78 : decode cX4_findOrder 78 = .ok (.iload_n 3, 1) := by decide +kernel
theorem dX4_findOrder_79 : decode cX4_findOrder 79 = .ok (.iconst 1, 1) := by decide +kernel
theorem dX4_findOrder_80 : decode cX4_findOrder 80 = .ok (.iadd, 1) := by decide +kernel
theorem dX4_findOrder_81 : decode cX4_findOrder 81 = .ok (.iload 4, 2) := by decide +kernel
theorem dX4_findOrder_83 : decode cX4_findOrder 83 = .ok (.invokevirtual 82, 3) := by decide +kernel
theorem dX4_findOrder_86 : decode cX4_findOrder 86 = .ok (.ifCond .eq 5, 3) := by decide +kernel
theorem dX4_findOrder_89 : decode cX4_findOrder 89 = .ok (.iconst 1, 1) := by decide +kernel
theorem dX4_findOrder_90 : decode cX4_findOrder 90 = .ok (.ireturn, 1) := by decide +kernel
theorem dX4_findOrder_91 : decode cX4_findOrder 91 = .ok (.iinc 5 1, 3) := by decide +kernel
theorem dX4_findOrder_94 : decode cX4_findOrder 94 = .ok (.goto (-69), 3) := by decide +kernel
theorem dX4_findOrder_97 : decode cX4_findOrder 97 = .ok (.iconst 0, 1) := by decide +kernel
theorem dX4_findOrder_98 : decode cX4_findOrder 98 = .ok (.ireturn, 1) := by decide +kernel
def xX4_findOrder_97 (s_X4_reached : zq_Sp) (s_X4_findOrder : zq_Sp) (J25 : zq_P) (Q : zq_Q) (ls : zq_L) (st : List Value) (h : zq_H) : Prop := (zi_push (.int 0) (zi_zret Q)) ls st h
theorem kX4_findOrder_97 {X : zq_X} {d : Nat} (C : zq_C X cX4_findOrder 7 RX4 d) {d_X4_reached : Nat} {s_X4_reached : zq_Sp} (h_X4_reached : zq_M yX4_reached cX4_reached 3 (some .int) 1 d_X4_reached s_X4_reached) (g_X4_reached : d_X4_reached + 1 ≤ d) {d_X4_findOrder : Nat} {s_X4_findOrder : zq_Sp} (h_X4_findOrder : zq_M yX4_findOrder cX4_findOrder 7 (some .boolean) 1 d_X4_findOrder s_X4_findOrder) (g_X4_findOrder : d_X4_findOrder + 1 ≤ d) {J25 : zq_P} (j25 : zq_ok X 7 25 J25) {Q : zq_Q} (hq : zq_R X (some .boolean) 1 Q) : zq_ok X 7 97 (xX4_findOrder_97 s_X4_reached s_X4_findOrder J25 Q) := by
  refine zs_iconst C dX4_findOrder_97 (by decide) ?_
  exact zs_zret C hq dX4_findOrder_98
def xX4_findOrder_91 (s_X4_reached : zq_Sp) (s_X4_findOrder : zq_Sp) (J25 : zq_P) (Q : zq_Q) (ls : zq_L) (st : List Value) (h : zq_H) : Prop := (zi_iinc 5 1 (J25)) ls st h
theorem kX4_findOrder_91 {X : zq_X} {d : Nat} (C : zq_C X cX4_findOrder 7 RX4 d) {d_X4_reached : Nat} {s_X4_reached : zq_Sp} (h_X4_reached : zq_M yX4_reached cX4_reached 3 (some .int) 1 d_X4_reached s_X4_reached) (g_X4_reached : d_X4_reached + 1 ≤ d) {d_X4_findOrder : Nat} {s_X4_findOrder : zq_Sp} (h_X4_findOrder : zq_M yX4_findOrder cX4_findOrder 7 (some .boolean) 1 d_X4_findOrder s_X4_findOrder) (g_X4_findOrder : d_X4_findOrder + 1 ≤ d) {J25 : zq_P} (j25 : zq_ok X 7 25 J25) {Q : zq_Q} (hq : zq_R X (some .boolean) 1 Q) : zq_ok X 7 91 (xX4_findOrder_91 s_X4_reached s_X4_findOrder J25 Q) := by
  refine zs_iinc C dX4_findOrder_91 (by decide) (by decide) ?_
  exact zs_goto C dX4_findOrder_94 (by decide) (j25)
def xX4_findOrder_89 (s_X4_reached : zq_Sp) (s_X4_findOrder : zq_Sp) (J25 : zq_P) (Q : zq_Q) (ls : zq_L) (st : List Value) (h : zq_H) : Prop := (zi_push (.int 1) (zi_zret Q)) ls st h
theorem kX4_findOrder_89 {X : zq_X} {d : Nat} (C : zq_C X cX4_findOrder 7 RX4 d) {d_X4_reached : Nat} {s_X4_reached : zq_Sp} (h_X4_reached : zq_M yX4_reached cX4_reached 3 (some .int) 1 d_X4_reached s_X4_reached) (g_X4_reached : d_X4_reached + 1 ≤ d) {d_X4_findOrder : Nat} {s_X4_findOrder : zq_Sp} (h_X4_findOrder : zq_M yX4_findOrder cX4_findOrder 7 (some .boolean) 1 d_X4_findOrder s_X4_findOrder) (g_X4_findOrder : d_X4_findOrder + 1 ≤ d) {J25 : zq_P} (j25 : zq_ok X 7 25 J25) {Q : zq_Q} (hq : zq_R X (some .boolean) 1 Q) : zq_ok X 7 89 (xX4_findOrder_89 s_X4_reached s_X4_findOrder J25 Q) := by
  refine zs_iconst C dX4_findOrder_89 (by decide) ?_
  exact zs_zret C hq dX4_findOrder_90
def xX4_findOrder_67 (s_X4_reached : zq_Sp) (s_X4_findOrder : zq_Sp) (J25 : zq_P) (Q : zq_Q) (ls : zq_L) (st : List Value) (h : zq_H) : Prop := (zi_aload 0 (zi_iload 1 (zi_push (.int 1) (zi_iload 5 (zi_i2 zf_shl (zi_push (.int (-1)) (zi_i2 (fun x y => x ^^^ y) (zi_i2 (fun x y => x &&& y) (zi_iload 6 (zi_iload 3 (zi_push (.int 1) (zi_i2 (fun x y => x + y) (zi_iload 4 (zi_callV 4 22 s_X4_findOrder (zi_if1 (fun x => x = 0) (xX4_findOrder_91 s_X4_reached s_X4_findOrder J25 Q) (xX4_findOrder_89 s_X4_reached s_X4_findOrder J25 Q)))))))))))))))) ls st h
theorem kX4_findOrder_67 {X : zq_X} {d : Nat} (C : zq_C X cX4_findOrder 7 RX4 d) {d_X4_reached : Nat} {s_X4_reached : zq_Sp} (h_X4_reached : zq_M yX4_reached cX4_reached 3 (some .int) 1 d_X4_reached s_X4_reached) (g_X4_reached : d_X4_reached + 1 ≤ d) {d_X4_findOrder : Nat} {s_X4_findOrder : zq_Sp} (h_X4_findOrder : zq_M yX4_findOrder cX4_findOrder 7 (some .boolean) 1 d_X4_findOrder s_X4_findOrder) (g_X4_findOrder : d_X4_findOrder + 1 ≤ d) {J25 : zq_P} (j25 : zq_ok X 7 25 J25) {Q : zq_Q} (hq : zq_R X (some .boolean) 1 Q) : zq_ok X 7 67 (xX4_findOrder_67 s_X4_reached s_X4_findOrder J25 Q) := by
  refine zs_aload_n C dX4_findOrder_67 rfl ?_
  refine zs_iload_n C dX4_findOrder_68 rfl ?_
  refine zs_iconst C dX4_findOrder_69 (by decide) ?_
  refine zs_iload C dX4_findOrder_70 ?_
  refine zs_ishl C dX4_findOrder_72 ?_
  refine zs_iconst C dX4_findOrder_73 (by decide) ?_
  refine zs_ixor C dX4_findOrder_74 ?_
  refine zs_iand C dX4_findOrder_75 ?_
  refine zs_iload C dX4_findOrder_76 ?_
  refine zs_iload_n C dX4_findOrder_78 rfl ?_
  refine zs_iconst C dX4_findOrder_79 (by decide) ?_
  refine zs_iadd C dX4_findOrder_80 ?_
  refine zs_iload C dX4_findOrder_81 ?_
  refine zs_callV C h_X4_findOrder g_X4_findOrder zy_X4_findOrder zp_22 (show vwCl[4]? = some (RX4, TX4, 8) from rfl) zw_769 zw_771 zs9_X4_findOrder dX4_findOrder_83 ?_
  exact zs_if_eq C dX4_findOrder_86 (by decide) (kX4_findOrder_91 C h_X4_reached g_X4_reached h_X4_findOrder g_X4_findOrder j25 hq) (kX4_findOrder_89 C h_X4_reached g_X4_reached h_X4_findOrder g_X4_findOrder j25 hq)
def xX4_findOrder_43 (s_X4_reached : zq_Sp) (s_X4_findOrder : zq_Sp) (J25 : zq_P) (Q : zq_Q) (ls : zq_L) (st : List Value) (h : zq_H) : Prop := (zi_aload 0 (zi_iload 5 (zi_iload 2 (zi_callV 2 22 s_X4_reached (zi_istore 6 (zi_aload 0 (zi_getR 22 28 (zi_iload 3 (zi_iload 5 (zi_astI 28 6 (zi_iload 6 (zi_iload 4 (zi_if2 (fun x y => y < x) (xX4_findOrder_91 s_X4_reached s_X4_findOrder J25 Q) (xX4_findOrder_67 s_X4_reached s_X4_findOrder J25 Q)))))))))))))) ls st h
theorem kX4_findOrder_43 {X : zq_X} {d : Nat} (C : zq_C X cX4_findOrder 7 RX4 d) {d_X4_reached : Nat} {s_X4_reached : zq_Sp} (h_X4_reached : zq_M yX4_reached cX4_reached 3 (some .int) 1 d_X4_reached s_X4_reached) (g_X4_reached : d_X4_reached + 1 ≤ d) {d_X4_findOrder : Nat} {s_X4_findOrder : zq_Sp} (h_X4_findOrder : zq_M yX4_findOrder cX4_findOrder 7 (some .boolean) 1 d_X4_findOrder s_X4_findOrder) (g_X4_findOrder : d_X4_findOrder + 1 ≤ d) {J25 : zq_P} (j25 : zq_ok X 7 25 J25) {Q : zq_Q} (hq : zq_R X (some .boolean) 1 Q) : zq_ok X 7 43 (xX4_findOrder_43 s_X4_reached s_X4_findOrder J25 Q) := by
  refine zs_aload_n C dX4_findOrder_43 rfl ?_
  refine zs_iload C dX4_findOrder_44 ?_
  refine zs_iload_n C dX4_findOrder_46 rfl ?_
  refine zs_callV C h_X4_reached g_X4_reached zy_X4_reached zp_22 (show vwCl[4]? = some (RX4, TX4, 8) from rfl) zw_756 zw_758 zs9_X4_reached dX4_findOrder_47 ?_
  refine zs_istore C dX4_findOrder_50 (by decide) ?_
  refine zs_aload_n C dX4_findOrder_52 rfl ?_
  refine zs_getR C zp_22 zF4 (j := 5) ⟨by decide, rfl⟩ zw_183 dX4_findOrder_53 ?_
  refine zs_iload_n C dX4_findOrder_56 rfl ?_
  refine zs_iload C dX4_findOrder_57 ?_
  refine zs_iastore C zp_28 dX4_findOrder_59 ?_
  refine zs_iload C dX4_findOrder_60 ?_
  refine zs_iload C dX4_findOrder_62 ?_
  exact zs_icmp_gt C dX4_findOrder_64 (by decide) (kX4_findOrder_91 C h_X4_reached g_X4_reached h_X4_findOrder g_X4_findOrder j25 hq) (kX4_findOrder_67 C h_X4_reached g_X4_reached h_X4_findOrder g_X4_findOrder j25 hq)
def xX4_findOrder_34 (s_X4_reached : zq_Sp) (s_X4_findOrder : zq_Sp) (J25 : zq_P) (Q : zq_Q) (ls : zq_L) (st : List Value) (h : zq_H) : Prop := (zi_iload 1 (zi_iload 5 (zi_i2 zf_shr (zi_push (.int 1) (zi_i2 (fun x y => x &&& y) (zi_if1 (fun x => x = 0) (xX4_findOrder_91 s_X4_reached s_X4_findOrder J25 Q) (xX4_findOrder_43 s_X4_reached s_X4_findOrder J25 Q))))))) ls st h
theorem kX4_findOrder_34 {X : zq_X} {d : Nat} (C : zq_C X cX4_findOrder 7 RX4 d) {d_X4_reached : Nat} {s_X4_reached : zq_Sp} (h_X4_reached : zq_M yX4_reached cX4_reached 3 (some .int) 1 d_X4_reached s_X4_reached) (g_X4_reached : d_X4_reached + 1 ≤ d) {d_X4_findOrder : Nat} {s_X4_findOrder : zq_Sp} (h_X4_findOrder : zq_M yX4_findOrder cX4_findOrder 7 (some .boolean) 1 d_X4_findOrder s_X4_findOrder) (g_X4_findOrder : d_X4_findOrder + 1 ≤ d) {J25 : zq_P} (j25 : zq_ok X 7 25 J25) {Q : zq_Q} (hq : zq_R X (some .boolean) 1 Q) : zq_ok X 7 34 (xX4_findOrder_34 s_X4_reached s_X4_findOrder J25 Q) := by
  refine zs_iload_n C dX4_findOrder_34 rfl ?_
  refine zs_iload C dX4_findOrder_35 ?_
  refine zs_ishr C dX4_findOrder_37 ?_
  refine zs_iconst C dX4_findOrder_38 (by decide) ?_
  refine zs_iand C dX4_findOrder_39 ?_
  exact zs_if_eq C dX4_findOrder_40 (by decide) (kX4_findOrder_91 C h_X4_reached g_X4_reached h_X4_findOrder g_X4_findOrder j25 hq) (kX4_findOrder_43 C h_X4_reached g_X4_reached h_X4_findOrder g_X4_findOrder j25 hq)
def xX4_findOrder_25 (s_X4_reached : zq_Sp) (s_X4_findOrder : zq_Sp) (J25 : zq_P) (Q : zq_Q) (ls : zq_L) (st : List Value) (h : zq_H) : Prop := (zi_iload 5 (zi_aload 0 (zi_getI 22 6 (zi_if2 (fun x y => y ≤ x) (xX4_findOrder_97 s_X4_reached s_X4_findOrder J25 Q) (xX4_findOrder_34 s_X4_reached s_X4_findOrder J25 Q))))) ls st h
theorem kX4_findOrder_25 {X : zq_X} {d : Nat} (C : zq_C X cX4_findOrder 7 RX4 d) {d_X4_reached : Nat} {s_X4_reached : zq_Sp} (h_X4_reached : zq_M yX4_reached cX4_reached 3 (some .int) 1 d_X4_reached s_X4_reached) (g_X4_reached : d_X4_reached + 1 ≤ d) {d_X4_findOrder : Nat} {s_X4_findOrder : zq_Sp} (h_X4_findOrder : zq_M yX4_findOrder cX4_findOrder 7 (some .boolean) 1 d_X4_findOrder s_X4_findOrder) (g_X4_findOrder : d_X4_findOrder + 1 ≤ d) {J25 : zq_P} (j25 : zq_ok X 7 25 J25) {Q : zq_Q} (hq : zq_R X (some .boolean) 1 Q) : zq_ok X 7 25 (xX4_findOrder_25 s_X4_reached s_X4_findOrder J25 Q) := by
  refine zs_iload C dX4_findOrder_25 ?_
  refine zs_aload_n C dX4_findOrder_27 rfl ?_
  refine zs_getI C zp_22 zF4 (j := 6) ⟨by decide, rfl⟩ zw_184 dX4_findOrder_28 ?_
  exact zs_icmp_ge C dX4_findOrder_31 (by decide) (kX4_findOrder_97 C h_X4_reached g_X4_reached h_X4_findOrder g_X4_findOrder j25 hq) (kX4_findOrder_34 C h_X4_reached g_X4_reached h_X4_findOrder g_X4_findOrder j25 hq)
def xX4_findOrder_22 (s_X4_reached : zq_Sp) (s_X4_findOrder : zq_Sp) (J25 : zq_P) (Q : zq_Q) (ls : zq_L) (st : List Value) (h : zq_H) : Prop := (zi_push (.int 0) (zi_istore 5 (J25))) ls st h
theorem kX4_findOrder_22 {X : zq_X} {d : Nat} (C : zq_C X cX4_findOrder 7 RX4 d) {d_X4_reached : Nat} {s_X4_reached : zq_Sp} (h_X4_reached : zq_M yX4_reached cX4_reached 3 (some .int) 1 d_X4_reached s_X4_reached) (g_X4_reached : d_X4_reached + 1 ≤ d) {d_X4_findOrder : Nat} {s_X4_findOrder : zq_Sp} (h_X4_findOrder : zq_M yX4_findOrder cX4_findOrder 7 (some .boolean) 1 d_X4_findOrder s_X4_findOrder) (g_X4_findOrder : d_X4_findOrder + 1 ≤ d) {J25 : zq_P} (j25 : zq_ok X 7 25 J25) {Q : zq_Q} (hq : zq_R X (some .boolean) 1 Q) : zq_ok X 7 22 (xX4_findOrder_22 s_X4_reached s_X4_findOrder J25 Q) := by
  refine zs_iconst C dX4_findOrder_22 (by decide) ?_
  refine zs_istore C dX4_findOrder_23 (by decide) ?_
  exact j25
def xX4_findOrder_21 (s_X4_reached : zq_Sp) (s_X4_findOrder : zq_Sp) (J25 : zq_P) (Q : zq_Q) (ls : zq_L) (st : List Value) (h : zq_H) : Prop := (zi_zret Q) ls st h
theorem kX4_findOrder_21 {X : zq_X} {d : Nat} (C : zq_C X cX4_findOrder 7 RX4 d) {d_X4_reached : Nat} {s_X4_reached : zq_Sp} (h_X4_reached : zq_M yX4_reached cX4_reached 3 (some .int) 1 d_X4_reached s_X4_reached) (g_X4_reached : d_X4_reached + 1 ≤ d) {d_X4_findOrder : Nat} {s_X4_findOrder : zq_Sp} (h_X4_findOrder : zq_M yX4_findOrder cX4_findOrder 7 (some .boolean) 1 d_X4_findOrder s_X4_findOrder) (g_X4_findOrder : d_X4_findOrder + 1 ≤ d) {J25 : zq_P} (j25 : zq_ok X 7 25 J25) {Q : zq_Q} (hq : zq_R X (some .boolean) 1 Q) : zq_ok X 7 21 (xX4_findOrder_21 s_X4_reached s_X4_findOrder J25 Q) := by
  exact zs_zret C hq dX4_findOrder_21
def xX4_findOrder_20 (s_X4_reached : zq_Sp) (s_X4_findOrder : zq_Sp) (J25 : zq_P) (Q : zq_Q) (ls : zq_L) (st : List Value) (h : zq_H) : Prop := (zi_push (.int 0) ((xX4_findOrder_21 s_X4_reached s_X4_findOrder J25 Q))) ls st h
theorem kX4_findOrder_20 {X : zq_X} {d : Nat} (C : zq_C X cX4_findOrder 7 RX4 d) {d_X4_reached : Nat} {s_X4_reached : zq_Sp} (h_X4_reached : zq_M yX4_reached cX4_reached 3 (some .int) 1 d_X4_reached s_X4_reached) (g_X4_reached : d_X4_reached + 1 ≤ d) {d_X4_findOrder : Nat} {s_X4_findOrder : zq_Sp} (h_X4_findOrder : zq_M yX4_findOrder cX4_findOrder 7 (some .boolean) 1 d_X4_findOrder s_X4_findOrder) (g_X4_findOrder : d_X4_findOrder + 1 ≤ d) {J25 : zq_P} (j25 : zq_ok X 7 25 J25) {Q : zq_Q} (hq : zq_R X (some .boolean) 1 Q) : zq_ok X 7 20 (xX4_findOrder_20 s_X4_reached s_X4_findOrder J25 Q) := by
  refine zs_iconst C dX4_findOrder_20 (by decide) ?_
  exact kX4_findOrder_21 C h_X4_reached g_X4_reached h_X4_findOrder g_X4_findOrder j25 hq
def xX4_findOrder_16 (s_X4_reached : zq_Sp) (s_X4_findOrder : zq_Sp) (J25 : zq_P) (Q : zq_Q) (ls : zq_L) (st : List Value) (h : zq_H) : Prop := (zi_push (.int 1) ((xX4_findOrder_21 s_X4_reached s_X4_findOrder J25 Q))) ls st h
theorem kX4_findOrder_16 {X : zq_X} {d : Nat} (C : zq_C X cX4_findOrder 7 RX4 d) {d_X4_reached : Nat} {s_X4_reached : zq_Sp} (h_X4_reached : zq_M yX4_reached cX4_reached 3 (some .int) 1 d_X4_reached s_X4_reached) (g_X4_reached : d_X4_reached + 1 ≤ d) {d_X4_findOrder : Nat} {s_X4_findOrder : zq_Sp} (h_X4_findOrder : zq_M yX4_findOrder cX4_findOrder 7 (some .boolean) 1 d_X4_findOrder s_X4_findOrder) (g_X4_findOrder : d_X4_findOrder + 1 ≤ d) {J25 : zq_P} (j25 : zq_ok X 7 25 J25) {Q : zq_Q} (hq : zq_R X (some .boolean) 1 Q) : zq_ok X 7 16 (xX4_findOrder_16 s_X4_reached s_X4_findOrder J25 Q) := by
  refine zs_iconst C dX4_findOrder_16 (by decide) ?_
  exact zs_goto C dX4_findOrder_17 (by decide) (kX4_findOrder_21 C h_X4_reached g_X4_reached h_X4_findOrder g_X4_findOrder j25 hq)
def xX4_findOrder_10 (s_X4_reached : zq_Sp) (s_X4_findOrder : zq_Sp) (J25 : zq_P) (Q : zq_Q) (ls : zq_L) (st : List Value) (h : zq_H) : Prop := (zi_iload 2 (zi_iload 4 (zi_if2 (fun x y => x = y) (xX4_findOrder_16 s_X4_reached s_X4_findOrder J25 Q) (xX4_findOrder_20 s_X4_reached s_X4_findOrder J25 Q)))) ls st h
theorem kX4_findOrder_10 {X : zq_X} {d : Nat} (C : zq_C X cX4_findOrder 7 RX4 d) {d_X4_reached : Nat} {s_X4_reached : zq_Sp} (h_X4_reached : zq_M yX4_reached cX4_reached 3 (some .int) 1 d_X4_reached s_X4_reached) (g_X4_reached : d_X4_reached + 1 ≤ d) {d_X4_findOrder : Nat} {s_X4_findOrder : zq_Sp} (h_X4_findOrder : zq_M yX4_findOrder cX4_findOrder 7 (some .boolean) 1 d_X4_findOrder s_X4_findOrder) (g_X4_findOrder : d_X4_findOrder + 1 ≤ d) {J25 : zq_P} (j25 : zq_ok X 7 25 J25) {Q : zq_Q} (hq : zq_R X (some .boolean) 1 Q) : zq_ok X 7 10 (xX4_findOrder_10 s_X4_reached s_X4_findOrder J25 Q) := by
  refine zs_iload_n C dX4_findOrder_10 rfl ?_
  refine zs_iload C dX4_findOrder_11 ?_
  exact zs_icmp_ne C dX4_findOrder_13 (by decide) (kX4_findOrder_20 C h_X4_reached g_X4_reached h_X4_findOrder g_X4_findOrder j25 hq) (kX4_findOrder_16 C h_X4_reached g_X4_reached h_X4_findOrder g_X4_findOrder j25 hq)
def xX4_findOrder_4 (s_X4_reached : zq_Sp) (s_X4_findOrder : zq_Sp) (J25 : zq_P) (Q : zq_Q) (ls : zq_L) (st : List Value) (h : zq_H) : Prop := (zi_iload 3 (zi_push (.int 6) (zi_if2 (fun x y => x < y) (xX4_findOrder_22 s_X4_reached s_X4_findOrder J25 Q) (xX4_findOrder_10 s_X4_reached s_X4_findOrder J25 Q)))) ls st h
theorem kX4_findOrder_4 {X : zq_X} {d : Nat} (C : zq_C X cX4_findOrder 7 RX4 d) {d_X4_reached : Nat} {s_X4_reached : zq_Sp} (h_X4_reached : zq_M yX4_reached cX4_reached 3 (some .int) 1 d_X4_reached s_X4_reached) (g_X4_reached : d_X4_reached + 1 ≤ d) {d_X4_findOrder : Nat} {s_X4_findOrder : zq_Sp} (h_X4_findOrder : zq_M yX4_findOrder cX4_findOrder 7 (some .boolean) 1 d_X4_findOrder s_X4_findOrder) (g_X4_findOrder : d_X4_findOrder + 1 ≤ d) {J25 : zq_P} (j25 : zq_ok X 7 25 J25) {Q : zq_Q} (hq : zq_R X (some .boolean) 1 Q) : zq_ok X 7 4 (xX4_findOrder_4 s_X4_reached s_X4_findOrder J25 Q) := by
  refine zs_iload_n C dX4_findOrder_4 rfl ?_
  refine zs_bipush C dX4_findOrder_5 (by decide) ?_
  exact zs_icmp_lt C dX4_findOrder_7 (by decide) (kX4_findOrder_22 C h_X4_reached g_X4_reached h_X4_findOrder g_X4_findOrder j25 hq) (kX4_findOrder_10 C h_X4_reached g_X4_reached h_X4_findOrder g_X4_findOrder j25 hq)
def xX4_findOrder_0 (s_X4_reached : zq_Sp) (s_X4_findOrder : zq_Sp) (J25 : zq_P) (Q : zq_Q) (ls : zq_L) (st : List Value) (h : zq_H) : Prop := (zi_iload 1 (zi_if1 (fun x => x = 0) (xX4_findOrder_10 s_X4_reached s_X4_findOrder J25 Q) (xX4_findOrder_4 s_X4_reached s_X4_findOrder J25 Q))) ls st h
theorem kX4_findOrder_0 {X : zq_X} {d : Nat} (C : zq_C X cX4_findOrder 7 RX4 d) {d_X4_reached : Nat} {s_X4_reached : zq_Sp} (h_X4_reached : zq_M yX4_reached cX4_reached 3 (some .int) 1 d_X4_reached s_X4_reached) (g_X4_reached : d_X4_reached + 1 ≤ d) {d_X4_findOrder : Nat} {s_X4_findOrder : zq_Sp} (h_X4_findOrder : zq_M yX4_findOrder cX4_findOrder 7 (some .boolean) 1 d_X4_findOrder s_X4_findOrder) (g_X4_findOrder : d_X4_findOrder + 1 ≤ d) {J25 : zq_P} (j25 : zq_ok X 7 25 J25) {Q : zq_Q} (hq : zq_R X (some .boolean) 1 Q) : zq_ok X 7 0 (xX4_findOrder_0 s_X4_reached s_X4_findOrder J25 Q) := by
  refine zs_iload_n C dX4_findOrder_0 rfl ?_
  exact zs_if_eq C dX4_findOrder_1 (by decide) (kX4_findOrder_10 C h_X4_reached g_X4_reached h_X4_findOrder g_X4_findOrder j25 hq) (kX4_findOrder_4 C h_X4_reached g_X4_reached h_X4_findOrder g_X4_findOrder j25 hq)
theorem mX4_findOrder {d : Nat} {spec : zq_Sp} {σ25 : Type} {d_X4_reached : Nat} {s_X4_reached : zq_Sp} (h_X4_reached : zq_M yX4_reached cX4_reached 3 (some .int) 1 d_X4_reached s_X4_reached) (g_X4_reached : d_X4_reached + 1 ≤ d) {d_X4_findOrder : Nat} {s_X4_findOrder : zq_Sp} (h_X4_findOrder : zq_M yX4_findOrder cX4_findOrder 7 (some .boolean) 1 d_X4_findOrder s_X4_findOrder) (g_X4_findOrder : d_X4_findOrder + 1 ≤ d) (μ25 : σ25 → Nat) (I25 : zq_Q → σ25 → zq_P) (v : ∀ args h Q, spec args h Q → (zq_a args).length ≤ 7 ∧ xX4_findOrder_0 s_X4_reached s_X4_findOrder (fun ls st h => ∃ b, I25 Q b ls st h) Q (zq_l0 7 args) [] h) (v25 : ∀ Q a ls st h, I25 Q a ls st h → xX4_findOrder_25 s_X4_reached s_X4_findOrder (fun ls st h => ∃ b, μ25 b < μ25 a ∧ I25 Q b ls st h) Q ls st h) : zq_M yX4_findOrder cX4_findOrder 7 (some .boolean) 1 d spec := by
  refine zq_met (by decide +kernel) (by decide) (fun X Q args h C hq hs => ⟨(v args h Q hs).1, _, ?_, (v args h Q hs).2⟩)
  have hl := zq_loop1 (X := X) (nL := 7) (pc1 := 25) μ25 (I25 Q) (fun J25 => xX4_findOrder_25 s_X4_reached s_X4_findOrder J25 Q) (fun j25 => kX4_findOrder_25 C h_X4_reached g_X4_reached h_X4_findOrder g_X4_findOrder j25 hq) (v25 Q)
  exact kX4_findOrder_0 C h_X4_reached g_X4_reached h_X4_findOrder g_X4_findOrder hl hq
/-! ToOneCrumb$Seating.ways(LToOneCrumb$Worths;ILToOneCrumb$Row;)I -/
theorem dX7_ways_0 : decode cX7_ways 0 = .ok (.aload_n 0, 1) := by decide +kernel
theorem dX7_ways_1 : decode cX7_ways 1 = .ok (.iload_n 2, 1) := by decide +kernel
theorem dX7_ways_2 : decode cX7_ways 2 = .ok (.iconst 4, 1) := by decide +kernel
theorem dX7_ways_3 : decode cX7_ways 3 = .ok (.invokestatic 24, 3) := by decide +kernel
theorem dX7_ways_6 : decode cX7_ways 6 = .ok (.putfield 30, 3) := by decide +kernel
theorem dX7_ways_9 : decode cX7_ways 9 = .ok (.aload_n 0, 1) := by decide +kernel
theorem dX7_ways_10 : decode cX7_ways 10 = .ok (.aload_n 1, 1) := by decide +kernel
theorem dX7_ways_11 : decode cX7_ways 11 = .ok (.getfield 34, 3) := by decide +kernel
theorem dX7_ways_14 : decode cX7_ways 14 = .ok (.putfield 39, 3) := by decide +kernel
theorem dX7_ways_17 : decode cX7_ways 17 = .ok (.aload_n 0, 1) := by decide +kernel
theorem dX7_ways_18 : decode cX7_ways 18 = .ok (.iconst 0, 1) := by decide +kernel
theorem dX7_ways_19 : decode cX7_ways 19 = .ok (.putfield 40, 3) := by decide +kernel
theorem dX7_ways_22 : decode cX7_ways 22 = .ok (.aload_n 0, 1) := by decide +kernel
theorem dX7_ways_23 : decode cX7_ways 23 = .ok (.aload_n 1, 1) := by decide +kernel
theorem dX7_ways_24 : decode cX7_ways 24 = .ok (.iconst 0, 1) := by decide +kernel
theorem dX7_ways_25 : decode cX7_ways 25 = .ok (.iconst 0, 1) := by decide +kernel
theorem dX7_ways_26 : decode cX7_ways 26 = .ok (.iconst 0, 1) := by decide +kernel
theorem dX7_ways_27 : decode cX7_ways 27 = .ok (.invokevirtual 43, 3) := by decide +kernel
theorem dX7_ways_30 : decode cX7_ways 30 = .ok (.iconst 0, 1) := by decide +kernel
theorem dX7_ways_31 : decode cX7_ways 31 = .ok (.istore 4, 2) := by decide +kernel
theorem dX7_ways_33 : decode cX7_ways 33 = .ok (.aload_n 0, 1) := by decide +kernel
theorem dX7_ways_34 : decode cX7_ways 34 = .ok (.getfield 40, 3) := by decide +kernel
theorem dX7_ways_37 : decode cX7_ways 37 = .ok (.ifCond .le 30, 3) := by decide +kernel
theorem dX7_ways_40 : decode cX7_ways 40 = .ok (.iload 4, 2) := by decide +kernel
theorem dX7_ways_42 : decode cX7_ways 42 = .ok (.aload_n 0, 1) := by decide +kernel
theorem dX7_ways_43 : decode cX7_ways 43 = .ok (.getfield 39, 3) := by decide +kernel
theorem dX7_ways_46 : decode cX7_ways 46 = .ok (.if_icmp .ge 21, 3) := by decide +kernel
theorem dX7_ways_49 : decode cX7_ways 49 = .ok (.aload_n 3, 1) := by decide +kernel
theorem dX7_ways_50 : decode cX7_ways 50 = .ok (.aload_n 0, 1) := by decide +kernel
theorem dX7_ways_51 : decode cX7_ways 51 = .ok (.getfield 21, 3) := by decide +kernel
theorem dX7_ways_54 : decode cX7_ways 54 = .ok (.iload 4, 2) := by decide +kernel
theorem dX7_ways_56 : decode cX7_ways 56 = .ok (.iaload, 1) := by decide +kernel
theorem dX7_ways_57 : decode cX7_ways 57 = .ok (.i2l, 1) := by decide +kernel
theorem dX7_ways_58 : decode cX7_ways 58 = .ok (.invokevirtual 47, 3) := by decide +kernel
theorem dX7_ways_61 : decode cX7_ways 61 = .ok (.iinc 4 1, 3) := by decide +kernel
theorem dX7_ways_64 : decode cX7_ways 64 = .ok (.goto (-31), 3) := by decide +kernel
theorem dX7_ways_67 : decode cX7_ways 67 = .ok (.aload_n 0, 1) := by decide +kernel
theorem dX7_ways_68 : decode cX7_ways 68 = .ok (.getfield 40, 3) := by decide +kernel
theorem dX7_ways_71 : decode cX7_ways 71 = .ok (.ireturn, 1) := by decide +kernel
def xX7_ways_67 (s_X7_part : zq_Sp) (s_X5_add : zq_Sp) (J33 : zq_P) (Q : zq_Q) (ls : zq_L) (st : List Value) (h : zq_H) : Prop := (zi_aload 0 (zi_getI 29 6 (zi_iret Q))) ls st h
theorem kX7_ways_67 {X : zq_X} {d : Nat} (C : zq_C X cX7_ways 5 RX7 d) (hd1 : 1 ≤ d) {d_X7_part : Nat} {s_X7_part : zq_Sp} (h_X7_part : zq_M yX7_part cX7_part 7 none 0 d_X7_part s_X7_part) (g_X7_part : d_X7_part + 1 ≤ d) {d_X5_add : Nat} {s_X5_add : zq_Sp} (h_X5_add : zq_M yX5_add cX5_add 3 none 0 d_X5_add s_X5_add) (g_X5_add : d_X5_add + 1 ≤ d) {J33 : zq_P} (j33 : zq_ok X 5 33 J33) {Q : zq_Q} (hq : zq_R X (some .int) 1 Q) : zq_ok X 5 67 (xX7_ways_67 s_X7_part s_X5_add J33 Q) := by
  refine zs_aload_n C dX7_ways_67 rfl ?_
  refine zs_getI C zp_29 zF7 (j := 6) ⟨by decide, rfl⟩ zw_216 dX7_ways_68 ?_
  exact zs_iret C hq dX7_ways_71
def xX7_ways_49 (s_X7_part : zq_Sp) (s_X5_add : zq_Sp) (J33 : zq_P) (Q : zq_Q) (ls : zq_L) (st : List Value) (h : zq_H) : Prop := (zi_aload 3 (zi_aload 0 (zi_getR 29 33 (zi_iload 4 (zi_aldI 33 16 (zi_i2l (zi_callV 1 3 s_X5_add (zi_iinc 4 1 (J33))))))))) ls st h
theorem kX7_ways_49 {X : zq_X} {d : Nat} (C : zq_C X cX7_ways 5 RX7 d) (hd1 : 1 ≤ d) {d_X7_part : Nat} {s_X7_part : zq_Sp} (h_X7_part : zq_M yX7_part cX7_part 7 none 0 d_X7_part s_X7_part) (g_X7_part : d_X7_part + 1 ≤ d) {d_X5_add : Nat} {s_X5_add : zq_Sp} (h_X5_add : zq_M yX5_add cX5_add 3 none 0 d_X5_add s_X5_add) (g_X5_add : d_X5_add + 1 ≤ d) {J33 : zq_P} (j33 : zq_ok X 5 33 J33) {Q : zq_Q} (hq : zq_R X (some .int) 1 Q) : zq_ok X 5 49 (xX7_ways_49 s_X7_part s_X5_add J33 Q) := by
  refine zs_aload_n C dX7_ways_49 rfl ?_
  refine zs_aload_n C dX7_ways_50 rfl ?_
  refine zs_getR C zp_29 zF7 (j := 3) ⟨by decide, rfl⟩ zw_213 dX7_ways_51 ?_
  refine zs_iload C dX7_ways_54 ?_
  refine zs_iaload C zp_33 dX7_ways_56 ?_
  refine zs_i2l C dX7_ways_57 ?_
  refine zs_callV C h_X5_add g_X5_add zy_X5_add zp_3 (show vwCl[5]? = some (RX5, TX5, 2) from rfl) zw_832 zw_655 zs9_X5_add dX7_ways_58 ?_
  refine zs_iinc C dX7_ways_61 (by decide) (by decide) ?_
  exact zs_goto C dX7_ways_64 (by decide) (j33)
def xX7_ways_40 (s_X7_part : zq_Sp) (s_X5_add : zq_Sp) (J33 : zq_P) (Q : zq_Q) (ls : zq_L) (st : List Value) (h : zq_H) : Prop := (zi_iload 4 (zi_aload 0 (zi_getI 29 5 (zi_if2 (fun x y => y ≤ x) (xX7_ways_67 s_X7_part s_X5_add J33 Q) (xX7_ways_49 s_X7_part s_X5_add J33 Q))))) ls st h
theorem kX7_ways_40 {X : zq_X} {d : Nat} (C : zq_C X cX7_ways 5 RX7 d) (hd1 : 1 ≤ d) {d_X7_part : Nat} {s_X7_part : zq_Sp} (h_X7_part : zq_M yX7_part cX7_part 7 none 0 d_X7_part s_X7_part) (g_X7_part : d_X7_part + 1 ≤ d) {d_X5_add : Nat} {s_X5_add : zq_Sp} (h_X5_add : zq_M yX5_add cX5_add 3 none 0 d_X5_add s_X5_add) (g_X5_add : d_X5_add + 1 ≤ d) {J33 : zq_P} (j33 : zq_ok X 5 33 J33) {Q : zq_Q} (hq : zq_R X (some .int) 1 Q) : zq_ok X 5 40 (xX7_ways_40 s_X7_part s_X5_add J33 Q) := by
  refine zs_iload C dX7_ways_40 ?_
  refine zs_aload_n C dX7_ways_42 rfl ?_
  refine zs_getI C zp_29 zF7 (j := 5) ⟨by decide, rfl⟩ zw_215 dX7_ways_43 ?_
  exact zs_icmp_ge C dX7_ways_46 (by decide) (kX7_ways_67 C hd1 h_X7_part g_X7_part h_X5_add g_X5_add j33 hq) (kX7_ways_49 C hd1 h_X7_part g_X7_part h_X5_add g_X5_add j33 hq)
def xX7_ways_33 (s_X7_part : zq_Sp) (s_X5_add : zq_Sp) (J33 : zq_P) (Q : zq_Q) (ls : zq_L) (st : List Value) (h : zq_H) : Prop := (zi_aload 0 (zi_getI 29 6 (zi_if1 (fun x => x ≤ 0) (xX7_ways_67 s_X7_part s_X5_add J33 Q) (xX7_ways_40 s_X7_part s_X5_add J33 Q)))) ls st h
theorem kX7_ways_33 {X : zq_X} {d : Nat} (C : zq_C X cX7_ways 5 RX7 d) (hd1 : 1 ≤ d) {d_X7_part : Nat} {s_X7_part : zq_Sp} (h_X7_part : zq_M yX7_part cX7_part 7 none 0 d_X7_part s_X7_part) (g_X7_part : d_X7_part + 1 ≤ d) {d_X5_add : Nat} {s_X5_add : zq_Sp} (h_X5_add : zq_M yX5_add cX5_add 3 none 0 d_X5_add s_X5_add) (g_X5_add : d_X5_add + 1 ≤ d) {J33 : zq_P} (j33 : zq_ok X 5 33 J33) {Q : zq_Q} (hq : zq_R X (some .int) 1 Q) : zq_ok X 5 33 (xX7_ways_33 s_X7_part s_X5_add J33 Q) := by
  refine zs_aload_n C dX7_ways_33 rfl ?_
  refine zs_getI C zp_29 zF7 (j := 6) ⟨by decide, rfl⟩ zw_216 dX7_ways_34 ?_
  exact zs_if_le C dX7_ways_37 (by decide) (kX7_ways_67 C hd1 h_X7_part g_X7_part h_X5_add g_X5_add j33 hq) (kX7_ways_40 C hd1 h_X7_part g_X7_part h_X5_add g_X5_add j33 hq)
def xX7_ways_0 (s_X7_part : zq_Sp) (s_X5_add : zq_Sp) (J33 : zq_P) (Q : zq_Q) (ls : zq_L) (st : List Value) (h : zq_H) : Prop := (zi_aload 0 (zi_iload 2 (zi_push (.int 4) (zi_m2 zf_min (zi_putI 29 4 (zi_aload 0 (zi_aload 1 (zi_getI 9 2 (zi_putI 29 5 (zi_aload 0 (zi_push (.int 0) (zi_putI 29 6 (zi_aload 0 (zi_aload 1 (zi_push (.int 0) (zi_push (.int 0) (zi_push (.int 0) (zi_callV 4 29 s_X7_part (zi_push (.int 0) (zi_istore 4 (J33))))))))))))))))))))) ls st h
theorem kX7_ways_0 {X : zq_X} {d : Nat} (C : zq_C X cX7_ways 5 RX7 d) (hd1 : 1 ≤ d) {d_X7_part : Nat} {s_X7_part : zq_Sp} (h_X7_part : zq_M yX7_part cX7_part 7 none 0 d_X7_part s_X7_part) (g_X7_part : d_X7_part + 1 ≤ d) {d_X5_add : Nat} {s_X5_add : zq_Sp} (h_X5_add : zq_M yX5_add cX5_add 3 none 0 d_X5_add s_X5_add) (g_X5_add : d_X5_add + 1 ≤ d) {J33 : zq_P} (j33 : zq_ok X 5 33 J33) {Q : zq_Q} (hq : zq_R X (some .int) 1 Q) : zq_ok X 5 0 (xX7_ways_0 s_X7_part s_X5_add J33 Q) := by
  refine zs_aload_n C dX7_ways_0 rfl ?_
  refine zs_iload_n C dX7_ways_1 rfl ?_
  refine zs_iconst C dX7_ways_2 (by decide) ?_
  refine zs_mmin C hd1 zw_804 zw_393 zw_14 zw_394 dX7_ways_3 ?_
  refine zs_putI C zp_29 zF7 (j := 4) ⟨by decide, rfl⟩ ⟨rfl, by decide +kernel⟩ zw_214 dX7_ways_6 ?_
  refine zs_aload_n C dX7_ways_9 rfl ?_
  refine zs_aload_n C dX7_ways_10 rfl ?_
  refine zs_getIN C zp_9 zF10 (j := 2) ⟨by decide, rfl⟩ zw_105 dX7_ways_11 ?_
  refine zs_putI C zp_29 zF7 (j := 5) ⟨by decide, rfl⟩ ⟨rfl, by decide +kernel⟩ zw_215 dX7_ways_14 ?_
  refine zs_aload_n C dX7_ways_17 rfl ?_
  refine zs_iconst C dX7_ways_18 (by decide) ?_
  refine zs_putI C zp_29 zF7 (j := 6) ⟨by decide, rfl⟩ ⟨rfl, by decide +kernel⟩ zw_216 dX7_ways_19 ?_
  refine zs_aload_n C dX7_ways_22 rfl ?_
  refine zs_aload_n C dX7_ways_23 rfl ?_
  refine zs_iconst C dX7_ways_24 (by decide) ?_
  refine zs_iconst C dX7_ways_25 (by decide) ?_
  refine zs_iconst C dX7_ways_26 (by decide) ?_
  refine zs_callV C h_X7_part g_X7_part zy_X7_part zp_29 (show vwCl[7]? = some (RX7, TX7, 7) from rfl) zw_805 zw_807 zs9_X7_part dX7_ways_27 ?_
  refine zs_iconst C dX7_ways_30 (by decide) ?_
  refine zs_istore C dX7_ways_31 (by decide) ?_
  exact j33
theorem mX7_ways {d : Nat} {spec : zq_Sp} {σ33 : Type} {d_X7_part : Nat} {s_X7_part : zq_Sp} (h_X7_part : zq_M yX7_part cX7_part 7 none 0 d_X7_part s_X7_part) (g_X7_part : d_X7_part + 1 ≤ d) {d_X5_add : Nat} {s_X5_add : zq_Sp} (h_X5_add : zq_M yX5_add cX5_add 3 none 0 d_X5_add s_X5_add) (g_X5_add : d_X5_add + 1 ≤ d) (hd1 : 1 ≤ d) (μ33 : σ33 → Nat) (I33 : zq_Q → σ33 → zq_P) (v : ∀ args h Q, spec args h Q → (zq_a args).length ≤ 5 ∧ xX7_ways_0 s_X7_part s_X5_add (fun ls st h => ∃ b, I33 Q b ls st h) Q (zq_l0 5 args) [] h) (v33 : ∀ Q a ls st h, I33 Q a ls st h → xX7_ways_33 s_X7_part s_X5_add (fun ls st h => ∃ b, μ33 b < μ33 a ∧ I33 Q b ls st h) Q ls st h) : zq_M yX7_ways cX7_ways 5 (some .int) 1 d spec := by
  refine zq_met (by decide +kernel) (by decide) (fun X Q args h C hq hs => ⟨(v args h Q hs).1, _, ?_, (v args h Q hs).2⟩)
  have hl := zq_loop1 (X := X) (nL := 5) (pc1 := 33) μ33 (I33 Q) (fun J33 => xX7_ways_33 s_X7_part s_X5_add J33 Q) (fun j33 => kX7_ways_33 C hd1 h_X7_part g_X7_part h_X5_add g_X5_add j33 hq) (v33 Q)
  exact kX7_ways_0 C hd1 h_X7_part g_X7_part h_X5_add g_X5_add hl hq
/-! ToOneCrumb$Seating.part(LToOneCrumb$Worths;III)V -/
theorem dX7_part_0 : decode cX7_part 0 = .ok (.iload_n 2, 1) := by decide +kernel
theorem dX7_part_1 : decode cX7_part 1 = .ok (.aload_n 0, 1) := by decide +kernel
theorem dX7_part_2 : decode cX7_part 2 = .ok (.getfield 39, 3) := by decide +kernel
theorem dX7_part_5 : decode cX7_part 5 = .ok (.if_icmp .ge 9, 3) := by decide +kernel
theorem dX7_part_8 : decode cX7_part 8 = .ok (.iload 4, 2) := by decide +kernel
theorem dX7_part_10 : decode cX7_part 10 = .ok (.iconst 4, 1) := by decide +kernel
theorem dX7_part_11 : decode cX7_part 11 = .ok (.if_icmp .lt 25, 3) := by decide +kernel
theorem dX7_part_14 : decode cX7_part 14 = .ok (.iload_n 2, 1) := by decide +kernel
theorem dX7_part_15 : decode cX7_part 15 = .ok (.aload_n 0, 1) := by decide +kernel
theorem dX7_part_16 : decode cX7_part 16 = .ok (.getfield 39, 3) := by decide +kernel
theorem dX7_part_19 : decode cX7_part 19 = .ok (.if_icmp .lt 16, 3) := by decide +kernel
theorem dX7_part_22 : decode cX7_part 22 = .ok (.aload_n 0, 1) := by decide +kernel
theorem dX7_part_23 : decode cX7_part 23 = .ok (.aload_n 1, 1) := by decide +kernel
theorem dX7_part_24 : decode cX7_part 24 = .ok (.iload_n 3, 1) := by decide +kernel
theorem dX7_part_25 : decode cX7_part 25 = .ok (.invokevirtual 53, 3) := by decide +kernel
theorem dX7_part_28 : decode cX7_part 28 = .ok (.ifCond .eq 7, 3) := by decide +kernel
theorem dX7_part_31 : decode cX7_part 31 = .ok (.aload_n 0, 1) := by decide +kernel
theorem dX7_part_32 : decode cX7_part 32 = .ok (.invokevirtual 57, 3) := by decide +kernel
theorem dX7_part_35 : decode cX7_part 35 = .ok (.return_, 1) := by decide +kernel
theorem dX7_part_36 : decode cX7_part 36 = .ok (.iconst 0, 1) := by decide +kernel
theorem dX7_part_37 : decode cX7_part 37 = .ok (.istore 5, 2) := by decide +kernel
theorem dX7_part_39 : decode cX7_part 39 = .ok (.iload 5, 2) := by decide +kernel
theorem dX7_part_41 : decode cX7_part 41 = .ok (.aload_n 0, 1) := by decide +kernel
theorem dX7_part_42 : decode cX7_part 42 = .ok (.getfield 30, 3) := by decide +kernel
theorem dX7_part_45 : decode cX7_part 45 = .ok (.if_icmp .ge 97, 3) := by decide +kernel
theorem dX7_part_48 : decode cX7_part 48 = .ok (.iload_n 3, 1) := by decide +kernel
theorem dX7_part_49 : decode cX7_part 49 = .ok (.iload 5, 2) := by decide +kernel
theorem dX7_part_51 : decode cX7_part 51 = .ok (.ishr, 1) := by decide +kernel
theorem dX7_part_52 : decode cX7_part 52 = .ok (.iconst 1, 1) := by decide +kernel
theorem dX7_part_53 : decode cX7_part 53 = .ok (.iand, 1) := by decide +kernel
theorem dX7_part_54 : decode cX7_part 54 = .ok (.ifCond .eq 6, 3) := by decide +kernel
theorem dX7_part_57 : decode cX7_part 57 = .ok (.goto 79, 3) := by decide +kernel
theorem dX7_part_60 : decode cX7_part 60 = .ok (.aload_n 0, 1) := by decide +kernel
theorem dX7_part_61 : decode cX7_part 61 = .ok (.getfield 9, 3) := by decide +kernel
theorem dX7_part_64 : decode cX7_part 64 = .ok (.iload 5, 2) := by decide +kernel
theorem dX7_part_66 : decode cX7_part 66 = .ok (.iload_n 2, 1) := by decide +kernel
theorem dX7_part_67 : decode cX7_part 67 = .ok (.iastore, 1) := by decide +kernel
theorem dX7_part_68 : decode cX7_part 68 = .ok (.iload_n 2, 1) := by decide +kernel
theorem dX7_part_69 : decode cX7_part 69 = .ok (.iconst 1, 1) := by decide +kernel
theorem dX7_part_70 : decode cX7_part 70 = .ok (.iadd, 1) := by decide +kernel
theorem dX7_part_71 : decode cX7_part 71 = .ok (.istore 6, 2) := by decide +kernel
theorem dX7_part_73 : decode cX7_part 73 = .ok (.iload 6, 2) := by decide +kernel
theorem dX7_part_75 : decode cX7_part 75 = .ok (.aload_n 0, 1) := by decide +kernel
theorem dX7_part_76 : decode cX7_part 76 = .ok (.getfield 39, 3) := by decide +kernel
theorem dX7_part_79 : decode cX7_part 79 = .ok (.if_icmp .gt 57, 3) := by decide +kernel
theorem dX7_part_82 : decode cX7_part 82 = .ok (.aload_n 0, 1) := by decide +kernel
theorem dX7_part_83 : decode cX7_part 83 = .ok (.getfield 15, 3) := by decide +kernel
theorem dX7_part_86 : decode cX7_part 86 = .ok (.iload 5, 2) := by decide +kernel
theorem dX7_part_88 : decode cX7_part 88 = .ok (.iload 6, 2) := by decide +kernel
theorem dX7_part_90 : decode cX7_part 90 = .ok (.iastore, 1) := by decide +kernel
theorem dX7_part_91 : decode cX7_part 91 = .ok (.aload_n 0, 1) := by decide +kernel
theorem dX7_part_92 : decode cX7_part 92 = .ok (.getfield 18, 3) := by decide +kernel
theorem dX7_part_95 : decode cX7_part 95 = .ok (.iload 6, 2) := by decide +kernel
theorem dX7_part_97 : decode cX7_part 97 = .ok (.iconst 1, 1) := by decide +kernel
theorem dX7_part_98 : decode cX7_part 98 = .ok (.isub, 1) := by decide +kernel
theorem dX7_part_99 : decode cX7_part 99 = .ok (.iload 5, 2) := by decide +kernel
theorem dX7_part_101 : decode cX7_part 101 = .ok (.iastore, 1) := by decide +kernel
theorem dX7_part_102 : decode cX7_part 102 = .ok (.aload_n 0, 1) := by decide +kernel
theorem dX7_part_103 : decode cX7_part 103 = .ok (.aload_n 1, 1) := by decide +kernel
theorem dX7_part_104 : decode cX7_part 104 = .ok (.iload 5, 2) := by decide +kernel
theorem dX7_part_106 : decode cX7_part 106 = .ok (.iload_n 3, 1) := by decide +kernel
theorem dX7_part_107 : decode cX7_part 107 = .ok (.invokevirtual 60, 3) := by decide +kernel
theorem dX7_part_110 : decode cX7_part 110 = .ok (.ifCond .eq 20, 3) := by decide +kernel
theorem dX7_part_113 : decode cX7_part 113 = .ok (.aload_n 0, 1) := by decide +kernel
theorem dX7_part_114 : decode cX7_part 114 = .ok (.aload_n 1, 1) := by decide +kernel
theorem dX7_part_115 : decode cX7_part 115 = .ok (.iload 6, 2) := by decide +kernel
theorem dX7_part_117 : decode cX7_part 117 = .ok (.iload_n 3, 1) := by decide +kernel
theorem dX7_part_118 : decode cX7_part 118 = .ok (.iconst 1, 1) := by decide +kernel
theorem dX7_part_119 : decode cX7_part 119 = .ok (.iload 5, 2) := by decide +kernel
theorem dX7_part_121 : decode cX7_part 121 = .ok (.ishl, 1) := by decide +kernel
theorem dX7_part_122 : decode cX7_part 122 = .ok (.ior, 1) := by decide +kernel
theorem dX7_part_123 : decode cX7_part 123 = .ok (.iload 4, 2) := by decide +kernel
theorem dX7_part_125 : decode cX7_part 125 = .ok (.iconst 1, 1) := by decide +kernel
theorem dX7_part_126 : decode cX7_part 126 = .ok (.iadd, 1) := by decide +kernel
theorem dX7_part_127 : decode cX7_part 127 = .ok (.invokevirtual 43, 3) := by decide +kernel
theorem dX7_part_130 : decode cX7_part 130 = .ok (.iinc 6 1, 3) := by decide +kernel
theorem dX7_part_133 : decode cX7_part 133 = .ok (.goto (-60), 3) := by decide +kernel
theorem dX7_part_136 : decode cX7_part 136 = .ok (.iinc 5 1, 3) := by decide +kernel
theorem dX7_part_139 : decode cX7_part 139 = .ok (.goto (-100), 3) := by decide +kernel
theorem dX7_part_142 : decode cX7_part 142 = .ok (.return_, 1) := by decide +kernel
def xX7_part_142 (s_X7_othersAreCalm : zq_Sp) (s_X7_note : zq_Sp) (s_X7_isCalmWith : zq_Sp) (s_X7_part : zq_Sp) (J39 : zq_P) (J73 : zq_P) (Q : zq_Q) (ls : zq_L) (st : List Value) (h : zq_H) : Prop := (zi_vret Q) ls st h
theorem kX7_part_142 {X : zq_X} {d : Nat} (C : zq_C X cX7_part 7 RX7 d) {d_X7_othersAreCalm : Nat} {s_X7_othersAreCalm : zq_Sp} (h_X7_othersAreCalm : zq_M yX7_othersAreCalm cX7_othersAreCalm 4 (some .boolean) 1 d_X7_othersAreCalm s_X7_othersAreCalm) (g_X7_othersAreCalm : d_X7_othersAreCalm + 1 ≤ d) {d_X7_note : Nat} {s_X7_note : zq_Sp} (h_X7_note : zq_M yX7_note cX7_note 1 none 0 d_X7_note s_X7_note) (g_X7_note : d_X7_note + 1 ≤ d) {d_X7_isCalmWith : Nat} {s_X7_isCalmWith : zq_Sp} (h_X7_isCalmWith : zq_M yX7_isCalmWith cX7_isCalmWith 5 (some .boolean) 1 d_X7_isCalmWith s_X7_isCalmWith) (g_X7_isCalmWith : d_X7_isCalmWith + 1 ≤ d) {d_X7_part : Nat} {s_X7_part : zq_Sp} (h_X7_part : zq_M yX7_part cX7_part 7 none 0 d_X7_part s_X7_part) (g_X7_part : d_X7_part + 1 ≤ d) {J39 : zq_P} (j39 : zq_ok X 7 39 J39) {J73 : zq_P} (j73 : zq_ok X 7 73 J73) {Q : zq_Q} (hq : zq_R X none 0 Q) : zq_ok X 7 142 (xX7_part_142 s_X7_othersAreCalm s_X7_note s_X7_isCalmWith s_X7_part J39 J73 Q) := by
  exact zs_vret C hq dX7_part_142
def xX7_part_136 (s_X7_othersAreCalm : zq_Sp) (s_X7_note : zq_Sp) (s_X7_isCalmWith : zq_Sp) (s_X7_part : zq_Sp) (J39 : zq_P) (J73 : zq_P) (Q : zq_Q) (ls : zq_L) (st : List Value) (h : zq_H) : Prop := (zi_iinc 5 1 (J39)) ls st h
theorem kX7_part_136 {X : zq_X} {d : Nat} (C : zq_C X cX7_part 7 RX7 d) {d_X7_othersAreCalm : Nat} {s_X7_othersAreCalm : zq_Sp} (h_X7_othersAreCalm : zq_M yX7_othersAreCalm cX7_othersAreCalm 4 (some .boolean) 1 d_X7_othersAreCalm s_X7_othersAreCalm) (g_X7_othersAreCalm : d_X7_othersAreCalm + 1 ≤ d) {d_X7_note : Nat} {s_X7_note : zq_Sp} (h_X7_note : zq_M yX7_note cX7_note 1 none 0 d_X7_note s_X7_note) (g_X7_note : d_X7_note + 1 ≤ d) {d_X7_isCalmWith : Nat} {s_X7_isCalmWith : zq_Sp} (h_X7_isCalmWith : zq_M yX7_isCalmWith cX7_isCalmWith 5 (some .boolean) 1 d_X7_isCalmWith s_X7_isCalmWith) (g_X7_isCalmWith : d_X7_isCalmWith + 1 ≤ d) {d_X7_part : Nat} {s_X7_part : zq_Sp} (h_X7_part : zq_M yX7_part cX7_part 7 none 0 d_X7_part s_X7_part) (g_X7_part : d_X7_part + 1 ≤ d) {J39 : zq_P} (j39 : zq_ok X 7 39 J39) {J73 : zq_P} (j73 : zq_ok X 7 73 J73) {Q : zq_Q} (hq : zq_R X none 0 Q) : zq_ok X 7 136 (xX7_part_136 s_X7_othersAreCalm s_X7_note s_X7_isCalmWith s_X7_part J39 J73 Q) := by
  refine zs_iinc C dX7_part_136 (by decide) (by decide) ?_
  exact zs_goto C dX7_part_139 (by decide) (j39)
def xX7_part_130 (s_X7_othersAreCalm : zq_Sp) (s_X7_note : zq_Sp) (s_X7_isCalmWith : zq_Sp) (s_X7_part : zq_Sp) (J39 : zq_P) (J73 : zq_P) (Q : zq_Q) (ls : zq_L) (st : List Value) (h : zq_H) : Prop := (zi_iinc 6 1 (J73)) ls st h
theorem kX7_part_130 {X : zq_X} {d : Nat} (C : zq_C X cX7_part 7 RX7 d) {d_X7_othersAreCalm : Nat} {s_X7_othersAreCalm : zq_Sp} (h_X7_othersAreCalm : zq_M yX7_othersAreCalm cX7_othersAreCalm 4 (some .boolean) 1 d_X7_othersAreCalm s_X7_othersAreCalm) (g_X7_othersAreCalm : d_X7_othersAreCalm + 1 ≤ d) {d_X7_note : Nat} {s_X7_note : zq_Sp} (h_X7_note : zq_M yX7_note cX7_note 1 none 0 d_X7_note s_X7_note) (g_X7_note : d_X7_note + 1 ≤ d) {d_X7_isCalmWith : Nat} {s_X7_isCalmWith : zq_Sp} (h_X7_isCalmWith : zq_M yX7_isCalmWith cX7_isCalmWith 5 (some .boolean) 1 d_X7_isCalmWith s_X7_isCalmWith) (g_X7_isCalmWith : d_X7_isCalmWith + 1 ≤ d) {d_X7_part : Nat} {s_X7_part : zq_Sp} (h_X7_part : zq_M yX7_part cX7_part 7 none 0 d_X7_part s_X7_part) (g_X7_part : d_X7_part + 1 ≤ d) {J39 : zq_P} (j39 : zq_ok X 7 39 J39) {J73 : zq_P} (j73 : zq_ok X 7 73 J73) {Q : zq_Q} (hq : zq_R X none 0 Q) : zq_ok X 7 130 (xX7_part_130 s_X7_othersAreCalm s_X7_note s_X7_isCalmWith s_X7_part J39 J73 Q) := by
  refine zs_iinc C dX7_part_130 (by decide) (by decide) ?_
  exact zs_goto C dX7_part_133 (by decide) (j73)
def xX7_part_113 (s_X7_othersAreCalm : zq_Sp) (s_X7_note : zq_Sp) (s_X7_isCalmWith : zq_Sp) (s_X7_part : zq_Sp) (J39 : zq_P) (J73 : zq_P) (Q : zq_Q) (ls : zq_L) (st : List Value) (h : zq_H) : Prop := (zi_aload 0 (zi_aload 1 (zi_iload 6 (zi_iload 3 (zi_push (.int 1) (zi_iload 5 (zi_i2 zf_shl (zi_i2 (fun x y => x ||| y) (zi_iload 4 (zi_push (.int 1) (zi_i2 (fun x y => x + y) (zi_callV 4 29 s_X7_part ((xX7_part_130 s_X7_othersAreCalm s_X7_note s_X7_isCalmWith s_X7_part J39 J73 Q)))))))))))))) ls st h
theorem kX7_part_113 {X : zq_X} {d : Nat} (C : zq_C X cX7_part 7 RX7 d) {d_X7_othersAreCalm : Nat} {s_X7_othersAreCalm : zq_Sp} (h_X7_othersAreCalm : zq_M yX7_othersAreCalm cX7_othersAreCalm 4 (some .boolean) 1 d_X7_othersAreCalm s_X7_othersAreCalm) (g_X7_othersAreCalm : d_X7_othersAreCalm + 1 ≤ d) {d_X7_note : Nat} {s_X7_note : zq_Sp} (h_X7_note : zq_M yX7_note cX7_note 1 none 0 d_X7_note s_X7_note) (g_X7_note : d_X7_note + 1 ≤ d) {d_X7_isCalmWith : Nat} {s_X7_isCalmWith : zq_Sp} (h_X7_isCalmWith : zq_M yX7_isCalmWith cX7_isCalmWith 5 (some .boolean) 1 d_X7_isCalmWith s_X7_isCalmWith) (g_X7_isCalmWith : d_X7_isCalmWith + 1 ≤ d) {d_X7_part : Nat} {s_X7_part : zq_Sp} (h_X7_part : zq_M yX7_part cX7_part 7 none 0 d_X7_part s_X7_part) (g_X7_part : d_X7_part + 1 ≤ d) {J39 : zq_P} (j39 : zq_ok X 7 39 J39) {J73 : zq_P} (j73 : zq_ok X 7 73 J73) {Q : zq_Q} (hq : zq_R X none 0 Q) : zq_ok X 7 113 (xX7_part_113 s_X7_othersAreCalm s_X7_note s_X7_isCalmWith s_X7_part J39 J73 Q) := by
  refine zs_aload_n C dX7_part_113 rfl ?_
  refine zs_aload_n C dX7_part_114 rfl ?_
  refine zs_iload C dX7_part_115 ?_
  refine zs_iload_n C dX7_part_117 rfl ?_
  refine zs_iconst C dX7_part_118 (by decide) ?_
  refine zs_iload C dX7_part_119 ?_
  refine zs_ishl C dX7_part_121 ?_
  refine zs_ior C dX7_part_122 ?_
  refine zs_iload C dX7_part_123 ?_
  refine zs_iconst C dX7_part_125 (by decide) ?_
  refine zs_iadd C dX7_part_126 ?_
  refine zs_callV C h_X7_part g_X7_part zy_X7_part zp_29 (show vwCl[7]? = some (RX7, TX7, 7) from rfl) zw_805 zw_807 zs9_X7_part dX7_part_127 ?_
  exact kX7_part_130 C h_X7_othersAreCalm g_X7_othersAreCalm h_X7_note g_X7_note h_X7_isCalmWith g_X7_isCalmWith h_X7_part g_X7_part j39 j73 hq
def xX7_part_82 (s_X7_othersAreCalm : zq_Sp) (s_X7_note : zq_Sp) (s_X7_isCalmWith : zq_Sp) (s_X7_part : zq_Sp) (J39 : zq_P) (J73 : zq_P) (Q : zq_Q) (ls : zq_L) (st : List Value) (h : zq_H) : Prop := (zi_aload 0 (zi_getR 29 31 (zi_iload 5 (zi_iload 6 (zi_astI 31 4 (zi_aload 0 (zi_getR 29 32 (zi_iload 6 (zi_push (.int 1) (zi_i2 (fun x y => x - y) (zi_iload 5 (zi_astI 32 16 (zi_aload 0 (zi_aload 1 (zi_iload 5 (zi_iload 3 (zi_callV 3 29 s_X7_isCalmWith (zi_if1 (fun x => x = 0) (xX7_part_130 s_X7_othersAreCalm s_X7_note s_X7_isCalmWith s_X7_part J39 J73 Q) (xX7_part_113 s_X7_othersAreCalm s_X7_note s_X7_isCalmWith s_X7_part J39 J73 Q))))))))))))))))))) ls st h
theorem kX7_part_82 {X : zq_X} {d : Nat} (C : zq_C X cX7_part 7 RX7 d) {d_X7_othersAreCalm : Nat} {s_X7_othersAreCalm : zq_Sp} (h_X7_othersAreCalm : zq_M yX7_othersAreCalm cX7_othersAreCalm 4 (some .boolean) 1 d_X7_othersAreCalm s_X7_othersAreCalm) (g_X7_othersAreCalm : d_X7_othersAreCalm + 1 ≤ d) {d_X7_note : Nat} {s_X7_note : zq_Sp} (h_X7_note : zq_M yX7_note cX7_note 1 none 0 d_X7_note s_X7_note) (g_X7_note : d_X7_note + 1 ≤ d) {d_X7_isCalmWith : Nat} {s_X7_isCalmWith : zq_Sp} (h_X7_isCalmWith : zq_M yX7_isCalmWith cX7_isCalmWith 5 (some .boolean) 1 d_X7_isCalmWith s_X7_isCalmWith) (g_X7_isCalmWith : d_X7_isCalmWith + 1 ≤ d) {d_X7_part : Nat} {s_X7_part : zq_Sp} (h_X7_part : zq_M yX7_part cX7_part 7 none 0 d_X7_part s_X7_part) (g_X7_part : d_X7_part + 1 ≤ d) {J39 : zq_P} (j39 : zq_ok X 7 39 J39) {J73 : zq_P} (j73 : zq_ok X 7 73 J73) {Q : zq_Q} (hq : zq_R X none 0 Q) : zq_ok X 7 82 (xX7_part_82 s_X7_othersAreCalm s_X7_note s_X7_isCalmWith s_X7_part J39 J73 Q) := by
  refine zs_aload_n C dX7_part_82 rfl ?_
  refine zs_getR C zp_29 zF7 (j := 1) ⟨by decide, rfl⟩ zw_211 dX7_part_83 ?_
  refine zs_iload C dX7_part_86 ?_
  refine zs_iload C dX7_part_88 ?_
  refine zs_iastore C zp_31 dX7_part_90 ?_
  refine zs_aload_n C dX7_part_91 rfl ?_
  refine zs_getR C zp_29 zF7 (j := 2) ⟨by decide, rfl⟩ zw_212 dX7_part_92 ?_
  refine zs_iload C dX7_part_95 ?_
  refine zs_iconst C dX7_part_97 (by decide) ?_
  refine zs_isub C dX7_part_98 ?_
  refine zs_iload C dX7_part_99 ?_
  refine zs_iastore C zp_32 dX7_part_101 ?_
  refine zs_aload_n C dX7_part_102 rfl ?_
  refine zs_aload_n C dX7_part_103 rfl ?_
  refine zs_iload C dX7_part_104 ?_
  refine zs_iload_n C dX7_part_106 rfl ?_
  refine zs_callV C h_X7_isCalmWith g_X7_isCalmWith zy_X7_isCalmWith zp_29 (show vwCl[7]? = some (RX7, TX7, 7) from rfl) zw_823 zw_825 zs9_X7_isCalmWith dX7_part_107 ?_
  exact zs_if_eq C dX7_part_110 (by decide) (kX7_part_130 C h_X7_othersAreCalm g_X7_othersAreCalm h_X7_note g_X7_note h_X7_isCalmWith g_X7_isCalmWith h_X7_part g_X7_part j39 j73 hq) (kX7_part_113 C h_X7_othersAreCalm g_X7_othersAreCalm h_X7_note g_X7_note h_X7_isCalmWith g_X7_isCalmWith h_X7_part g_X7_part j39 j73 hq)
def xX7_part_73 (s_X7_othersAreCalm : zq_Sp) (s_X7_note : zq_Sp) (s_X7_isCalmWith : zq_Sp) (s_X7_part : zq_Sp) (J39 : zq_P) (J73 : zq_P) (Q : zq_Q) (ls : zq_L) (st : List Value) (h : zq_H) : Prop := (zi_iload 6 (zi_aload 0 (zi_getI 29 5 (zi_if2 (fun x y => y < x) (xX7_part_136 s_X7_othersAreCalm s_X7_note s_X7_isCalmWith s_X7_part J39 J73 Q) (xX7_part_82 s_X7_othersAreCalm s_X7_note s_X7_isCalmWith s_X7_part J39 J73 Q))))) ls st h
theorem kX7_part_73 {X : zq_X} {d : Nat} (C : zq_C X cX7_part 7 RX7 d) {d_X7_othersAreCalm : Nat} {s_X7_othersAreCalm : zq_Sp} (h_X7_othersAreCalm : zq_M yX7_othersAreCalm cX7_othersAreCalm 4 (some .boolean) 1 d_X7_othersAreCalm s_X7_othersAreCalm) (g_X7_othersAreCalm : d_X7_othersAreCalm + 1 ≤ d) {d_X7_note : Nat} {s_X7_note : zq_Sp} (h_X7_note : zq_M yX7_note cX7_note 1 none 0 d_X7_note s_X7_note) (g_X7_note : d_X7_note + 1 ≤ d) {d_X7_isCalmWith : Nat} {s_X7_isCalmWith : zq_Sp} (h_X7_isCalmWith : zq_M yX7_isCalmWith cX7_isCalmWith 5 (some .boolean) 1 d_X7_isCalmWith s_X7_isCalmWith) (g_X7_isCalmWith : d_X7_isCalmWith + 1 ≤ d) {d_X7_part : Nat} {s_X7_part : zq_Sp} (h_X7_part : zq_M yX7_part cX7_part 7 none 0 d_X7_part s_X7_part) (g_X7_part : d_X7_part + 1 ≤ d) {J39 : zq_P} (j39 : zq_ok X 7 39 J39) {J73 : zq_P} (j73 : zq_ok X 7 73 J73) {Q : zq_Q} (hq : zq_R X none 0 Q) : zq_ok X 7 73 (xX7_part_73 s_X7_othersAreCalm s_X7_note s_X7_isCalmWith s_X7_part J39 J73 Q) := by
  refine zs_iload C dX7_part_73 ?_
  refine zs_aload_n C dX7_part_75 rfl ?_
  refine zs_getI C zp_29 zF7 (j := 5) ⟨by decide, rfl⟩ zw_215 dX7_part_76 ?_
  exact zs_icmp_gt C dX7_part_79 (by decide) (kX7_part_136 C h_X7_othersAreCalm g_X7_othersAreCalm h_X7_note g_X7_note h_X7_isCalmWith g_X7_isCalmWith h_X7_part g_X7_part j39 j73 hq) (kX7_part_82 C h_X7_othersAreCalm g_X7_othersAreCalm h_X7_note g_X7_note h_X7_isCalmWith g_X7_isCalmWith h_X7_part g_X7_part j39 j73 hq)
def xX7_part_60 (s_X7_othersAreCalm : zq_Sp) (s_X7_note : zq_Sp) (s_X7_isCalmWith : zq_Sp) (s_X7_part : zq_Sp) (J39 : zq_P) (J73 : zq_P) (Q : zq_Q) (ls : zq_L) (st : List Value) (h : zq_H) : Prop := (zi_aload 0 (zi_getR 29 30 (zi_iload 5 (zi_iload 2 (zi_astI 30 4 (zi_iload 2 (zi_push (.int 1) (zi_i2 (fun x y => x + y) (zi_istore 6 (J73)))))))))) ls st h
theorem kX7_part_60 {X : zq_X} {d : Nat} (C : zq_C X cX7_part 7 RX7 d) {d_X7_othersAreCalm : Nat} {s_X7_othersAreCalm : zq_Sp} (h_X7_othersAreCalm : zq_M yX7_othersAreCalm cX7_othersAreCalm 4 (some .boolean) 1 d_X7_othersAreCalm s_X7_othersAreCalm) (g_X7_othersAreCalm : d_X7_othersAreCalm + 1 ≤ d) {d_X7_note : Nat} {s_X7_note : zq_Sp} (h_X7_note : zq_M yX7_note cX7_note 1 none 0 d_X7_note s_X7_note) (g_X7_note : d_X7_note + 1 ≤ d) {d_X7_isCalmWith : Nat} {s_X7_isCalmWith : zq_Sp} (h_X7_isCalmWith : zq_M yX7_isCalmWith cX7_isCalmWith 5 (some .boolean) 1 d_X7_isCalmWith s_X7_isCalmWith) (g_X7_isCalmWith : d_X7_isCalmWith + 1 ≤ d) {d_X7_part : Nat} {s_X7_part : zq_Sp} (h_X7_part : zq_M yX7_part cX7_part 7 none 0 d_X7_part s_X7_part) (g_X7_part : d_X7_part + 1 ≤ d) {J39 : zq_P} (j39 : zq_ok X 7 39 J39) {J73 : zq_P} (j73 : zq_ok X 7 73 J73) {Q : zq_Q} (hq : zq_R X none 0 Q) : zq_ok X 7 60 (xX7_part_60 s_X7_othersAreCalm s_X7_note s_X7_isCalmWith s_X7_part J39 J73 Q) := by
  refine zs_aload_n C dX7_part_60 rfl ?_
  refine zs_getR C zp_29 zF7 (j := 0) ⟨by decide, rfl⟩ zw_210 dX7_part_61 ?_
  refine zs_iload C dX7_part_64 ?_
  refine zs_iload_n C dX7_part_66 rfl ?_
  refine zs_iastore C zp_30 dX7_part_67 ?_
  refine zs_iload_n C dX7_part_68 rfl ?_
  refine zs_iconst C dX7_part_69 (by decide) ?_
  refine zs_iadd C dX7_part_70 ?_
  refine zs_istore C dX7_part_71 (by decide) ?_
  exact j73
def xX7_part_57 (s_X7_othersAreCalm : zq_Sp) (s_X7_note : zq_Sp) (s_X7_isCalmWith : zq_Sp) (s_X7_part : zq_Sp) (J39 : zq_P) (J73 : zq_P) (Q : zq_Q) (ls : zq_L) (st : List Value) (h : zq_H) : Prop := ((xX7_part_136 s_X7_othersAreCalm s_X7_note s_X7_isCalmWith s_X7_part J39 J73 Q)) ls st h
theorem kX7_part_57 {X : zq_X} {d : Nat} (C : zq_C X cX7_part 7 RX7 d) {d_X7_othersAreCalm : Nat} {s_X7_othersAreCalm : zq_Sp} (h_X7_othersAreCalm : zq_M yX7_othersAreCalm cX7_othersAreCalm 4 (some .boolean) 1 d_X7_othersAreCalm s_X7_othersAreCalm) (g_X7_othersAreCalm : d_X7_othersAreCalm + 1 ≤ d) {d_X7_note : Nat} {s_X7_note : zq_Sp} (h_X7_note : zq_M yX7_note cX7_note 1 none 0 d_X7_note s_X7_note) (g_X7_note : d_X7_note + 1 ≤ d) {d_X7_isCalmWith : Nat} {s_X7_isCalmWith : zq_Sp} (h_X7_isCalmWith : zq_M yX7_isCalmWith cX7_isCalmWith 5 (some .boolean) 1 d_X7_isCalmWith s_X7_isCalmWith) (g_X7_isCalmWith : d_X7_isCalmWith + 1 ≤ d) {d_X7_part : Nat} {s_X7_part : zq_Sp} (h_X7_part : zq_M yX7_part cX7_part 7 none 0 d_X7_part s_X7_part) (g_X7_part : d_X7_part + 1 ≤ d) {J39 : zq_P} (j39 : zq_ok X 7 39 J39) {J73 : zq_P} (j73 : zq_ok X 7 73 J73) {Q : zq_Q} (hq : zq_R X none 0 Q) : zq_ok X 7 57 (xX7_part_57 s_X7_othersAreCalm s_X7_note s_X7_isCalmWith s_X7_part J39 J73 Q) := by
  exact zs_goto C dX7_part_57 (by decide) (kX7_part_136 C h_X7_othersAreCalm g_X7_othersAreCalm h_X7_note g_X7_note h_X7_isCalmWith g_X7_isCalmWith h_X7_part g_X7_part j39 j73 hq)
def xX7_part_48 (s_X7_othersAreCalm : zq_Sp) (s_X7_note : zq_Sp) (s_X7_isCalmWith : zq_Sp) (s_X7_part : zq_Sp) (J39 : zq_P) (J73 : zq_P) (Q : zq_Q) (ls : zq_L) (st : List Value) (h : zq_H) : Prop := (zi_iload 3 (zi_iload 5 (zi_i2 zf_shr (zi_push (.int 1) (zi_i2 (fun x y => x &&& y) (zi_if1 (fun x => x = 0) (xX7_part_60 s_X7_othersAreCalm s_X7_note s_X7_isCalmWith s_X7_part J39 J73 Q) (xX7_part_57 s_X7_othersAreCalm s_X7_note s_X7_isCalmWith s_X7_part J39 J73 Q))))))) ls st h
theorem kX7_part_48 {X : zq_X} {d : Nat} (C : zq_C X cX7_part 7 RX7 d) {d_X7_othersAreCalm : Nat} {s_X7_othersAreCalm : zq_Sp} (h_X7_othersAreCalm : zq_M yX7_othersAreCalm cX7_othersAreCalm 4 (some .boolean) 1 d_X7_othersAreCalm s_X7_othersAreCalm) (g_X7_othersAreCalm : d_X7_othersAreCalm + 1 ≤ d) {d_X7_note : Nat} {s_X7_note : zq_Sp} (h_X7_note : zq_M yX7_note cX7_note 1 none 0 d_X7_note s_X7_note) (g_X7_note : d_X7_note + 1 ≤ d) {d_X7_isCalmWith : Nat} {s_X7_isCalmWith : zq_Sp} (h_X7_isCalmWith : zq_M yX7_isCalmWith cX7_isCalmWith 5 (some .boolean) 1 d_X7_isCalmWith s_X7_isCalmWith) (g_X7_isCalmWith : d_X7_isCalmWith + 1 ≤ d) {d_X7_part : Nat} {s_X7_part : zq_Sp} (h_X7_part : zq_M yX7_part cX7_part 7 none 0 d_X7_part s_X7_part) (g_X7_part : d_X7_part + 1 ≤ d) {J39 : zq_P} (j39 : zq_ok X 7 39 J39) {J73 : zq_P} (j73 : zq_ok X 7 73 J73) {Q : zq_Q} (hq : zq_R X none 0 Q) : zq_ok X 7 48 (xX7_part_48 s_X7_othersAreCalm s_X7_note s_X7_isCalmWith s_X7_part J39 J73 Q) := by
  refine zs_iload_n C dX7_part_48 rfl ?_
  refine zs_iload C dX7_part_49 ?_
  refine zs_ishr C dX7_part_51 ?_
  refine zs_iconst C dX7_part_52 (by decide) ?_
  refine zs_iand C dX7_part_53 ?_
  exact zs_if_eq C dX7_part_54 (by decide) (kX7_part_60 C h_X7_othersAreCalm g_X7_othersAreCalm h_X7_note g_X7_note h_X7_isCalmWith g_X7_isCalmWith h_X7_part g_X7_part j39 j73 hq) (kX7_part_57 C h_X7_othersAreCalm g_X7_othersAreCalm h_X7_note g_X7_note h_X7_isCalmWith g_X7_isCalmWith h_X7_part g_X7_part j39 j73 hq)
def xX7_part_39 (s_X7_othersAreCalm : zq_Sp) (s_X7_note : zq_Sp) (s_X7_isCalmWith : zq_Sp) (s_X7_part : zq_Sp) (J39 : zq_P) (J73 : zq_P) (Q : zq_Q) (ls : zq_L) (st : List Value) (h : zq_H) : Prop := (zi_iload 5 (zi_aload 0 (zi_getI 29 4 (zi_if2 (fun x y => y ≤ x) (xX7_part_142 s_X7_othersAreCalm s_X7_note s_X7_isCalmWith s_X7_part J39 J73 Q) (xX7_part_48 s_X7_othersAreCalm s_X7_note s_X7_isCalmWith s_X7_part J39 J73 Q))))) ls st h
theorem kX7_part_39 {X : zq_X} {d : Nat} (C : zq_C X cX7_part 7 RX7 d) {d_X7_othersAreCalm : Nat} {s_X7_othersAreCalm : zq_Sp} (h_X7_othersAreCalm : zq_M yX7_othersAreCalm cX7_othersAreCalm 4 (some .boolean) 1 d_X7_othersAreCalm s_X7_othersAreCalm) (g_X7_othersAreCalm : d_X7_othersAreCalm + 1 ≤ d) {d_X7_note : Nat} {s_X7_note : zq_Sp} (h_X7_note : zq_M yX7_note cX7_note 1 none 0 d_X7_note s_X7_note) (g_X7_note : d_X7_note + 1 ≤ d) {d_X7_isCalmWith : Nat} {s_X7_isCalmWith : zq_Sp} (h_X7_isCalmWith : zq_M yX7_isCalmWith cX7_isCalmWith 5 (some .boolean) 1 d_X7_isCalmWith s_X7_isCalmWith) (g_X7_isCalmWith : d_X7_isCalmWith + 1 ≤ d) {d_X7_part : Nat} {s_X7_part : zq_Sp} (h_X7_part : zq_M yX7_part cX7_part 7 none 0 d_X7_part s_X7_part) (g_X7_part : d_X7_part + 1 ≤ d) {J39 : zq_P} (j39 : zq_ok X 7 39 J39) {J73 : zq_P} (j73 : zq_ok X 7 73 J73) {Q : zq_Q} (hq : zq_R X none 0 Q) : zq_ok X 7 39 (xX7_part_39 s_X7_othersAreCalm s_X7_note s_X7_isCalmWith s_X7_part J39 J73 Q) := by
  refine zs_iload C dX7_part_39 ?_
  refine zs_aload_n C dX7_part_41 rfl ?_
  refine zs_getI C zp_29 zF7 (j := 4) ⟨by decide, rfl⟩ zw_214 dX7_part_42 ?_
  exact zs_icmp_ge C dX7_part_45 (by decide) (kX7_part_142 C h_X7_othersAreCalm g_X7_othersAreCalm h_X7_note g_X7_note h_X7_isCalmWith g_X7_isCalmWith h_X7_part g_X7_part j39 j73 hq) (kX7_part_48 C h_X7_othersAreCalm g_X7_othersAreCalm h_X7_note g_X7_note h_X7_isCalmWith g_X7_isCalmWith h_X7_part g_X7_part j39 j73 hq)
def xX7_part_36 (s_X7_othersAreCalm : zq_Sp) (s_X7_note : zq_Sp) (s_X7_isCalmWith : zq_Sp) (s_X7_part : zq_Sp) (J39 : zq_P) (J73 : zq_P) (Q : zq_Q) (ls : zq_L) (st : List Value) (h : zq_H) : Prop := (zi_push (.int 0) (zi_istore 5 (J39))) ls st h
theorem kX7_part_36 {X : zq_X} {d : Nat} (C : zq_C X cX7_part 7 RX7 d) {d_X7_othersAreCalm : Nat} {s_X7_othersAreCalm : zq_Sp} (h_X7_othersAreCalm : zq_M yX7_othersAreCalm cX7_othersAreCalm 4 (some .boolean) 1 d_X7_othersAreCalm s_X7_othersAreCalm) (g_X7_othersAreCalm : d_X7_othersAreCalm + 1 ≤ d) {d_X7_note : Nat} {s_X7_note : zq_Sp} (h_X7_note : zq_M yX7_note cX7_note 1 none 0 d_X7_note s_X7_note) (g_X7_note : d_X7_note + 1 ≤ d) {d_X7_isCalmWith : Nat} {s_X7_isCalmWith : zq_Sp} (h_X7_isCalmWith : zq_M yX7_isCalmWith cX7_isCalmWith 5 (some .boolean) 1 d_X7_isCalmWith s_X7_isCalmWith) (g_X7_isCalmWith : d_X7_isCalmWith + 1 ≤ d) {d_X7_part : Nat} {s_X7_part : zq_Sp} (h_X7_part : zq_M yX7_part cX7_part 7 none 0 d_X7_part s_X7_part) (g_X7_part : d_X7_part + 1 ≤ d) {J39 : zq_P} (j39 : zq_ok X 7 39 J39) {J73 : zq_P} (j73 : zq_ok X 7 73 J73) {Q : zq_Q} (hq : zq_R X none 0 Q) : zq_ok X 7 36 (xX7_part_36 s_X7_othersAreCalm s_X7_note s_X7_isCalmWith s_X7_part J39 J73 Q) := by
  refine zs_iconst C dX7_part_36 (by decide) ?_
  refine zs_istore C dX7_part_37 (by decide) ?_
  exact j39
def xX7_part_35 (s_X7_othersAreCalm : zq_Sp) (s_X7_note : zq_Sp) (s_X7_isCalmWith : zq_Sp) (s_X7_part : zq_Sp) (J39 : zq_P) (J73 : zq_P) (Q : zq_Q) (ls : zq_L) (st : List Value) (h : zq_H) : Prop := (zi_vret Q) ls st h
theorem kX7_part_35 {X : zq_X} {d : Nat} (C : zq_C X cX7_part 7 RX7 d) {d_X7_othersAreCalm : Nat} {s_X7_othersAreCalm : zq_Sp} (h_X7_othersAreCalm : zq_M yX7_othersAreCalm cX7_othersAreCalm 4 (some .boolean) 1 d_X7_othersAreCalm s_X7_othersAreCalm) (g_X7_othersAreCalm : d_X7_othersAreCalm + 1 ≤ d) {d_X7_note : Nat} {s_X7_note : zq_Sp} (h_X7_note : zq_M yX7_note cX7_note 1 none 0 d_X7_note s_X7_note) (g_X7_note : d_X7_note + 1 ≤ d) {d_X7_isCalmWith : Nat} {s_X7_isCalmWith : zq_Sp} (h_X7_isCalmWith : zq_M yX7_isCalmWith cX7_isCalmWith 5 (some .boolean) 1 d_X7_isCalmWith s_X7_isCalmWith) (g_X7_isCalmWith : d_X7_isCalmWith + 1 ≤ d) {d_X7_part : Nat} {s_X7_part : zq_Sp} (h_X7_part : zq_M yX7_part cX7_part 7 none 0 d_X7_part s_X7_part) (g_X7_part : d_X7_part + 1 ≤ d) {J39 : zq_P} (j39 : zq_ok X 7 39 J39) {J73 : zq_P} (j73 : zq_ok X 7 73 J73) {Q : zq_Q} (hq : zq_R X none 0 Q) : zq_ok X 7 35 (xX7_part_35 s_X7_othersAreCalm s_X7_note s_X7_isCalmWith s_X7_part J39 J73 Q) := by
  exact zs_vret C hq dX7_part_35
def xX7_part_31 (s_X7_othersAreCalm : zq_Sp) (s_X7_note : zq_Sp) (s_X7_isCalmWith : zq_Sp) (s_X7_part : zq_Sp) (J39 : zq_P) (J73 : zq_P) (Q : zq_Q) (ls : zq_L) (st : List Value) (h : zq_H) : Prop := (zi_aload 0 (zi_callV 0 29 s_X7_note ((xX7_part_35 s_X7_othersAreCalm s_X7_note s_X7_isCalmWith s_X7_part J39 J73 Q)))) ls st h
theorem kX7_part_31 {X : zq_X} {d : Nat} (C : zq_C X cX7_part 7 RX7 d) {d_X7_othersAreCalm : Nat} {s_X7_othersAreCalm : zq_Sp} (h_X7_othersAreCalm : zq_M yX7_othersAreCalm cX7_othersAreCalm 4 (some .boolean) 1 d_X7_othersAreCalm s_X7_othersAreCalm) (g_X7_othersAreCalm : d_X7_othersAreCalm + 1 ≤ d) {d_X7_note : Nat} {s_X7_note : zq_Sp} (h_X7_note : zq_M yX7_note cX7_note 1 none 0 d_X7_note s_X7_note) (g_X7_note : d_X7_note + 1 ≤ d) {d_X7_isCalmWith : Nat} {s_X7_isCalmWith : zq_Sp} (h_X7_isCalmWith : zq_M yX7_isCalmWith cX7_isCalmWith 5 (some .boolean) 1 d_X7_isCalmWith s_X7_isCalmWith) (g_X7_isCalmWith : d_X7_isCalmWith + 1 ≤ d) {d_X7_part : Nat} {s_X7_part : zq_Sp} (h_X7_part : zq_M yX7_part cX7_part 7 none 0 d_X7_part s_X7_part) (g_X7_part : d_X7_part + 1 ≤ d) {J39 : zq_P} (j39 : zq_ok X 7 39 J39) {J73 : zq_P} (j73 : zq_ok X 7 73 J73) {Q : zq_Q} (hq : zq_R X none 0 Q) : zq_ok X 7 31 (xX7_part_31 s_X7_othersAreCalm s_X7_note s_X7_isCalmWith s_X7_part J39 J73 Q) := by
  refine zs_aload_n C dX7_part_31 rfl ?_
  refine zs_callV C h_X7_note g_X7_note zy_X7_note zp_29 (show vwCl[7]? = some (RX7, TX7, 7) from rfl) zw_814 zw_816 zs9_X7_note dX7_part_32 ?_
  exact kX7_part_35 C h_X7_othersAreCalm g_X7_othersAreCalm h_X7_note g_X7_note h_X7_isCalmWith g_X7_isCalmWith h_X7_part g_X7_part j39 j73 hq
def xX7_part_22 (s_X7_othersAreCalm : zq_Sp) (s_X7_note : zq_Sp) (s_X7_isCalmWith : zq_Sp) (s_X7_part : zq_Sp) (J39 : zq_P) (J73 : zq_P) (Q : zq_Q) (ls : zq_L) (st : List Value) (h : zq_H) : Prop := (zi_aload 0 (zi_aload 1 (zi_iload 3 (zi_callV 2 29 s_X7_othersAreCalm (zi_if1 (fun x => x = 0) (xX7_part_35 s_X7_othersAreCalm s_X7_note s_X7_isCalmWith s_X7_part J39 J73 Q) (xX7_part_31 s_X7_othersAreCalm s_X7_note s_X7_isCalmWith s_X7_part J39 J73 Q)))))) ls st h
theorem kX7_part_22 {X : zq_X} {d : Nat} (C : zq_C X cX7_part 7 RX7 d) {d_X7_othersAreCalm : Nat} {s_X7_othersAreCalm : zq_Sp} (h_X7_othersAreCalm : zq_M yX7_othersAreCalm cX7_othersAreCalm 4 (some .boolean) 1 d_X7_othersAreCalm s_X7_othersAreCalm) (g_X7_othersAreCalm : d_X7_othersAreCalm + 1 ≤ d) {d_X7_note : Nat} {s_X7_note : zq_Sp} (h_X7_note : zq_M yX7_note cX7_note 1 none 0 d_X7_note s_X7_note) (g_X7_note : d_X7_note + 1 ≤ d) {d_X7_isCalmWith : Nat} {s_X7_isCalmWith : zq_Sp} (h_X7_isCalmWith : zq_M yX7_isCalmWith cX7_isCalmWith 5 (some .boolean) 1 d_X7_isCalmWith s_X7_isCalmWith) (g_X7_isCalmWith : d_X7_isCalmWith + 1 ≤ d) {d_X7_part : Nat} {s_X7_part : zq_Sp} (h_X7_part : zq_M yX7_part cX7_part 7 none 0 d_X7_part s_X7_part) (g_X7_part : d_X7_part + 1 ≤ d) {J39 : zq_P} (j39 : zq_ok X 7 39 J39) {J73 : zq_P} (j73 : zq_ok X 7 73 J73) {Q : zq_Q} (hq : zq_R X none 0 Q) : zq_ok X 7 22 (xX7_part_22 s_X7_othersAreCalm s_X7_note s_X7_isCalmWith s_X7_part J39 J73 Q) := by
  refine zs_aload_n C dX7_part_22 rfl ?_
  refine zs_aload_n C dX7_part_23 rfl ?_
  refine zs_iload_n C dX7_part_24 rfl ?_
  refine zs_callV C h_X7_othersAreCalm g_X7_othersAreCalm zy_X7_othersAreCalm zp_29 (show vwCl[7]? = some (RX7, TX7, 7) from rfl) zw_809 zw_811 zs9_X7_othersAreCalm dX7_part_25 ?_
  exact zs_if_eq C dX7_part_28 (by decide) (kX7_part_35 C h_X7_othersAreCalm g_X7_othersAreCalm h_X7_note g_X7_note h_X7_isCalmWith g_X7_isCalmWith h_X7_part g_X7_part j39 j73 hq) (kX7_part_31 C h_X7_othersAreCalm g_X7_othersAreCalm h_X7_note g_X7_note h_X7_isCalmWith g_X7_isCalmWith h_X7_part g_X7_part j39 j73 hq)
def xX7_part_14 (s_X7_othersAreCalm : zq_Sp) (s_X7_note : zq_Sp) (s_X7_isCalmWith : zq_Sp) (s_X7_part : zq_Sp) (J39 : zq_P) (J73 : zq_P) (Q : zq_Q) (ls : zq_L) (st : List Value) (h : zq_H) : Prop := (zi_iload 2 (zi_aload 0 (zi_getI 29 5 (zi_if2 (fun x y => x < y) (xX7_part_35 s_X7_othersAreCalm s_X7_note s_X7_isCalmWith s_X7_part J39 J73 Q) (xX7_part_22 s_X7_othersAreCalm s_X7_note s_X7_isCalmWith s_X7_part J39 J73 Q))))) ls st h
theorem kX7_part_14 {X : zq_X} {d : Nat} (C : zq_C X cX7_part 7 RX7 d) {d_X7_othersAreCalm : Nat} {s_X7_othersAreCalm : zq_Sp} (h_X7_othersAreCalm : zq_M yX7_othersAreCalm cX7_othersAreCalm 4 (some .boolean) 1 d_X7_othersAreCalm s_X7_othersAreCalm) (g_X7_othersAreCalm : d_X7_othersAreCalm + 1 ≤ d) {d_X7_note : Nat} {s_X7_note : zq_Sp} (h_X7_note : zq_M yX7_note cX7_note 1 none 0 d_X7_note s_X7_note) (g_X7_note : d_X7_note + 1 ≤ d) {d_X7_isCalmWith : Nat} {s_X7_isCalmWith : zq_Sp} (h_X7_isCalmWith : zq_M yX7_isCalmWith cX7_isCalmWith 5 (some .boolean) 1 d_X7_isCalmWith s_X7_isCalmWith) (g_X7_isCalmWith : d_X7_isCalmWith + 1 ≤ d) {d_X7_part : Nat} {s_X7_part : zq_Sp} (h_X7_part : zq_M yX7_part cX7_part 7 none 0 d_X7_part s_X7_part) (g_X7_part : d_X7_part + 1 ≤ d) {J39 : zq_P} (j39 : zq_ok X 7 39 J39) {J73 : zq_P} (j73 : zq_ok X 7 73 J73) {Q : zq_Q} (hq : zq_R X none 0 Q) : zq_ok X 7 14 (xX7_part_14 s_X7_othersAreCalm s_X7_note s_X7_isCalmWith s_X7_part J39 J73 Q) := by
  refine zs_iload_n C dX7_part_14 rfl ?_
  refine zs_aload_n C dX7_part_15 rfl ?_
  refine zs_getI C zp_29 zF7 (j := 5) ⟨by decide, rfl⟩ zw_215 dX7_part_16 ?_
  exact zs_icmp_lt C dX7_part_19 (by decide) (kX7_part_35 C h_X7_othersAreCalm g_X7_othersAreCalm h_X7_note g_X7_note h_X7_isCalmWith g_X7_isCalmWith h_X7_part g_X7_part j39 j73 hq) (kX7_part_22 C h_X7_othersAreCalm g_X7_othersAreCalm h_X7_note g_X7_note h_X7_isCalmWith g_X7_isCalmWith h_X7_part g_X7_part j39 j73 hq)
def xX7_part_8 (s_X7_othersAreCalm : zq_Sp) (s_X7_note : zq_Sp) (s_X7_isCalmWith : zq_Sp) (s_X7_part : zq_Sp) (J39 : zq_P) (J73 : zq_P) (Q : zq_Q) (ls : zq_L) (st : List Value) (h : zq_H) : Prop := (zi_iload 4 (zi_push (.int 4) (zi_if2 (fun x y => x < y) (xX7_part_36 s_X7_othersAreCalm s_X7_note s_X7_isCalmWith s_X7_part J39 J73 Q) (xX7_part_14 s_X7_othersAreCalm s_X7_note s_X7_isCalmWith s_X7_part J39 J73 Q)))) ls st h
theorem kX7_part_8 {X : zq_X} {d : Nat} (C : zq_C X cX7_part 7 RX7 d) {d_X7_othersAreCalm : Nat} {s_X7_othersAreCalm : zq_Sp} (h_X7_othersAreCalm : zq_M yX7_othersAreCalm cX7_othersAreCalm 4 (some .boolean) 1 d_X7_othersAreCalm s_X7_othersAreCalm) (g_X7_othersAreCalm : d_X7_othersAreCalm + 1 ≤ d) {d_X7_note : Nat} {s_X7_note : zq_Sp} (h_X7_note : zq_M yX7_note cX7_note 1 none 0 d_X7_note s_X7_note) (g_X7_note : d_X7_note + 1 ≤ d) {d_X7_isCalmWith : Nat} {s_X7_isCalmWith : zq_Sp} (h_X7_isCalmWith : zq_M yX7_isCalmWith cX7_isCalmWith 5 (some .boolean) 1 d_X7_isCalmWith s_X7_isCalmWith) (g_X7_isCalmWith : d_X7_isCalmWith + 1 ≤ d) {d_X7_part : Nat} {s_X7_part : zq_Sp} (h_X7_part : zq_M yX7_part cX7_part 7 none 0 d_X7_part s_X7_part) (g_X7_part : d_X7_part + 1 ≤ d) {J39 : zq_P} (j39 : zq_ok X 7 39 J39) {J73 : zq_P} (j73 : zq_ok X 7 73 J73) {Q : zq_Q} (hq : zq_R X none 0 Q) : zq_ok X 7 8 (xX7_part_8 s_X7_othersAreCalm s_X7_note s_X7_isCalmWith s_X7_part J39 J73 Q) := by
  refine zs_iload C dX7_part_8 ?_
  refine zs_iconst C dX7_part_10 (by decide) ?_
  exact zs_icmp_lt C dX7_part_11 (by decide) (kX7_part_36 C h_X7_othersAreCalm g_X7_othersAreCalm h_X7_note g_X7_note h_X7_isCalmWith g_X7_isCalmWith h_X7_part g_X7_part j39 j73 hq) (kX7_part_14 C h_X7_othersAreCalm g_X7_othersAreCalm h_X7_note g_X7_note h_X7_isCalmWith g_X7_isCalmWith h_X7_part g_X7_part j39 j73 hq)
def xX7_part_0 (s_X7_othersAreCalm : zq_Sp) (s_X7_note : zq_Sp) (s_X7_isCalmWith : zq_Sp) (s_X7_part : zq_Sp) (J39 : zq_P) (J73 : zq_P) (Q : zq_Q) (ls : zq_L) (st : List Value) (h : zq_H) : Prop := (zi_iload 2 (zi_aload 0 (zi_getI 29 5 (zi_if2 (fun x y => y ≤ x) (xX7_part_14 s_X7_othersAreCalm s_X7_note s_X7_isCalmWith s_X7_part J39 J73 Q) (xX7_part_8 s_X7_othersAreCalm s_X7_note s_X7_isCalmWith s_X7_part J39 J73 Q))))) ls st h
theorem kX7_part_0 {X : zq_X} {d : Nat} (C : zq_C X cX7_part 7 RX7 d) {d_X7_othersAreCalm : Nat} {s_X7_othersAreCalm : zq_Sp} (h_X7_othersAreCalm : zq_M yX7_othersAreCalm cX7_othersAreCalm 4 (some .boolean) 1 d_X7_othersAreCalm s_X7_othersAreCalm) (g_X7_othersAreCalm : d_X7_othersAreCalm + 1 ≤ d) {d_X7_note : Nat} {s_X7_note : zq_Sp} (h_X7_note : zq_M yX7_note cX7_note 1 none 0 d_X7_note s_X7_note) (g_X7_note : d_X7_note + 1 ≤ d) {d_X7_isCalmWith : Nat} {s_X7_isCalmWith : zq_Sp} (h_X7_isCalmWith : zq_M yX7_isCalmWith cX7_isCalmWith 5 (some .boolean) 1 d_X7_isCalmWith s_X7_isCalmWith) (g_X7_isCalmWith : d_X7_isCalmWith + 1 ≤ d) {d_X7_part : Nat} {s_X7_part : zq_Sp} (h_X7_part : zq_M yX7_part cX7_part 7 none 0 d_X7_part s_X7_part) (g_X7_part : d_X7_part + 1 ≤ d) {J39 : zq_P} (j39 : zq_ok X 7 39 J39) {J73 : zq_P} (j73 : zq_ok X 7 73 J73) {Q : zq_Q} (hq : zq_R X none 0 Q) : zq_ok X 7 0 (xX7_part_0 s_X7_othersAreCalm s_X7_note s_X7_isCalmWith s_X7_part J39 J73 Q) := by
  refine zs_iload_n C dX7_part_0 rfl ?_
  refine zs_aload_n C dX7_part_1 rfl ?_
  refine zs_getI C zp_29 zF7 (j := 5) ⟨by decide, rfl⟩ zw_215 dX7_part_2 ?_
  exact zs_icmp_ge C dX7_part_5 (by decide) (kX7_part_14 C h_X7_othersAreCalm g_X7_othersAreCalm h_X7_note g_X7_note h_X7_isCalmWith g_X7_isCalmWith h_X7_part g_X7_part j39 j73 hq) (kX7_part_8 C h_X7_othersAreCalm g_X7_othersAreCalm h_X7_note g_X7_note h_X7_isCalmWith g_X7_isCalmWith h_X7_part g_X7_part j39 j73 hq)
theorem mX7_part {d : Nat} {spec : zq_Sp} {σ39 : Type} {σ73 : Type} {d_X7_othersAreCalm : Nat} {s_X7_othersAreCalm : zq_Sp} (h_X7_othersAreCalm : zq_M yX7_othersAreCalm cX7_othersAreCalm 4 (some .boolean) 1 d_X7_othersAreCalm s_X7_othersAreCalm) (g_X7_othersAreCalm : d_X7_othersAreCalm + 1 ≤ d) {d_X7_note : Nat} {s_X7_note : zq_Sp} (h_X7_note : zq_M yX7_note cX7_note 1 none 0 d_X7_note s_X7_note) (g_X7_note : d_X7_note + 1 ≤ d) {d_X7_isCalmWith : Nat} {s_X7_isCalmWith : zq_Sp} (h_X7_isCalmWith : zq_M yX7_isCalmWith cX7_isCalmWith 5 (some .boolean) 1 d_X7_isCalmWith s_X7_isCalmWith) (g_X7_isCalmWith : d_X7_isCalmWith + 1 ≤ d) {d_X7_part : Nat} {s_X7_part : zq_Sp} (h_X7_part : zq_M yX7_part cX7_part 7 none 0 d_X7_part s_X7_part) (g_X7_part : d_X7_part + 1 ≤ d) (μ39 : σ39 → Nat) (I39 : zq_Q → σ39 → zq_P) (μ73 : σ73 → Nat) (I73 : zq_Q → σ73 → zq_P) (v : ∀ args h Q, spec args h Q → (zq_a args).length ≤ 7 ∧ xX7_part_0 s_X7_othersAreCalm s_X7_note s_X7_isCalmWith s_X7_part (fun ls st h => ∃ b, I39 Q b ls st h) (fun ls st h => ∃ b, I73 Q b ls st h) Q (zq_l0 7 args) [] h) (v39 : ∀ Q a ls st h, I39 Q a ls st h → xX7_part_39 s_X7_othersAreCalm s_X7_note s_X7_isCalmWith s_X7_part (fun ls st h => ∃ b, μ39 b < μ39 a ∧ I39 Q b ls st h) (fun ls st h => ∃ b, μ73 b < μ39 a ∧ I73 Q b ls st h) Q ls st h) (v73 : ∀ Q a ls st h, I73 Q a ls st h → xX7_part_73 s_X7_othersAreCalm s_X7_note s_X7_isCalmWith s_X7_part (fun ls st h => ∃ b, μ39 b < μ73 a ∧ I39 Q b ls st h) (fun ls st h => ∃ b, μ73 b < μ73 a ∧ I73 Q b ls st h) Q ls st h) : zq_M yX7_part cX7_part 7 none 0 d spec := by
  refine zq_met (by decide +kernel) (by decide) (fun X Q args h C hq hs => ⟨(v args h Q hs).1, _, ?_, (v args h Q hs).2⟩)
  have hl := zq_loop2 (X := X) (nL := 7) (pc1 := 39) (pc2 := 73) μ39 μ73 (I39 Q) (I73 Q) (fun J39 J73 => xX7_part_39 s_X7_othersAreCalm s_X7_note s_X7_isCalmWith s_X7_part J39 J73 Q) (fun J39 J73 => xX7_part_73 s_X7_othersAreCalm s_X7_note s_X7_isCalmWith s_X7_part J39 J73 Q) (fun j39 j73 => kX7_part_39 C h_X7_othersAreCalm g_X7_othersAreCalm h_X7_note g_X7_note h_X7_isCalmWith g_X7_isCalmWith h_X7_part g_X7_part j39 j73 hq) (fun j39 j73 => kX7_part_73 C h_X7_othersAreCalm g_X7_othersAreCalm h_X7_note g_X7_note h_X7_isCalmWith g_X7_isCalmWith h_X7_part g_X7_part j39 j73 hq) (v39 Q) (v73 Q)
  exact kX7_part_0 C h_X7_othersAreCalm g_X7_othersAreCalm h_X7_note g_X7_note h_X7_isCalmWith g_X7_isCalmWith h_X7_part g_X7_part hl.1 hl.2 hq
/-! ToOneCrumb$Seating.isCalmWith(LToOneCrumb$Worths;II)Z -/
theorem dX7_isCalmWith_0 : decode cX7_isCalmWith 0 = .ok (.iconst 0, 1) := by decide +kernel
theorem dX7_isCalmWith_1 : decode cX7_isCalmWith 1 = .ok (.istore 4, 2) := by decide +kernel
theorem dX7_isCalmWith_3 : decode cX7_isCalmWith 3 = .ok (.iload 4, 2) := by decide +kernel
theorem dX7_isCalmWith_5 : decode cX7_isCalmWith 5 = .ok (.aload_n 0, 1) := by decide +kernel
theorem dX7_isCalmWith_6 : decode cX7_isCalmWith 6 = .ok (.getfield 30, 3) := by decide +kernel
theorem dX7_isCalmWith_9 : decode cX7_isCalmWith 9 = .ok (.if_icmp .ge 42, 3) := by decide +kernel
theorem dX7_isCalmWith_12 : decode cX7_isCalmWith 12 = .ok (.iload_n 3, 1) := by decide +kernel
theorem dX7_isCalmWith_13 : decode cX7_isCalmWith 13 = .ok (.iload 4, 2) := by decide +kernel
theorem dX7_isCalmWith_15 : decode cX7_isCalmWith 15 = .ok (.ishr, 1) := by decide +kernel
theorem dX7_isCalmWith_16 : decode cX7_isCalmWith 16 = .ok (.iconst 1, 1) := by decide +kernel
theorem dX7_isCalmWith_17 : decode cX7_isCalmWith 17 = .ok (.iand, 1) := by decide +kernel
theorem dX7_isCalmWith_18 : decode cX7_isCalmWith 18 = .ok (.ifCond .eq 27, 3) := by decide +kernel
theorem dX7_isCalmWith_21 : decode cX7_isCalmWith 21 = .ok (.aload_n 0, 1) := by decide +kernel
theorem dX7_isCalmWith_22 : decode cX7_isCalmWith 22 = .ok (.aload_n 1, 1) := by decide +kernel
theorem dX7_isCalmWith_23 : decode cX7_isCalmWith 23 = .ok (.iload_n 2, 1) := by decide +kernel
theorem dX7_isCalmWith_24 : decode cX7_isCalmWith 24 = .ok (.iload 4, 2) := by decide +kernel
theorem dX7_isCalmWith_26 : decode cX7_isCalmWith 26 = .ok (.invokevirtual 64, 3) := by decide +kernel
theorem dX7_isCalmWith_29 : decode cX7_isCalmWith 29 = .ok (.ifCond .ne 14, 3) := by decide +kernel
theorem dX7_isCalmWith_32 : decode cX7_isCalmWith 32 = .ok (.aload_n 0, 1) := by decide +kernel
theorem dX7_isCalmWith_33 : decode cX7_isCalmWith 33 = .ok (.aload_n 1, 1) := by decide +kernel
theorem dX7_isCalmWith_34 : decode cX7_isCalmWith 34 = .ok (.iload 4, 2) := by decide +kernel
theorem dX7_isCalmWith_36 : decode cX7_isCalmWith 36 = .ok (.iload_n 2, 1) := by decide +kernel
theorem dX7_isCalmWith_37 : decode cX7_isCalmWith 37 = .ok (.invokevirtual 64, 3) := by decide +kernel
theorem dX7_isCalmWith_40 : decode cX7_isCalmWith 40 = .ok (.ifCond .eq 5, 3) := by decide +kernel
theorem dX7_isCalmWith_43 : decode cX7_isCalmWith 43 = .ok (.iconst 0, 1) := by decide +kernel
theorem dX7_isCalmWith_44 : decode cX7_isCalmWith 44 = .ok (.ireturn, 1) := by decide +kernel
theorem dX7_isCalmWith_45 : decode cX7_isCalmWith 45 = .ok (.iinc 4 1, 3) := by decide +kernel
theorem dX7_isCalmWith_48 : decode cX7_isCalmWith 48 = .ok (.goto (-45), 3) := by decide +kernel
theorem dX7_isCalmWith_51 : decode cX7_isCalmWith 51 = .ok (.iconst 1, 1) := by decide +kernel
theorem dX7_isCalmWith_52 : decode cX7_isCalmWith 52 = .ok (.ireturn, 1) := by decide +kernel
def xX7_isCalmWith_51 (s_X7_prefers : zq_Sp) (J3 : zq_P) (Q : zq_Q) (ls : zq_L) (st : List Value) (h : zq_H) : Prop := (zi_push (.int 1) (zi_zret Q)) ls st h
theorem kX7_isCalmWith_51 {X : zq_X} {d : Nat} (C : zq_C X cX7_isCalmWith 5 RX7 d) {d_X7_prefers : Nat} {s_X7_prefers : zq_Sp} (h_X7_prefers : zq_M yX7_prefers cX7_prefers 4 (some .boolean) 1 d_X7_prefers s_X7_prefers) (g_X7_prefers : d_X7_prefers + 1 ≤ d) {J3 : zq_P} (j3 : zq_ok X 5 3 J3) {Q : zq_Q} (hq : zq_R X (some .boolean) 1 Q) : zq_ok X 5 51 (xX7_isCalmWith_51 s_X7_prefers J3 Q) := by
  refine zs_iconst C dX7_isCalmWith_51 (by decide) ?_
  exact zs_zret C hq dX7_isCalmWith_52
def xX7_isCalmWith_45 (s_X7_prefers : zq_Sp) (J3 : zq_P) (Q : zq_Q) (ls : zq_L) (st : List Value) (h : zq_H) : Prop := (zi_iinc 4 1 (J3)) ls st h
theorem kX7_isCalmWith_45 {X : zq_X} {d : Nat} (C : zq_C X cX7_isCalmWith 5 RX7 d) {d_X7_prefers : Nat} {s_X7_prefers : zq_Sp} (h_X7_prefers : zq_M yX7_prefers cX7_prefers 4 (some .boolean) 1 d_X7_prefers s_X7_prefers) (g_X7_prefers : d_X7_prefers + 1 ≤ d) {J3 : zq_P} (j3 : zq_ok X 5 3 J3) {Q : zq_Q} (hq : zq_R X (some .boolean) 1 Q) : zq_ok X 5 45 (xX7_isCalmWith_45 s_X7_prefers J3 Q) := by
  refine zs_iinc C dX7_isCalmWith_45 (by decide) (by decide) ?_
  exact zs_goto C dX7_isCalmWith_48 (by decide) (j3)
def xX7_isCalmWith_43 (s_X7_prefers : zq_Sp) (J3 : zq_P) (Q : zq_Q) (ls : zq_L) (st : List Value) (h : zq_H) : Prop := (zi_push (.int 0) (zi_zret Q)) ls st h
theorem kX7_isCalmWith_43 {X : zq_X} {d : Nat} (C : zq_C X cX7_isCalmWith 5 RX7 d) {d_X7_prefers : Nat} {s_X7_prefers : zq_Sp} (h_X7_prefers : zq_M yX7_prefers cX7_prefers 4 (some .boolean) 1 d_X7_prefers s_X7_prefers) (g_X7_prefers : d_X7_prefers + 1 ≤ d) {J3 : zq_P} (j3 : zq_ok X 5 3 J3) {Q : zq_Q} (hq : zq_R X (some .boolean) 1 Q) : zq_ok X 5 43 (xX7_isCalmWith_43 s_X7_prefers J3 Q) := by
  refine zs_iconst C dX7_isCalmWith_43 (by decide) ?_
  exact zs_zret C hq dX7_isCalmWith_44
def xX7_isCalmWith_32 (s_X7_prefers : zq_Sp) (J3 : zq_P) (Q : zq_Q) (ls : zq_L) (st : List Value) (h : zq_H) : Prop := (zi_aload 0 (zi_aload 1 (zi_iload 4 (zi_iload 2 (zi_callV 3 29 s_X7_prefers (zi_if1 (fun x => x = 0) (xX7_isCalmWith_45 s_X7_prefers J3 Q) (xX7_isCalmWith_43 s_X7_prefers J3 Q))))))) ls st h
theorem kX7_isCalmWith_32 {X : zq_X} {d : Nat} (C : zq_C X cX7_isCalmWith 5 RX7 d) {d_X7_prefers : Nat} {s_X7_prefers : zq_Sp} (h_X7_prefers : zq_M yX7_prefers cX7_prefers 4 (some .boolean) 1 d_X7_prefers s_X7_prefers) (g_X7_prefers : d_X7_prefers + 1 ≤ d) {J3 : zq_P} (j3 : zq_ok X 5 3 J3) {Q : zq_Q} (hq : zq_R X (some .boolean) 1 Q) : zq_ok X 5 32 (xX7_isCalmWith_32 s_X7_prefers J3 Q) := by
  refine zs_aload_n C dX7_isCalmWith_32 rfl ?_
  refine zs_aload_n C dX7_isCalmWith_33 rfl ?_
  refine zs_iload C dX7_isCalmWith_34 ?_
  refine zs_iload_n C dX7_isCalmWith_36 rfl ?_
  refine zs_callV C h_X7_prefers g_X7_prefers zy_X7_prefers zp_29 (show vwCl[7]? = some (RX7, TX7, 7) from rfl) zw_827 zw_829 zs9_X7_prefers dX7_isCalmWith_37 ?_
  exact zs_if_eq C dX7_isCalmWith_40 (by decide) (kX7_isCalmWith_45 C h_X7_prefers g_X7_prefers j3 hq) (kX7_isCalmWith_43 C h_X7_prefers g_X7_prefers j3 hq)
def xX7_isCalmWith_21 (s_X7_prefers : zq_Sp) (J3 : zq_P) (Q : zq_Q) (ls : zq_L) (st : List Value) (h : zq_H) : Prop := (zi_aload 0 (zi_aload 1 (zi_iload 2 (zi_iload 4 (zi_callV 3 29 s_X7_prefers (zi_if1 (fun x => x = 0) (xX7_isCalmWith_32 s_X7_prefers J3 Q) (xX7_isCalmWith_43 s_X7_prefers J3 Q))))))) ls st h
theorem kX7_isCalmWith_21 {X : zq_X} {d : Nat} (C : zq_C X cX7_isCalmWith 5 RX7 d) {d_X7_prefers : Nat} {s_X7_prefers : zq_Sp} (h_X7_prefers : zq_M yX7_prefers cX7_prefers 4 (some .boolean) 1 d_X7_prefers s_X7_prefers) (g_X7_prefers : d_X7_prefers + 1 ≤ d) {J3 : zq_P} (j3 : zq_ok X 5 3 J3) {Q : zq_Q} (hq : zq_R X (some .boolean) 1 Q) : zq_ok X 5 21 (xX7_isCalmWith_21 s_X7_prefers J3 Q) := by
  refine zs_aload_n C dX7_isCalmWith_21 rfl ?_
  refine zs_aload_n C dX7_isCalmWith_22 rfl ?_
  refine zs_iload_n C dX7_isCalmWith_23 rfl ?_
  refine zs_iload C dX7_isCalmWith_24 ?_
  refine zs_callV C h_X7_prefers g_X7_prefers zy_X7_prefers zp_29 (show vwCl[7]? = some (RX7, TX7, 7) from rfl) zw_827 zw_829 zs9_X7_prefers dX7_isCalmWith_26 ?_
  exact zs_if_ne C dX7_isCalmWith_29 (by decide) (kX7_isCalmWith_43 C h_X7_prefers g_X7_prefers j3 hq) (kX7_isCalmWith_32 C h_X7_prefers g_X7_prefers j3 hq)
def xX7_isCalmWith_12 (s_X7_prefers : zq_Sp) (J3 : zq_P) (Q : zq_Q) (ls : zq_L) (st : List Value) (h : zq_H) : Prop := (zi_iload 3 (zi_iload 4 (zi_i2 zf_shr (zi_push (.int 1) (zi_i2 (fun x y => x &&& y) (zi_if1 (fun x => x = 0) (xX7_isCalmWith_45 s_X7_prefers J3 Q) (xX7_isCalmWith_21 s_X7_prefers J3 Q))))))) ls st h
theorem kX7_isCalmWith_12 {X : zq_X} {d : Nat} (C : zq_C X cX7_isCalmWith 5 RX7 d) {d_X7_prefers : Nat} {s_X7_prefers : zq_Sp} (h_X7_prefers : zq_M yX7_prefers cX7_prefers 4 (some .boolean) 1 d_X7_prefers s_X7_prefers) (g_X7_prefers : d_X7_prefers + 1 ≤ d) {J3 : zq_P} (j3 : zq_ok X 5 3 J3) {Q : zq_Q} (hq : zq_R X (some .boolean) 1 Q) : zq_ok X 5 12 (xX7_isCalmWith_12 s_X7_prefers J3 Q) := by
  refine zs_iload_n C dX7_isCalmWith_12 rfl ?_
  refine zs_iload C dX7_isCalmWith_13 ?_
  refine zs_ishr C dX7_isCalmWith_15 ?_
  refine zs_iconst C dX7_isCalmWith_16 (by decide) ?_
  refine zs_iand C dX7_isCalmWith_17 ?_
  exact zs_if_eq C dX7_isCalmWith_18 (by decide) (kX7_isCalmWith_45 C h_X7_prefers g_X7_prefers j3 hq) (kX7_isCalmWith_21 C h_X7_prefers g_X7_prefers j3 hq)
def xX7_isCalmWith_3 (s_X7_prefers : zq_Sp) (J3 : zq_P) (Q : zq_Q) (ls : zq_L) (st : List Value) (h : zq_H) : Prop := (zi_iload 4 (zi_aload 0 (zi_getI 29 4 (zi_if2 (fun x y => y ≤ x) (xX7_isCalmWith_51 s_X7_prefers J3 Q) (xX7_isCalmWith_12 s_X7_prefers J3 Q))))) ls st h
theorem kX7_isCalmWith_3 {X : zq_X} {d : Nat} (C : zq_C X cX7_isCalmWith 5 RX7 d) {d_X7_prefers : Nat} {s_X7_prefers : zq_Sp} (h_X7_prefers : zq_M yX7_prefers cX7_prefers 4 (some .boolean) 1 d_X7_prefers s_X7_prefers) (g_X7_prefers : d_X7_prefers + 1 ≤ d) {J3 : zq_P} (j3 : zq_ok X 5 3 J3) {Q : zq_Q} (hq : zq_R X (some .boolean) 1 Q) : zq_ok X 5 3 (xX7_isCalmWith_3 s_X7_prefers J3 Q) := by
  refine zs_iload C dX7_isCalmWith_3 ?_
  refine zs_aload_n C dX7_isCalmWith_5 rfl ?_
  refine zs_getI C zp_29 zF7 (j := 4) ⟨by decide, rfl⟩ zw_214 dX7_isCalmWith_6 ?_
  exact zs_icmp_ge C dX7_isCalmWith_9 (by decide) (kX7_isCalmWith_51 C h_X7_prefers g_X7_prefers j3 hq) (kX7_isCalmWith_12 C h_X7_prefers g_X7_prefers j3 hq)
def xX7_isCalmWith_0 (s_X7_prefers : zq_Sp) (J3 : zq_P) (Q : zq_Q) (ls : zq_L) (st : List Value) (h : zq_H) : Prop := (zi_push (.int 0) (zi_istore 4 (J3))) ls st h
theorem kX7_isCalmWith_0 {X : zq_X} {d : Nat} (C : zq_C X cX7_isCalmWith 5 RX7 d) {d_X7_prefers : Nat} {s_X7_prefers : zq_Sp} (h_X7_prefers : zq_M yX7_prefers cX7_prefers 4 (some .boolean) 1 d_X7_prefers s_X7_prefers) (g_X7_prefers : d_X7_prefers + 1 ≤ d) {J3 : zq_P} (j3 : zq_ok X 5 3 J3) {Q : zq_Q} (hq : zq_R X (some .boolean) 1 Q) : zq_ok X 5 0 (xX7_isCalmWith_0 s_X7_prefers J3 Q) := by
  refine zs_iconst C dX7_isCalmWith_0 (by decide) ?_
  refine zs_istore C dX7_isCalmWith_1 (by decide) ?_
  exact j3
theorem mX7_isCalmWith {d : Nat} {spec : zq_Sp} {σ3 : Type} {d_X7_prefers : Nat} {s_X7_prefers : zq_Sp} (h_X7_prefers : zq_M yX7_prefers cX7_prefers 4 (some .boolean) 1 d_X7_prefers s_X7_prefers) (g_X7_prefers : d_X7_prefers + 1 ≤ d) (μ3 : σ3 → Nat) (I3 : zq_Q → σ3 → zq_P) (v : ∀ args h Q, spec args h Q → (zq_a args).length ≤ 5 ∧ xX7_isCalmWith_0 s_X7_prefers (fun ls st h => ∃ b, I3 Q b ls st h) Q (zq_l0 5 args) [] h) (v3 : ∀ Q a ls st h, I3 Q a ls st h → xX7_isCalmWith_3 s_X7_prefers (fun ls st h => ∃ b, μ3 b < μ3 a ∧ I3 Q b ls st h) Q ls st h) : zq_M yX7_isCalmWith cX7_isCalmWith 5 (some .boolean) 1 d spec := by
  refine zq_met (by decide +kernel) (by decide) (fun X Q args h C hq hs => ⟨(v args h Q hs).1, _, ?_, (v args h Q hs).2⟩)
  have hl := zq_loop1 (X := X) (nL := 5) (pc1 := 3) μ3 (I3 Q) (fun J3 => xX7_isCalmWith_3 s_X7_prefers J3 Q) (fun j3 => kX7_isCalmWith_3 C h_X7_prefers g_X7_prefers j3 hq) (v3 Q)
  exact kX7_isCalmWith_0 C h_X7_prefers g_X7_prefers hl hq
/-! ToOneCrumb$Seating.prefers(LToOneCrumb$Worths;II)Z -/
theorem dX7_prefers_0 : decode cX7_prefers 0 = .ok (.aload_n 1, 1) := by decide +kernel
theorem dX7_prefers_1 : decode cX7_prefers 1 = .ok (.iload_n 2, 1) := by decide +kernel
theorem dX7_prefers_2 : decode cX7_prefers 2 = .ok (.aload_n 0, 1) := by decide +kernel
theorem dX7_prefers_3 : decode cX7_prefers 3 = .ok (.getfield 9, 3) := by decide +kernel
theorem dX7_prefers_6 : decode cX7_prefers 6 = .ok (.iload_n 3, 1) := by decide +kernel
theorem dX7_prefers_7 : decode cX7_prefers 7 = .ok (.iaload, 1) := by decide +kernel
theorem dX7_prefers_8 : decode cX7_prefers 8 = .ok (.aload_n 0, 1) := by decide +kernel
theorem dX7_prefers_9 : decode cX7_prefers 9 = .ok (.getfield 15, 3) := by decide +kernel
theorem dX7_prefers_12 : decode cX7_prefers 12 = .ok (.iload_n 3, 1) := by decide +kernel
theorem dX7_prefers_13 : decode cX7_prefers 13 = .ok (.iaload, 1) := by decide +kernel
theorem dX7_prefers_14 : decode cX7_prefers 14 = .ok (.invokevirtual 67, 3) := by decide +kernel
theorem dX7_prefers_17 : decode cX7_prefers 17 = .ok (.aload_n 1, 1) := by decide +kernel
theorem dX7_prefers_18 : decode cX7_prefers 18 = .ok (.iload_n 2, 1) := by decide +kernel
theorem dX7_prefers_19 : decode cX7_prefers 19 = .ok (.aload_n 0, 1) := by decide +kernel
theorem dX7_prefers_20 : decode cX7_prefers 20 = .ok (.getfield 9, 3) := by decide +kernel
theorem dX7_prefers_23 : decode cX7_prefers 23 = .ok (.iload_n 2, 1) := by decide +kernel
theorem dX7_prefers_24 : decode cX7_prefers 24 = .ok (.iaload, 1) := by decide +kernel
theorem dX7_prefers_25 : decode cX7_prefers 25 = .ok (.aload_n 0, 1) := by decide +kernel
theorem dX7_prefers_26 : decode cX7_prefers 26 = .ok (.getfield 15, 3) := by decide +kernel
theorem dX7_prefers_29 : decode cX7_prefers 29 = .ok (.iload_n 2, 1) := by decide +kernel
theorem dX7_prefers_30 : decode cX7_prefers 30 = .ok (.iaload, 1) := by decide +kernel
theorem dX7_prefers_31 : decode cX7_prefers 31 = .ok (.invokevirtual 67, 3) := by decide +kernel
theorem dX7_prefers_34 : decode cX7_prefers 34 = .ok (.if_icmp .le 7, 3) := by decide +kernel
theorem dX7_prefers_37 : decode cX7_prefers 37 = .ok (.iconst 1, 1) := by decide +kernel
theorem dX7_prefers_38 : decode cX7_prefers 38 = .ok (.goto 4, 3) := by decide +kernel
theorem dX7_prefers_41 : decode cX7_prefers 41 = .ok (.iconst 0, 1) := by decide +kernel
theorem dX7_prefers_42 : decode cX7_prefers 42 = .ok (.ireturn, 1) := by decide +kernel
def xX7_prefers_42 (s_X10_between : zq_Sp) (Q : zq_Q) (ls : zq_L) (st : List Value) (h : zq_H) : Prop := (zi_zret Q) ls st h
theorem kX7_prefers_42 {X : zq_X} {d : Nat} (C : zq_C X cX7_prefers 4 RX7 d) {d_X10_between : Nat} {s_X10_between : zq_Sp} (h_X10_between : zq_M yX10_between cX10_between 4 (some .int) 1 d_X10_between s_X10_between) (g_X10_between : d_X10_between + 1 ≤ d) {Q : zq_Q} (hq : zq_R X (some .boolean) 1 Q) : zq_ok X 4 42 (xX7_prefers_42 s_X10_between Q) := by
  exact zs_zret C hq dX7_prefers_42
def xX7_prefers_41 (s_X10_between : zq_Sp) (Q : zq_Q) (ls : zq_L) (st : List Value) (h : zq_H) : Prop := (zi_push (.int 0) ((xX7_prefers_42 s_X10_between Q))) ls st h
theorem kX7_prefers_41 {X : zq_X} {d : Nat} (C : zq_C X cX7_prefers 4 RX7 d) {d_X10_between : Nat} {s_X10_between : zq_Sp} (h_X10_between : zq_M yX10_between cX10_between 4 (some .int) 1 d_X10_between s_X10_between) (g_X10_between : d_X10_between + 1 ≤ d) {Q : zq_Q} (hq : zq_R X (some .boolean) 1 Q) : zq_ok X 4 41 (xX7_prefers_41 s_X10_between Q) := by
  refine zs_iconst C dX7_prefers_41 (by decide) ?_
  exact kX7_prefers_42 C h_X10_between g_X10_between hq
def xX7_prefers_37 (s_X10_between : zq_Sp) (Q : zq_Q) (ls : zq_L) (st : List Value) (h : zq_H) : Prop := (zi_push (.int 1) ((xX7_prefers_42 s_X10_between Q))) ls st h
theorem kX7_prefers_37 {X : zq_X} {d : Nat} (C : zq_C X cX7_prefers 4 RX7 d) {d_X10_between : Nat} {s_X10_between : zq_Sp} (h_X10_between : zq_M yX10_between cX10_between 4 (some .int) 1 d_X10_between s_X10_between) (g_X10_between : d_X10_between + 1 ≤ d) {Q : zq_Q} (hq : zq_R X (some .boolean) 1 Q) : zq_ok X 4 37 (xX7_prefers_37 s_X10_between Q) := by
  refine zs_iconst C dX7_prefers_37 (by decide) ?_
  exact zs_goto C dX7_prefers_38 (by decide) (kX7_prefers_42 C h_X10_between g_X10_between hq)
def xX7_prefers_0 (s_X10_between : zq_Sp) (Q : zq_Q) (ls : zq_L) (st : List Value) (h : zq_H) : Prop := (zi_aload 1 (zi_iload 2 (zi_aload 0 (zi_getR 29 30 (zi_iload 3 (zi_aldI 30 4 (zi_aload 0 (zi_getR 29 31 (zi_iload 3 (zi_aldI 31 4 (zi_callV 3 9 s_X10_between (zi_aload 1 (zi_iload 2 (zi_aload 0 (zi_getR 29 30 (zi_iload 2 (zi_aldI 30 4 (zi_aload 0 (zi_getR 29 31 (zi_iload 2 (zi_aldI 31 4 (zi_callV 3 9 s_X10_between (zi_if2 (fun x y => x ≤ y) (xX7_prefers_41 s_X10_between Q) (xX7_prefers_37 s_X10_between Q)))))))))))))))))))))))) ls st h
theorem kX7_prefers_0 {X : zq_X} {d : Nat} (C : zq_C X cX7_prefers 4 RX7 d) {d_X10_between : Nat} {s_X10_between : zq_Sp} (h_X10_between : zq_M yX10_between cX10_between 4 (some .int) 1 d_X10_between s_X10_between) (g_X10_between : d_X10_between + 1 ≤ d) {Q : zq_Q} (hq : zq_R X (some .boolean) 1 Q) : zq_ok X 4 0 (xX7_prefers_0 s_X10_between Q) := by
  refine zs_aload_n C dX7_prefers_0 rfl ?_
  refine zs_iload_n C dX7_prefers_1 rfl ?_
  refine zs_aload_n C dX7_prefers_2 rfl ?_
  refine zs_getR C zp_29 zF7 (j := 0) ⟨by decide, rfl⟩ zw_210 dX7_prefers_3 ?_
  refine zs_iload_n C dX7_prefers_6 rfl ?_
  refine zs_iaload C zp_30 dX7_prefers_7 ?_
  refine zs_aload_n C dX7_prefers_8 rfl ?_
  refine zs_getR C zp_29 zF7 (j := 1) ⟨by decide, rfl⟩ zw_211 dX7_prefers_9 ?_
  refine zs_iload_n C dX7_prefers_12 rfl ?_
  refine zs_iaload C zp_31 dX7_prefers_13 ?_
  refine zs_callV C h_X10_between g_X10_between zy_X10_between zp_9 (show vwCl[10]? = some (RX10, TX10, 3) from rfl) zw_831 zw_598 zs9_X10_between dX7_prefers_14 ?_
  refine zs_aload_n C dX7_prefers_17 rfl ?_
  refine zs_iload_n C dX7_prefers_18 rfl ?_
  refine zs_aload_n C dX7_prefers_19 rfl ?_
  refine zs_getR C zp_29 zF7 (j := 0) ⟨by decide, rfl⟩ zw_210 dX7_prefers_20 ?_
  refine zs_iload_n C dX7_prefers_23 rfl ?_
  refine zs_iaload C zp_30 dX7_prefers_24 ?_
  refine zs_aload_n C dX7_prefers_25 rfl ?_
  refine zs_getR C zp_29 zF7 (j := 1) ⟨by decide, rfl⟩ zw_211 dX7_prefers_26 ?_
  refine zs_iload_n C dX7_prefers_29 rfl ?_
  refine zs_iaload C zp_31 dX7_prefers_30 ?_
  refine zs_callV C h_X10_between g_X10_between zy_X10_between zp_9 (show vwCl[10]? = some (RX10, TX10, 3) from rfl) zw_831 zw_598 zs9_X10_between dX7_prefers_31 ?_
  exact zs_icmp_le C dX7_prefers_34 (by decide) (kX7_prefers_41 C h_X10_between g_X10_between hq) (kX7_prefers_37 C h_X10_between g_X10_between hq)
theorem mX7_prefers {d : Nat} {spec : zq_Sp} {d_X10_between : Nat} {s_X10_between : zq_Sp} (h_X10_between : zq_M yX10_between cX10_between 4 (some .int) 1 d_X10_between s_X10_between) (g_X10_between : d_X10_between + 1 ≤ d) (v : ∀ args h Q, spec args h Q → (zq_a args).length ≤ 4 ∧ xX7_prefers_0 s_X10_between Q (zq_l0 4 args) [] h) : zq_M yX7_prefers cX7_prefers 4 (some .boolean) 1 d spec := by
  refine zq_met (by decide +kernel) (by decide) (fun X Q args h C hq hs => ⟨(v args h Q hs).1, _, ?_, (v args h Q hs).2⟩)
  exact kX7_prefers_0 C h_X10_between g_X10_between hq
/-! ToOneCrumb$Seating.othersAreCalm(LToOneCrumb$Worths;I)Z -/
theorem dX7_othersAreCalm_0 : decode cX7_othersAreCalm 0 = .ok (.iconst 0, 1) := by decide +kernel
theorem dX7_othersAreCalm_1 : decode cX7_othersAreCalm 1 = .ok (.istore_n 3, 1) := by decide +kernel
theorem dX7_othersAreCalm_2 : decode cX7_othersAreCalm 2 = .ok (.iload_n 3, 1) := by decide +kernel
theorem dX7_othersAreCalm_3 : decode cX7_othersAreCalm 3 = .ok (.aload_n 0, 1) := by decide +kernel
theorem dX7_othersAreCalm_4 : decode cX7_othersAreCalm 4 = .ok (.getfield 30, 3) := by decide +kernel
theorem dX7_othersAreCalm_7 : decode cX7_othersAreCalm 7 = .ok (.if_icmp .ge 27, 3) := by decide +kernel
theorem dX7_othersAreCalm_10 : decode cX7_othersAreCalm 10 = .ok (.iload_n 2, 1) := by decide +kernel
theorem dX7_othersAreCalm_11 : decode cX7_othersAreCalm 11 = .ok (.iload_n 3, 1) := by decide +kernel
theorem dX7_othersAreCalm_12 : decode cX7_othersAreCalm 12 = .ok (.ishr, 1) := by decide +kernel
theorem dX7_othersAreCalm_13 : decode cX7_othersAreCalm 13 = .ok (.iconst 1, 1) := by decide +kernel
theorem dX7_othersAreCalm_14 : decode cX7_othersAreCalm 14 = .ok (.iand, 1) := by decide +kernel
theorem dX7_othersAreCalm_15 : decode cX7_othersAreCalm 15 = .ok (.ifCond .ne 13, 3) := by decide +kernel
theorem dX7_othersAreCalm_18 : decode cX7_othersAreCalm 18 = .ok (.aload_n 1, 1) := by decide +kernel
theorem dX7_othersAreCalm_19 : decode cX7_othersAreCalm 19 = .ok (.iload_n 3, 1) := by decide +kernel
theorem dX7_othersAreCalm_20 : decode cX7_othersAreCalm 20 = .ok (.invokevirtual 71, 3) := by decide +kernel
theorem dX7_othersAreCalm_23 : decode cX7_othersAreCalm 23 = .ok (.ifCond .le 5, 3) := by decide +kernel
theorem dX7_othersAreCalm_26 : decode cX7_othersAreCalm 26 = .ok (.iconst 0, 1) := by decide +kernel
theorem dX7_othersAreCalm_27 : decode cX7_othersAreCalm 27 = .ok (.ireturn, 1) := by decide +kernel
theorem dX7_othersAreCalm_28 : decode cX7_othersAreCalm 28 = .ok (.iinc 3 1, 3) := by decide +kernel
theorem dX7_othersAreCalm_31 : decode cX7_othersAreCalm 31 = .ok (.goto (-29), 3) := by decide +kernel
theorem dX7_othersAreCalm_34 : decode cX7_othersAreCalm 34 = .ok (.iconst 1, 1) := by decide +kernel
theorem dX7_othersAreCalm_35 : decode cX7_othersAreCalm 35 = .ok (.ireturn, 1) := by decide +kernel
def xX7_othersAreCalm_34 (s_X10_whole : zq_Sp) (J2 : zq_P) (Q : zq_Q) (ls : zq_L) (st : List Value) (h : zq_H) : Prop := (zi_push (.int 1) (zi_zret Q)) ls st h
theorem kX7_othersAreCalm_34 {X : zq_X} {d : Nat} (C : zq_C X cX7_othersAreCalm 4 RX7 d) {d_X10_whole : Nat} {s_X10_whole : zq_Sp} (h_X10_whole : zq_M yX10_whole cX10_whole 2 (some .int) 1 d_X10_whole s_X10_whole) (g_X10_whole : d_X10_whole + 1 ≤ d) {J2 : zq_P} (j2 : zq_ok X 4 2 J2) {Q : zq_Q} (hq : zq_R X (some .boolean) 1 Q) : zq_ok X 4 34 (xX7_othersAreCalm_34 s_X10_whole J2 Q) := by
  refine zs_iconst C dX7_othersAreCalm_34 (by decide) ?_
  exact zs_zret C hq dX7_othersAreCalm_35
def xX7_othersAreCalm_28 (s_X10_whole : zq_Sp) (J2 : zq_P) (Q : zq_Q) (ls : zq_L) (st : List Value) (h : zq_H) : Prop := (zi_iinc 3 1 (J2)) ls st h
theorem kX7_othersAreCalm_28 {X : zq_X} {d : Nat} (C : zq_C X cX7_othersAreCalm 4 RX7 d) {d_X10_whole : Nat} {s_X10_whole : zq_Sp} (h_X10_whole : zq_M yX10_whole cX10_whole 2 (some .int) 1 d_X10_whole s_X10_whole) (g_X10_whole : d_X10_whole + 1 ≤ d) {J2 : zq_P} (j2 : zq_ok X 4 2 J2) {Q : zq_Q} (hq : zq_R X (some .boolean) 1 Q) : zq_ok X 4 28 (xX7_othersAreCalm_28 s_X10_whole J2 Q) := by
  refine zs_iinc C dX7_othersAreCalm_28 (by decide) (by decide) ?_
  exact zs_goto C dX7_othersAreCalm_31 (by decide) (j2)
def xX7_othersAreCalm_26 (s_X10_whole : zq_Sp) (J2 : zq_P) (Q : zq_Q) (ls : zq_L) (st : List Value) (h : zq_H) : Prop := (zi_push (.int 0) (zi_zret Q)) ls st h
theorem kX7_othersAreCalm_26 {X : zq_X} {d : Nat} (C : zq_C X cX7_othersAreCalm 4 RX7 d) {d_X10_whole : Nat} {s_X10_whole : zq_Sp} (h_X10_whole : zq_M yX10_whole cX10_whole 2 (some .int) 1 d_X10_whole s_X10_whole) (g_X10_whole : d_X10_whole + 1 ≤ d) {J2 : zq_P} (j2 : zq_ok X 4 2 J2) {Q : zq_Q} (hq : zq_R X (some .boolean) 1 Q) : zq_ok X 4 26 (xX7_othersAreCalm_26 s_X10_whole J2 Q) := by
  refine zs_iconst C dX7_othersAreCalm_26 (by decide) ?_
  exact zs_zret C hq dX7_othersAreCalm_27
def xX7_othersAreCalm_18 (s_X10_whole : zq_Sp) (J2 : zq_P) (Q : zq_Q) (ls : zq_L) (st : List Value) (h : zq_H) : Prop := (zi_aload 1 (zi_iload 3 (zi_callV 1 9 s_X10_whole (zi_if1 (fun x => x ≤ 0) (xX7_othersAreCalm_28 s_X10_whole J2 Q) (xX7_othersAreCalm_26 s_X10_whole J2 Q))))) ls st h
theorem kX7_othersAreCalm_18 {X : zq_X} {d : Nat} (C : zq_C X cX7_othersAreCalm 4 RX7 d) {d_X10_whole : Nat} {s_X10_whole : zq_Sp} (h_X10_whole : zq_M yX10_whole cX10_whole 2 (some .int) 1 d_X10_whole s_X10_whole) (g_X10_whole : d_X10_whole + 1 ≤ d) {J2 : zq_P} (j2 : zq_ok X 4 2 J2) {Q : zq_Q} (hq : zq_R X (some .boolean) 1 Q) : zq_ok X 4 18 (xX7_othersAreCalm_18 s_X10_whole J2 Q) := by
  refine zs_aload_n C dX7_othersAreCalm_18 rfl ?_
  refine zs_iload_n C dX7_othersAreCalm_19 rfl ?_
  refine zs_callV C h_X10_whole g_X10_whole zy_X10_whole zp_9 (show vwCl[10]? = some (RX10, TX10, 3) from rfl) zw_813 zw_691 zs9_X10_whole dX7_othersAreCalm_20 ?_
  exact zs_if_le C dX7_othersAreCalm_23 (by decide) (kX7_othersAreCalm_28 C h_X10_whole g_X10_whole j2 hq) (kX7_othersAreCalm_26 C h_X10_whole g_X10_whole j2 hq)
def xX7_othersAreCalm_10 (s_X10_whole : zq_Sp) (J2 : zq_P) (Q : zq_Q) (ls : zq_L) (st : List Value) (h : zq_H) : Prop := (zi_iload 2 (zi_iload 3 (zi_i2 zf_shr (zi_push (.int 1) (zi_i2 (fun x y => x &&& y) (zi_if1 (fun x => x = 0) (xX7_othersAreCalm_18 s_X10_whole J2 Q) (xX7_othersAreCalm_28 s_X10_whole J2 Q))))))) ls st h
theorem kX7_othersAreCalm_10 {X : zq_X} {d : Nat} (C : zq_C X cX7_othersAreCalm 4 RX7 d) {d_X10_whole : Nat} {s_X10_whole : zq_Sp} (h_X10_whole : zq_M yX10_whole cX10_whole 2 (some .int) 1 d_X10_whole s_X10_whole) (g_X10_whole : d_X10_whole + 1 ≤ d) {J2 : zq_P} (j2 : zq_ok X 4 2 J2) {Q : zq_Q} (hq : zq_R X (some .boolean) 1 Q) : zq_ok X 4 10 (xX7_othersAreCalm_10 s_X10_whole J2 Q) := by
  refine zs_iload_n C dX7_othersAreCalm_10 rfl ?_
  refine zs_iload_n C dX7_othersAreCalm_11 rfl ?_
  refine zs_ishr C dX7_othersAreCalm_12 ?_
  refine zs_iconst C dX7_othersAreCalm_13 (by decide) ?_
  refine zs_iand C dX7_othersAreCalm_14 ?_
  exact zs_if_ne C dX7_othersAreCalm_15 (by decide) (kX7_othersAreCalm_28 C h_X10_whole g_X10_whole j2 hq) (kX7_othersAreCalm_18 C h_X10_whole g_X10_whole j2 hq)
def xX7_othersAreCalm_2 (s_X10_whole : zq_Sp) (J2 : zq_P) (Q : zq_Q) (ls : zq_L) (st : List Value) (h : zq_H) : Prop := (zi_iload 3 (zi_aload 0 (zi_getI 29 4 (zi_if2 (fun x y => y ≤ x) (xX7_othersAreCalm_34 s_X10_whole J2 Q) (xX7_othersAreCalm_10 s_X10_whole J2 Q))))) ls st h
theorem kX7_othersAreCalm_2 {X : zq_X} {d : Nat} (C : zq_C X cX7_othersAreCalm 4 RX7 d) {d_X10_whole : Nat} {s_X10_whole : zq_Sp} (h_X10_whole : zq_M yX10_whole cX10_whole 2 (some .int) 1 d_X10_whole s_X10_whole) (g_X10_whole : d_X10_whole + 1 ≤ d) {J2 : zq_P} (j2 : zq_ok X 4 2 J2) {Q : zq_Q} (hq : zq_R X (some .boolean) 1 Q) : zq_ok X 4 2 (xX7_othersAreCalm_2 s_X10_whole J2 Q) := by
  refine zs_iload_n C dX7_othersAreCalm_2 rfl ?_
  refine zs_aload_n C dX7_othersAreCalm_3 rfl ?_
  refine zs_getI C zp_29 zF7 (j := 4) ⟨by decide, rfl⟩ zw_214 dX7_othersAreCalm_4 ?_
  exact zs_icmp_ge C dX7_othersAreCalm_7 (by decide) (kX7_othersAreCalm_34 C h_X10_whole g_X10_whole j2 hq) (kX7_othersAreCalm_10 C h_X10_whole g_X10_whole j2 hq)
def xX7_othersAreCalm_0 (s_X10_whole : zq_Sp) (J2 : zq_P) (Q : zq_Q) (ls : zq_L) (st : List Value) (h : zq_H) : Prop := (zi_push (.int 0) (zi_istore 3 (J2))) ls st h
theorem kX7_othersAreCalm_0 {X : zq_X} {d : Nat} (C : zq_C X cX7_othersAreCalm 4 RX7 d) {d_X10_whole : Nat} {s_X10_whole : zq_Sp} (h_X10_whole : zq_M yX10_whole cX10_whole 2 (some .int) 1 d_X10_whole s_X10_whole) (g_X10_whole : d_X10_whole + 1 ≤ d) {J2 : zq_P} (j2 : zq_ok X 4 2 J2) {Q : zq_Q} (hq : zq_R X (some .boolean) 1 Q) : zq_ok X 4 0 (xX7_othersAreCalm_0 s_X10_whole J2 Q) := by
  refine zs_iconst C dX7_othersAreCalm_0 (by decide) ?_
  refine zs_istore_n C dX7_othersAreCalm_1 rfl (by decide) ?_
  exact j2
theorem mX7_othersAreCalm {d : Nat} {spec : zq_Sp} {σ2 : Type} {d_X10_whole : Nat} {s_X10_whole : zq_Sp} (h_X10_whole : zq_M yX10_whole cX10_whole 2 (some .int) 1 d_X10_whole s_X10_whole) (g_X10_whole : d_X10_whole + 1 ≤ d) (μ2 : σ2 → Nat) (I2 : zq_Q → σ2 → zq_P) (v : ∀ args h Q, spec args h Q → (zq_a args).length ≤ 4 ∧ xX7_othersAreCalm_0 s_X10_whole (fun ls st h => ∃ b, I2 Q b ls st h) Q (zq_l0 4 args) [] h) (v2 : ∀ Q a ls st h, I2 Q a ls st h → xX7_othersAreCalm_2 s_X10_whole (fun ls st h => ∃ b, μ2 b < μ2 a ∧ I2 Q b ls st h) Q ls st h) : zq_M yX7_othersAreCalm cX7_othersAreCalm 4 (some .boolean) 1 d spec := by
  refine zq_met (by decide +kernel) (by decide) (fun X Q args h C hq hs => ⟨(v args h Q hs).1, _, ?_, (v args h Q hs).2⟩)
  have hl := zq_loop1 (X := X) (nL := 4) (pc1 := 2) μ2 (I2 Q) (fun J2 => xX7_othersAreCalm_2 s_X10_whole J2 Q) (fun j2 => kX7_othersAreCalm_2 C h_X10_whole g_X10_whole j2 hq) (v2 Q)
  exact kX7_othersAreCalm_0 C h_X10_whole g_X10_whole hl hq
/-! ToOneCrumb$Seating.note()V -/
theorem dX7_note_0 : decode cX7_note 0 = .ok (.aload_n 0, 1) := by decide +kernel
theorem dX7_note_1 : decode cX7_note 1 = .ok (.getfield 40, 3) := by decide +kernel
theorem dX7_note_4 : decode cX7_note 4 = .ok (.ifCond .eq 10, 3) := by decide +kernel
theorem dX7_note_7 : decode cX7_note 7 = .ok (.aload_n 0, 1) := by decide +kernel
theorem dX7_note_8 : decode cX7_note 8 = .ok (.invokevirtual 75, 3) := by decide +kernel
theorem dX7_note_11 : decode cX7_note 11 = .ok (.ifCond .eq 20, 3) := by decide +kernel
theorem dX7_note_14 : decode cX7_note 14 = .ok (.aload_n 0, 1) := by decide +kernel
theorem dX7_note_15 : decode cX7_note 15 = .ok (.getfield 18, 3) := by decide +kernel
theorem dX7_note_18 : decode cX7_note 18 = .ok (.iconst 0, 1) := by decide +kernel
theorem dX7_note_19 : decode cX7_note 19 = .ok (.aload_n 0, 1) := by decide +kernel
theorem dX7_note_20 : decode cX7_note 20 = .ok (.getfield 21, 3) := by decide +kernel
theorem dX7_note_23 : decode cX7_note 23 = .ok (.iconst 0, 1) := by decide +kernel
theorem dX7_note_24 : decode cX7_note 24 = .ok (.aload_n 0, 1) := by decide +kernel
theorem dX7_note_25 : decode cX7_note 25 = .ok (.getfield 39, 3) := by decide +kernel
theorem dX7_note_28 : decode cX7_note 28 = .ok (.invokestatic 79, 3) := by decide +kernel
theorem dX7_note_31 : decode cX7_note 31 = .ok (.aload_n 0, 1) := by decide +kernel
theorem dX7_note_32 : decode cX7_note 32 = .ok (.dup, 1) := by decide +kernel
theorem dX7_note_33 : decode cX7_note 33 = .ok (.getfield 40, 3) := by decide +kernel
theorem dX7_note_36 : decode cX7_note 36 = .ok (.iconst 1, 1) := by decide +kernel
theorem dX7_note_37 : decode cX7_note 37 = .ok (.iadd, 1) := by decide +kernel
theorem dX7_note_38 : decode cX7_note 38 = .ok (.putfield 40, 3) := by decide +kernel
theorem dX7_note_41 : decode cX7_note 41 = .ok (.return_, 1) := by decide +kernel
def xX7_note_31 (s_X7_isLess : zq_Sp) (Q : zq_Q) (ls : zq_L) (st : List Value) (h : zq_H) : Prop := (zi_aload 0 (zi_dup (zi_getI 29 6 (zi_push (.int 1) (zi_i2 (fun x y => x + y) (zi_putI 29 6 (zi_vret Q))))))) ls st h
theorem kX7_note_31 {X : zq_X} {d : Nat} (C : zq_C X cX7_note 1 RX7 d) (hd1 : 1 ≤ d) {d_X7_isLess : Nat} {s_X7_isLess : zq_Sp} (h_X7_isLess : zq_M yX7_isLess cX7_isLess 2 (some .boolean) 1 d_X7_isLess s_X7_isLess) (g_X7_isLess : d_X7_isLess + 1 ≤ d) {Q : zq_Q} (hq : zq_R X none 0 Q) : zq_ok X 1 31 (xX7_note_31 s_X7_isLess Q) := by
  refine zs_aload_n C dX7_note_31 rfl ?_
  refine zs_dup C dX7_note_32 ?_
  refine zs_getI C zp_29 zF7 (j := 6) ⟨by decide, rfl⟩ zw_216 dX7_note_33 ?_
  refine zs_iconst C dX7_note_36 (by decide) ?_
  refine zs_iadd C dX7_note_37 ?_
  refine zs_putI C zp_29 zF7 (j := 6) ⟨by decide, rfl⟩ ⟨rfl, by decide +kernel⟩ zw_216 dX7_note_38 ?_
  exact zs_vret C hq dX7_note_41
def xX7_note_14 (s_X7_isLess : zq_Sp) (Q : zq_Q) (ls : zq_L) (st : List Value) (h : zq_H) : Prop := (zi_aload 0 (zi_getR 29 32 (zi_push (.int 0) (zi_aload 0 (zi_getR 29 33 (zi_push (.int 0) (zi_aload 0 (zi_getI 29 5 (zi_copyI 32 16 33 16 ((xX7_note_31 s_X7_isLess Q))))))))))) ls st h
theorem kX7_note_14 {X : zq_X} {d : Nat} (C : zq_C X cX7_note 1 RX7 d) (hd1 : 1 ≤ d) {d_X7_isLess : Nat} {s_X7_isLess : zq_Sp} (h_X7_isLess : zq_M yX7_isLess cX7_isLess 2 (some .boolean) 1 d_X7_isLess s_X7_isLess) (g_X7_isLess : d_X7_isLess + 1 ≤ d) {Q : zq_Q} (hq : zq_R X none 0 Q) : zq_ok X 1 14 (xX7_note_14 s_X7_isLess Q) := by
  refine zs_aload_n C dX7_note_14 rfl ?_
  refine zs_getR C zp_29 zF7 (j := 2) ⟨by decide, rfl⟩ zw_212 dX7_note_15 ?_
  refine zs_iconst C dX7_note_18 (by decide) ?_
  refine zs_aload_n C dX7_note_19 rfl ?_
  refine zs_getR C zp_29 zF7 (j := 3) ⟨by decide, rfl⟩ zw_213 dX7_note_20 ?_
  refine zs_iconst C dX7_note_23 (by decide) ?_
  refine zs_aload_n C dX7_note_24 rfl ?_
  refine zs_getI C zp_29 zF7 (j := 5) ⟨by decide, rfl⟩ zw_215 dX7_note_25 ?_
  refine zs_copyI C zp_32 zp_33 zw_822 zw_611 zw_610 zw_24 hd1 dX7_note_28 ?_
  exact kX7_note_31 C hd1 h_X7_isLess g_X7_isLess hq
def xX7_note_7 (s_X7_isLess : zq_Sp) (Q : zq_Q) (ls : zq_L) (st : List Value) (h : zq_H) : Prop := (zi_aload 0 (zi_callV 0 29 s_X7_isLess (zi_if1 (fun x => x = 0) (xX7_note_31 s_X7_isLess Q) (xX7_note_14 s_X7_isLess Q)))) ls st h
theorem kX7_note_7 {X : zq_X} {d : Nat} (C : zq_C X cX7_note 1 RX7 d) (hd1 : 1 ≤ d) {d_X7_isLess : Nat} {s_X7_isLess : zq_Sp} (h_X7_isLess : zq_M yX7_isLess cX7_isLess 2 (some .boolean) 1 d_X7_isLess s_X7_isLess) (g_X7_isLess : d_X7_isLess + 1 ≤ d) {Q : zq_Q} (hq : zq_R X none 0 Q) : zq_ok X 1 7 (xX7_note_7 s_X7_isLess Q) := by
  refine zs_aload_n C dX7_note_7 rfl ?_
  refine zs_callV C h_X7_isLess g_X7_isLess zy_X7_isLess zp_29 (show vwCl[7]? = some (RX7, TX7, 7) from rfl) zw_818 zw_820 zs9_X7_isLess dX7_note_8 ?_
  exact zs_if_eq C dX7_note_11 (by decide) (kX7_note_31 C hd1 h_X7_isLess g_X7_isLess hq) (kX7_note_14 C hd1 h_X7_isLess g_X7_isLess hq)
def xX7_note_0 (s_X7_isLess : zq_Sp) (Q : zq_Q) (ls : zq_L) (st : List Value) (h : zq_H) : Prop := (zi_aload 0 (zi_getI 29 6 (zi_if1 (fun x => x = 0) (xX7_note_14 s_X7_isLess Q) (xX7_note_7 s_X7_isLess Q)))) ls st h
theorem kX7_note_0 {X : zq_X} {d : Nat} (C : zq_C X cX7_note 1 RX7 d) (hd1 : 1 ≤ d) {d_X7_isLess : Nat} {s_X7_isLess : zq_Sp} (h_X7_isLess : zq_M yX7_isLess cX7_isLess 2 (some .boolean) 1 d_X7_isLess s_X7_isLess) (g_X7_isLess : d_X7_isLess + 1 ≤ d) {Q : zq_Q} (hq : zq_R X none 0 Q) : zq_ok X 1 0 (xX7_note_0 s_X7_isLess Q) := by
  refine zs_aload_n C dX7_note_0 rfl ?_
  refine zs_getI C zp_29 zF7 (j := 6) ⟨by decide, rfl⟩ zw_216 dX7_note_1 ?_
  exact zs_if_eq C dX7_note_4 (by decide) (kX7_note_14 C hd1 h_X7_isLess g_X7_isLess hq) (kX7_note_7 C hd1 h_X7_isLess g_X7_isLess hq)
theorem mX7_note {d : Nat} {spec : zq_Sp} {d_X7_isLess : Nat} {s_X7_isLess : zq_Sp} (h_X7_isLess : zq_M yX7_isLess cX7_isLess 2 (some .boolean) 1 d_X7_isLess s_X7_isLess) (g_X7_isLess : d_X7_isLess + 1 ≤ d) (hd1 : 1 ≤ d) (v : ∀ args h Q, spec args h Q → (zq_a args).length ≤ 1 ∧ xX7_note_0 s_X7_isLess Q (zq_l0 1 args) [] h) : zq_M yX7_note cX7_note 1 none 0 d spec := by
  refine zq_met (by decide +kernel) (by decide) (fun X Q args h C hq hs => ⟨(v args h Q hs).1, _, ?_, (v args h Q hs).2⟩)
  exact kX7_note_0 C hd1 h_X7_isLess g_X7_isLess hq
/-! ToOneCrumb$Seating.isLess()Z -/
theorem dX7_isLess_0 : decode cX7_isLess 0 = .ok (.iconst 0, 1) := by decide +kernel
theorem dX7_isLess_1 : decode cX7_isLess 1 = .ok (.istore_n 1, 1) := by decide +kernel
theorem dX7_isLess_2 : decode cX7_isLess 2 = .ok (.iload_n 1, 1) := by decide +kernel
theorem dX7_isLess_3 : decode cX7_isLess 3 = .ok (.aload_n 0, 1) := by decide +kernel
theorem dX7_isLess_4 : decode cX7_isLess 4 = .ok (.getfield 39, 3) := by decide +kernel
theorem dX7_isLess_7 : decode cX7_isLess 7 = .ok (.if_icmp .ge 45, 3) := by decide +kernel
theorem dX7_isLess_10 : decode cX7_isLess 10 = .ok (.aload_n 0, 1) := by decide +kernel
theorem dX7_isLess_11 : decode cX7_isLess 11 = .ok (.getfield 18, 3) := by decide +kernel
theorem dX7_isLess_14 : decode cX7_isLess 14 = .ok (.iload_n 1, 1) := by decide +kernel
theorem dX7_isLess_15 : decode cX7_isLess 15 = .ok (.iaload, 1) := by decide +kernel
theorem dX7_isLess_16 : decode cX7_isLess 16 = .ok (.aload_n 0, 1) := by decide +kernel
theorem dX7_isLess_17 : decode cX7_isLess 17 = .ok (.getfield 21, 3) := by decide +kernel
theorem dX7_isLess_20 : decode cX7_isLess 20 = .ok (.iload_n 1, 1) := by decide +kernel
theorem dX7_isLess_21 : decode cX7_isLess 21 = .ok (.iaload, 1) := by decide +kernel
theorem dX7_isLess_22 : decode cX7_isLess 22 = .ok (.if_icmp .eq 24, 3) := by decide +kernel
theorem dX7_isLess_25 : decode cX7_isLess 25 = .ok (.aload_n 0, 1) := by decide +kernel
theorem dX7_isLess_26 : decode cX7_isLess 26 = .ok (.getfield 18, 3) := by decide +kernel
theorem dX7_isLess_29 : decode cX7_isLess 29 = .ok (.iload_n 1, 1) := by decide +kernel
theorem dX7_isLess_30 : decode cX7_isLess 30 = .ok (.iaload, 1) := by decide +kernel
theorem dX7_isLess_31 : decode cX7_isLess 31 = .ok (.aload_n 0, 1) := by decide +kernel
theorem dX7_isLess_32 : decode cX7_isLess 32 = .ok (.getfield 21, 3) := by decide +kernel
theorem dX7_isLess_35 : decode cX7_isLess 35 = .ok (.iload_n 1, 1) := by decide +kernel
theorem dX7_isLess_36 : decode cX7_isLess 36 = .ok (.iaload, 1) := by decide +kernel
theorem dX7_isLess_37 : decode cX7_isLess 37 = .ok (.if_icmp .ge 7, 3) := by decide +kernel
theorem dX7_isLess_40 : decode cX7_isLess 40 = .ok (.iconst 1, 1) := by decide +kernel
theorem dX7_isLess_41 : decode cX7_isLess 41 = .ok (.goto 4, 3) := by decide +kernel
theorem dX7_isLess_44 : decode cX7_isLess 44 = .ok (.iconst 0, 1) := by decide +kernel
theorem dX7_isLess_45 : decode cX7_isLess 45 = .ok (.ireturn, 1) := by decide +kernel
theorem dX7_isLess_46 : decode cX7_isLess 46 = .ok (.iinc 1 1, 3) := by decide +kernel
theorem dX7_isLess_49 : decode cX7_isLess 49 = .ok (.goto (-47), 3) := by decide +kernel
theorem dX7_isLess_52 : decode cX7_isLess 52 = .ok (.iconst 0, 1) := by decide +kernel
theorem dX7_isLess_53 : decode cX7_isLess 53 = .ok (.ireturn, 1) := by decide +kernel
def xX7_isLess_52 (J2 : zq_P) (Q : zq_Q) (ls : zq_L) (st : List Value) (h : zq_H) : Prop := (zi_push (.int 0) (zi_zret Q)) ls st h
theorem kX7_isLess_52 {X : zq_X} {d : Nat} (C : zq_C X cX7_isLess 2 RX7 d) {J2 : zq_P} (j2 : zq_ok X 2 2 J2) {Q : zq_Q} (hq : zq_R X (some .boolean) 1 Q) : zq_ok X 2 52 (xX7_isLess_52 J2 Q) := by
  refine zs_iconst C dX7_isLess_52 (by decide) ?_
  exact zs_zret C hq dX7_isLess_53
def xX7_isLess_46 (J2 : zq_P) (Q : zq_Q) (ls : zq_L) (st : List Value) (h : zq_H) : Prop := (zi_iinc 1 1 (J2)) ls st h
theorem kX7_isLess_46 {X : zq_X} {d : Nat} (C : zq_C X cX7_isLess 2 RX7 d) {J2 : zq_P} (j2 : zq_ok X 2 2 J2) {Q : zq_Q} (hq : zq_R X (some .boolean) 1 Q) : zq_ok X 2 46 (xX7_isLess_46 J2 Q) := by
  refine zs_iinc C dX7_isLess_46 (by decide) (by decide) ?_
  exact zs_goto C dX7_isLess_49 (by decide) (j2)
def xX7_isLess_45 (J2 : zq_P) (Q : zq_Q) (ls : zq_L) (st : List Value) (h : zq_H) : Prop := (zi_zret Q) ls st h
theorem kX7_isLess_45 {X : zq_X} {d : Nat} (C : zq_C X cX7_isLess 2 RX7 d) {J2 : zq_P} (j2 : zq_ok X 2 2 J2) {Q : zq_Q} (hq : zq_R X (some .boolean) 1 Q) : zq_ok X 2 45 (xX7_isLess_45 J2 Q) := by
  exact zs_zret C hq dX7_isLess_45
def xX7_isLess_44 (J2 : zq_P) (Q : zq_Q) (ls : zq_L) (st : List Value) (h : zq_H) : Prop := (zi_push (.int 0) ((xX7_isLess_45 J2 Q))) ls st h
theorem kX7_isLess_44 {X : zq_X} {d : Nat} (C : zq_C X cX7_isLess 2 RX7 d) {J2 : zq_P} (j2 : zq_ok X 2 2 J2) {Q : zq_Q} (hq : zq_R X (some .boolean) 1 Q) : zq_ok X 2 44 (xX7_isLess_44 J2 Q) := by
  refine zs_iconst C dX7_isLess_44 (by decide) ?_
  exact kX7_isLess_45 C j2 hq
def xX7_isLess_40 (J2 : zq_P) (Q : zq_Q) (ls : zq_L) (st : List Value) (h : zq_H) : Prop := (zi_push (.int 1) ((xX7_isLess_45 J2 Q))) ls st h
theorem kX7_isLess_40 {X : zq_X} {d : Nat} (C : zq_C X cX7_isLess 2 RX7 d) {J2 : zq_P} (j2 : zq_ok X 2 2 J2) {Q : zq_Q} (hq : zq_R X (some .boolean) 1 Q) : zq_ok X 2 40 (xX7_isLess_40 J2 Q) := by
  refine zs_iconst C dX7_isLess_40 (by decide) ?_
  exact zs_goto C dX7_isLess_41 (by decide) (kX7_isLess_45 C j2 hq)
def xX7_isLess_25 (J2 : zq_P) (Q : zq_Q) (ls : zq_L) (st : List Value) (h : zq_H) : Prop := (zi_aload 0 (zi_getR 29 32 (zi_iload 1 (zi_aldI 32 16 (zi_aload 0 (zi_getR 29 33 (zi_iload 1 (zi_aldI 33 16 (zi_if2 (fun x y => y ≤ x) (xX7_isLess_44 J2 Q) (xX7_isLess_40 J2 Q)))))))))) ls st h
theorem kX7_isLess_25 {X : zq_X} {d : Nat} (C : zq_C X cX7_isLess 2 RX7 d) {J2 : zq_P} (j2 : zq_ok X 2 2 J2) {Q : zq_Q} (hq : zq_R X (some .boolean) 1 Q) : zq_ok X 2 25 (xX7_isLess_25 J2 Q) := by
  refine zs_aload_n C dX7_isLess_25 rfl ?_
  refine zs_getR C zp_29 zF7 (j := 2) ⟨by decide, rfl⟩ zw_212 dX7_isLess_26 ?_
  refine zs_iload_n C dX7_isLess_29 rfl ?_
  refine zs_iaload C zp_32 dX7_isLess_30 ?_
  refine zs_aload_n C dX7_isLess_31 rfl ?_
  refine zs_getR C zp_29 zF7 (j := 3) ⟨by decide, rfl⟩ zw_213 dX7_isLess_32 ?_
  refine zs_iload_n C dX7_isLess_35 rfl ?_
  refine zs_iaload C zp_33 dX7_isLess_36 ?_
  exact zs_icmp_ge C dX7_isLess_37 (by decide) (kX7_isLess_44 C j2 hq) (kX7_isLess_40 C j2 hq)
def xX7_isLess_10 (J2 : zq_P) (Q : zq_Q) (ls : zq_L) (st : List Value) (h : zq_H) : Prop := (zi_aload 0 (zi_getR 29 32 (zi_iload 1 (zi_aldI 32 16 (zi_aload 0 (zi_getR 29 33 (zi_iload 1 (zi_aldI 33 16 (zi_if2 (fun x y => x = y) (xX7_isLess_46 J2 Q) (xX7_isLess_25 J2 Q)))))))))) ls st h
theorem kX7_isLess_10 {X : zq_X} {d : Nat} (C : zq_C X cX7_isLess 2 RX7 d) {J2 : zq_P} (j2 : zq_ok X 2 2 J2) {Q : zq_Q} (hq : zq_R X (some .boolean) 1 Q) : zq_ok X 2 10 (xX7_isLess_10 J2 Q) := by
  refine zs_aload_n C dX7_isLess_10 rfl ?_
  refine zs_getR C zp_29 zF7 (j := 2) ⟨by decide, rfl⟩ zw_212 dX7_isLess_11 ?_
  refine zs_iload_n C dX7_isLess_14 rfl ?_
  refine zs_iaload C zp_32 dX7_isLess_15 ?_
  refine zs_aload_n C dX7_isLess_16 rfl ?_
  refine zs_getR C zp_29 zF7 (j := 3) ⟨by decide, rfl⟩ zw_213 dX7_isLess_17 ?_
  refine zs_iload_n C dX7_isLess_20 rfl ?_
  refine zs_iaload C zp_33 dX7_isLess_21 ?_
  exact zs_icmp_eq C dX7_isLess_22 (by decide) (kX7_isLess_46 C j2 hq) (kX7_isLess_25 C j2 hq)
def xX7_isLess_2 (J2 : zq_P) (Q : zq_Q) (ls : zq_L) (st : List Value) (h : zq_H) : Prop := (zi_iload 1 (zi_aload 0 (zi_getI 29 5 (zi_if2 (fun x y => y ≤ x) (xX7_isLess_52 J2 Q) (xX7_isLess_10 J2 Q))))) ls st h
theorem kX7_isLess_2 {X : zq_X} {d : Nat} (C : zq_C X cX7_isLess 2 RX7 d) {J2 : zq_P} (j2 : zq_ok X 2 2 J2) {Q : zq_Q} (hq : zq_R X (some .boolean) 1 Q) : zq_ok X 2 2 (xX7_isLess_2 J2 Q) := by
  refine zs_iload_n C dX7_isLess_2 rfl ?_
  refine zs_aload_n C dX7_isLess_3 rfl ?_
  refine zs_getI C zp_29 zF7 (j := 5) ⟨by decide, rfl⟩ zw_215 dX7_isLess_4 ?_
  exact zs_icmp_ge C dX7_isLess_7 (by decide) (kX7_isLess_52 C j2 hq) (kX7_isLess_10 C j2 hq)
def xX7_isLess_0 (J2 : zq_P) (Q : zq_Q) (ls : zq_L) (st : List Value) (h : zq_H) : Prop := (zi_push (.int 0) (zi_istore 1 (J2))) ls st h
theorem kX7_isLess_0 {X : zq_X} {d : Nat} (C : zq_C X cX7_isLess 2 RX7 d) {J2 : zq_P} (j2 : zq_ok X 2 2 J2) {Q : zq_Q} (hq : zq_R X (some .boolean) 1 Q) : zq_ok X 2 0 (xX7_isLess_0 J2 Q) := by
  refine zs_iconst C dX7_isLess_0 (by decide) ?_
  refine zs_istore_n C dX7_isLess_1 rfl (by decide) ?_
  exact j2
theorem mX7_isLess {d : Nat} {spec : zq_Sp} {σ2 : Type} (μ2 : σ2 → Nat) (I2 : zq_Q → σ2 → zq_P) (v : ∀ args h Q, spec args h Q → (zq_a args).length ≤ 2 ∧ xX7_isLess_0 (fun ls st h => ∃ b, I2 Q b ls st h) Q (zq_l0 2 args) [] h) (v2 : ∀ Q a ls st h, I2 Q a ls st h → xX7_isLess_2 (fun ls st h => ∃ b, μ2 b < μ2 a ∧ I2 Q b ls st h) Q ls st h) : zq_M yX7_isLess cX7_isLess 2 (some .boolean) 1 d spec := by
  refine zq_met (by decide +kernel) (by decide) (fun X Q args h C hq hs => ⟨(v args h Q hs).1, _, ?_, (v args h Q hs).2⟩)
  have hl := zq_loop1 (X := X) (nL := 2) (pc1 := 2) μ2 (I2 Q) (fun J2 => xX7_isLess_2 J2 Q) (fun j2 => kX7_isLess_2 C j2 hq) (v2 Q)
  exact kX7_isLess_0 C hl hq
/-! ToOneCrumb$Turns.read(LToOneCrumb$Text;I)Z -/
theorem dX9_read_0 : decode cX9_read 0 = .ok (.aload_n 1, 1) := by decide +kernel
theorem dX9_read_1 : decode cX9_read 1 = .ok (.bipush 16, 2) := by decide +kernel
theorem dX9_read_3 : decode cX9_read 3 = .ok (.invokevirtual 21, 3) := by decide +kernel
theorem dX9_read_6 : decode cX9_read 6 = .ok (.aload_n 0, 1) := by decide +kernel
theorem dX9_read_7 : decode cX9_read 7 = .ok (.iconst 0, 1) := by decide +kernel
theorem dX9_read_8 : decode cX9_read 8 = .ok (.putfield 27, 3) := by decide +kernel
theorem dX9_read_11 : decode cX9_read 11 = .ok (.aload_n 0, 1) := by decide +kernel
theorem dX9_read_12 : decode cX9_read 12 = .ok (.getfield 27, 3) := by decide +kernel
theorem dX9_read_15 : decode cX9_read 15 = .ok (.bipush 16, 2) := by decide +kernel
theorem dX9_read_17 : decode cX9_read 17 = .ok (.if_icmp .ge 56, 3) := by decide +kernel
theorem dX9_read_20 : decode cX9_read 20 = .ok (.aload_n 1, 1) := by decide +kernel
theorem dX9_read_21 : decode cX9_read 21 = .ok (.iload_n 2, 1) := by decide +kernel
theorem dX9_read_22 : decode cX9_read 22 = .ok (.invokevirtual 31, 3) := by decide +kernel
theorem dX9_read_25 : decode cX9_read 25 = .ok (.istore_n 3, 1) := by decide +kernel
theorem dX9_read_26 : decode cX9_read 26 = .ok (.iload_n 3, 1) := by decide +kernel
theorem dX9_read_27 : decode cX9_read 27 = .ok (.ifCond .ge 23, 3) := by decide +kernel
theorem dX9_read_30 : decode cX9_read 30 = .ok (.aload_n 0, 1) := by decide +kernel
theorem dX9_read_31 : decode cX9_read 31 = .ok (.getfield 27, 3) := by decide +kernel
theorem dX9_read_34 : decode cX9_read 34 = .ok (.ifCond .le 14, 3) := by decide +kernel
theorem dX9_read_37 : decode cX9_read 37 = .ok (.aload_n 1, 1) := by decide +kernel
theorem dX9_read_38 : decode cX9_read 38 = .ok (.invokevirtual 35, 3) := by decide +kernel
theorem dX9_read_41 : decode cX9_read 41 = .ok (.ifCond .eq 7, 3) := by decide +kernel
theorem dX9_read_44 : decode cX9_read 44 = .ok (.iconst 1, 1) := by decide +kernel
theorem dX9_read_45 : decode cX9_read 45 = .ok (.goto 4, 3) := by decide +kernel
theorem dX9_read_48 : decode cX9_read 48 = .ok (.iconst 0, 1) := by decide +kernel
theorem dX9_read_49 : decode cX9_read 49 = .ok (.ireturn, 1) := by decide +kernel
theorem dX9_read_50 : decode cX9_read 50 = .ok (.aload_n 0, 1) := by decide +kernel
theorem dX9_read_51 : decode cX9_read 51 = .ok (.getfield 9, 3) := by decide +kernel
theorem dX9_read_54 : decode cX9_read 54 = .ok (.aload_n 0, 1) := by decide +kernel
theorem dX9_read_55 : decode cX9_read 55 = .ok (.getfield 27, 3) := by decide +kernel
theorem dX9_read_58 : decode cX9_read 58 = .ok (.iload_n 3, 1) := by decide +kernel
theorem dX9_read_59 : decode cX9_read 59 = .ok (.iastore, 1) := by decide +kernel
theorem dX9_read_60 : decode cX9_read 60 = .ok (.aload_n 0, 1) := by decide +kernel
theorem dX9_read_61 : decode cX9_read 61 = .ok (.dup, 1) := by decide +kernel
theorem dX9_read_62 : decode cX9_read 62 = .ok (.getfield 27, 3) := by decide +kernel
theorem dX9_read_65 : decode cX9_read 65 = .ok (.iconst 1, 1) := by decide +kernel
theorem dX9_read_66 : decode cX9_read 66 = .ok (.iadd, 1) := by decide +kernel
theorem dX9_read_67 : decode cX9_read 67 = .ok (.putfield 27, 3) := by decide +kernel
theorem dX9_read_70 : decode cX9_read 70 = .ok (.goto (-59), 3) := by decide +kernel
theorem dX9_read_73 : decode cX9_read 73 = .ok (.aload_n 1, 1) := by decide +kernel
theorem dX9_read_74 : decode cX9_read 74 = .ok (.invokevirtual 35, 3) := by decide +kernel
theorem dX9_read_77 : decode cX9_read 77 = .ok (.ireturn, 1) := by decide +kernel
def xX9_read_73 (s_X8_start : zq_Sp) (s_X8_takeLetter : zq_Sp) (s_X8_isFinished : zq_Sp) (J11 : zq_P) (Q : zq_Q) (ls : zq_L) (st : List Value) (h : zq_H) : Prop := (zi_aload 1 (zi_callV 0 1 s_X8_isFinished (zi_zret Q))) ls st h
theorem kX9_read_73 {X : zq_X} {d : Nat} (C : zq_C X cX9_read 4 RX9 d) {d_X8_start : Nat} {s_X8_start : zq_Sp} (h_X8_start : zq_M yX8_start cX8_start 2 none 0 d_X8_start s_X8_start) (g_X8_start : d_X8_start + 1 ≤ d) {d_X8_takeLetter : Nat} {s_X8_takeLetter : zq_Sp} (h_X8_takeLetter : zq_M yX8_takeLetter cX8_takeLetter 3 (some .int) 1 d_X8_takeLetter s_X8_takeLetter) (g_X8_takeLetter : d_X8_takeLetter + 1 ≤ d) {d_X8_isFinished : Nat} {s_X8_isFinished : zq_Sp} (h_X8_isFinished : zq_M yX8_isFinished cX8_isFinished 1 (some .boolean) 1 d_X8_isFinished s_X8_isFinished) (g_X8_isFinished : d_X8_isFinished + 1 ≤ d) {J11 : zq_P} (j11 : zq_ok X 4 11 J11) {Q : zq_Q} (hq : zq_R X (some .boolean) 1 Q) : zq_ok X 4 73 (xX9_read_73 s_X8_start s_X8_takeLetter s_X8_isFinished J11 Q) := by
  refine zs_aload_n C dX9_read_73 rfl ?_
  refine zs_callV C h_X8_isFinished g_X8_isFinished zy_X8_isFinished zp_1 (show vwCl[8]? = some (RX8, TX8, 4) from rfl) zw_850 zw_396 zs9_X8_isFinished dX9_read_74 ?_
  exact zs_zret C hq dX9_read_77
def xX9_read_50 (s_X8_start : zq_Sp) (s_X8_takeLetter : zq_Sp) (s_X8_isFinished : zq_Sp) (J11 : zq_P) (Q : zq_Q) (ls : zq_L) (st : List Value) (h : zq_H) : Prop := (zi_aload 0 (zi_getR 34 35 (zi_aload 0 (zi_getI 34 3 (zi_iload 3 (zi_astI 35 16 (zi_aload 0 (zi_dup (zi_getI 34 3 (zi_push (.int 1) (zi_i2 (fun x y => x + y) (zi_putI 34 3 (J11))))))))))))) ls st h
theorem kX9_read_50 {X : zq_X} {d : Nat} (C : zq_C X cX9_read 4 RX9 d) {d_X8_start : Nat} {s_X8_start : zq_Sp} (h_X8_start : zq_M yX8_start cX8_start 2 none 0 d_X8_start s_X8_start) (g_X8_start : d_X8_start + 1 ≤ d) {d_X8_takeLetter : Nat} {s_X8_takeLetter : zq_Sp} (h_X8_takeLetter : zq_M yX8_takeLetter cX8_takeLetter 3 (some .int) 1 d_X8_takeLetter s_X8_takeLetter) (g_X8_takeLetter : d_X8_takeLetter + 1 ≤ d) {d_X8_isFinished : Nat} {s_X8_isFinished : zq_Sp} (h_X8_isFinished : zq_M yX8_isFinished cX8_isFinished 1 (some .boolean) 1 d_X8_isFinished s_X8_isFinished) (g_X8_isFinished : d_X8_isFinished + 1 ≤ d) {J11 : zq_P} (j11 : zq_ok X 4 11 J11) {Q : zq_Q} (hq : zq_R X (some .boolean) 1 Q) : zq_ok X 4 50 (xX9_read_50 s_X8_start s_X8_takeLetter s_X8_isFinished J11 Q) := by
  refine zs_aload_n C dX9_read_50 rfl ?_
  refine zs_getR C zp_34 zF9 (j := 0) ⟨by decide, rfl⟩ zw_238 dX9_read_51 ?_
  refine zs_aload_n C dX9_read_54 rfl ?_
  refine zs_getI C zp_34 zF9 (j := 3) ⟨by decide, rfl⟩ zw_244 dX9_read_55 ?_
  refine zs_iload_n C dX9_read_58 rfl ?_
  refine zs_iastore C zp_35 dX9_read_59 ?_
  refine zs_aload_n C dX9_read_60 rfl ?_
  refine zs_dup C dX9_read_61 ?_
  refine zs_getI C zp_34 zF9 (j := 3) ⟨by decide, rfl⟩ zw_244 dX9_read_62 ?_
  refine zs_iconst C dX9_read_65 (by decide) ?_
  refine zs_iadd C dX9_read_66 ?_
  refine zs_putI C zp_34 zF9 (j := 3) ⟨by decide, rfl⟩ ⟨rfl, by decide +kernel⟩ zw_244 dX9_read_67 ?_
  exact zs_goto C dX9_read_70 (by decide) (j11)
def xX9_read_49 (s_X8_start : zq_Sp) (s_X8_takeLetter : zq_Sp) (s_X8_isFinished : zq_Sp) (J11 : zq_P) (Q : zq_Q) (ls : zq_L) (st : List Value) (h : zq_H) : Prop := (zi_zret Q) ls st h
theorem kX9_read_49 {X : zq_X} {d : Nat} (C : zq_C X cX9_read 4 RX9 d) {d_X8_start : Nat} {s_X8_start : zq_Sp} (h_X8_start : zq_M yX8_start cX8_start 2 none 0 d_X8_start s_X8_start) (g_X8_start : d_X8_start + 1 ≤ d) {d_X8_takeLetter : Nat} {s_X8_takeLetter : zq_Sp} (h_X8_takeLetter : zq_M yX8_takeLetter cX8_takeLetter 3 (some .int) 1 d_X8_takeLetter s_X8_takeLetter) (g_X8_takeLetter : d_X8_takeLetter + 1 ≤ d) {d_X8_isFinished : Nat} {s_X8_isFinished : zq_Sp} (h_X8_isFinished : zq_M yX8_isFinished cX8_isFinished 1 (some .boolean) 1 d_X8_isFinished s_X8_isFinished) (g_X8_isFinished : d_X8_isFinished + 1 ≤ d) {J11 : zq_P} (j11 : zq_ok X 4 11 J11) {Q : zq_Q} (hq : zq_R X (some .boolean) 1 Q) : zq_ok X 4 49 (xX9_read_49 s_X8_start s_X8_takeLetter s_X8_isFinished J11 Q) := by
  exact zs_zret C hq dX9_read_49
def xX9_read_48 (s_X8_start : zq_Sp) (s_X8_takeLetter : zq_Sp) (s_X8_isFinished : zq_Sp) (J11 : zq_P) (Q : zq_Q) (ls : zq_L) (st : List Value) (h : zq_H) : Prop := (zi_push (.int 0) ((xX9_read_49 s_X8_start s_X8_takeLetter s_X8_isFinished J11 Q))) ls st h
theorem kX9_read_48 {X : zq_X} {d : Nat} (C : zq_C X cX9_read 4 RX9 d) {d_X8_start : Nat} {s_X8_start : zq_Sp} (h_X8_start : zq_M yX8_start cX8_start 2 none 0 d_X8_start s_X8_start) (g_X8_start : d_X8_start + 1 ≤ d) {d_X8_takeLetter : Nat} {s_X8_takeLetter : zq_Sp} (h_X8_takeLetter : zq_M yX8_takeLetter cX8_takeLetter 3 (some .int) 1 d_X8_takeLetter s_X8_takeLetter) (g_X8_takeLetter : d_X8_takeLetter + 1 ≤ d) {d_X8_isFinished : Nat} {s_X8_isFinished : zq_Sp} (h_X8_isFinished : zq_M yX8_isFinished cX8_isFinished 1 (some .boolean) 1 d_X8_isFinished s_X8_isFinished) (g_X8_isFinished : d_X8_isFinished + 1 ≤ d) {J11 : zq_P} (j11 : zq_ok X 4 11 J11) {Q : zq_Q} (hq : zq_R X (some .boolean) 1 Q) : zq_ok X 4 48 (xX9_read_48 s_X8_start s_X8_takeLetter s_X8_isFinished J11 Q) := by
  refine zs_iconst C dX9_read_48 (by decide) ?_
  exact kX9_read_49 C h_X8_start g_X8_start h_X8_takeLetter g_X8_takeLetter h_X8_isFinished g_X8_isFinished j11 hq
def xX9_read_44 (s_X8_start : zq_Sp) (s_X8_takeLetter : zq_Sp) (s_X8_isFinished : zq_Sp) (J11 : zq_P) (Q : zq_Q) (ls : zq_L) (st : List Value) (h : zq_H) : Prop := (zi_push (.int 1) ((xX9_read_49 s_X8_start s_X8_takeLetter s_X8_isFinished J11 Q))) ls st h
theorem kX9_read_44 {X : zq_X} {d : Nat} (C : zq_C X cX9_read 4 RX9 d) {d_X8_start : Nat} {s_X8_start : zq_Sp} (h_X8_start : zq_M yX8_start cX8_start 2 none 0 d_X8_start s_X8_start) (g_X8_start : d_X8_start + 1 ≤ d) {d_X8_takeLetter : Nat} {s_X8_takeLetter : zq_Sp} (h_X8_takeLetter : zq_M yX8_takeLetter cX8_takeLetter 3 (some .int) 1 d_X8_takeLetter s_X8_takeLetter) (g_X8_takeLetter : d_X8_takeLetter + 1 ≤ d) {d_X8_isFinished : Nat} {s_X8_isFinished : zq_Sp} (h_X8_isFinished : zq_M yX8_isFinished cX8_isFinished 1 (some .boolean) 1 d_X8_isFinished s_X8_isFinished) (g_X8_isFinished : d_X8_isFinished + 1 ≤ d) {J11 : zq_P} (j11 : zq_ok X 4 11 J11) {Q : zq_Q} (hq : zq_R X (some .boolean) 1 Q) : zq_ok X 4 44 (xX9_read_44 s_X8_start s_X8_takeLetter s_X8_isFinished J11 Q) := by
  refine zs_iconst C dX9_read_44 (by decide) ?_
  exact zs_goto C dX9_read_45 (by decide) (kX9_read_49 C h_X8_start g_X8_start h_X8_takeLetter g_X8_takeLetter h_X8_isFinished g_X8_isFinished j11 hq)
def xX9_read_37 (s_X8_start : zq_Sp) (s_X8_takeLetter : zq_Sp) (s_X8_isFinished : zq_Sp) (J11 : zq_P) (Q : zq_Q) (ls : zq_L) (st : List Value) (h : zq_H) : Prop := (zi_aload 1 (zi_callV 0 1 s_X8_isFinished (zi_if1 (fun x => x = 0) (xX9_read_48 s_X8_start s_X8_takeLetter s_X8_isFinished J11 Q) (xX9_read_44 s_X8_start s_X8_takeLetter s_X8_isFinished J11 Q)))) ls st h
theorem kX9_read_37 {X : zq_X} {d : Nat} (C : zq_C X cX9_read 4 RX9 d) {d_X8_start : Nat} {s_X8_start : zq_Sp} (h_X8_start : zq_M yX8_start cX8_start 2 none 0 d_X8_start s_X8_start) (g_X8_start : d_X8_start + 1 ≤ d) {d_X8_takeLetter : Nat} {s_X8_takeLetter : zq_Sp} (h_X8_takeLetter : zq_M yX8_takeLetter cX8_takeLetter 3 (some .int) 1 d_X8_takeLetter s_X8_takeLetter) (g_X8_takeLetter : d_X8_takeLetter + 1 ≤ d) {d_X8_isFinished : Nat} {s_X8_isFinished : zq_Sp} (h_X8_isFinished : zq_M yX8_isFinished cX8_isFinished 1 (some .boolean) 1 d_X8_isFinished s_X8_isFinished) (g_X8_isFinished : d_X8_isFinished + 1 ≤ d) {J11 : zq_P} (j11 : zq_ok X 4 11 J11) {Q : zq_Q} (hq : zq_R X (some .boolean) 1 Q) : zq_ok X 4 37 (xX9_read_37 s_X8_start s_X8_takeLetter s_X8_isFinished J11 Q) := by
  refine zs_aload_n C dX9_read_37 rfl ?_
  refine zs_callV C h_X8_isFinished g_X8_isFinished zy_X8_isFinished zp_1 (show vwCl[8]? = some (RX8, TX8, 4) from rfl) zw_850 zw_396 zs9_X8_isFinished dX9_read_38 ?_
  exact zs_if_eq C dX9_read_41 (by decide) (kX9_read_48 C h_X8_start g_X8_start h_X8_takeLetter g_X8_takeLetter h_X8_isFinished g_X8_isFinished j11 hq) (kX9_read_44 C h_X8_start g_X8_start h_X8_takeLetter g_X8_takeLetter h_X8_isFinished g_X8_isFinished j11 hq)
def xX9_read_30 (s_X8_start : zq_Sp) (s_X8_takeLetter : zq_Sp) (s_X8_isFinished : zq_Sp) (J11 : zq_P) (Q : zq_Q) (ls : zq_L) (st : List Value) (h : zq_H) : Prop := (zi_aload 0 (zi_getI 34 3 (zi_if1 (fun x => x ≤ 0) (xX9_read_48 s_X8_start s_X8_takeLetter s_X8_isFinished J11 Q) (xX9_read_37 s_X8_start s_X8_takeLetter s_X8_isFinished J11 Q)))) ls st h
theorem kX9_read_30 {X : zq_X} {d : Nat} (C : zq_C X cX9_read 4 RX9 d) {d_X8_start : Nat} {s_X8_start : zq_Sp} (h_X8_start : zq_M yX8_start cX8_start 2 none 0 d_X8_start s_X8_start) (g_X8_start : d_X8_start + 1 ≤ d) {d_X8_takeLetter : Nat} {s_X8_takeLetter : zq_Sp} (h_X8_takeLetter : zq_M yX8_takeLetter cX8_takeLetter 3 (some .int) 1 d_X8_takeLetter s_X8_takeLetter) (g_X8_takeLetter : d_X8_takeLetter + 1 ≤ d) {d_X8_isFinished : Nat} {s_X8_isFinished : zq_Sp} (h_X8_isFinished : zq_M yX8_isFinished cX8_isFinished 1 (some .boolean) 1 d_X8_isFinished s_X8_isFinished) (g_X8_isFinished : d_X8_isFinished + 1 ≤ d) {J11 : zq_P} (j11 : zq_ok X 4 11 J11) {Q : zq_Q} (hq : zq_R X (some .boolean) 1 Q) : zq_ok X 4 30 (xX9_read_30 s_X8_start s_X8_takeLetter s_X8_isFinished J11 Q) := by
  refine zs_aload_n C dX9_read_30 rfl ?_
  refine zs_getI C zp_34 zF9 (j := 3) ⟨by decide, rfl⟩ zw_244 dX9_read_31 ?_
  exact zs_if_le C dX9_read_34 (by decide) (kX9_read_48 C h_X8_start g_X8_start h_X8_takeLetter g_X8_takeLetter h_X8_isFinished g_X8_isFinished j11 hq) (kX9_read_37 C h_X8_start g_X8_start h_X8_takeLetter g_X8_takeLetter h_X8_isFinished g_X8_isFinished j11 hq)
def xX9_read_20 (s_X8_start : zq_Sp) (s_X8_takeLetter : zq_Sp) (s_X8_isFinished : zq_Sp) (J11 : zq_P) (Q : zq_Q) (ls : zq_L) (st : List Value) (h : zq_H) : Prop := (zi_aload 1 (zi_iload 2 (zi_callV 1 1 s_X8_takeLetter (zi_istore 3 (zi_iload 3 (zi_if1 (fun x => 0 ≤ x) (xX9_read_50 s_X8_start s_X8_takeLetter s_X8_isFinished J11 Q) (xX9_read_30 s_X8_start s_X8_takeLetter s_X8_isFinished J11 Q))))))) ls st h
theorem kX9_read_20 {X : zq_X} {d : Nat} (C : zq_C X cX9_read 4 RX9 d) {d_X8_start : Nat} {s_X8_start : zq_Sp} (h_X8_start : zq_M yX8_start cX8_start 2 none 0 d_X8_start s_X8_start) (g_X8_start : d_X8_start + 1 ≤ d) {d_X8_takeLetter : Nat} {s_X8_takeLetter : zq_Sp} (h_X8_takeLetter : zq_M yX8_takeLetter cX8_takeLetter 3 (some .int) 1 d_X8_takeLetter s_X8_takeLetter) (g_X8_takeLetter : d_X8_takeLetter + 1 ≤ d) {d_X8_isFinished : Nat} {s_X8_isFinished : zq_Sp} (h_X8_isFinished : zq_M yX8_isFinished cX8_isFinished 1 (some .boolean) 1 d_X8_isFinished s_X8_isFinished) (g_X8_isFinished : d_X8_isFinished + 1 ≤ d) {J11 : zq_P} (j11 : zq_ok X 4 11 J11) {Q : zq_Q} (hq : zq_R X (some .boolean) 1 Q) : zq_ok X 4 20 (xX9_read_20 s_X8_start s_X8_takeLetter s_X8_isFinished J11 Q) := by
  refine zs_aload_n C dX9_read_20 rfl ?_
  refine zs_iload_n C dX9_read_21 rfl ?_
  refine zs_callV C h_X8_takeLetter g_X8_takeLetter zy_X8_takeLetter zp_1 (show vwCl[8]? = some (RX8, TX8, 4) from rfl) zw_849 zw_408 zs9_X8_takeLetter dX9_read_22 ?_
  refine zs_istore_n C dX9_read_25 rfl (by decide) ?_
  refine zs_iload_n C dX9_read_26 rfl ?_
  exact zs_if_ge C dX9_read_27 (by decide) (kX9_read_50 C h_X8_start g_X8_start h_X8_takeLetter g_X8_takeLetter h_X8_isFinished g_X8_isFinished j11 hq) (kX9_read_30 C h_X8_start g_X8_start h_X8_takeLetter g_X8_takeLetter h_X8_isFinished g_X8_isFinished j11 hq)
def xX9_read_11 (s_X8_start : zq_Sp) (s_X8_takeLetter : zq_Sp) (s_X8_isFinished : zq_Sp) (J11 : zq_P) (Q : zq_Q) (ls : zq_L) (st : List Value) (h : zq_H) : Prop := (zi_aload 0 (zi_getI 34 3 (zi_push (.int 16) (zi_if2 (fun x y => y ≤ x) (xX9_read_73 s_X8_start s_X8_takeLetter s_X8_isFinished J11 Q) (xX9_read_20 s_X8_start s_X8_takeLetter s_X8_isFinished J11 Q))))) ls st h
theorem kX9_read_11 {X : zq_X} {d : Nat} (C : zq_C X cX9_read 4 RX9 d) {d_X8_start : Nat} {s_X8_start : zq_Sp} (h_X8_start : zq_M yX8_start cX8_start 2 none 0 d_X8_start s_X8_start) (g_X8_start : d_X8_start + 1 ≤ d) {d_X8_takeLetter : Nat} {s_X8_takeLetter : zq_Sp} (h_X8_takeLetter : zq_M yX8_takeLetter cX8_takeLetter 3 (some .int) 1 d_X8_takeLetter s_X8_takeLetter) (g_X8_takeLetter : d_X8_takeLetter + 1 ≤ d) {d_X8_isFinished : Nat} {s_X8_isFinished : zq_Sp} (h_X8_isFinished : zq_M yX8_isFinished cX8_isFinished 1 (some .boolean) 1 d_X8_isFinished s_X8_isFinished) (g_X8_isFinished : d_X8_isFinished + 1 ≤ d) {J11 : zq_P} (j11 : zq_ok X 4 11 J11) {Q : zq_Q} (hq : zq_R X (some .boolean) 1 Q) : zq_ok X 4 11 (xX9_read_11 s_X8_start s_X8_takeLetter s_X8_isFinished J11 Q) := by
  refine zs_aload_n C dX9_read_11 rfl ?_
  refine zs_getI C zp_34 zF9 (j := 3) ⟨by decide, rfl⟩ zw_244 dX9_read_12 ?_
  refine zs_bipush C dX9_read_15 (by decide) ?_
  exact zs_icmp_ge C dX9_read_17 (by decide) (kX9_read_73 C h_X8_start g_X8_start h_X8_takeLetter g_X8_takeLetter h_X8_isFinished g_X8_isFinished j11 hq) (kX9_read_20 C h_X8_start g_X8_start h_X8_takeLetter g_X8_takeLetter h_X8_isFinished g_X8_isFinished j11 hq)
def xX9_read_0 (s_X8_start : zq_Sp) (s_X8_takeLetter : zq_Sp) (s_X8_isFinished : zq_Sp) (J11 : zq_P) (Q : zq_Q) (ls : zq_L) (st : List Value) (h : zq_H) : Prop := (zi_aload 1 (zi_push (.int 16) (zi_callV 1 1 s_X8_start (zi_aload 0 (zi_push (.int 0) (zi_putI 34 3 (J11))))))) ls st h
theorem kX9_read_0 {X : zq_X} {d : Nat} (C : zq_C X cX9_read 4 RX9 d) {d_X8_start : Nat} {s_X8_start : zq_Sp} (h_X8_start : zq_M yX8_start cX8_start 2 none 0 d_X8_start s_X8_start) (g_X8_start : d_X8_start + 1 ≤ d) {d_X8_takeLetter : Nat} {s_X8_takeLetter : zq_Sp} (h_X8_takeLetter : zq_M yX8_takeLetter cX8_takeLetter 3 (some .int) 1 d_X8_takeLetter s_X8_takeLetter) (g_X8_takeLetter : d_X8_takeLetter + 1 ≤ d) {d_X8_isFinished : Nat} {s_X8_isFinished : zq_Sp} (h_X8_isFinished : zq_M yX8_isFinished cX8_isFinished 1 (some .boolean) 1 d_X8_isFinished s_X8_isFinished) (g_X8_isFinished : d_X8_isFinished + 1 ≤ d) {J11 : zq_P} (j11 : zq_ok X 4 11 J11) {Q : zq_Q} (hq : zq_R X (some .boolean) 1 Q) : zq_ok X 4 0 (xX9_read_0 s_X8_start s_X8_takeLetter s_X8_isFinished J11 Q) := by
  refine zs_aload_n C dX9_read_0 rfl ?_
  refine zs_bipush C dX9_read_1 (by decide) ?_
  refine zs_callV C h_X8_start g_X8_start zy_X8_start zp_1 (show vwCl[8]? = some (RX8, TX8, 4) from rfl) zw_848 zw_389 zs9_X8_start dX9_read_3 ?_
  refine zs_aload_n C dX9_read_6 rfl ?_
  refine zs_iconst C dX9_read_7 (by decide) ?_
  refine zs_putI C zp_34 zF9 (j := 3) ⟨by decide, rfl⟩ ⟨rfl, by decide +kernel⟩ zw_244 dX9_read_8 ?_
  exact j11
theorem mX9_read {d : Nat} {spec : zq_Sp} {σ11 : Type} {d_X8_start : Nat} {s_X8_start : zq_Sp} (h_X8_start : zq_M yX8_start cX8_start 2 none 0 d_X8_start s_X8_start) (g_X8_start : d_X8_start + 1 ≤ d) {d_X8_takeLetter : Nat} {s_X8_takeLetter : zq_Sp} (h_X8_takeLetter : zq_M yX8_takeLetter cX8_takeLetter 3 (some .int) 1 d_X8_takeLetter s_X8_takeLetter) (g_X8_takeLetter : d_X8_takeLetter + 1 ≤ d) {d_X8_isFinished : Nat} {s_X8_isFinished : zq_Sp} (h_X8_isFinished : zq_M yX8_isFinished cX8_isFinished 1 (some .boolean) 1 d_X8_isFinished s_X8_isFinished) (g_X8_isFinished : d_X8_isFinished + 1 ≤ d) (μ11 : σ11 → Nat) (I11 : zq_Q → σ11 → zq_P) (v : ∀ args h Q, spec args h Q → (zq_a args).length ≤ 4 ∧ xX9_read_0 s_X8_start s_X8_takeLetter s_X8_isFinished (fun ls st h => ∃ b, I11 Q b ls st h) Q (zq_l0 4 args) [] h) (v11 : ∀ Q a ls st h, I11 Q a ls st h → xX9_read_11 s_X8_start s_X8_takeLetter s_X8_isFinished (fun ls st h => ∃ b, μ11 b < μ11 a ∧ I11 Q b ls st h) Q ls st h) : zq_M yX9_read cX9_read 4 (some .boolean) 1 d spec := by
  refine zq_met (by decide +kernel) (by decide) (fun X Q args h C hq hs => ⟨(v args h Q hs).1, _, ?_, (v args h Q hs).2⟩)
  have hl := zq_loop1 (X := X) (nL := 4) (pc1 := 11) μ11 (I11 Q) (fun J11 => xX9_read_11 s_X8_start s_X8_takeLetter s_X8_isFinished J11 Q) (fun j11 => kX9_read_11 C h_X8_start g_X8_start h_X8_takeLetter g_X8_takeLetter h_X8_isFinished g_X8_isFinished j11 hq) (v11 Q)
  exact kX9_read_0 C h_X8_start g_X8_start h_X8_takeLetter g_X8_takeLetter h_X8_isFinished g_X8_isFinished hl hq
/-! ToOneCrumb$Turns.startTaking(LToOneCrumb$Worths;)V -/
theorem dX9_startTaking_0 : decode cX9_startTaking 0 = .ok (.aload_n 1, 1) := by decide +kernel
theorem dX9_startTaking_1 : decode cX9_startTaking 1 = .ok (.getfield 39, 3) := by decide +kernel
theorem dX9_startTaking_4 : decode cX9_startTaking 4 = .ok (.iconst 0, 1) := by decide +kernel
theorem dX9_startTaking_5 : decode cX9_startTaking 5 = .ok (.aload_n 0, 1) := by decide +kernel
theorem dX9_startTaking_6 : decode cX9_startTaking 6 = .ok (.getfield 15, 3) := by decide +kernel
theorem dX9_startTaking_9 : decode cX9_startTaking 9 = .ok (.iconst 0, 1) := by decide +kernel
theorem dX9_startTaking_10 : decode cX9_startTaking 10 = .ok (.aload_n 0, 1) := by decide +kernel
theorem dX9_startTaking_11 : decode cX9_startTaking 11 = .ok (.getfield 15, 3) := by decide +kernel
theorem dX9_startTaking_14 : decode cX9_startTaking 14 = .ok (.arraylength, 1) := by decide +kernel
theorem dX9_startTaking_15 : decode cX9_startTaking 15 = .ok (.invokestatic 44, 3) := by decide +kernel
theorem dX9_startTaking_18 : decode cX9_startTaking 18 = .ok (.aload_n 0, 1) := by decide +kernel
theorem dX9_startTaking_19 : decode cX9_startTaking 19 = .ok (.getfield 18, 3) := by decide +kernel
theorem dX9_startTaking_22 : decode cX9_startTaking 22 = .ok (.iconst 0, 1) := by decide +kernel
theorem dX9_startTaking_23 : decode cX9_startTaking 23 = .ok (.invokestatic 50, 3) := by decide +kernel
theorem dX9_startTaking_26 : decode cX9_startTaking 26 = .ok (.return_, 1) := by decide +kernel
def xX9_startTaking_0 (s_J7_fill_53178 : zq_Sp) (Q : zq_Q) (ls : zq_L) (st : List Value) (h : zq_H) : Prop := (zi_aload 1 (zi_getR 9 10 (zi_push (.int 0) (zi_aload 0 (zi_getR 34 36 (zi_push (.int 0) (zi_aload 0 (zi_getR 34 36 (zi_alen 36 96 (zi_copyI 10 96 36 96 (zi_aload 0 (zi_getR 34 37 (zi_push (.int 0) (zi_callS 2 s_J7_fill_53178 (zi_vret Q))))))))))))))) ls st h
theorem kX9_startTaking_0 {X : zq_X} {d : Nat} (C : zq_C X cX9_startTaking 2 RX9 d) (hd1 : 1 ≤ d) {d_J7_fill_53178 : Nat} {s_J7_fill_53178 : zq_Sp} (h_J7_fill_53178 : zq_M yJ7_fill_53178 cJ7_fill_53178 4 none 0 d_J7_fill_53178 s_J7_fill_53178) (g_J7_fill_53178 : d_J7_fill_53178 + 1 ≤ d) {Q : zq_Q} (hq : zq_R X none 0 Q) : zq_ok X 2 0 (xX9_startTaking_0 s_J7_fill_53178 Q) := by
  refine zs_aload_n C dX9_startTaking_0 rfl ?_
  refine zs_getRN C zp_9 zF10 (j := 0) ⟨by decide, rfl⟩ zw_102 dX9_startTaking_1 ?_
  refine zs_iconst C dX9_startTaking_4 (by decide) ?_
  refine zs_aload_n C dX9_startTaking_5 rfl ?_
  refine zs_getR C zp_34 zF9 (j := 1) ⟨by decide, rfl⟩ zw_240 dX9_startTaking_6 ?_
  refine zs_iconst C dX9_startTaking_9 (by decide) ?_
  refine zs_aload_n C dX9_startTaking_10 rfl ?_
  refine zs_getR C zp_34 zF9 (j := 1) ⟨by decide, rfl⟩ zw_240 dX9_startTaking_11 ?_
  refine zs_alen C (Or.inl zp_36) dX9_startTaking_14 ?_
  refine zs_copyI C zp_10 zp_36 zw_855 zw_611 zw_610 zw_24 hd1 dX9_startTaking_15 ?_
  refine zs_aload_n C dX9_startTaking_18 rfl ?_
  refine zs_getR C zp_34 zF9 (j := 2) ⟨by decide, rfl⟩ zw_242 dX9_startTaking_19 ?_
  refine zs_iconst C dX9_startTaking_22 (by decide) ?_
  refine zs_callS C h_J7_fill_53178 g_J7_fill_53178 zy_J7_fill_53178 zw_856 zw_481 dX9_startTaking_23 ?_
  exact zs_vret C hq dX9_startTaking_26
theorem mX9_startTaking {d : Nat} {spec : zq_Sp} {d_J7_fill_53178 : Nat} {s_J7_fill_53178 : zq_Sp} (h_J7_fill_53178 : zq_M yJ7_fill_53178 cJ7_fill_53178 4 none 0 d_J7_fill_53178 s_J7_fill_53178) (g_J7_fill_53178 : d_J7_fill_53178 + 1 ≤ d) (hd1 : 1 ≤ d) (v : ∀ args h Q, spec args h Q → (zq_a args).length ≤ 2 ∧ xX9_startTaking_0 s_J7_fill_53178 Q (zq_l0 2 args) [] h) : zq_M yX9_startTaking cX9_startTaking 2 none 0 d spec := by
  refine zq_met (by decide +kernel) (by decide) (fun X Q args h C hq hs => ⟨(v args h Q hs).1, _, ?_, (v args h Q hs).2⟩)
  exact kX9_startTaking_0 C hd1 h_J7_fill_53178 g_J7_fill_53178 hq
/-! ToOneCrumb$Turns.takeAll(LToOneCrumb$Worths;)I -/
theorem dX9_takeAll_0 : decode cX9_takeAll 0 = .ok (.iconst 0, 1) := by decide +kernel
theorem dX9_takeAll_1 : decode cX9_takeAll 1 = .ok (.istore_n 2, 1) := by decide +kernel
theorem dX9_takeAll_2 : decode cX9_takeAll 2 = .ok (.iconst 0, 1) := by decide +kernel
theorem dX9_takeAll_3 : decode cX9_takeAll 3 = .ok (.istore_n 3, 1) := by decide +kernel
theorem dX9_takeAll_4 : decode cX9_takeAll 4 = .ok (.iconst 0, 1) := by decide +kernel
theorem dX9_takeAll_5 : decode cX9_takeAll 5 = .ok (.istore 4, 2) := by decide +kernel
theorem dX9_takeAll_7 : decode cX9_takeAll 7 = .ok (.iload 4, 2) := by decide +kernel
theorem dX9_takeAll_9 : decode cX9_takeAll 9 = .ok (.aload_n 0, 1) := by decide +kernel
theorem dX9_takeAll_10 : decode cX9_takeAll 10 = .ok (.getfield 27, 3) := by decide +kernel
theorem dX9_takeAll_13 : decode cX9_takeAll 13 = .ok (.if_icmp .ge 72, 3) := by decide +kernel
theorem dX9_takeAll_16 : decode cX9_takeAll 16 = .ok (.iload_n 3, 1) := by decide +kernel
theorem dX9_takeAll_17 : decode cX9_takeAll 17 = .ok (.aload_n 1, 1) := by decide +kernel
theorem dX9_takeAll_18 : decode cX9_takeAll 18 = .ok (.getfield 56, 3) := by decide +kernel
theorem dX9_takeAll_21 : decode cX9_takeAll 21 = .ok (.if_icmp .ge 64, 3) := by decide +kernel
theorem dX9_takeAll_24 : decode cX9_takeAll 24 = .ok (.aload_n 0, 1) := by decide +kernel
theorem dX9_takeAll_25 : decode cX9_takeAll 25 = .ok (.getfield 9, 3) := by decide +kernel
theorem dX9_takeAll_28 : decode cX9_takeAll 28 = .ok (.iload 4, 2) := by decide +kernel
theorem dX9_takeAll_30 : decode cX9_takeAll 30 = .ok (.iaload, 1) := by decide +kernel
theorem dX9_takeAll_31 : decode cX9_takeAll 31 = .ok (.istore 5, 2) := by decide +kernel
theorem dX9_takeAll_33 : decode cX9_takeAll 33 = .ok (.aload_n 0, 1) := by decide +kernel
theorem dX9_takeAll_34 : decode cX9_takeAll 34 = .ok (.iload 5, 2) := by decide +kernel
theorem dX9_takeAll_36 : decode cX9_takeAll 36 = .ok (.iload_n 2, 1) := by decide +kernel
theorem dX9_takeAll_37 : decode cX9_takeAll 37 = .ok (.aload_n 1, 1) := by decide +kernel
theorem dX9_takeAll_38 : decode cX9_takeAll 38 = .ok (.getfield 56, 3) := by decide +kernel
theorem dX9_takeAll_41 : decode cX9_takeAll 41 = .ok (.invokevirtual 59, 3) := by decide +kernel
theorem dX9_takeAll_44 : decode cX9_takeAll 44 = .ok (.istore 6, 2) := by decide +kernel
theorem dX9_takeAll_46 : decode cX9_takeAll 46 = .ok (.iload 6, 2) := by decide +kernel
theorem dX9_takeAll_48 : decode cX9_takeAll 48 = .ok (.ifCond .lt 31, 3) := by decide +kernel
theorem dX9_takeAll_51 : decode cX9_takeAll 51 = .ok (.iload_n 2, 1) := by decide +kernel
theorem dX9_takeAll_52 : decode cX9_takeAll 52 = .ok (.iconst 1, 1) := by decide +kernel
theorem dX9_takeAll_53 : decode cX9_takeAll 53 = .ok (.iload 6, 2) := by decide +kernel
theorem dX9_takeAll_55 : decode cX9_takeAll 55 = .ok (.ishl, 1) := by decide +kernel
theorem dX9_takeAll_56 : decode cX9_takeAll 56 = .ok (.ior, 1) := by decide +kernel
theorem dX9_takeAll_57 : decode cX9_takeAll 57 = .ok (.istore_n 2, 1) := by decide +kernel
theorem dX9_takeAll_58 : decode cX9_takeAll 58 = .ok (.aload_n 0, 1) := by decide +kernel
theorem dX9_takeAll_59 : decode cX9_takeAll 59 = .ok (.getfield 18, 3) := by decide +kernel
theorem dX9_takeAll_62 : decode cX9_takeAll 62 = .ok (.iload 5, 2) := by decide +kernel
theorem dX9_takeAll_64 : decode cX9_takeAll 64 = .ok (.dup2, 1) := by decide +kernel
theorem dX9_takeAll_65 : decode cX9_takeAll 65 = .ok (.iaload, 1) := by decide +kernel
theorem dX9_takeAll_66 : decode cX9_takeAll 66 = .ok (.aload_n 1, 1) := by decide +kernel
theorem dX9_takeAll_67 : decode cX9_takeAll 67 = .ok (.iload 5, 2) := by decide +kernel
theorem dX9_takeAll_69 : decode cX9_takeAll 69 = .ok (.iload 6, 2) := by decide +kernel
theorem dX9_takeAll_71 : decode cX9_takeAll 71 = .ok (.invokevirtual 63, 3) := by decide +kernel
theorem dX9_takeAll_74 : decode cX9_takeAll 74 = .ok (.iadd, 1) := by decide +kernel
theorem dX9_takeAll_75 : decode cX9_takeAll 75 = .ok (.iastore, 1) := by decide +kernel
theorem dX9_takeAll_76 : decode cX9_takeAll 76 = .ok (.iinc 3 1, 3) := by decide +kernel
theorem dX9_takeAll_79 : decode cX9_takeAll 79 = .ok (.iinc 4 1, 3) := by decide +kernel
theorem dX9_takeAll_82 : decode cX9_takeAll 82 = .ok (.goto (-75), 3) := by decide +kernel
theorem dX9_takeAll_85 : decode cX9_takeAll 85 = .ok (.iload_n 3, 1) := by decide +kernel
theorem dX9_takeAll_86 : decode cX9_takeAll 86 = .ok (.ireturn, 1) := by decide +kernel
def xX9_takeAll_85 (s_X9_favourite : zq_Sp) (s_X10_of : zq_Sp) (J7 : zq_P) (Q : zq_Q) (ls : zq_L) (st : List Value) (h : zq_H) : Prop := (zi_iload 3 (zi_iret Q)) ls st h
theorem kX9_takeAll_85 {X : zq_X} {d : Nat} (C : zq_C X cX9_takeAll 7 RX9 d) {d_X9_favourite : Nat} {s_X9_favourite : zq_Sp} (h_X9_favourite : zq_M yX9_favourite cX9_favourite 6 (some .int) 1 d_X9_favourite s_X9_favourite) (g_X9_favourite : d_X9_favourite + 1 ≤ d) {d_X10_of : Nat} {s_X10_of : zq_Sp} (h_X10_of : zq_M yX10_of cX10_of 3 (some .int) 1 d_X10_of s_X10_of) (g_X10_of : d_X10_of + 1 ≤ d) {J7 : zq_P} (j7 : zq_ok X 7 7 J7) {Q : zq_Q} (hq : zq_R X (some .int) 1 Q) : zq_ok X 7 85 (xX9_takeAll_85 s_X9_favourite s_X10_of J7 Q) := by
  refine zs_iload_n C dX9_takeAll_85 rfl ?_
  exact zs_iret C hq dX9_takeAll_86
def xX9_takeAll_79 (s_X9_favourite : zq_Sp) (s_X10_of : zq_Sp) (J7 : zq_P) (Q : zq_Q) (ls : zq_L) (st : List Value) (h : zq_H) : Prop := (zi_iinc 4 1 (J7)) ls st h
theorem kX9_takeAll_79 {X : zq_X} {d : Nat} (C : zq_C X cX9_takeAll 7 RX9 d) {d_X9_favourite : Nat} {s_X9_favourite : zq_Sp} (h_X9_favourite : zq_M yX9_favourite cX9_favourite 6 (some .int) 1 d_X9_favourite s_X9_favourite) (g_X9_favourite : d_X9_favourite + 1 ≤ d) {d_X10_of : Nat} {s_X10_of : zq_Sp} (h_X10_of : zq_M yX10_of cX10_of 3 (some .int) 1 d_X10_of s_X10_of) (g_X10_of : d_X10_of + 1 ≤ d) {J7 : zq_P} (j7 : zq_ok X 7 7 J7) {Q : zq_Q} (hq : zq_R X (some .int) 1 Q) : zq_ok X 7 79 (xX9_takeAll_79 s_X9_favourite s_X10_of J7 Q) := by
  refine zs_iinc C dX9_takeAll_79 (by decide) (by decide) ?_
  exact zs_goto C dX9_takeAll_82 (by decide) (j7)
def xX9_takeAll_51 (s_X9_favourite : zq_Sp) (s_X10_of : zq_Sp) (J7 : zq_P) (Q : zq_Q) (ls : zq_L) (st : List Value) (h : zq_H) : Prop := (zi_iload 2 (zi_push (.int 1) (zi_iload 6 (zi_i2 zf_shl (zi_i2 (fun x y => x ||| y) (zi_istore 2 (zi_aload 0 (zi_getR 34 37 (zi_iload 5 (zi_dup2 (zi_aldI 37 6 (zi_aload 1 (zi_iload 5 (zi_iload 6 (zi_callV 2 9 s_X10_of (zi_i2 (fun x y => x + y) (zi_astI 37 6 (zi_iinc 3 1 ((xX9_takeAll_79 s_X9_favourite s_X10_of J7 Q)))))))))))))))))))) ls st h
theorem kX9_takeAll_51 {X : zq_X} {d : Nat} (C : zq_C X cX9_takeAll 7 RX9 d) {d_X9_favourite : Nat} {s_X9_favourite : zq_Sp} (h_X9_favourite : zq_M yX9_favourite cX9_favourite 6 (some .int) 1 d_X9_favourite s_X9_favourite) (g_X9_favourite : d_X9_favourite + 1 ≤ d) {d_X10_of : Nat} {s_X10_of : zq_Sp} (h_X10_of : zq_M yX10_of cX10_of 3 (some .int) 1 d_X10_of s_X10_of) (g_X10_of : d_X10_of + 1 ≤ d) {J7 : zq_P} (j7 : zq_ok X 7 7 J7) {Q : zq_Q} (hq : zq_R X (some .int) 1 Q) : zq_ok X 7 51 (xX9_takeAll_51 s_X9_favourite s_X10_of J7 Q) := by
  refine zs_iload_n C dX9_takeAll_51 rfl ?_
  refine zs_iconst C dX9_takeAll_52 (by decide) ?_
  refine zs_iload C dX9_takeAll_53 ?_
  refine zs_ishl C dX9_takeAll_55 ?_
  refine zs_ior C dX9_takeAll_56 ?_
  refine zs_istore_n C dX9_takeAll_57 rfl (by decide) ?_
  refine zs_aload_n C dX9_takeAll_58 rfl ?_
  refine zs_getR C zp_34 zF9 (j := 2) ⟨by decide, rfl⟩ zw_242 dX9_takeAll_59 ?_
  refine zs_iload C dX9_takeAll_62 ?_
  refine zs_dup2 C dX9_takeAll_64 ?_
  refine zs_iaload C zp_37 dX9_takeAll_65 ?_
  refine zs_aload_n C dX9_takeAll_66 rfl ?_
  refine zs_iload C dX9_takeAll_67 ?_
  refine zs_iload C dX9_takeAll_69 ?_
  refine zs_callV C h_X10_of g_X10_of zy_X10_of zp_9 (show vwCl[10]? = some (RX10, TX10, 3) from rfl) zw_865 zw_555 zs9_X10_of dX9_takeAll_71 ?_
  refine zs_iadd C dX9_takeAll_74 ?_
  refine zs_iastore C zp_37 dX9_takeAll_75 ?_
  refine zs_iinc C dX9_takeAll_76 (by decide) (by decide) ?_
  exact kX9_takeAll_79 C h_X9_favourite g_X9_favourite h_X10_of g_X10_of j7 hq
def xX9_takeAll_24 (s_X9_favourite : zq_Sp) (s_X10_of : zq_Sp) (J7 : zq_P) (Q : zq_Q) (ls : zq_L) (st : List Value) (h : zq_H) : Prop := (zi_aload 0 (zi_getR 34 35 (zi_iload 4 (zi_aldI 35 16 (zi_istore 5 (zi_aload 0 (zi_iload 5 (zi_iload 2 (zi_aload 1 (zi_getI 9 2 (zi_callV 3 34 s_X9_favourite (zi_istore 6 (zi_iload 6 (zi_if1 (fun x => x < 0) (xX9_takeAll_79 s_X9_favourite s_X10_of J7 Q) (xX9_takeAll_51 s_X9_favourite s_X10_of J7 Q))))))))))))))) ls st h
theorem kX9_takeAll_24 {X : zq_X} {d : Nat} (C : zq_C X cX9_takeAll 7 RX9 d) {d_X9_favourite : Nat} {s_X9_favourite : zq_Sp} (h_X9_favourite : zq_M yX9_favourite cX9_favourite 6 (some .int) 1 d_X9_favourite s_X9_favourite) (g_X9_favourite : d_X9_favourite + 1 ≤ d) {d_X10_of : Nat} {s_X10_of : zq_Sp} (h_X10_of : zq_M yX10_of cX10_of 3 (some .int) 1 d_X10_of s_X10_of) (g_X10_of : d_X10_of + 1 ≤ d) {J7 : zq_P} (j7 : zq_ok X 7 7 J7) {Q : zq_Q} (hq : zq_R X (some .int) 1 Q) : zq_ok X 7 24 (xX9_takeAll_24 s_X9_favourite s_X10_of J7 Q) := by
  refine zs_aload_n C dX9_takeAll_24 rfl ?_
  refine zs_getR C zp_34 zF9 (j := 0) ⟨by decide, rfl⟩ zw_238 dX9_takeAll_25 ?_
  refine zs_iload C dX9_takeAll_28 ?_
  refine zs_iaload C zp_35 dX9_takeAll_30 ?_
  refine zs_istore C dX9_takeAll_31 (by decide) ?_
  refine zs_aload_n C dX9_takeAll_33 rfl ?_
  refine zs_iload C dX9_takeAll_34 ?_
  refine zs_iload_n C dX9_takeAll_36 rfl ?_
  refine zs_aload_n C dX9_takeAll_37 rfl ?_
  refine zs_getIN C zp_9 zF10 (j := 2) ⟨by decide, rfl⟩ zw_106 dX9_takeAll_38 ?_
  refine zs_callV C h_X9_favourite g_X9_favourite zy_X9_favourite zp_34 (show vwCl[9]? = some (RX9, TX9, 4) from rfl) zw_861 zw_863 zs9_X9_favourite dX9_takeAll_41 ?_
  refine zs_istore C dX9_takeAll_44 (by decide) ?_
  refine zs_iload C dX9_takeAll_46 ?_
  exact zs_if_lt C dX9_takeAll_48 (by decide) (kX9_takeAll_79 C h_X9_favourite g_X9_favourite h_X10_of g_X10_of j7 hq) (kX9_takeAll_51 C h_X9_favourite g_X9_favourite h_X10_of g_X10_of j7 hq)
def xX9_takeAll_16 (s_X9_favourite : zq_Sp) (s_X10_of : zq_Sp) (J7 : zq_P) (Q : zq_Q) (ls : zq_L) (st : List Value) (h : zq_H) : Prop := (zi_iload 3 (zi_aload 1 (zi_getI 9 2 (zi_if2 (fun x y => y ≤ x) (xX9_takeAll_85 s_X9_favourite s_X10_of J7 Q) (xX9_takeAll_24 s_X9_favourite s_X10_of J7 Q))))) ls st h
theorem kX9_takeAll_16 {X : zq_X} {d : Nat} (C : zq_C X cX9_takeAll 7 RX9 d) {d_X9_favourite : Nat} {s_X9_favourite : zq_Sp} (h_X9_favourite : zq_M yX9_favourite cX9_favourite 6 (some .int) 1 d_X9_favourite s_X9_favourite) (g_X9_favourite : d_X9_favourite + 1 ≤ d) {d_X10_of : Nat} {s_X10_of : zq_Sp} (h_X10_of : zq_M yX10_of cX10_of 3 (some .int) 1 d_X10_of s_X10_of) (g_X10_of : d_X10_of + 1 ≤ d) {J7 : zq_P} (j7 : zq_ok X 7 7 J7) {Q : zq_Q} (hq : zq_R X (some .int) 1 Q) : zq_ok X 7 16 (xX9_takeAll_16 s_X9_favourite s_X10_of J7 Q) := by
  refine zs_iload_n C dX9_takeAll_16 rfl ?_
  refine zs_aload_n C dX9_takeAll_17 rfl ?_
  refine zs_getIN C zp_9 zF10 (j := 2) ⟨by decide, rfl⟩ zw_106 dX9_takeAll_18 ?_
  exact zs_icmp_ge C dX9_takeAll_21 (by decide) (kX9_takeAll_85 C h_X9_favourite g_X9_favourite h_X10_of g_X10_of j7 hq) (kX9_takeAll_24 C h_X9_favourite g_X9_favourite h_X10_of g_X10_of j7 hq)
def xX9_takeAll_7 (s_X9_favourite : zq_Sp) (s_X10_of : zq_Sp) (J7 : zq_P) (Q : zq_Q) (ls : zq_L) (st : List Value) (h : zq_H) : Prop := (zi_iload 4 (zi_aload 0 (zi_getI 34 3 (zi_if2 (fun x y => y ≤ x) (xX9_takeAll_85 s_X9_favourite s_X10_of J7 Q) (xX9_takeAll_16 s_X9_favourite s_X10_of J7 Q))))) ls st h
theorem kX9_takeAll_7 {X : zq_X} {d : Nat} (C : zq_C X cX9_takeAll 7 RX9 d) {d_X9_favourite : Nat} {s_X9_favourite : zq_Sp} (h_X9_favourite : zq_M yX9_favourite cX9_favourite 6 (some .int) 1 d_X9_favourite s_X9_favourite) (g_X9_favourite : d_X9_favourite + 1 ≤ d) {d_X10_of : Nat} {s_X10_of : zq_Sp} (h_X10_of : zq_M yX10_of cX10_of 3 (some .int) 1 d_X10_of s_X10_of) (g_X10_of : d_X10_of + 1 ≤ d) {J7 : zq_P} (j7 : zq_ok X 7 7 J7) {Q : zq_Q} (hq : zq_R X (some .int) 1 Q) : zq_ok X 7 7 (xX9_takeAll_7 s_X9_favourite s_X10_of J7 Q) := by
  refine zs_iload C dX9_takeAll_7 ?_
  refine zs_aload_n C dX9_takeAll_9 rfl ?_
  refine zs_getI C zp_34 zF9 (j := 3) ⟨by decide, rfl⟩ zw_244 dX9_takeAll_10 ?_
  exact zs_icmp_ge C dX9_takeAll_13 (by decide) (kX9_takeAll_85 C h_X9_favourite g_X9_favourite h_X10_of g_X10_of j7 hq) (kX9_takeAll_16 C h_X9_favourite g_X9_favourite h_X10_of g_X10_of j7 hq)
def xX9_takeAll_0 (s_X9_favourite : zq_Sp) (s_X10_of : zq_Sp) (J7 : zq_P) (Q : zq_Q) (ls : zq_L) (st : List Value) (h : zq_H) : Prop := (zi_push (.int 0) (zi_istore 2 (zi_push (.int 0) (zi_istore 3 (zi_push (.int 0) (zi_istore 4 (J7))))))) ls st h
theorem kX9_takeAll_0 {X : zq_X} {d : Nat} (C : zq_C X cX9_takeAll 7 RX9 d) {d_X9_favourite : Nat} {s_X9_favourite : zq_Sp} (h_X9_favourite : zq_M yX9_favourite cX9_favourite 6 (some .int) 1 d_X9_favourite s_X9_favourite) (g_X9_favourite : d_X9_favourite + 1 ≤ d) {d_X10_of : Nat} {s_X10_of : zq_Sp} (h_X10_of : zq_M yX10_of cX10_of 3 (some .int) 1 d_X10_of s_X10_of) (g_X10_of : d_X10_of + 1 ≤ d) {J7 : zq_P} (j7 : zq_ok X 7 7 J7) {Q : zq_Q} (hq : zq_R X (some .int) 1 Q) : zq_ok X 7 0 (xX9_takeAll_0 s_X9_favourite s_X10_of J7 Q) := by
  refine zs_iconst C dX9_takeAll_0 (by decide) ?_
  refine zs_istore_n C dX9_takeAll_1 rfl (by decide) ?_
  refine zs_iconst C dX9_takeAll_2 (by decide) ?_
  refine zs_istore_n C dX9_takeAll_3 rfl (by decide) ?_
  refine zs_iconst C dX9_takeAll_4 (by decide) ?_
  refine zs_istore C dX9_takeAll_5 (by decide) ?_
  exact j7
theorem mX9_takeAll {d : Nat} {spec : zq_Sp} {σ7 : Type} {d_X9_favourite : Nat} {s_X9_favourite : zq_Sp} (h_X9_favourite : zq_M yX9_favourite cX9_favourite 6 (some .int) 1 d_X9_favourite s_X9_favourite) (g_X9_favourite : d_X9_favourite + 1 ≤ d) {d_X10_of : Nat} {s_X10_of : zq_Sp} (h_X10_of : zq_M yX10_of cX10_of 3 (some .int) 1 d_X10_of s_X10_of) (g_X10_of : d_X10_of + 1 ≤ d) (μ7 : σ7 → Nat) (I7 : zq_Q → σ7 → zq_P) (v : ∀ args h Q, spec args h Q → (zq_a args).length ≤ 7 ∧ xX9_takeAll_0 s_X9_favourite s_X10_of (fun ls st h => ∃ b, I7 Q b ls st h) Q (zq_l0 7 args) [] h) (v7 : ∀ Q a ls st h, I7 Q a ls st h → xX9_takeAll_7 s_X9_favourite s_X10_of (fun ls st h => ∃ b, μ7 b < μ7 a ∧ I7 Q b ls st h) Q ls st h) : zq_M yX9_takeAll cX9_takeAll 7 (some .int) 1 d spec := by
  refine zq_met (by decide +kernel) (by decide) (fun X Q args h C hq hs => ⟨(v args h Q hs).1, _, ?_, (v args h Q hs).2⟩)
  have hl := zq_loop1 (X := X) (nL := 7) (pc1 := 7) μ7 (I7 Q) (fun J7 => xX9_takeAll_7 s_X9_favourite s_X10_of J7 Q) (fun j7 => kX9_takeAll_7 C h_X9_favourite g_X9_favourite h_X10_of g_X10_of j7 hq) (v7 Q)
  exact kX9_takeAll_0 C h_X9_favourite g_X9_favourite h_X10_of g_X10_of hl hq
/-! ToOneCrumb$Turns.favourite(III)I -/
theorem dX9_favourite_0 : decode cX9_favourite 0 = .ok (.iconst (-1), 1) := by decide +kernel
theorem dX9_favourite_1 : decode cX9_favourite 1 = .ok (.istore 4, 2) := by decide +kernel
theorem dX9_favourite_3 : decode cX9_favourite 3 = .ok (.iconst 0, 1) := by decide +kernel
theorem dX9_favourite_4 : decode cX9_favourite 4 = .ok (.istore 5, 2) := by decide +kernel
theorem dX9_favourite_6 : decode cX9_favourite 6 = .ok (.iload 5, 2) := by decide +kernel
theorem dX9_favourite_8 : decode cX9_favourite 8 = .ok (.iload_n 3, 1) := by decide +kernel
theorem dX9_favourite_9 : decode cX9_favourite 9 = .ok (.if_icmp .ge 54, 3) := by decide +kernel
theorem dX9_favourite_12 : decode cX9_favourite 12 = .ok (.iload_n 2, 1) := by decide +kernel
theorem dX9_favourite_13 : decode cX9_favourite 13 = .ok (.iload 5, 2) := by decide +kernel
theorem dX9_favourite_15 : decode cX9_favourite 15 = .ok (.ishr, 1) := by decide +kernel
theorem dX9_favourite_16 : decode cX9_favourite 16 = .ok (.iconst 1, 1) := by decide +kernel
theorem dX9_favourite_17 : decode cX9_favourite 17 = .ok (.iand, 1) := by decide +kernel
theorem dX9_favourite_18 : decode cX9_favourite 18 = .ok (.ifCond .ne 39, 3) := by decide +kernel
theorem dX9_favourite_21 : decode cX9_favourite 21 = .ok (.iload 4, 2) := by decide +kernel
theorem dX9_favourite_23 : decode cX9_favourite 23 = .ok (.ifCond .lt 30, 3) := by decide +kernel
theorem dX9_favourite_26 : decode cX9_favourite 26 = .ok (.aload_n 0, 1) := by decide +kernel
theorem dX9_favourite_27 : decode cX9_favourite 27 = .ok (.getfield 15, 3) := by decide +kernel
theorem dX9_favourite_30 : decode cX9_favourite 30 = .ok (.iload_n 1, 1) := by decide +kernel
theorem dX9_favourite_31 : decode cX9_favourite 31 = .ok (.bipush 16, 2) := by decide +kernel
theorem dX9_favourite_33 : decode cX9_favourite 33 = .ok (.imul, 1) := by decide +kernel
theorem dX9_favourite_34 : decode cX9_favourite 34 = .ok (.iload 5, 2) := by decide +kernel
theorem dX9_favourite_36 : decode cX9_favourite 36 = .ok (.iadd, 1) := by decide +kernel
theorem dX9_favourite_37 : decode cX9_favourite 37 = .ok (.iaload, 1) := by decide +kernel
theorem dX9_favourite_38 : decode cX9_favourite 38 = .ok (.aload_n 0, 1) := by decide +kernel
theorem dX9_favourite_39 : decode cX9_favourite 39 = .ok (.getfield 15, 3) := by decide +kernel
theorem dX9_favourite_42 : decode cX9_favourite 42 = .ok (.iload_n 1, 1) := by decide +kernel
theorem dX9_favourite_43 : decode cX9_favourite 43 = .ok (.bipush 16, 2) := by decide +kernel
theorem dX9_favourite_45 : decode cX9_favourite 45 = .ok (.imul, 1) := by decide +kernel
theorem dX9_favourite_46 : decode cX9_favourite 46 = .ok (.iload 4, 2) := by decide +kernel
theorem dX9_favourite_48 : decode cX9_favourite 48 = .ok (.iadd, 1) := by decide +kernel
theorem dX9_favourite_49 : decode cX9_favourite 49 = .ok (.iaload, 1) := by decide +kernel
theorem dX9_favourite_50 : decode cX9_favourite 50 = .ok (.if_icmp .le 7, 3) := by decide +kernel
theorem dX9_favourite_53 : decode cX9_favourite 53 = .ok (.iload 5, 2) := by decide +kernel
theorem dX9_favourite_55 : decode cX9_favourite 55 = .ok (.istore 4, 2) := by decide +kernel
theorem dX9_favourite_57 : decode cX9_favourite 57 = .ok (.iinc 5 1, 3) := by decide +kernel
theorem dX9_favourite_60 : decode cX9_favourite 60 = .ok (.goto (-54), 3) := by decide +kernel
theorem dX9_favourite_63 : decode cX9_favourite 63 = .ok (.iload 4, 2) := by decide +kernel
theorem dX9_favourite_65 : decode cX9_favourite 65 = .ok (.ireturn, 1) := by decide +kernel
def xX9_favourite_63 (J6 : zq_P) (Q : zq_Q) (ls : zq_L) (st : List Value) (h : zq_H) : Prop := (zi_iload 4 (zi_iret Q)) ls st h
theorem kX9_favourite_63 {X : zq_X} {d : Nat} (C : zq_C X cX9_favourite 6 RX9 d) {J6 : zq_P} (j6 : zq_ok X 6 6 J6) {Q : zq_Q} (hq : zq_R X (some .int) 1 Q) : zq_ok X 6 63 (xX9_favourite_63 J6 Q) := by
  refine zs_iload C dX9_favourite_63 ?_
  exact zs_iret C hq dX9_favourite_65
def xX9_favourite_57 (J6 : zq_P) (Q : zq_Q) (ls : zq_L) (st : List Value) (h : zq_H) : Prop := (zi_iinc 5 1 (J6)) ls st h
theorem kX9_favourite_57 {X : zq_X} {d : Nat} (C : zq_C X cX9_favourite 6 RX9 d) {J6 : zq_P} (j6 : zq_ok X 6 6 J6) {Q : zq_Q} (hq : zq_R X (some .int) 1 Q) : zq_ok X 6 57 (xX9_favourite_57 J6 Q) := by
  refine zs_iinc C dX9_favourite_57 (by decide) (by decide) ?_
  exact zs_goto C dX9_favourite_60 (by decide) (j6)
def xX9_favourite_53 (J6 : zq_P) (Q : zq_Q) (ls : zq_L) (st : List Value) (h : zq_H) : Prop := (zi_iload 5 (zi_istore 4 ((xX9_favourite_57 J6 Q)))) ls st h
theorem kX9_favourite_53 {X : zq_X} {d : Nat} (C : zq_C X cX9_favourite 6 RX9 d) {J6 : zq_P} (j6 : zq_ok X 6 6 J6) {Q : zq_Q} (hq : zq_R X (some .int) 1 Q) : zq_ok X 6 53 (xX9_favourite_53 J6 Q) := by
  refine zs_iload C dX9_favourite_53 ?_
  refine zs_istore C dX9_favourite_55 (by decide) ?_
  exact kX9_favourite_57 C j6 hq
def xX9_favourite_26 (J6 : zq_P) (Q : zq_Q) (ls : zq_L) (st : List Value) (h : zq_H) : Prop := (zi_aload 0 (zi_getR 34 36 (zi_iload 1 (zi_push (.int 16) (zi_i2 (fun x y => x * y) (zi_iload 5 (zi_i2 (fun x y => x + y) (zi_aldI 36 96 (zi_aload 0 (zi_getR 34 36 (zi_iload 1 (zi_push (.int 16) (zi_i2 (fun x y => x * y) (zi_iload 4 (zi_i2 (fun x y => x + y) (zi_aldI 36 96 (zi_if2 (fun x y => x ≤ y) (xX9_favourite_57 J6 Q) (xX9_favourite_53 J6 Q)))))))))))))))))) ls st h
theorem kX9_favourite_26 {X : zq_X} {d : Nat} (C : zq_C X cX9_favourite 6 RX9 d) {J6 : zq_P} (j6 : zq_ok X 6 6 J6) {Q : zq_Q} (hq : zq_R X (some .int) 1 Q) : zq_ok X 6 26 (xX9_favourite_26 J6 Q) := by
  refine zs_aload_n C dX9_favourite_26 rfl ?_
  refine zs_getR C zp_34 zF9 (j := 1) ⟨by decide, rfl⟩ zw_240 dX9_favourite_27 ?_
  refine zs_iload_n C dX9_favourite_30 rfl ?_
  refine zs_bipush C dX9_favourite_31 (by decide) ?_
  refine zs_imul C dX9_favourite_33 ?_
  refine zs_iload C dX9_favourite_34 ?_
  refine zs_iadd C dX9_favourite_36 ?_
  refine zs_iaload C zp_36 dX9_favourite_37 ?_
  refine zs_aload_n C dX9_favourite_38 rfl ?_
  refine zs_getR C zp_34 zF9 (j := 1) ⟨by decide, rfl⟩ zw_240 dX9_favourite_39 ?_
  refine zs_iload_n C dX9_favourite_42 rfl ?_
  refine zs_bipush C dX9_favourite_43 (by decide) ?_
  refine zs_imul C dX9_favourite_45 ?_
  refine zs_iload C dX9_favourite_46 ?_
  refine zs_iadd C dX9_favourite_48 ?_
  refine zs_iaload C zp_36 dX9_favourite_49 ?_
  exact zs_icmp_le C dX9_favourite_50 (by decide) (kX9_favourite_57 C j6 hq) (kX9_favourite_53 C j6 hq)
def xX9_favourite_21 (J6 : zq_P) (Q : zq_Q) (ls : zq_L) (st : List Value) (h : zq_H) : Prop := (zi_iload 4 (zi_if1 (fun x => x < 0) (xX9_favourite_53 J6 Q) (xX9_favourite_26 J6 Q))) ls st h
theorem kX9_favourite_21 {X : zq_X} {d : Nat} (C : zq_C X cX9_favourite 6 RX9 d) {J6 : zq_P} (j6 : zq_ok X 6 6 J6) {Q : zq_Q} (hq : zq_R X (some .int) 1 Q) : zq_ok X 6 21 (xX9_favourite_21 J6 Q) := by
  refine zs_iload C dX9_favourite_21 ?_
  exact zs_if_lt C dX9_favourite_23 (by decide) (kX9_favourite_53 C j6 hq) (kX9_favourite_26 C j6 hq)
def xX9_favourite_12 (J6 : zq_P) (Q : zq_Q) (ls : zq_L) (st : List Value) (h : zq_H) : Prop := (zi_iload 2 (zi_iload 5 (zi_i2 zf_shr (zi_push (.int 1) (zi_i2 (fun x y => x &&& y) (zi_if1 (fun x => x = 0) (xX9_favourite_21 J6 Q) (xX9_favourite_57 J6 Q))))))) ls st h
theorem kX9_favourite_12 {X : zq_X} {d : Nat} (C : zq_C X cX9_favourite 6 RX9 d) {J6 : zq_P} (j6 : zq_ok X 6 6 J6) {Q : zq_Q} (hq : zq_R X (some .int) 1 Q) : zq_ok X 6 12 (xX9_favourite_12 J6 Q) := by
  refine zs_iload_n C dX9_favourite_12 rfl ?_
  refine zs_iload C dX9_favourite_13 ?_
  refine zs_ishr C dX9_favourite_15 ?_
  refine zs_iconst C dX9_favourite_16 (by decide) ?_
  refine zs_iand C dX9_favourite_17 ?_
  exact zs_if_ne C dX9_favourite_18 (by decide) (kX9_favourite_57 C j6 hq) (kX9_favourite_21 C j6 hq)
def xX9_favourite_6 (J6 : zq_P) (Q : zq_Q) (ls : zq_L) (st : List Value) (h : zq_H) : Prop := (zi_iload 5 (zi_iload 3 (zi_if2 (fun x y => y ≤ x) (xX9_favourite_63 J6 Q) (xX9_favourite_12 J6 Q)))) ls st h
theorem kX9_favourite_6 {X : zq_X} {d : Nat} (C : zq_C X cX9_favourite 6 RX9 d) {J6 : zq_P} (j6 : zq_ok X 6 6 J6) {Q : zq_Q} (hq : zq_R X (some .int) 1 Q) : zq_ok X 6 6 (xX9_favourite_6 J6 Q) := by
  refine zs_iload C dX9_favourite_6 ?_
  refine zs_iload_n C dX9_favourite_8 rfl ?_
  exact zs_icmp_ge C dX9_favourite_9 (by decide) (kX9_favourite_63 C j6 hq) (kX9_favourite_12 C j6 hq)
def xX9_favourite_0 (J6 : zq_P) (Q : zq_Q) (ls : zq_L) (st : List Value) (h : zq_H) : Prop := (zi_push (.int (-1)) (zi_istore 4 (zi_push (.int 0) (zi_istore 5 (J6))))) ls st h
theorem kX9_favourite_0 {X : zq_X} {d : Nat} (C : zq_C X cX9_favourite 6 RX9 d) {J6 : zq_P} (j6 : zq_ok X 6 6 J6) {Q : zq_Q} (hq : zq_R X (some .int) 1 Q) : zq_ok X 6 0 (xX9_favourite_0 J6 Q) := by
  refine zs_iconst C dX9_favourite_0 (by decide) ?_
  refine zs_istore C dX9_favourite_1 (by decide) ?_
  refine zs_iconst C dX9_favourite_3 (by decide) ?_
  refine zs_istore C dX9_favourite_4 (by decide) ?_
  exact j6
theorem mX9_favourite {d : Nat} {spec : zq_Sp} {σ6 : Type} (μ6 : σ6 → Nat) (I6 : zq_Q → σ6 → zq_P) (v : ∀ args h Q, spec args h Q → (zq_a args).length ≤ 6 ∧ xX9_favourite_0 (fun ls st h => ∃ b, I6 Q b ls st h) Q (zq_l0 6 args) [] h) (v6 : ∀ Q a ls st h, I6 Q a ls st h → xX9_favourite_6 (fun ls st h => ∃ b, μ6 b < μ6 a ∧ I6 Q b ls st h) Q ls st h) : zq_M yX9_favourite cX9_favourite 6 (some .int) 1 d spec := by
  refine zq_met (by decide +kernel) (by decide) (fun X Q args h C hq hs => ⟨(v args h Q hs).1, _, ?_, (v args h Q hs).2⟩)
  have hl := zq_loop1 (X := X) (nL := 6) (pc1 := 6) μ6 (I6 Q) (fun J6 => xX9_favourite_6 J6 Q) (fun j6 => kX9_favourite_6 C j6 hq) (v6 Q)
  exact kX9_favourite_0 C hl hq
