/-! ToOneCrumb.offer(I)I -/
theorem dX11_offer_0 : decode cX11_offer 0 = .ok (.aload_n 0, 1) := by decide +kernel
theorem dX11_offer_1 : decode cX11_offer 1 = .ok (.iload_n 1, 1) := by decide +kernel
theorem dX11_offer_2 : decode cX11_offer 2 = .ok (.invokevirtual 171, 3) := by decide +kernel
theorem dX11_offer_5 : decode cX11_offer 5 = .ok (.ifCond .ne 5, 3) := by decide +kernel
theorem dX11_offer_8 : decode cX11_offer 8 = .ok (.iconst (-1), 1) := by decide +kernel
theorem dX11_offer_9 : decode cX11_offer 9 = .ok (.ireturn, 1) := by decide +kernel
theorem dX11_offer_10 : decode cX11_offer 10 = .ok (.aload_n 0, 1) := by decide +kernel
theorem dX11_offer_11 : decode cX11_offer 11 = .ok (.getfield 82, 3) := by decide +kernel
theorem dX11_offer_14 : decode cX11_offer 14 = .ok (.getfield 128, 3) := by decide +kernel
theorem dX11_offer_17 : decode cX11_offer 17 = .ok (.iconst 2, 1) := by decide +kernel
theorem dX11_offer_18 : decode cX11_offer 18 = .ok (.if_icmp .ge 6, 3) := by decide +kernel
theorem dX11_offer_21 : decode cX11_offer 21 = .ok (.bipush (-2), 2) := by decide +kernel
theorem dX11_offer_23 : decode cX11_offer 23 = .ok (.ireturn, 1) := by decide +kernel
theorem dX11_offer_24 : decode cX11_offer 24 = .ok (.aload_n 0, 1) := by decide +kernel
theorem dX11_offer_25 : decode cX11_offer 25 = .ok (.getfield 47, 3) := by decide +kernel
theorem dX11_offer_28 : decode cX11_offer 28 = .ok (.aload_n 0, 1) := by decide +kernel
theorem dX11_offer_29 : decode cX11_offer 29 = .ok (.getfield 92, 3) := by decide +kernel
theorem dX11_offer_32 : decode cX11_offer 32 = .ok (.aload_n 0, 1) := by decide +kernel
theorem dX11_offer_33 : decode cX11_offer 33 = .ok (.getfield 82, 3) := by decide +kernel
theorem dX11_offer_36 : decode cX11_offer 36 = .ok (.iload_n 1, 1) := by decide +kernel
theorem dX11_offer_37 : decode cX11_offer 37 = .ok (.invokevirtual 318, 3) := by decide +kernel
theorem dX11_offer_40 : decode cX11_offer 40 = .ok (.iconst (-1), 1) := by decide +kernel
theorem dX11_offer_41 : decode cX11_offer 41 = .ok (.istore_n 2, 1) := by decide +kernel
theorem dX11_offer_42 : decode cX11_offer 42 = .ok (.iconst 0, 1) := by decide +kernel
theorem dX11_offer_43 : decode cX11_offer 43 = .ok (.istore_n 3, 1) := by decide +kernel
theorem dX11_offer_44 : decode cX11_offer 44 = .ok (.iconst 0, 1) := by decide +kernel
theorem dX11_offer_45 : decode cX11_offer 45 = .ok (.istore 4, 2) := by decide +kernel
theorem dX11_offer_47 : decode cX11_offer 47 = .ok (.iload 4, 2) := by decide +kernel
theorem dX11_offer_49 : decode cX11_offer 49 = .ok (.aload_n 0, 1) := by decide +kernel
theorem dX11_offer_50 : decode cX11_offer 50 = .ok (.getfield 82, 3) := by decide +kernel
theorem dX11_offer_53 : decode cX11_offer 53 = .ok (.getfield 128, 3) := by decide +kernel
theorem dX11_offer_56 : decode cX11_offer 56 = .ok (.if_icmp .ge 69, 3) := by decide +kernel
theorem dX11_offer_59 : decode cX11_offer 59 = .ok (.iload 4, 2) := by decide +kernel
theorem dX11_offer_61 : decode cX11_offer 61 = .ok (.iconst 1, 1) := by decide +kernel
theorem dX11_offer_62 : decode cX11_offer 62 = .ok (.iadd, 1) := by decide +kernel
theorem dX11_offer_63 : decode cX11_offer 63 = .ok (.istore 5, 2) := by decide +kernel
theorem dX11_offer_65 : decode cX11_offer 65 = .ok (.iload 5, 2) := by decide +kernel
theorem dX11_offer_67 : decode cX11_offer 67 = .ok (.aload_n 0, 1) := by decide +kernel
theorem dX11_offer_68 : decode cX11_offer 68 = .ok (.getfield 82, 3) := by decide +kernel
theorem dX11_offer_71 : decode cX11_offer 71 = .ok (.getfield 128, 3) := by decide +kernel
theorem dX11_offer_74 : decode cX11_offer 74 = .ok (.if_icmp .ge 45, 3) := by decide +kernel
theorem dX11_offer_77 : decode cX11_offer 77 = .ok (.aload_n 0, 1) := by decide +kernel
theorem dX11_offer_78 : decode cX11_offer 78 = .ok (.getfield 47, 3) := by decide +kernel
theorem dX11_offer_81 : decode cX11_offer 81 = .ok (.iload 4, 2) := by decide +kernel
theorem dX11_offer_83 : decode cX11_offer 83 = .ok (.iload 5, 2) := by decide +kernel
theorem dX11_offer_85 : decode cX11_offer 85 = .ok (.invokevirtual 322, 3) := by decide +kernel
theorem dX11_offer_88 : decode cX11_offer 88 = .ok (.istore 6, 2) := by decide +kernel
theorem dX11_offer_90 : decode cX11_offer 90 = .ok (.iload_n 2, 1) := by decide +kernel
theorem dX11_offer_91 : decode cX11_offer 91 = .ok (.iconst (-1), 1) := by decide +kernel
theorem dX11_offer_92 : decode cX11_offer 92 = .ok (.if_icmp .eq 9, 3) := by decide +kernel
theorem dX11_offer_95 : decode cX11_offer 95 = .ok (.iload 6, 2) := by decide +kernel
theorem dX11_offer_97 : decode cX11_offer 97 = .ok (.iload_n 3, 1) := by decide +kernel
theorem dX11_offer_98 : decode cX11_offer 98 = .ok (.if_icmp .ge 15, 3) := by decide +kernel
theorem dX11_offer_101 : decode cX11_offer 101 = .ok (.iload 4, 2) := by decide +kernel
theorem dX11_offer_103 : decode cX11_offer 103 = .ok (.bipush 16, 2) := by decide +kernel
theorem dX11_offer_105 : decode cX11_offer 105 = .ok (.imul, 1) := by decide +kernel
theorem dX11_offer_106 : decode cX11_offer 106 = .ok (.iload 5, 2) := by decide +kernel
theorem dX11_offer_108 : decode cX11_offer 108 = .ok (.iadd, 1) := by decide +kernel
theorem dX11_offer_109 : decode cX11_offer 109 = .ok (.istore_n 2, 1) := by decide +kernel
theorem dX11_offer_110 : decode cX11_offer 110 = .ok (.iload 6, 2) := by decide +kernel
theorem dX11_offer_112 : decode cX11_offer 112 = .ok (.istore_n 3, 1) := by decide +kernel
theorem dX11_offer_113 : decode cX11_offer 113 = .ok (.iinc 5 1, 3) := by decide +kernel
theorem dX11_offer_116 : decode cX11_offer 116 = .ok (.goto (-51), 3) := by decide +kernel
theorem dX11_offer_119 : decode cX11_offer 119 = .ok (.iinc 4 1, 3) := by decide +kernel
theorem dX11_offer_122 : decode cX11_offer 122 = .ok (.goto (-75), 3) := by decide +kernel
theorem dX11_offer_125 : decode cX11_offer 125 = .ok (.aload_n 0, 1) := by decide +kernel
theorem dX11_offer_126 : decode cX11_offer 126 = .ok (.getfield 19, 3) := by decide +kernel
theorem dX11_offer_129 : decode cX11_offer 129 = .ok (.invokevirtual 236, 3) := by decide +kernel
theorem dX11_offer_132 : decode cX11_offer 132 = .ok (.aload_n 0, 1) := by decide +kernel
theorem dX11_offer_133 : decode cX11_offer 133 = .ok (.getfield 19, 3) := by decide +kernel
theorem dX11_offer_136 : decode cX11_offer 136 = .ok (.iload_n 3, 1) := by decide +kernel
theorem dX11_offer_137 : decode cX11_offer 137 = .ok (.i2l, 1) := by decide +kernel
theorem dX11_offer_138 : decode cX11_offer 138 = .ok (.invokevirtual 237, 3) := by decide +kernel
theorem dX11_offer_141 : decode cX11_offer 141 = .ok (.iload_n 2, 1) := by decide +kernel
theorem dX11_offer_142 : decode cX11_offer 142 = .ok (.ireturn, 1) := by decide +kernel
def xX11_offer_125 (s_X11_isGuest : zq_Sp) (s_X1_countPairs : zq_Sp) (s_X1_leftAtMost : zq_Sp) (s_X5_clear : zq_Sp) (s_X5_add : zq_Sp) (J47 : zq_P) (J65 : zq_P) (Q : zq_Q) (ls : zq_L) (st : List Value) (h : zq_H) : Prop := (zi_aload 0 (zi_getR 0 3 (zi_callV 0 3 s_X5_clear (zi_aload 0 (zi_getR 0 3 (zi_iload 3 (zi_i2l (zi_callV 1 3 s_X5_add (zi_iload 2 (zi_iret Q)))))))))) ls st h
theorem kX11_offer_125 {X : zq_X} {d : Nat} (C : zq_C X cX11_offer 7 RX11 d) {d_X11_isGuest : Nat} {s_X11_isGuest : zq_Sp} (h_X11_isGuest : zq_M yX11_isGuest cX11_isGuest 2 (some .boolean) 1 d_X11_isGuest s_X11_isGuest) (g_X11_isGuest : d_X11_isGuest + 1 ≤ d) {d_X1_countPairs : Nat} {s_X1_countPairs : zq_Sp} (h_X1_countPairs : zq_M yX1_countPairs cX1_countPairs 6 none 0 d_X1_countPairs s_X1_countPairs) (g_X1_countPairs : d_X1_countPairs + 1 ≤ d) {d_X1_leftAtMost : Nat} {s_X1_leftAtMost : zq_Sp} (h_X1_leftAtMost : zq_M yX1_leftAtMost cX1_leftAtMost 3 (some .int) 1 d_X1_leftAtMost s_X1_leftAtMost) (g_X1_leftAtMost : d_X1_leftAtMost + 1 ≤ d) {d_X5_clear : Nat} {s_X5_clear : zq_Sp} (h_X5_clear : zq_M yX5_clear cX5_clear 1 none 0 d_X5_clear s_X5_clear) (g_X5_clear : d_X5_clear + 1 ≤ d) {d_X5_add : Nat} {s_X5_add : zq_Sp} (h_X5_add : zq_M yX5_add cX5_add 3 none 0 d_X5_add s_X5_add) (g_X5_add : d_X5_add + 1 ≤ d) {J47 : zq_P} (j47 : zq_ok X 7 47 J47) {J65 : zq_P} (j65 : zq_ok X 7 65 J65) {Q : zq_Q} (hq : zq_R X (some .int) 1 Q) : zq_ok X 7 125 (xX11_offer_125 s_X11_isGuest s_X1_countPairs s_X1_leftAtMost s_X5_clear s_X5_add J47 J65 Q) := by
  refine zs_aload_n C dX11_offer_125 rfl ?_
  refine zs_getR C zp_0 zF11 (j := 1) ⟨by decide, rfl⟩ zw_316 dX11_offer_126 ?_
  refine zs_callV C h_X5_clear g_X5_clear zy_X5_clear zp_3 (show vwCl[5]? = some (RX5, TX5, 2) from rfl) zw_650 zw_651 zs9_X5_clear dX11_offer_129 ?_
  refine zs_aload_n C dX11_offer_132 rfl ?_
  refine zs_getR C zp_0 zF11 (j := 1) ⟨by decide, rfl⟩ zw_316 dX11_offer_133 ?_
  refine zs_iload_n C dX11_offer_136 rfl ?_
  refine zs_i2l C dX11_offer_137 ?_
  refine zs_callV C h_X5_add g_X5_add zy_X5_add zp_3 (show vwCl[5]? = some (RX5, TX5, 2) from rfl) zw_654 zw_655 zs9_X5_add dX11_offer_138 ?_
  refine zs_iload_n C dX11_offer_141 rfl ?_
  exact zs_iret C hq dX11_offer_142
def xX11_offer_119 (s_X11_isGuest : zq_Sp) (s_X1_countPairs : zq_Sp) (s_X1_leftAtMost : zq_Sp) (s_X5_clear : zq_Sp) (s_X5_add : zq_Sp) (J47 : zq_P) (J65 : zq_P) (Q : zq_Q) (ls : zq_L) (st : List Value) (h : zq_H) : Prop := (zi_iinc 4 1 (J47)) ls st h
theorem kX11_offer_119 {X : zq_X} {d : Nat} (C : zq_C X cX11_offer 7 RX11 d) {d_X11_isGuest : Nat} {s_X11_isGuest : zq_Sp} (h_X11_isGuest : zq_M yX11_isGuest cX11_isGuest 2 (some .boolean) 1 d_X11_isGuest s_X11_isGuest) (g_X11_isGuest : d_X11_isGuest + 1 ≤ d) {d_X1_countPairs : Nat} {s_X1_countPairs : zq_Sp} (h_X1_countPairs : zq_M yX1_countPairs cX1_countPairs 6 none 0 d_X1_countPairs s_X1_countPairs) (g_X1_countPairs : d_X1_countPairs + 1 ≤ d) {d_X1_leftAtMost : Nat} {s_X1_leftAtMost : zq_Sp} (h_X1_leftAtMost : zq_M yX1_leftAtMost cX1_leftAtMost 3 (some .int) 1 d_X1_leftAtMost s_X1_leftAtMost) (g_X1_leftAtMost : d_X1_leftAtMost + 1 ≤ d) {d_X5_clear : Nat} {s_X5_clear : zq_Sp} (h_X5_clear : zq_M yX5_clear cX5_clear 1 none 0 d_X5_clear s_X5_clear) (g_X5_clear : d_X5_clear + 1 ≤ d) {d_X5_add : Nat} {s_X5_add : zq_Sp} (h_X5_add : zq_M yX5_add cX5_add 3 none 0 d_X5_add s_X5_add) (g_X5_add : d_X5_add + 1 ≤ d) {J47 : zq_P} (j47 : zq_ok X 7 47 J47) {J65 : zq_P} (j65 : zq_ok X 7 65 J65) {Q : zq_Q} (hq : zq_R X (some .int) 1 Q) : zq_ok X 7 119 (xX11_offer_119 s_X11_isGuest s_X1_countPairs s_X1_leftAtMost s_X5_clear s_X5_add J47 J65 Q) := by
  refine zs_iinc C dX11_offer_119 (by decide) (by decide) ?_
  exact zs_goto C dX11_offer_122 (by decide) (j47)
def xX11_offer_113 (s_X11_isGuest : zq_Sp) (s_X1_countPairs : zq_Sp) (s_X1_leftAtMost : zq_Sp) (s_X5_clear : zq_Sp) (s_X5_add : zq_Sp) (J47 : zq_P) (J65 : zq_P) (Q : zq_Q) (ls : zq_L) (st : List Value) (h : zq_H) : Prop := (zi_iinc 5 1 (J65)) ls st h
theorem kX11_offer_113 {X : zq_X} {d : Nat} (C : zq_C X cX11_offer 7 RX11 d) {d_X11_isGuest : Nat} {s_X11_isGuest : zq_Sp} (h_X11_isGuest : zq_M yX11_isGuest cX11_isGuest 2 (some .boolean) 1 d_X11_isGuest s_X11_isGuest) (g_X11_isGuest : d_X11_isGuest + 1 ≤ d) {d_X1_countPairs : Nat} {s_X1_countPairs : zq_Sp} (h_X1_countPairs : zq_M yX1_countPairs cX1_countPairs 6 none 0 d_X1_countPairs s_X1_countPairs) (g_X1_countPairs : d_X1_countPairs + 1 ≤ d) {d_X1_leftAtMost : Nat} {s_X1_leftAtMost : zq_Sp} (h_X1_leftAtMost : zq_M yX1_leftAtMost cX1_leftAtMost 3 (some .int) 1 d_X1_leftAtMost s_X1_leftAtMost) (g_X1_leftAtMost : d_X1_leftAtMost + 1 ≤ d) {d_X5_clear : Nat} {s_X5_clear : zq_Sp} (h_X5_clear : zq_M yX5_clear cX5_clear 1 none 0 d_X5_clear s_X5_clear) (g_X5_clear : d_X5_clear + 1 ≤ d) {d_X5_add : Nat} {s_X5_add : zq_Sp} (h_X5_add : zq_M yX5_add cX5_add 3 none 0 d_X5_add s_X5_add) (g_X5_add : d_X5_add + 1 ≤ d) {J47 : zq_P} (j47 : zq_ok X 7 47 J47) {J65 : zq_P} (j65 : zq_ok X 7 65 J65) {Q : zq_Q} (hq : zq_R X (some .int) 1 Q) : zq_ok X 7 113 (xX11_offer_113 s_X11_isGuest s_X1_countPairs s_X1_leftAtMost s_X5_clear s_X5_add J47 J65 Q) := by
  refine zs_iinc C dX11_offer_113 (by decide) (by decide) ?_
  exact zs_goto C dX11_offer_116 (by decide) (j65)
def xX11_offer_101 (s_X11_isGuest : zq_Sp) (s_X1_countPairs : zq_Sp) (s_X1_leftAtMost : zq_Sp) (s_X5_clear : zq_Sp) (s_X5_add : zq_Sp) (J47 : zq_P) (J65 : zq_P) (Q : zq_Q) (ls : zq_L) (st : List Value) (h : zq_H) : Prop := (zi_iload 4 (zi_push (.int 16) (zi_i2 (fun x y => x * y) (zi_iload 5 (zi_i2 (fun x y => x + y) (zi_istore 2 (zi_iload 6 (zi_istore 3 ((xX11_offer_113 s_X11_isGuest s_X1_countPairs s_X1_leftAtMost s_X5_clear s_X5_add J47 J65 Q)))))))))) ls st h
theorem kX11_offer_101 {X : zq_X} {d : Nat} (C : zq_C X cX11_offer 7 RX11 d) {d_X11_isGuest : Nat} {s_X11_isGuest : zq_Sp} (h_X11_isGuest : zq_M yX11_isGuest cX11_isGuest 2 (some .boolean) 1 d_X11_isGuest s_X11_isGuest) (g_X11_isGuest : d_X11_isGuest + 1 ≤ d) {d_X1_countPairs : Nat} {s_X1_countPairs : zq_Sp} (h_X1_countPairs : zq_M yX1_countPairs cX1_countPairs 6 none 0 d_X1_countPairs s_X1_countPairs) (g_X1_countPairs : d_X1_countPairs + 1 ≤ d) {d_X1_leftAtMost : Nat} {s_X1_leftAtMost : zq_Sp} (h_X1_leftAtMost : zq_M yX1_leftAtMost cX1_leftAtMost 3 (some .int) 1 d_X1_leftAtMost s_X1_leftAtMost) (g_X1_leftAtMost : d_X1_leftAtMost + 1 ≤ d) {d_X5_clear : Nat} {s_X5_clear : zq_Sp} (h_X5_clear : zq_M yX5_clear cX5_clear 1 none 0 d_X5_clear s_X5_clear) (g_X5_clear : d_X5_clear + 1 ≤ d) {d_X5_add : Nat} {s_X5_add : zq_Sp} (h_X5_add : zq_M yX5_add cX5_add 3 none 0 d_X5_add s_X5_add) (g_X5_add : d_X5_add + 1 ≤ d) {J47 : zq_P} (j47 : zq_ok X 7 47 J47) {J65 : zq_P} (j65 : zq_ok X 7 65 J65) {Q : zq_Q} (hq : zq_R X (some .int) 1 Q) : zq_ok X 7 101 (xX11_offer_101 s_X11_isGuest s_X1_countPairs s_X1_leftAtMost s_X5_clear s_X5_add J47 J65 Q) := by
  refine zs_iload C dX11_offer_101 ?_
  refine zs_bipush C dX11_offer_103 (by decide) ?_
  refine zs_imul C dX11_offer_105 ?_
  refine zs_iload C dX11_offer_106 ?_
  refine zs_iadd C dX11_offer_108 ?_
  refine zs_istore_n C dX11_offer_109 rfl (by decide) ?_
  refine zs_iload C dX11_offer_110 ?_
  refine zs_istore_n C dX11_offer_112 rfl (by decide) ?_
  exact kX11_offer_113 C h_X11_isGuest g_X11_isGuest h_X1_countPairs g_X1_countPairs h_X1_leftAtMost g_X1_leftAtMost h_X5_clear g_X5_clear h_X5_add g_X5_add j47 j65 hq
def xX11_offer_95 (s_X11_isGuest : zq_Sp) (s_X1_countPairs : zq_Sp) (s_X1_leftAtMost : zq_Sp) (s_X5_clear : zq_Sp) (s_X5_add : zq_Sp) (J47 : zq_P) (J65 : zq_P) (Q : zq_Q) (ls : zq_L) (st : List Value) (h : zq_H) : Prop := (zi_iload 6 (zi_iload 3 (zi_if2 (fun x y => y ≤ x) (xX11_offer_113 s_X11_isGuest s_X1_countPairs s_X1_leftAtMost s_X5_clear s_X5_add J47 J65 Q) (xX11_offer_101 s_X11_isGuest s_X1_countPairs s_X1_leftAtMost s_X5_clear s_X5_add J47 J65 Q)))) ls st h
theorem kX11_offer_95 {X : zq_X} {d : Nat} (C : zq_C X cX11_offer 7 RX11 d) {d_X11_isGuest : Nat} {s_X11_isGuest : zq_Sp} (h_X11_isGuest : zq_M yX11_isGuest cX11_isGuest 2 (some .boolean) 1 d_X11_isGuest s_X11_isGuest) (g_X11_isGuest : d_X11_isGuest + 1 ≤ d) {d_X1_countPairs : Nat} {s_X1_countPairs : zq_Sp} (h_X1_countPairs : zq_M yX1_countPairs cX1_countPairs 6 none 0 d_X1_countPairs s_X1_countPairs) (g_X1_countPairs : d_X1_countPairs + 1 ≤ d) {d_X1_leftAtMost : Nat} {s_X1_leftAtMost : zq_Sp} (h_X1_leftAtMost : zq_M yX1_leftAtMost cX1_leftAtMost 3 (some .int) 1 d_X1_leftAtMost s_X1_leftAtMost) (g_X1_leftAtMost : d_X1_leftAtMost + 1 ≤ d) {d_X5_clear : Nat} {s_X5_clear : zq_Sp} (h_X5_clear : zq_M yX5_clear cX5_clear 1 none 0 d_X5_clear s_X5_clear) (g_X5_clear : d_X5_clear + 1 ≤ d) {d_X5_add : Nat} {s_X5_add : zq_Sp} (h_X5_add : zq_M yX5_add cX5_add 3 none 0 d_X5_add s_X5_add) (g_X5_add : d_X5_add + 1 ≤ d) {J47 : zq_P} (j47 : zq_ok X 7 47 J47) {J65 : zq_P} (j65 : zq_ok X 7 65 J65) {Q : zq_Q} (hq : zq_R X (some .int) 1 Q) : zq_ok X 7 95 (xX11_offer_95 s_X11_isGuest s_X1_countPairs s_X1_leftAtMost s_X5_clear s_X5_add J47 J65 Q) := by
  refine zs_iload C dX11_offer_95 ?_
  refine zs_iload_n C dX11_offer_97 rfl ?_
  exact zs_icmp_ge C dX11_offer_98 (by decide) (kX11_offer_113 C h_X11_isGuest g_X11_isGuest h_X1_countPairs g_X1_countPairs h_X1_leftAtMost g_X1_leftAtMost h_X5_clear g_X5_clear h_X5_add g_X5_add j47 j65 hq) (kX11_offer_101 C h_X11_isGuest g_X11_isGuest h_X1_countPairs g_X1_countPairs h_X1_leftAtMost g_X1_leftAtMost h_X5_clear g_X5_clear h_X5_add g_X5_add j47 j65 hq)
def xX11_offer_77 (s_X11_isGuest : zq_Sp) (s_X1_countPairs : zq_Sp) (s_X1_leftAtMost : zq_Sp) (s_X5_clear : zq_Sp) (s_X5_add : zq_Sp) (J47 : zq_P) (J65 : zq_P) (Q : zq_Q) (ls : zq_L) (st : List Value) (h : zq_H) : Prop := (zi_aload 0 (zi_getR 0 15 (zi_iload 4 (zi_iload 5 (zi_callV 2 15 s_X1_leftAtMost (zi_istore 6 (zi_iload 2 (zi_push (.int (-1)) (zi_if2 (fun x y => x = y) (xX11_offer_101 s_X11_isGuest s_X1_countPairs s_X1_leftAtMost s_X5_clear s_X5_add J47 J65 Q) (xX11_offer_95 s_X11_isGuest s_X1_countPairs s_X1_leftAtMost s_X5_clear s_X5_add J47 J65 Q)))))))))) ls st h
theorem kX11_offer_77 {X : zq_X} {d : Nat} (C : zq_C X cX11_offer 7 RX11 d) {d_X11_isGuest : Nat} {s_X11_isGuest : zq_Sp} (h_X11_isGuest : zq_M yX11_isGuest cX11_isGuest 2 (some .boolean) 1 d_X11_isGuest s_X11_isGuest) (g_X11_isGuest : d_X11_isGuest + 1 ≤ d) {d_X1_countPairs : Nat} {s_X1_countPairs : zq_Sp} (h_X1_countPairs : zq_M yX1_countPairs cX1_countPairs 6 none 0 d_X1_countPairs s_X1_countPairs) (g_X1_countPairs : d_X1_countPairs + 1 ≤ d) {d_X1_leftAtMost : Nat} {s_X1_leftAtMost : zq_Sp} (h_X1_leftAtMost : zq_M yX1_leftAtMost cX1_leftAtMost 3 (some .int) 1 d_X1_leftAtMost s_X1_leftAtMost) (g_X1_leftAtMost : d_X1_leftAtMost + 1 ≤ d) {d_X5_clear : Nat} {s_X5_clear : zq_Sp} (h_X5_clear : zq_M yX5_clear cX5_clear 1 none 0 d_X5_clear s_X5_clear) (g_X5_clear : d_X5_clear + 1 ≤ d) {d_X5_add : Nat} {s_X5_add : zq_Sp} (h_X5_add : zq_M yX5_add cX5_add 3 none 0 d_X5_add s_X5_add) (g_X5_add : d_X5_add + 1 ≤ d) {J47 : zq_P} (j47 : zq_ok X 7 47 J47) {J65 : zq_P} (j65 : zq_ok X 7 65 J65) {Q : zq_Q} (hq : zq_R X (some .int) 1 Q) : zq_ok X 7 77 (xX11_offer_77 s_X11_isGuest s_X1_countPairs s_X1_leftAtMost s_X5_clear s_X5_add J47 J65 Q) := by
  refine zs_aload_n C dX11_offer_77 rfl ?_
  refine zs_getR C zp_0 zF11 (j := 5) ⟨by decide, rfl⟩ zw_320 dX11_offer_78 ?_
  refine zs_iload C dX11_offer_81 ?_
  refine zs_iload C dX11_offer_83 ?_
  refine zs_callV C h_X1_leftAtMost g_X1_leftAtMost zy_X1_leftAtMost zp_15 (show vwCl[1]? = some (RX1, TX1, 8) from rfl) zw_918 zw_919 zs9_X1_leftAtMost dX11_offer_85 ?_
  refine zs_istore C dX11_offer_88 (by decide) ?_
  refine zs_iload_n C dX11_offer_90 rfl ?_
  refine zs_iconst C dX11_offer_91 (by decide) ?_
  exact zs_icmp_eq C dX11_offer_92 (by decide) (kX11_offer_101 C h_X11_isGuest g_X11_isGuest h_X1_countPairs g_X1_countPairs h_X1_leftAtMost g_X1_leftAtMost h_X5_clear g_X5_clear h_X5_add g_X5_add j47 j65 hq) (kX11_offer_95 C h_X11_isGuest g_X11_isGuest h_X1_countPairs g_X1_countPairs h_X1_leftAtMost g_X1_leftAtMost h_X5_clear g_X5_clear h_X5_add g_X5_add j47 j65 hq)
def xX11_offer_65 (s_X11_isGuest : zq_Sp) (s_X1_countPairs : zq_Sp) (s_X1_leftAtMost : zq_Sp) (s_X5_clear : zq_Sp) (s_X5_add : zq_Sp) (J47 : zq_P) (J65 : zq_P) (Q : zq_Q) (ls : zq_L) (st : List Value) (h : zq_H) : Prop := (zi_iload 5 (zi_aload 0 (zi_getR 0 40 (zi_getI 40 3 (zi_if2 (fun x y => y ≤ x) (xX11_offer_119 s_X11_isGuest s_X1_countPairs s_X1_leftAtMost s_X5_clear s_X5_add J47 J65 Q) (xX11_offer_77 s_X11_isGuest s_X1_countPairs s_X1_leftAtMost s_X5_clear s_X5_add J47 J65 Q)))))) ls st h
theorem kX11_offer_65 {X : zq_X} {d : Nat} (C : zq_C X cX11_offer 7 RX11 d) {d_X11_isGuest : Nat} {s_X11_isGuest : zq_Sp} (h_X11_isGuest : zq_M yX11_isGuest cX11_isGuest 2 (some .boolean) 1 d_X11_isGuest s_X11_isGuest) (g_X11_isGuest : d_X11_isGuest + 1 ≤ d) {d_X1_countPairs : Nat} {s_X1_countPairs : zq_Sp} (h_X1_countPairs : zq_M yX1_countPairs cX1_countPairs 6 none 0 d_X1_countPairs s_X1_countPairs) (g_X1_countPairs : d_X1_countPairs + 1 ≤ d) {d_X1_leftAtMost : Nat} {s_X1_leftAtMost : zq_Sp} (h_X1_leftAtMost : zq_M yX1_leftAtMost cX1_leftAtMost 3 (some .int) 1 d_X1_leftAtMost s_X1_leftAtMost) (g_X1_leftAtMost : d_X1_leftAtMost + 1 ≤ d) {d_X5_clear : Nat} {s_X5_clear : zq_Sp} (h_X5_clear : zq_M yX5_clear cX5_clear 1 none 0 d_X5_clear s_X5_clear) (g_X5_clear : d_X5_clear + 1 ≤ d) {d_X5_add : Nat} {s_X5_add : zq_Sp} (h_X5_add : zq_M yX5_add cX5_add 3 none 0 d_X5_add s_X5_add) (g_X5_add : d_X5_add + 1 ≤ d) {J47 : zq_P} (j47 : zq_ok X 7 47 J47) {J65 : zq_P} (j65 : zq_ok X 7 65 J65) {Q : zq_Q} (hq : zq_R X (some .int) 1 Q) : zq_ok X 7 65 (xX11_offer_65 s_X11_isGuest s_X1_countPairs s_X1_leftAtMost s_X5_clear s_X5_add J47 J65 Q) := by
  refine zs_iload C dX11_offer_65 ?_
  refine zs_aload_n C dX11_offer_67 rfl ?_
  refine zs_getR C zp_0 zF11 (j := 11) ⟨by decide, rfl⟩ zw_326 dX11_offer_68 ?_
  refine zs_getIN C zp_40 zF2 (j := 3) ⟨by decide, rfl⟩ zw_273 dX11_offer_71 ?_
  exact zs_icmp_ge C dX11_offer_74 (by decide) (kX11_offer_119 C h_X11_isGuest g_X11_isGuest h_X1_countPairs g_X1_countPairs h_X1_leftAtMost g_X1_leftAtMost h_X5_clear g_X5_clear h_X5_add g_X5_add j47 j65 hq) (kX11_offer_77 C h_X11_isGuest g_X11_isGuest h_X1_countPairs g_X1_countPairs h_X1_leftAtMost g_X1_leftAtMost h_X5_clear g_X5_clear h_X5_add g_X5_add j47 j65 hq)
def xX11_offer_59 (s_X11_isGuest : zq_Sp) (s_X1_countPairs : zq_Sp) (s_X1_leftAtMost : zq_Sp) (s_X5_clear : zq_Sp) (s_X5_add : zq_Sp) (J47 : zq_P) (J65 : zq_P) (Q : zq_Q) (ls : zq_L) (st : List Value) (h : zq_H) : Prop := (zi_iload 4 (zi_push (.int 1) (zi_i2 (fun x y => x + y) (zi_istore 5 (J65))))) ls st h
theorem kX11_offer_59 {X : zq_X} {d : Nat} (C : zq_C X cX11_offer 7 RX11 d) {d_X11_isGuest : Nat} {s_X11_isGuest : zq_Sp} (h_X11_isGuest : zq_M yX11_isGuest cX11_isGuest 2 (some .boolean) 1 d_X11_isGuest s_X11_isGuest) (g_X11_isGuest : d_X11_isGuest + 1 ≤ d) {d_X1_countPairs : Nat} {s_X1_countPairs : zq_Sp} (h_X1_countPairs : zq_M yX1_countPairs cX1_countPairs 6 none 0 d_X1_countPairs s_X1_countPairs) (g_X1_countPairs : d_X1_countPairs + 1 ≤ d) {d_X1_leftAtMost : Nat} {s_X1_leftAtMost : zq_Sp} (h_X1_leftAtMost : zq_M yX1_leftAtMost cX1_leftAtMost 3 (some .int) 1 d_X1_leftAtMost s_X1_leftAtMost) (g_X1_leftAtMost : d_X1_leftAtMost + 1 ≤ d) {d_X5_clear : Nat} {s_X5_clear : zq_Sp} (h_X5_clear : zq_M yX5_clear cX5_clear 1 none 0 d_X5_clear s_X5_clear) (g_X5_clear : d_X5_clear + 1 ≤ d) {d_X5_add : Nat} {s_X5_add : zq_Sp} (h_X5_add : zq_M yX5_add cX5_add 3 none 0 d_X5_add s_X5_add) (g_X5_add : d_X5_add + 1 ≤ d) {J47 : zq_P} (j47 : zq_ok X 7 47 J47) {J65 : zq_P} (j65 : zq_ok X 7 65 J65) {Q : zq_Q} (hq : zq_R X (some .int) 1 Q) : zq_ok X 7 59 (xX11_offer_59 s_X11_isGuest s_X1_countPairs s_X1_leftAtMost s_X5_clear s_X5_add J47 J65 Q) := by
  refine zs_iload C dX11_offer_59 ?_
  refine zs_iconst C dX11_offer_61 (by decide) ?_
  refine zs_iadd C dX11_offer_62 ?_
  refine zs_istore C dX11_offer_63 (by decide) ?_
  exact j65
def xX11_offer_47 (s_X11_isGuest : zq_Sp) (s_X1_countPairs : zq_Sp) (s_X1_leftAtMost : zq_Sp) (s_X5_clear : zq_Sp) (s_X5_add : zq_Sp) (J47 : zq_P) (J65 : zq_P) (Q : zq_Q) (ls : zq_L) (st : List Value) (h : zq_H) : Prop := (zi_iload 4 (zi_aload 0 (zi_getR 0 40 (zi_getI 40 3 (zi_if2 (fun x y => y ≤ x) (xX11_offer_125 s_X11_isGuest s_X1_countPairs s_X1_leftAtMost s_X5_clear s_X5_add J47 J65 Q) (xX11_offer_59 s_X11_isGuest s_X1_countPairs s_X1_leftAtMost s_X5_clear s_X5_add J47 J65 Q)))))) ls st h
theorem kX11_offer_47 {X : zq_X} {d : Nat} (C : zq_C X cX11_offer 7 RX11 d) {d_X11_isGuest : Nat} {s_X11_isGuest : zq_Sp} (h_X11_isGuest : zq_M yX11_isGuest cX11_isGuest 2 (some .boolean) 1 d_X11_isGuest s_X11_isGuest) (g_X11_isGuest : d_X11_isGuest + 1 ≤ d) {d_X1_countPairs : Nat} {s_X1_countPairs : zq_Sp} (h_X1_countPairs : zq_M yX1_countPairs cX1_countPairs 6 none 0 d_X1_countPairs s_X1_countPairs) (g_X1_countPairs : d_X1_countPairs + 1 ≤ d) {d_X1_leftAtMost : Nat} {s_X1_leftAtMost : zq_Sp} (h_X1_leftAtMost : zq_M yX1_leftAtMost cX1_leftAtMost 3 (some .int) 1 d_X1_leftAtMost s_X1_leftAtMost) (g_X1_leftAtMost : d_X1_leftAtMost + 1 ≤ d) {d_X5_clear : Nat} {s_X5_clear : zq_Sp} (h_X5_clear : zq_M yX5_clear cX5_clear 1 none 0 d_X5_clear s_X5_clear) (g_X5_clear : d_X5_clear + 1 ≤ d) {d_X5_add : Nat} {s_X5_add : zq_Sp} (h_X5_add : zq_M yX5_add cX5_add 3 none 0 d_X5_add s_X5_add) (g_X5_add : d_X5_add + 1 ≤ d) {J47 : zq_P} (j47 : zq_ok X 7 47 J47) {J65 : zq_P} (j65 : zq_ok X 7 65 J65) {Q : zq_Q} (hq : zq_R X (some .int) 1 Q) : zq_ok X 7 47 (xX11_offer_47 s_X11_isGuest s_X1_countPairs s_X1_leftAtMost s_X5_clear s_X5_add J47 J65 Q) := by
  refine zs_iload C dX11_offer_47 ?_
  refine zs_aload_n C dX11_offer_49 rfl ?_
  refine zs_getR C zp_0 zF11 (j := 11) ⟨by decide, rfl⟩ zw_326 dX11_offer_50 ?_
  refine zs_getIN C zp_40 zF2 (j := 3) ⟨by decide, rfl⟩ zw_273 dX11_offer_53 ?_
  exact zs_icmp_ge C dX11_offer_56 (by decide) (kX11_offer_125 C h_X11_isGuest g_X11_isGuest h_X1_countPairs g_X1_countPairs h_X1_leftAtMost g_X1_leftAtMost h_X5_clear g_X5_clear h_X5_add g_X5_add j47 j65 hq) (kX11_offer_59 C h_X11_isGuest g_X11_isGuest h_X1_countPairs g_X1_countPairs h_X1_leftAtMost g_X1_leftAtMost h_X5_clear g_X5_clear h_X5_add g_X5_add j47 j65 hq)
def xX11_offer_24 (s_X11_isGuest : zq_Sp) (s_X1_countPairs : zq_Sp) (s_X1_leftAtMost : zq_Sp) (s_X5_clear : zq_Sp) (s_X5_add : zq_Sp) (J47 : zq_P) (J65 : zq_P) (Q : zq_Q) (ls : zq_L) (st : List Value) (h : zq_H) : Prop := (zi_aload 0 (zi_getR 0 15 (zi_aload 0 (zi_getR 0 48 (zi_aload 0 (zi_getR 0 40 (zi_iload 1 (zi_callV 3 15 s_X1_countPairs (zi_push (.int (-1)) (zi_istore 2 (zi_push (.int 0) (zi_istore 3 (zi_push (.int 0) (zi_istore 4 (J47))))))))))))))) ls st h
theorem kX11_offer_24 {X : zq_X} {d : Nat} (C : zq_C X cX11_offer 7 RX11 d) {d_X11_isGuest : Nat} {s_X11_isGuest : zq_Sp} (h_X11_isGuest : zq_M yX11_isGuest cX11_isGuest 2 (some .boolean) 1 d_X11_isGuest s_X11_isGuest) (g_X11_isGuest : d_X11_isGuest + 1 ≤ d) {d_X1_countPairs : Nat} {s_X1_countPairs : zq_Sp} (h_X1_countPairs : zq_M yX1_countPairs cX1_countPairs 6 none 0 d_X1_countPairs s_X1_countPairs) (g_X1_countPairs : d_X1_countPairs + 1 ≤ d) {d_X1_leftAtMost : Nat} {s_X1_leftAtMost : zq_Sp} (h_X1_leftAtMost : zq_M yX1_leftAtMost cX1_leftAtMost 3 (some .int) 1 d_X1_leftAtMost s_X1_leftAtMost) (g_X1_leftAtMost : d_X1_leftAtMost + 1 ≤ d) {d_X5_clear : Nat} {s_X5_clear : zq_Sp} (h_X5_clear : zq_M yX5_clear cX5_clear 1 none 0 d_X5_clear s_X5_clear) (g_X5_clear : d_X5_clear + 1 ≤ d) {d_X5_add : Nat} {s_X5_add : zq_Sp} (h_X5_add : zq_M yX5_add cX5_add 3 none 0 d_X5_add s_X5_add) (g_X5_add : d_X5_add + 1 ≤ d) {J47 : zq_P} (j47 : zq_ok X 7 47 J47) {J65 : zq_P} (j65 : zq_ok X 7 65 J65) {Q : zq_Q} (hq : zq_R X (some .int) 1 Q) : zq_ok X 7 24 (xX11_offer_24 s_X11_isGuest s_X1_countPairs s_X1_leftAtMost s_X5_clear s_X5_add J47 J65 Q) := by
  refine zs_aload_n C dX11_offer_24 rfl ?_
  refine zs_getR C zp_0 zF11 (j := 5) ⟨by decide, rfl⟩ zw_320 dX11_offer_25 ?_
  refine zs_aload_n C dX11_offer_28 rfl ?_
  refine zs_getR C zp_0 zF11 (j := 13) ⟨by decide, rfl⟩ zw_328 dX11_offer_29 ?_
  refine zs_aload_n C dX11_offer_32 rfl ?_
  refine zs_getR C zp_0 zF11 (j := 11) ⟨by decide, rfl⟩ zw_326 dX11_offer_33 ?_
  refine zs_iload_n C dX11_offer_36 rfl ?_
  refine zs_callV C h_X1_countPairs g_X1_countPairs zy_X1_countPairs zp_15 (show vwCl[1]? = some (RX1, TX1, 8) from rfl) zw_909 zw_910 zs9_X1_countPairs dX11_offer_37 ?_
  refine zs_iconst C dX11_offer_40 (by decide) ?_
  refine zs_istore_n C dX11_offer_41 rfl (by decide) ?_
  refine zs_iconst C dX11_offer_42 (by decide) ?_
  refine zs_istore_n C dX11_offer_43 rfl (by decide) ?_
  refine zs_iconst C dX11_offer_44 (by decide) ?_
  refine zs_istore C dX11_offer_45 (by decide) ?_
  exact j47
def xX11_offer_21 (s_X11_isGuest : zq_Sp) (s_X1_countPairs : zq_Sp) (s_X1_leftAtMost : zq_Sp) (s_X5_clear : zq_Sp) (s_X5_add : zq_Sp) (J47 : zq_P) (J65 : zq_P) (Q : zq_Q) (ls : zq_L) (st : List Value) (h : zq_H) : Prop := (zi_push (.int (-2)) (zi_iret Q)) ls st h
theorem kX11_offer_21 {X : zq_X} {d : Nat} (C : zq_C X cX11_offer 7 RX11 d) {d_X11_isGuest : Nat} {s_X11_isGuest : zq_Sp} (h_X11_isGuest : zq_M yX11_isGuest cX11_isGuest 2 (some .boolean) 1 d_X11_isGuest s_X11_isGuest) (g_X11_isGuest : d_X11_isGuest + 1 ≤ d) {d_X1_countPairs : Nat} {s_X1_countPairs : zq_Sp} (h_X1_countPairs : zq_M yX1_countPairs cX1_countPairs 6 none 0 d_X1_countPairs s_X1_countPairs) (g_X1_countPairs : d_X1_countPairs + 1 ≤ d) {d_X1_leftAtMost : Nat} {s_X1_leftAtMost : zq_Sp} (h_X1_leftAtMost : zq_M yX1_leftAtMost cX1_leftAtMost 3 (some .int) 1 d_X1_leftAtMost s_X1_leftAtMost) (g_X1_leftAtMost : d_X1_leftAtMost + 1 ≤ d) {d_X5_clear : Nat} {s_X5_clear : zq_Sp} (h_X5_clear : zq_M yX5_clear cX5_clear 1 none 0 d_X5_clear s_X5_clear) (g_X5_clear : d_X5_clear + 1 ≤ d) {d_X5_add : Nat} {s_X5_add : zq_Sp} (h_X5_add : zq_M yX5_add cX5_add 3 none 0 d_X5_add s_X5_add) (g_X5_add : d_X5_add + 1 ≤ d) {J47 : zq_P} (j47 : zq_ok X 7 47 J47) {J65 : zq_P} (j65 : zq_ok X 7 65 J65) {Q : zq_Q} (hq : zq_R X (some .int) 1 Q) : zq_ok X 7 21 (xX11_offer_21 s_X11_isGuest s_X1_countPairs s_X1_leftAtMost s_X5_clear s_X5_add J47 J65 Q) := by
  refine zs_bipush C dX11_offer_21 (by decide) ?_
  exact zs_iret C hq dX11_offer_23
def xX11_offer_10 (s_X11_isGuest : zq_Sp) (s_X1_countPairs : zq_Sp) (s_X1_leftAtMost : zq_Sp) (s_X5_clear : zq_Sp) (s_X5_add : zq_Sp) (J47 : zq_P) (J65 : zq_P) (Q : zq_Q) (ls : zq_L) (st : List Value) (h : zq_H) : Prop := (zi_aload 0 (zi_getR 0 40 (zi_getI 40 3 (zi_push (.int 2) (zi_if2 (fun x y => y ≤ x) (xX11_offer_24 s_X11_isGuest s_X1_countPairs s_X1_leftAtMost s_X5_clear s_X5_add J47 J65 Q) (xX11_offer_21 s_X11_isGuest s_X1_countPairs s_X1_leftAtMost s_X5_clear s_X5_add J47 J65 Q)))))) ls st h
theorem kX11_offer_10 {X : zq_X} {d : Nat} (C : zq_C X cX11_offer 7 RX11 d) {d_X11_isGuest : Nat} {s_X11_isGuest : zq_Sp} (h_X11_isGuest : zq_M yX11_isGuest cX11_isGuest 2 (some .boolean) 1 d_X11_isGuest s_X11_isGuest) (g_X11_isGuest : d_X11_isGuest + 1 ≤ d) {d_X1_countPairs : Nat} {s_X1_countPairs : zq_Sp} (h_X1_countPairs : zq_M yX1_countPairs cX1_countPairs 6 none 0 d_X1_countPairs s_X1_countPairs) (g_X1_countPairs : d_X1_countPairs + 1 ≤ d) {d_X1_leftAtMost : Nat} {s_X1_leftAtMost : zq_Sp} (h_X1_leftAtMost : zq_M yX1_leftAtMost cX1_leftAtMost 3 (some .int) 1 d_X1_leftAtMost s_X1_leftAtMost) (g_X1_leftAtMost : d_X1_leftAtMost + 1 ≤ d) {d_X5_clear : Nat} {s_X5_clear : zq_Sp} (h_X5_clear : zq_M yX5_clear cX5_clear 1 none 0 d_X5_clear s_X5_clear) (g_X5_clear : d_X5_clear + 1 ≤ d) {d_X5_add : Nat} {s_X5_add : zq_Sp} (h_X5_add : zq_M yX5_add cX5_add 3 none 0 d_X5_add s_X5_add) (g_X5_add : d_X5_add + 1 ≤ d) {J47 : zq_P} (j47 : zq_ok X 7 47 J47) {J65 : zq_P} (j65 : zq_ok X 7 65 J65) {Q : zq_Q} (hq : zq_R X (some .int) 1 Q) : zq_ok X 7 10 (xX11_offer_10 s_X11_isGuest s_X1_countPairs s_X1_leftAtMost s_X5_clear s_X5_add J47 J65 Q) := by
  refine zs_aload_n C dX11_offer_10 rfl ?_
  refine zs_getR C zp_0 zF11 (j := 11) ⟨by decide, rfl⟩ zw_326 dX11_offer_11 ?_
  refine zs_getIN C zp_40 zF2 (j := 3) ⟨by decide, rfl⟩ zw_273 dX11_offer_14 ?_
  refine zs_iconst C dX11_offer_17 (by decide) ?_
  exact zs_icmp_ge C dX11_offer_18 (by decide) (kX11_offer_24 C h_X11_isGuest g_X11_isGuest h_X1_countPairs g_X1_countPairs h_X1_leftAtMost g_X1_leftAtMost h_X5_clear g_X5_clear h_X5_add g_X5_add j47 j65 hq) (kX11_offer_21 C h_X11_isGuest g_X11_isGuest h_X1_countPairs g_X1_countPairs h_X1_leftAtMost g_X1_leftAtMost h_X5_clear g_X5_clear h_X5_add g_X5_add j47 j65 hq)
def xX11_offer_8 (s_X11_isGuest : zq_Sp) (s_X1_countPairs : zq_Sp) (s_X1_leftAtMost : zq_Sp) (s_X5_clear : zq_Sp) (s_X5_add : zq_Sp) (J47 : zq_P) (J65 : zq_P) (Q : zq_Q) (ls : zq_L) (st : List Value) (h : zq_H) : Prop := (zi_push (.int (-1)) (zi_iret Q)) ls st h
theorem kX11_offer_8 {X : zq_X} {d : Nat} (C : zq_C X cX11_offer 7 RX11 d) {d_X11_isGuest : Nat} {s_X11_isGuest : zq_Sp} (h_X11_isGuest : zq_M yX11_isGuest cX11_isGuest 2 (some .boolean) 1 d_X11_isGuest s_X11_isGuest) (g_X11_isGuest : d_X11_isGuest + 1 ≤ d) {d_X1_countPairs : Nat} {s_X1_countPairs : zq_Sp} (h_X1_countPairs : zq_M yX1_countPairs cX1_countPairs 6 none 0 d_X1_countPairs s_X1_countPairs) (g_X1_countPairs : d_X1_countPairs + 1 ≤ d) {d_X1_leftAtMost : Nat} {s_X1_leftAtMost : zq_Sp} (h_X1_leftAtMost : zq_M yX1_leftAtMost cX1_leftAtMost 3 (some .int) 1 d_X1_leftAtMost s_X1_leftAtMost) (g_X1_leftAtMost : d_X1_leftAtMost + 1 ≤ d) {d_X5_clear : Nat} {s_X5_clear : zq_Sp} (h_X5_clear : zq_M yX5_clear cX5_clear 1 none 0 d_X5_clear s_X5_clear) (g_X5_clear : d_X5_clear + 1 ≤ d) {d_X5_add : Nat} {s_X5_add : zq_Sp} (h_X5_add : zq_M yX5_add cX5_add 3 none 0 d_X5_add s_X5_add) (g_X5_add : d_X5_add + 1 ≤ d) {J47 : zq_P} (j47 : zq_ok X 7 47 J47) {J65 : zq_P} (j65 : zq_ok X 7 65 J65) {Q : zq_Q} (hq : zq_R X (some .int) 1 Q) : zq_ok X 7 8 (xX11_offer_8 s_X11_isGuest s_X1_countPairs s_X1_leftAtMost s_X5_clear s_X5_add J47 J65 Q) := by
  refine zs_iconst C dX11_offer_8 (by decide) ?_
  exact zs_iret C hq dX11_offer_9
def xX11_offer_0 (s_X11_isGuest : zq_Sp) (s_X1_countPairs : zq_Sp) (s_X1_leftAtMost : zq_Sp) (s_X5_clear : zq_Sp) (s_X5_add : zq_Sp) (J47 : zq_P) (J65 : zq_P) (Q : zq_Q) (ls : zq_L) (st : List Value) (h : zq_H) : Prop := (zi_aload 0 (zi_iload 1 (zi_callV 1 0 s_X11_isGuest (zi_if1 (fun x => x = 0) (xX11_offer_8 s_X11_isGuest s_X1_countPairs s_X1_leftAtMost s_X5_clear s_X5_add J47 J65 Q) (xX11_offer_10 s_X11_isGuest s_X1_countPairs s_X1_leftAtMost s_X5_clear s_X5_add J47 J65 Q))))) ls st h
theorem kX11_offer_0 {X : zq_X} {d : Nat} (C : zq_C X cX11_offer 7 RX11 d) {d_X11_isGuest : Nat} {s_X11_isGuest : zq_Sp} (h_X11_isGuest : zq_M yX11_isGuest cX11_isGuest 2 (some .boolean) 1 d_X11_isGuest s_X11_isGuest) (g_X11_isGuest : d_X11_isGuest + 1 ≤ d) {d_X1_countPairs : Nat} {s_X1_countPairs : zq_Sp} (h_X1_countPairs : zq_M yX1_countPairs cX1_countPairs 6 none 0 d_X1_countPairs s_X1_countPairs) (g_X1_countPairs : d_X1_countPairs + 1 ≤ d) {d_X1_leftAtMost : Nat} {s_X1_leftAtMost : zq_Sp} (h_X1_leftAtMost : zq_M yX1_leftAtMost cX1_leftAtMost 3 (some .int) 1 d_X1_leftAtMost s_X1_leftAtMost) (g_X1_leftAtMost : d_X1_leftAtMost + 1 ≤ d) {d_X5_clear : Nat} {s_X5_clear : zq_Sp} (h_X5_clear : zq_M yX5_clear cX5_clear 1 none 0 d_X5_clear s_X5_clear) (g_X5_clear : d_X5_clear + 1 ≤ d) {d_X5_add : Nat} {s_X5_add : zq_Sp} (h_X5_add : zq_M yX5_add cX5_add 3 none 0 d_X5_add s_X5_add) (g_X5_add : d_X5_add + 1 ≤ d) {J47 : zq_P} (j47 : zq_ok X 7 47 J47) {J65 : zq_P} (j65 : zq_ok X 7 65 J65) {Q : zq_Q} (hq : zq_R X (some .int) 1 Q) : zq_ok X 7 0 (xX11_offer_0 s_X11_isGuest s_X1_countPairs s_X1_leftAtMost s_X5_clear s_X5_add J47 J65 Q) := by
  refine zs_aload_n C dX11_offer_0 rfl ?_
  refine zs_iload_n C dX11_offer_1 rfl ?_
  refine zs_callV C h_X11_isGuest g_X11_isGuest zy_X11_isGuest zp_0 (show vwCl[11]? = some (RX11, TX11, 16) from rfl) zw_546 zw_548 zs9_X11_isGuest dX11_offer_2 ?_
  exact zs_if_ne C dX11_offer_5 (by decide) (kX11_offer_10 C h_X11_isGuest g_X11_isGuest h_X1_countPairs g_X1_countPairs h_X1_leftAtMost g_X1_leftAtMost h_X5_clear g_X5_clear h_X5_add g_X5_add j47 j65 hq) (kX11_offer_8 C h_X11_isGuest g_X11_isGuest h_X1_countPairs g_X1_countPairs h_X1_leftAtMost g_X1_leftAtMost h_X5_clear g_X5_clear h_X5_add g_X5_add j47 j65 hq)
theorem mX11_offer {d : Nat} {spec : zq_Sp} {σ47 : Type} {σ65 : Type} {d_X11_isGuest : Nat} {s_X11_isGuest : zq_Sp} (h_X11_isGuest : zq_M yX11_isGuest cX11_isGuest 2 (some .boolean) 1 d_X11_isGuest s_X11_isGuest) (g_X11_isGuest : d_X11_isGuest + 1 ≤ d) {d_X1_countPairs : Nat} {s_X1_countPairs : zq_Sp} (h_X1_countPairs : zq_M yX1_countPairs cX1_countPairs 6 none 0 d_X1_countPairs s_X1_countPairs) (g_X1_countPairs : d_X1_countPairs + 1 ≤ d) {d_X1_leftAtMost : Nat} {s_X1_leftAtMost : zq_Sp} (h_X1_leftAtMost : zq_M yX1_leftAtMost cX1_leftAtMost 3 (some .int) 1 d_X1_leftAtMost s_X1_leftAtMost) (g_X1_leftAtMost : d_X1_leftAtMost + 1 ≤ d) {d_X5_clear : Nat} {s_X5_clear : zq_Sp} (h_X5_clear : zq_M yX5_clear cX5_clear 1 none 0 d_X5_clear s_X5_clear) (g_X5_clear : d_X5_clear + 1 ≤ d) {d_X5_add : Nat} {s_X5_add : zq_Sp} (h_X5_add : zq_M yX5_add cX5_add 3 none 0 d_X5_add s_X5_add) (g_X5_add : d_X5_add + 1 ≤ d) (μ47 : σ47 → Nat) (I47 : zq_Q → σ47 → zq_P) (μ65 : σ65 → Nat) (I65 : zq_Q → σ65 → zq_P) (v : ∀ args h Q, spec args h Q → (zq_a args).length ≤ 7 ∧ xX11_offer_0 s_X11_isGuest s_X1_countPairs s_X1_leftAtMost s_X5_clear s_X5_add (fun ls st h => ∃ b, I47 Q b ls st h) (fun ls st h => ∃ b, I65 Q b ls st h) Q (zq_l0 7 args) [] h) (v47 : ∀ Q a ls st h, I47 Q a ls st h → xX11_offer_47 s_X11_isGuest s_X1_countPairs s_X1_leftAtMost s_X5_clear s_X5_add (fun ls st h => ∃ b, μ47 b < μ47 a ∧ I47 Q b ls st h) (fun ls st h => ∃ b, μ65 b < μ47 a ∧ I65 Q b ls st h) Q ls st h) (v65 : ∀ Q a ls st h, I65 Q a ls st h → xX11_offer_65 s_X11_isGuest s_X1_countPairs s_X1_leftAtMost s_X5_clear s_X5_add (fun ls st h => ∃ b, μ47 b < μ65 a ∧ I47 Q b ls st h) (fun ls st h => ∃ b, μ65 b < μ65 a ∧ I65 Q b ls st h) Q ls st h) : zq_M yX11_offer cX11_offer 7 (some .int) 1 d spec := by
  refine zq_met (by decide +kernel) (by decide) (fun X Q args h C hq hs => ⟨(v args h Q hs).1, _, ?_, (v args h Q hs).2⟩)
  have hl := zq_loop2 (X := X) (nL := 7) (pc1 := 47) (pc2 := 65) μ47 μ65 (I47 Q) (I65 Q) (fun J47 J65 => xX11_offer_47 s_X11_isGuest s_X1_countPairs s_X1_leftAtMost s_X5_clear s_X5_add J47 J65 Q) (fun J47 J65 => xX11_offer_65 s_X11_isGuest s_X1_countPairs s_X1_leftAtMost s_X5_clear s_X5_add J47 J65 Q) (fun j47 j65 => kX11_offer_47 C h_X11_isGuest g_X11_isGuest h_X1_countPairs g_X1_countPairs h_X1_leftAtMost g_X1_leftAtMost h_X5_clear g_X5_clear h_X5_add g_X5_add j47 j65 hq) (fun j47 j65 => kX11_offer_65 C h_X11_isGuest g_X11_isGuest h_X1_countPairs g_X1_countPairs h_X1_leftAtMost g_X1_leftAtMost h_X5_clear g_X5_clear h_X5_add g_X5_add j47 j65 hq) (v47 Q) (v65 Q)
  exact kX11_offer_0 C h_X11_isGuest g_X11_isGuest h_X1_countPairs g_X1_countPairs h_X1_leftAtMost g_X1_leftAtMost h_X5_clear g_X5_clear h_X5_add g_X5_add hl.1 hl.2 hq
/-! ToOneCrumb.claims()I -/
theorem dX11_claims_0 : decode cX11_claims 0 = .ok (.aload_n 0, 1) := by decide +kernel
theorem dX11_claims_1 : decode cX11_claims 1 = .ok (.getfield 54, 3) := by decide +kernel
theorem dX11_claims_4 : decode cX11_claims 4 = .ok (.aload_n 0, 1) := by decide +kernel
theorem dX11_claims_5 : decode cX11_claims 5 = .ok (.getfield 82, 3) := by decide +kernel
theorem dX11_claims_8 : decode cX11_claims 8 = .ok (.getfield 128, 3) := by decide +kernel
theorem dX11_claims_11 : decode cX11_claims 11 = .ok (.invokevirtual 325, 3) := by decide +kernel
theorem dX11_claims_14 : decode cX11_claims 14 = .ok (.aload_n 0, 1) := by decide +kernel
theorem dX11_claims_15 : decode cX11_claims 15 = .ok (.getfield 54, 3) := by decide +kernel
theorem dX11_claims_18 : decode cX11_claims 18 = .ok (.aload_n 0, 1) := by decide +kernel
theorem dX11_claims_19 : decode cX11_claims 19 = .ok (.getfield 10, 3) := by decide +kernel
theorem dX11_claims_22 : decode cX11_claims 22 = .ok (.aload_n 0, 1) := by decide +kernel
theorem dX11_claims_23 : decode cX11_claims 23 = .ok (.getfield 26, 3) := by decide +kernel
theorem dX11_claims_26 : decode cX11_claims 26 = .ok (.getfield 243, 3) := by decide +kernel
theorem dX11_claims_29 : decode cX11_claims 29 = .ok (.invokevirtual 328, 3) := by decide +kernel
theorem dX11_claims_32 : decode cX11_claims 32 = .ok (.istore_n 1, 1) := by decide +kernel
theorem dX11_claims_33 : decode cX11_claims 33 = .ok (.aload_n 0, 1) := by decide +kernel
theorem dX11_claims_34 : decode cX11_claims 34 = .ok (.getfield 10, 3) := by decide +kernel
theorem dX11_claims_37 : decode cX11_claims 37 = .ok (.invokevirtual 111, 3) := by decide +kernel
theorem dX11_claims_40 : decode cX11_claims 40 = .ok (.iload_n 1, 1) := by decide +kernel
theorem dX11_claims_41 : decode cX11_claims 41 = .ok (.ifCond .ne 11, 3) := by decide +kernel
theorem dX11_claims_44 : decode cX11_claims 44 = .ok (.aload_n 0, 1) := by decide +kernel
theorem dX11_claims_45 : decode cX11_claims 45 = .ok (.getfield 10, 3) := by decide +kernel
theorem dX11_claims_48 : decode cX11_claims 48 = .ok (.invokevirtual 114, 3) := by decide +kernel
theorem dX11_claims_51 : decode cX11_claims 51 = .ok (.ireturn, 1) := by decide +kernel
theorem dX11_claims_52 : decode cX11_claims 52 = .ok (.aload_n 0, 1) := by decide +kernel
theorem dX11_claims_53 : decode cX11_claims 53 = .ok (.getfield 54, 3) := by decide +kernel
theorem dX11_claims_56 : decode cX11_claims 56 = .ok (.aload_n 0, 1) := by decide +kernel
theorem dX11_claims_57 : decode cX11_claims 57 = .ok (.getfield 33, 3) := by decide +kernel
theorem dX11_claims_60 : decode cX11_claims 60 = .ok (.invokevirtual 331, 3) := by decide +kernel
theorem dX11_claims_63 : decode cX11_claims 63 = .ok (.iconst 0, 1) := by decide +kernel
theorem dX11_claims_64 : decode cX11_claims 64 = .ok (.istore_n 2, 1) := by decide +kernel
theorem dX11_claims_65 : decode cX11_claims 65 = .ok (.iconst 0, 1) := by decide +kernel
theorem dX11_claims_66 : decode cX11_claims 66 = .ok (.istore_n 3, 1) := by decide +kernel
theorem dX11_claims_67 : decode cX11_claims 67 = .ok (.iconst 1, 1) := by decide +kernel
theorem dX11_claims_68 : decode cX11_claims 68 = .ok (.istore 4, 2) := by decide +kernel
theorem dX11_claims_70 : decode cX11_claims 70 = .ok (.iload 4, 2) := by decide +kernel
theorem dX11_claims_72 : decode cX11_claims 72 = .ok (.iconst 1, 1) := by decide +kernel
theorem dX11_claims_73 : decode cX11_claims 73 = .ok (.aload_n 0, 1) := by decide +kernel
theorem dX11_claims_74 : decode cX11_claims 74 = .ok (.getfield 54, 3) := by decide +kernel
theorem dX11_claims_77 : decode cX11_claims 77 = .ok (.getfield 334, 3) := by decide +kernel
theorem dX11_claims_80 : decode cX11_claims 80 = .ok (.ishl, 1) := by decide +kernel
theorem dX11_claims_81 : decode cX11_claims 81 = .ok (.if_icmp .ge 40, 3) := by decide +kernel
theorem dX11_claims_84 : decode cX11_claims 84 = .ok (.iload 4, 2) := by decide +kernel
theorem dX11_claims_86 : decode cX11_claims 86 = .ok (.invokestatic 244, 3) := by decide +kernel
theorem dX11_claims_89 : decode cX11_claims 89 = .ok (.istore 5, 2) := by decide +kernel
theorem dX11_claims_91 : decode cX11_claims 91 = .ok (.iload 5, 2) := by decide +kernel
theorem dX11_claims_93 : decode cX11_claims 93 = .ok (.iload_n 3, 1) := by decide +kernel
theorem dX11_claims_94 : decode cX11_claims 94 = .ok (.if_icmp .le 21, 3) := by decide +kernel
theorem dX11_claims_97 : decode cX11_claims 97 = .ok (.aload_n 0, 1) := by decide +kernel
theorem dX11_claims_98 : decode cX11_claims 98 = .ok (.getfield 54, 3) := by decide +kernel
theorem dX11_claims_101 : decode cX11_claims 101 = .ok (.iload 4, 2) := by decide +kernel
theorem dX11_claims_103 : decode cX11_claims 103 = .ok (.invokevirtual 263, 3) := by decide +kernel
theorem dX11_claims_106 : decode cX11_claims 106 = .ok (.ifCond .eq 9, 3) := by decide +kernel
theorem dX11_claims_109 : decode cX11_claims 109 = .ok (.iload 5, 2) := by decide +kernel
theorem dX11_claims_111 : decode cX11_claims 111 = .ok (.istore_n 3, 1) := by decide +kernel
theorem dX11_claims_112 : decode cX11_claims 112 = .ok (.iload 4, 2) := by decide +kernel
theorem dX11_claims_114 : decode cX11_claims 114 = .ok (.istore_n 2, 1) := by decide +kernel
theorem dX11_claims_115 : decode cX11_claims 115 = .ok (.iinc 4 1, 3) := by decide +kernel
theorem dX11_claims_118 : decode cX11_claims 118 = .ok (.goto (-48), 3) := by decide +kernel
theorem dX11_claims_121 : decode cX11_claims 121 = .ok (.aload_n 0, 1) := by decide +kernel
theorem dX11_claims_122 : decode cX11_claims 122 = .ok (.getfield 19, 3) := by decide +kernel
theorem dX11_claims_125 : decode cX11_claims 125 = .ok (.invokevirtual 236, 3) := by decide +kernel
theorem dX11_claims_128 : decode cX11_claims 128 = .ok (.aload_n 0, 1) := by decide +kernel
theorem dX11_claims_129 : decode cX11_claims 129 = .ok (.getfield 19, 3) := by decide +kernel
theorem dX11_claims_132 : decode cX11_claims 132 = .ok (.iload_n 3, 1) := by decide +kernel
theorem dX11_claims_133 : decode cX11_claims 133 = .ok (.i2l, 1) := by decide +kernel
theorem dX11_claims_134 : decode cX11_claims 134 = .ok (.invokevirtual 237, 3) := by decide +kernel
theorem dX11_claims_137 : decode cX11_claims 137 = .ok (.aload_n 0, 1) := by decide +kernel
theorem dX11_claims_138 : decode cX11_claims 138 = .ok (.getfield 19, 3) := by decide +kernel
theorem dX11_claims_141 : decode cX11_claims 141 = .ok (.aload_n 0, 1) := by decide +kernel
theorem dX11_claims_142 : decode cX11_claims 142 = .ok (.getfield 54, 3) := by decide +kernel
theorem dX11_claims_145 : decode cX11_claims 145 = .ok (.getfield 270, 3) := by decide +kernel
theorem dX11_claims_148 : decode cX11_claims 148 = .ok (.iload_n 2, 1) := by decide +kernel
theorem dX11_claims_149 : decode cX11_claims 149 = .ok (.iaload, 1) := by decide +kernel
theorem dX11_claims_150 : decode cX11_claims 150 = .ok (.i2l, 1) := by decide +kernel
theorem dX11_claims_151 : decode cX11_claims 151 = .ok (.invokevirtual 237, 3) := by decide +kernel
theorem dX11_claims_154 : decode cX11_claims 154 = .ok (.iload_n 2, 1) := by decide +kernel
theorem dX11_claims_155 : decode cX11_claims 155 = .ok (.ireturn, 1) := by decide +kernel
def xX11_claims_121 (s_X4_start : zq_Sp) (s_X4_readClaims : zq_Sp) (s_X8_clear : zq_Sp) (s_X8_fault : zq_Sp) (s_X4_spread : zq_Sp) (s_J6_bitCount_0f7a4 : zq_Sp) (s_X4_canServe : zq_Sp) (s_X5_clear : zq_Sp) (s_X5_add : zq_Sp) (J70 : zq_P) (Q : zq_Q) (ls : zq_L) (st : List Value) (h : zq_H) : Prop := (zi_aload 0 (zi_getR 0 3 (zi_callV 0 3 s_X5_clear (zi_aload 0 (zi_getR 0 3 (zi_iload 3 (zi_i2l (zi_callV 1 3 s_X5_add (zi_aload 0 (zi_getR 0 3 (zi_aload 0 (zi_getR 0 22 (zi_getR 22 27 (zi_iload 2 (zi_aldI 27 64 (zi_i2l (zi_callV 1 3 s_X5_add (zi_iload 2 (zi_iret Q))))))))))))))))))) ls st h
theorem kX11_claims_121 {X : zq_X} {d : Nat} (C : zq_C X cX11_claims 6 RX11 d) {d_X4_start : Nat} {s_X4_start : zq_Sp} (h_X4_start : zq_M yX4_start cX4_start 2 none 0 d_X4_start s_X4_start) (g_X4_start : d_X4_start + 1 ≤ d) {d_X4_readClaims : Nat} {s_X4_readClaims : zq_Sp} (h_X4_readClaims : zq_M yX4_readClaims cX4_readClaims 6 (some .boolean) 1 d_X4_readClaims s_X4_readClaims) (g_X4_readClaims : d_X4_readClaims + 1 ≤ d) {d_X8_clear : Nat} {s_X8_clear : zq_Sp} (h_X8_clear : zq_M yX8_clear cX8_clear 1 none 0 d_X8_clear s_X8_clear) (g_X8_clear : d_X8_clear + 1 ≤ d) {d_X8_fault : Nat} {s_X8_fault : zq_Sp} (h_X8_fault : zq_M yX8_fault cX8_fault 1 (some .int) 1 d_X8_fault s_X8_fault) (g_X8_fault : d_X8_fault + 1 ≤ d) {d_X4_spread : Nat} {s_X4_spread : zq_Sp} (h_X4_spread : zq_M yX4_spread cX4_spread 5 none 0 d_X4_spread s_X4_spread) (g_X4_spread : d_X4_spread + 1 ≤ d) {d_J6_bitCount_0f7a4 : Nat} {s_J6_bitCount_0f7a4 : zq_Sp} (h_J6_bitCount_0f7a4 : zq_M yJ6_bitCount_0f7a4 cJ6_bitCount_0f7a4 1 (some .int) 1 d_J6_bitCount_0f7a4 s_J6_bitCount_0f7a4) (g_J6_bitCount_0f7a4 : d_J6_bitCount_0f7a4 + 1 ≤ d) {d_X4_canServe : Nat} {s_X4_canServe : zq_Sp} (h_X4_canServe : zq_M yX4_canServe cX4_canServe 2 (some .boolean) 1 d_X4_canServe s_X4_canServe) (g_X4_canServe : d_X4_canServe + 1 ≤ d) {d_X5_clear : Nat} {s_X5_clear : zq_Sp} (h_X5_clear : zq_M yX5_clear cX5_clear 1 none 0 d_X5_clear s_X5_clear) (g_X5_clear : d_X5_clear + 1 ≤ d) {d_X5_add : Nat} {s_X5_add : zq_Sp} (h_X5_add : zq_M yX5_add cX5_add 3 none 0 d_X5_add s_X5_add) (g_X5_add : d_X5_add + 1 ≤ d) {J70 : zq_P} (j70 : zq_ok X 6 70 J70) {Q : zq_Q} (hq : zq_R X (some .int) 1 Q) : zq_ok X 6 121 (xX11_claims_121 s_X4_start s_X4_readClaims s_X8_clear s_X8_fault s_X4_spread s_J6_bitCount_0f7a4 s_X4_canServe s_X5_clear s_X5_add J70 Q) := by
  refine zs_aload_n C dX11_claims_121 rfl ?_
  refine zs_getR C zp_0 zF11 (j := 1) ⟨by decide, rfl⟩ zw_316 dX11_claims_122 ?_
  refine zs_callV C h_X5_clear g_X5_clear zy_X5_clear zp_3 (show vwCl[5]? = some (RX5, TX5, 2) from rfl) zw_650 zw_651 zs9_X5_clear dX11_claims_125 ?_
  refine zs_aload_n C dX11_claims_128 rfl ?_
  refine zs_getR C zp_0 zF11 (j := 1) ⟨by decide, rfl⟩ zw_316 dX11_claims_129 ?_
  refine zs_iload_n C dX11_claims_132 rfl ?_
  refine zs_i2l C dX11_claims_133 ?_
  refine zs_callV C h_X5_add g_X5_add zy_X5_add zp_3 (show vwCl[5]? = some (RX5, TX5, 2) from rfl) zw_654 zw_655 zs9_X5_add dX11_claims_134 ?_
  refine zs_aload_n C dX11_claims_137 rfl ?_
  refine zs_getR C zp_0 zF11 (j := 1) ⟨by decide, rfl⟩ zw_316 dX11_claims_138 ?_
  refine zs_aload_n C dX11_claims_141 rfl ?_
  refine zs_getR C zp_0 zF11 (j := 6) ⟨by decide, rfl⟩ zw_321 dX11_claims_142 ?_
  refine zs_getRN C zp_22 zF4 (j := 4) ⟨by decide, rfl⟩ zw_182 dX11_claims_145 ?_
  refine zs_iload_n C dX11_claims_148 rfl ?_
  refine zs_iaload C zp_27 dX11_claims_149 ?_
  refine zs_i2l C dX11_claims_150 ?_
  refine zs_callV C h_X5_add g_X5_add zy_X5_add zp_3 (show vwCl[5]? = some (RX5, TX5, 2) from rfl) zw_654 zw_655 zs9_X5_add dX11_claims_151 ?_
  refine zs_iload_n C dX11_claims_154 rfl ?_
  exact zs_iret C hq dX11_claims_155
def xX11_claims_115 (s_X4_start : zq_Sp) (s_X4_readClaims : zq_Sp) (s_X8_clear : zq_Sp) (s_X8_fault : zq_Sp) (s_X4_spread : zq_Sp) (s_J6_bitCount_0f7a4 : zq_Sp) (s_X4_canServe : zq_Sp) (s_X5_clear : zq_Sp) (s_X5_add : zq_Sp) (J70 : zq_P) (Q : zq_Q) (ls : zq_L) (st : List Value) (h : zq_H) : Prop := (zi_iinc 4 1 (J70)) ls st h
theorem kX11_claims_115 {X : zq_X} {d : Nat} (C : zq_C X cX11_claims 6 RX11 d) {d_X4_start : Nat} {s_X4_start : zq_Sp} (h_X4_start : zq_M yX4_start cX4_start 2 none 0 d_X4_start s_X4_start) (g_X4_start : d_X4_start + 1 ≤ d) {d_X4_readClaims : Nat} {s_X4_readClaims : zq_Sp} (h_X4_readClaims : zq_M yX4_readClaims cX4_readClaims 6 (some .boolean) 1 d_X4_readClaims s_X4_readClaims) (g_X4_readClaims : d_X4_readClaims + 1 ≤ d) {d_X8_clear : Nat} {s_X8_clear : zq_Sp} (h_X8_clear : zq_M yX8_clear cX8_clear 1 none 0 d_X8_clear s_X8_clear) (g_X8_clear : d_X8_clear + 1 ≤ d) {d_X8_fault : Nat} {s_X8_fault : zq_Sp} (h_X8_fault : zq_M yX8_fault cX8_fault 1 (some .int) 1 d_X8_fault s_X8_fault) (g_X8_fault : d_X8_fault + 1 ≤ d) {d_X4_spread : Nat} {s_X4_spread : zq_Sp} (h_X4_spread : zq_M yX4_spread cX4_spread 5 none 0 d_X4_spread s_X4_spread) (g_X4_spread : d_X4_spread + 1 ≤ d) {d_J6_bitCount_0f7a4 : Nat} {s_J6_bitCount_0f7a4 : zq_Sp} (h_J6_bitCount_0f7a4 : zq_M yJ6_bitCount_0f7a4 cJ6_bitCount_0f7a4 1 (some .int) 1 d_J6_bitCount_0f7a4 s_J6_bitCount_0f7a4) (g_J6_bitCount_0f7a4 : d_J6_bitCount_0f7a4 + 1 ≤ d) {d_X4_canServe : Nat} {s_X4_canServe : zq_Sp} (h_X4_canServe : zq_M yX4_canServe cX4_canServe 2 (some .boolean) 1 d_X4_canServe s_X4_canServe) (g_X4_canServe : d_X4_canServe + 1 ≤ d) {d_X5_clear : Nat} {s_X5_clear : zq_Sp} (h_X5_clear : zq_M yX5_clear cX5_clear 1 none 0 d_X5_clear s_X5_clear) (g_X5_clear : d_X5_clear + 1 ≤ d) {d_X5_add : Nat} {s_X5_add : zq_Sp} (h_X5_add : zq_M yX5_add cX5_add 3 none 0 d_X5_add s_X5_add) (g_X5_add : d_X5_add + 1 ≤ d) {J70 : zq_P} (j70 : zq_ok X 6 70 J70) {Q : zq_Q} (hq : zq_R X (some .int) 1 Q) : zq_ok X 6 115 (xX11_claims_115 s_X4_start s_X4_readClaims s_X8_clear s_X8_fault s_X4_spread s_J6_bitCount_0f7a4 s_X4_canServe s_X5_clear s_X5_add J70 Q) := by
  refine zs_iinc C dX11_claims_115 (by decide) (by decide) ?_
  exact zs_goto C dX11_claims_118 (by decide) (j70)
def xX11_claims_109 (s_X4_start : zq_Sp) (s_X4_readClaims : zq_Sp) (s_X8_clear : zq_Sp) (s_X8_fault : zq_Sp) (s_X4_spread : zq_Sp) (s_J6_bitCount_0f7a4 : zq_Sp) (s_X4_canServe : zq_Sp) (s_X5_clear : zq_Sp) (s_X5_add : zq_Sp) (J70 : zq_P) (Q : zq_Q) (ls : zq_L) (st : List Value) (h : zq_H) : Prop := (zi_iload 5 (zi_istore 3 (zi_iload 4 (zi_istore 2 ((xX11_claims_115 s_X4_start s_X4_readClaims s_X8_clear s_X8_fault s_X4_spread s_J6_bitCount_0f7a4 s_X4_canServe s_X5_clear s_X5_add J70 Q)))))) ls st h
theorem kX11_claims_109 {X : zq_X} {d : Nat} (C : zq_C X cX11_claims 6 RX11 d) {d_X4_start : Nat} {s_X4_start : zq_Sp} (h_X4_start : zq_M yX4_start cX4_start 2 none 0 d_X4_start s_X4_start) (g_X4_start : d_X4_start + 1 ≤ d) {d_X4_readClaims : Nat} {s_X4_readClaims : zq_Sp} (h_X4_readClaims : zq_M yX4_readClaims cX4_readClaims 6 (some .boolean) 1 d_X4_readClaims s_X4_readClaims) (g_X4_readClaims : d_X4_readClaims + 1 ≤ d) {d_X8_clear : Nat} {s_X8_clear : zq_Sp} (h_X8_clear : zq_M yX8_clear cX8_clear 1 none 0 d_X8_clear s_X8_clear) (g_X8_clear : d_X8_clear + 1 ≤ d) {d_X8_fault : Nat} {s_X8_fault : zq_Sp} (h_X8_fault : zq_M yX8_fault cX8_fault 1 (some .int) 1 d_X8_fault s_X8_fault) (g_X8_fault : d_X8_fault + 1 ≤ d) {d_X4_spread : Nat} {s_X4_spread : zq_Sp} (h_X4_spread : zq_M yX4_spread cX4_spread 5 none 0 d_X4_spread s_X4_spread) (g_X4_spread : d_X4_spread + 1 ≤ d) {d_J6_bitCount_0f7a4 : Nat} {s_J6_bitCount_0f7a4 : zq_Sp} (h_J6_bitCount_0f7a4 : zq_M yJ6_bitCount_0f7a4 cJ6_bitCount_0f7a4 1 (some .int) 1 d_J6_bitCount_0f7a4 s_J6_bitCount_0f7a4) (g_J6_bitCount_0f7a4 : d_J6_bitCount_0f7a4 + 1 ≤ d) {d_X4_canServe : Nat} {s_X4_canServe : zq_Sp} (h_X4_canServe : zq_M yX4_canServe cX4_canServe 2 (some .boolean) 1 d_X4_canServe s_X4_canServe) (g_X4_canServe : d_X4_canServe + 1 ≤ d) {d_X5_clear : Nat} {s_X5_clear : zq_Sp} (h_X5_clear : zq_M yX5_clear cX5_clear 1 none 0 d_X5_clear s_X5_clear) (g_X5_clear : d_X5_clear + 1 ≤ d) {d_X5_add : Nat} {s_X5_add : zq_Sp} (h_X5_add : zq_M yX5_add cX5_add 3 none 0 d_X5_add s_X5_add) (g_X5_add : d_X5_add + 1 ≤ d) {J70 : zq_P} (j70 : zq_ok X 6 70 J70) {Q : zq_Q} (hq : zq_R X (some .int) 1 Q) : zq_ok X 6 109 (xX11_claims_109 s_X4_start s_X4_readClaims s_X8_clear s_X8_fault s_X4_spread s_J6_bitCount_0f7a4 s_X4_canServe s_X5_clear s_X5_add J70 Q) := by
  refine zs_iload C dX11_claims_109 ?_
  refine zs_istore_n C dX11_claims_111 rfl (by decide) ?_
  refine zs_iload C dX11_claims_112 ?_
  refine zs_istore_n C dX11_claims_114 rfl (by decide) ?_
  exact kX11_claims_115 C h_X4_start g_X4_start h_X4_readClaims g_X4_readClaims h_X8_clear g_X8_clear h_X8_fault g_X8_fault h_X4_spread g_X4_spread h_J6_bitCount_0f7a4 g_J6_bitCount_0f7a4 h_X4_canServe g_X4_canServe h_X5_clear g_X5_clear h_X5_add g_X5_add j70 hq
def xX11_claims_97 (s_X4_start : zq_Sp) (s_X4_readClaims : zq_Sp) (s_X8_clear : zq_Sp) (s_X8_fault : zq_Sp) (s_X4_spread : zq_Sp) (s_J6_bitCount_0f7a4 : zq_Sp) (s_X4_canServe : zq_Sp) (s_X5_clear : zq_Sp) (s_X5_add : zq_Sp) (J70 : zq_P) (Q : zq_Q) (ls : zq_L) (st : List Value) (h : zq_H) : Prop := (zi_aload 0 (zi_getR 0 22 (zi_iload 4 (zi_callV 1 22 s_X4_canServe (zi_if1 (fun x => x = 0) (xX11_claims_115 s_X4_start s_X4_readClaims s_X8_clear s_X8_fault s_X4_spread s_J6_bitCount_0f7a4 s_X4_canServe s_X5_clear s_X5_add J70 Q) (xX11_claims_109 s_X4_start s_X4_readClaims s_X8_clear s_X8_fault s_X4_spread s_J6_bitCount_0f7a4 s_X4_canServe s_X5_clear s_X5_add J70 Q)))))) ls st h
theorem kX11_claims_97 {X : zq_X} {d : Nat} (C : zq_C X cX11_claims 6 RX11 d) {d_X4_start : Nat} {s_X4_start : zq_Sp} (h_X4_start : zq_M yX4_start cX4_start 2 none 0 d_X4_start s_X4_start) (g_X4_start : d_X4_start + 1 ≤ d) {d_X4_readClaims : Nat} {s_X4_readClaims : zq_Sp} (h_X4_readClaims : zq_M yX4_readClaims cX4_readClaims 6 (some .boolean) 1 d_X4_readClaims s_X4_readClaims) (g_X4_readClaims : d_X4_readClaims + 1 ≤ d) {d_X8_clear : Nat} {s_X8_clear : zq_Sp} (h_X8_clear : zq_M yX8_clear cX8_clear 1 none 0 d_X8_clear s_X8_clear) (g_X8_clear : d_X8_clear + 1 ≤ d) {d_X8_fault : Nat} {s_X8_fault : zq_Sp} (h_X8_fault : zq_M yX8_fault cX8_fault 1 (some .int) 1 d_X8_fault s_X8_fault) (g_X8_fault : d_X8_fault + 1 ≤ d) {d_X4_spread : Nat} {s_X4_spread : zq_Sp} (h_X4_spread : zq_M yX4_spread cX4_spread 5 none 0 d_X4_spread s_X4_spread) (g_X4_spread : d_X4_spread + 1 ≤ d) {d_J6_bitCount_0f7a4 : Nat} {s_J6_bitCount_0f7a4 : zq_Sp} (h_J6_bitCount_0f7a4 : zq_M yJ6_bitCount_0f7a4 cJ6_bitCount_0f7a4 1 (some .int) 1 d_J6_bitCount_0f7a4 s_J6_bitCount_0f7a4) (g_J6_bitCount_0f7a4 : d_J6_bitCount_0f7a4 + 1 ≤ d) {d_X4_canServe : Nat} {s_X4_canServe : zq_Sp} (h_X4_canServe : zq_M yX4_canServe cX4_canServe 2 (some .boolean) 1 d_X4_canServe s_X4_canServe) (g_X4_canServe : d_X4_canServe + 1 ≤ d) {d_X5_clear : Nat} {s_X5_clear : zq_Sp} (h_X5_clear : zq_M yX5_clear cX5_clear 1 none 0 d_X5_clear s_X5_clear) (g_X5_clear : d_X5_clear + 1 ≤ d) {d_X5_add : Nat} {s_X5_add : zq_Sp} (h_X5_add : zq_M yX5_add cX5_add 3 none 0 d_X5_add s_X5_add) (g_X5_add : d_X5_add + 1 ≤ d) {J70 : zq_P} (j70 : zq_ok X 6 70 J70) {Q : zq_Q} (hq : zq_R X (some .int) 1 Q) : zq_ok X 6 97 (xX11_claims_97 s_X4_start s_X4_readClaims s_X8_clear s_X8_fault s_X4_spread s_J6_bitCount_0f7a4 s_X4_canServe s_X5_clear s_X5_add J70 Q) := by
  refine zs_aload_n C dX11_claims_97 rfl ?_
  refine zs_getR C zp_0 zF11 (j := 6) ⟨by decide, rfl⟩ zw_321 dX11_claims_98 ?_
  refine zs_iload C dX11_claims_101 ?_
  refine zs_callV C h_X4_canServe g_X4_canServe zy_X4_canServe zp_22 (show vwCl[4]? = some (RX4, TX4, 8) from rfl) zw_761 zw_762 zs9_X4_canServe dX11_claims_103 ?_
  exact zs_if_eq C dX11_claims_106 (by decide) (kX11_claims_115 C h_X4_start g_X4_start h_X4_readClaims g_X4_readClaims h_X8_clear g_X8_clear h_X8_fault g_X8_fault h_X4_spread g_X4_spread h_J6_bitCount_0f7a4 g_J6_bitCount_0f7a4 h_X4_canServe g_X4_canServe h_X5_clear g_X5_clear h_X5_add g_X5_add j70 hq) (kX11_claims_109 C h_X4_start g_X4_start h_X4_readClaims g_X4_readClaims h_X8_clear g_X8_clear h_X8_fault g_X8_fault h_X4_spread g_X4_spread h_J6_bitCount_0f7a4 g_J6_bitCount_0f7a4 h_X4_canServe g_X4_canServe h_X5_clear g_X5_clear h_X5_add g_X5_add j70 hq)
def xX11_claims_84 (s_X4_start : zq_Sp) (s_X4_readClaims : zq_Sp) (s_X8_clear : zq_Sp) (s_X8_fault : zq_Sp) (s_X4_spread : zq_Sp) (s_J6_bitCount_0f7a4 : zq_Sp) (s_X4_canServe : zq_Sp) (s_X5_clear : zq_Sp) (s_X5_add : zq_Sp) (J70 : zq_P) (Q : zq_Q) (ls : zq_L) (st : List Value) (h : zq_H) : Prop := (zi_iload 4 (zi_callS 1 s_J6_bitCount_0f7a4 (zi_istore 5 (zi_iload 5 (zi_iload 3 (zi_if2 (fun x y => x ≤ y) (xX11_claims_115 s_X4_start s_X4_readClaims s_X8_clear s_X8_fault s_X4_spread s_J6_bitCount_0f7a4 s_X4_canServe s_X5_clear s_X5_add J70 Q) (xX11_claims_97 s_X4_start s_X4_readClaims s_X8_clear s_X8_fault s_X4_spread s_J6_bitCount_0f7a4 s_X4_canServe s_X5_clear s_X5_add J70 Q))))))) ls st h
theorem kX11_claims_84 {X : zq_X} {d : Nat} (C : zq_C X cX11_claims 6 RX11 d) {d_X4_start : Nat} {s_X4_start : zq_Sp} (h_X4_start : zq_M yX4_start cX4_start 2 none 0 d_X4_start s_X4_start) (g_X4_start : d_X4_start + 1 ≤ d) {d_X4_readClaims : Nat} {s_X4_readClaims : zq_Sp} (h_X4_readClaims : zq_M yX4_readClaims cX4_readClaims 6 (some .boolean) 1 d_X4_readClaims s_X4_readClaims) (g_X4_readClaims : d_X4_readClaims + 1 ≤ d) {d_X8_clear : Nat} {s_X8_clear : zq_Sp} (h_X8_clear : zq_M yX8_clear cX8_clear 1 none 0 d_X8_clear s_X8_clear) (g_X8_clear : d_X8_clear + 1 ≤ d) {d_X8_fault : Nat} {s_X8_fault : zq_Sp} (h_X8_fault : zq_M yX8_fault cX8_fault 1 (some .int) 1 d_X8_fault s_X8_fault) (g_X8_fault : d_X8_fault + 1 ≤ d) {d_X4_spread : Nat} {s_X4_spread : zq_Sp} (h_X4_spread : zq_M yX4_spread cX4_spread 5 none 0 d_X4_spread s_X4_spread) (g_X4_spread : d_X4_spread + 1 ≤ d) {d_J6_bitCount_0f7a4 : Nat} {s_J6_bitCount_0f7a4 : zq_Sp} (h_J6_bitCount_0f7a4 : zq_M yJ6_bitCount_0f7a4 cJ6_bitCount_0f7a4 1 (some .int) 1 d_J6_bitCount_0f7a4 s_J6_bitCount_0f7a4) (g_J6_bitCount_0f7a4 : d_J6_bitCount_0f7a4 + 1 ≤ d) {d_X4_canServe : Nat} {s_X4_canServe : zq_Sp} (h_X4_canServe : zq_M yX4_canServe cX4_canServe 2 (some .boolean) 1 d_X4_canServe s_X4_canServe) (g_X4_canServe : d_X4_canServe + 1 ≤ d) {d_X5_clear : Nat} {s_X5_clear : zq_Sp} (h_X5_clear : zq_M yX5_clear cX5_clear 1 none 0 d_X5_clear s_X5_clear) (g_X5_clear : d_X5_clear + 1 ≤ d) {d_X5_add : Nat} {s_X5_add : zq_Sp} (h_X5_add : zq_M yX5_add cX5_add 3 none 0 d_X5_add s_X5_add) (g_X5_add : d_X5_add + 1 ≤ d) {J70 : zq_P} (j70 : zq_ok X 6 70 J70) {Q : zq_Q} (hq : zq_R X (some .int) 1 Q) : zq_ok X 6 84 (xX11_claims_84 s_X4_start s_X4_readClaims s_X8_clear s_X8_fault s_X4_spread s_J6_bitCount_0f7a4 s_X4_canServe s_X5_clear s_X5_add J70 Q) := by
  refine zs_iload C dX11_claims_84 ?_
  refine zs_callS C h_J6_bitCount_0f7a4 g_J6_bitCount_0f7a4 zy_J6_bitCount_0f7a4 zw_695 zw_696 dX11_claims_86 ?_
  refine zs_istore C dX11_claims_89 (by decide) ?_
  refine zs_iload C dX11_claims_91 ?_
  refine zs_iload_n C dX11_claims_93 rfl ?_
  exact zs_icmp_le C dX11_claims_94 (by decide) (kX11_claims_115 C h_X4_start g_X4_start h_X4_readClaims g_X4_readClaims h_X8_clear g_X8_clear h_X8_fault g_X8_fault h_X4_spread g_X4_spread h_J6_bitCount_0f7a4 g_J6_bitCount_0f7a4 h_X4_canServe g_X4_canServe h_X5_clear g_X5_clear h_X5_add g_X5_add j70 hq) (kX11_claims_97 C h_X4_start g_X4_start h_X4_readClaims g_X4_readClaims h_X8_clear g_X8_clear h_X8_fault g_X8_fault h_X4_spread g_X4_spread h_J6_bitCount_0f7a4 g_J6_bitCount_0f7a4 h_X4_canServe g_X4_canServe h_X5_clear g_X5_clear h_X5_add g_X5_add j70 hq)
def xX11_claims_70 (s_X4_start : zq_Sp) (s_X4_readClaims : zq_Sp) (s_X8_clear : zq_Sp) (s_X8_fault : zq_Sp) (s_X4_spread : zq_Sp) (s_J6_bitCount_0f7a4 : zq_Sp) (s_X4_canServe : zq_Sp) (s_X5_clear : zq_Sp) (s_X5_add : zq_Sp) (J70 : zq_P) (Q : zq_Q) (ls : zq_L) (st : List Value) (h : zq_H) : Prop := (zi_iload 4 (zi_push (.int 1) (zi_aload 0 (zi_getR 0 22 (zi_getI 22 6 (zi_i2 zf_shl (zi_if2 (fun x y => y ≤ x) (xX11_claims_121 s_X4_start s_X4_readClaims s_X8_clear s_X8_fault s_X4_spread s_J6_bitCount_0f7a4 s_X4_canServe s_X5_clear s_X5_add J70 Q) (xX11_claims_84 s_X4_start s_X4_readClaims s_X8_clear s_X8_fault s_X4_spread s_J6_bitCount_0f7a4 s_X4_canServe s_X5_clear s_X5_add J70 Q)))))))) ls st h
theorem kX11_claims_70 {X : zq_X} {d : Nat} (C : zq_C X cX11_claims 6 RX11 d) {d_X4_start : Nat} {s_X4_start : zq_Sp} (h_X4_start : zq_M yX4_start cX4_start 2 none 0 d_X4_start s_X4_start) (g_X4_start : d_X4_start + 1 ≤ d) {d_X4_readClaims : Nat} {s_X4_readClaims : zq_Sp} (h_X4_readClaims : zq_M yX4_readClaims cX4_readClaims 6 (some .boolean) 1 d_X4_readClaims s_X4_readClaims) (g_X4_readClaims : d_X4_readClaims + 1 ≤ d) {d_X8_clear : Nat} {s_X8_clear : zq_Sp} (h_X8_clear : zq_M yX8_clear cX8_clear 1 none 0 d_X8_clear s_X8_clear) (g_X8_clear : d_X8_clear + 1 ≤ d) {d_X8_fault : Nat} {s_X8_fault : zq_Sp} (h_X8_fault : zq_M yX8_fault cX8_fault 1 (some .int) 1 d_X8_fault s_X8_fault) (g_X8_fault : d_X8_fault + 1 ≤ d) {d_X4_spread : Nat} {s_X4_spread : zq_Sp} (h_X4_spread : zq_M yX4_spread cX4_spread 5 none 0 d_X4_spread s_X4_spread) (g_X4_spread : d_X4_spread + 1 ≤ d) {d_J6_bitCount_0f7a4 : Nat} {s_J6_bitCount_0f7a4 : zq_Sp} (h_J6_bitCount_0f7a4 : zq_M yJ6_bitCount_0f7a4 cJ6_bitCount_0f7a4 1 (some .int) 1 d_J6_bitCount_0f7a4 s_J6_bitCount_0f7a4) (g_J6_bitCount_0f7a4 : d_J6_bitCount_0f7a4 + 1 ≤ d) {d_X4_canServe : Nat} {s_X4_canServe : zq_Sp} (h_X4_canServe : zq_M yX4_canServe cX4_canServe 2 (some .boolean) 1 d_X4_canServe s_X4_canServe) (g_X4_canServe : d_X4_canServe + 1 ≤ d) {d_X5_clear : Nat} {s_X5_clear : zq_Sp} (h_X5_clear : zq_M yX5_clear cX5_clear 1 none 0 d_X5_clear s_X5_clear) (g_X5_clear : d_X5_clear + 1 ≤ d) {d_X5_add : Nat} {s_X5_add : zq_Sp} (h_X5_add : zq_M yX5_add cX5_add 3 none 0 d_X5_add s_X5_add) (g_X5_add : d_X5_add + 1 ≤ d) {J70 : zq_P} (j70 : zq_ok X 6 70 J70) {Q : zq_Q} (hq : zq_R X (some .int) 1 Q) : zq_ok X 6 70 (xX11_claims_70 s_X4_start s_X4_readClaims s_X8_clear s_X8_fault s_X4_spread s_J6_bitCount_0f7a4 s_X4_canServe s_X5_clear s_X5_add J70 Q) := by
  refine zs_iload C dX11_claims_70 ?_
  refine zs_iconst C dX11_claims_72 (by decide) ?_
  refine zs_aload_n C dX11_claims_73 rfl ?_
  refine zs_getR C zp_0 zF11 (j := 6) ⟨by decide, rfl⟩ zw_321 dX11_claims_74 ?_
  refine zs_getIN C zp_22 zF4 (j := 6) ⟨by decide, rfl⟩ zw_185 dX11_claims_77 ?_
  refine zs_ishl C dX11_claims_80 ?_
  exact zs_icmp_ge C dX11_claims_81 (by decide) (kX11_claims_121 C h_X4_start g_X4_start h_X4_readClaims g_X4_readClaims h_X8_clear g_X8_clear h_X8_fault g_X8_fault h_X4_spread g_X4_spread h_J6_bitCount_0f7a4 g_J6_bitCount_0f7a4 h_X4_canServe g_X4_canServe h_X5_clear g_X5_clear h_X5_add g_X5_add j70 hq) (kX11_claims_84 C h_X4_start g_X4_start h_X4_readClaims g_X4_readClaims h_X8_clear g_X8_clear h_X8_fault g_X8_fault h_X4_spread g_X4_spread h_J6_bitCount_0f7a4 g_J6_bitCount_0f7a4 h_X4_canServe g_X4_canServe h_X5_clear g_X5_clear h_X5_add g_X5_add j70 hq)
def xX11_claims_52 (s_X4_start : zq_Sp) (s_X4_readClaims : zq_Sp) (s_X8_clear : zq_Sp) (s_X8_fault : zq_Sp) (s_X4_spread : zq_Sp) (s_J6_bitCount_0f7a4 : zq_Sp) (s_X4_canServe : zq_Sp) (s_X5_clear : zq_Sp) (s_X5_add : zq_Sp) (J70 : zq_P) (Q : zq_Q) (ls : zq_L) (st : List Value) (h : zq_H) : Prop := (zi_aload 0 (zi_getR 0 22 (zi_aload 0 (zi_getR 0 9 (zi_callV 1 22 s_X4_spread (zi_push (.int 0) (zi_istore 2 (zi_push (.int 0) (zi_istore 3 (zi_push (.int 1) (zi_istore 4 (J70)))))))))))) ls st h
theorem kX11_claims_52 {X : zq_X} {d : Nat} (C : zq_C X cX11_claims 6 RX11 d) {d_X4_start : Nat} {s_X4_start : zq_Sp} (h_X4_start : zq_M yX4_start cX4_start 2 none 0 d_X4_start s_X4_start) (g_X4_start : d_X4_start + 1 ≤ d) {d_X4_readClaims : Nat} {s_X4_readClaims : zq_Sp} (h_X4_readClaims : zq_M yX4_readClaims cX4_readClaims 6 (some .boolean) 1 d_X4_readClaims s_X4_readClaims) (g_X4_readClaims : d_X4_readClaims + 1 ≤ d) {d_X8_clear : Nat} {s_X8_clear : zq_Sp} (h_X8_clear : zq_M yX8_clear cX8_clear 1 none 0 d_X8_clear s_X8_clear) (g_X8_clear : d_X8_clear + 1 ≤ d) {d_X8_fault : Nat} {s_X8_fault : zq_Sp} (h_X8_fault : zq_M yX8_fault cX8_fault 1 (some .int) 1 d_X8_fault s_X8_fault) (g_X8_fault : d_X8_fault + 1 ≤ d) {d_X4_spread : Nat} {s_X4_spread : zq_Sp} (h_X4_spread : zq_M yX4_spread cX4_spread 5 none 0 d_X4_spread s_X4_spread) (g_X4_spread : d_X4_spread + 1 ≤ d) {d_J6_bitCount_0f7a4 : Nat} {s_J6_bitCount_0f7a4 : zq_Sp} (h_J6_bitCount_0f7a4 : zq_M yJ6_bitCount_0f7a4 cJ6_bitCount_0f7a4 1 (some .int) 1 d_J6_bitCount_0f7a4 s_J6_bitCount_0f7a4) (g_J6_bitCount_0f7a4 : d_J6_bitCount_0f7a4 + 1 ≤ d) {d_X4_canServe : Nat} {s_X4_canServe : zq_Sp} (h_X4_canServe : zq_M yX4_canServe cX4_canServe 2 (some .boolean) 1 d_X4_canServe s_X4_canServe) (g_X4_canServe : d_X4_canServe + 1 ≤ d) {d_X5_clear : Nat} {s_X5_clear : zq_Sp} (h_X5_clear : zq_M yX5_clear cX5_clear 1 none 0 d_X5_clear s_X5_clear) (g_X5_clear : d_X5_clear + 1 ≤ d) {d_X5_add : Nat} {s_X5_add : zq_Sp} (h_X5_add : zq_M yX5_add cX5_add 3 none 0 d_X5_add s_X5_add) (g_X5_add : d_X5_add + 1 ≤ d) {J70 : zq_P} (j70 : zq_ok X 6 70 J70) {Q : zq_Q} (hq : zq_R X (some .int) 1 Q) : zq_ok X 6 52 (xX11_claims_52 s_X4_start s_X4_readClaims s_X8_clear s_X8_fault s_X4_spread s_J6_bitCount_0f7a4 s_X4_canServe s_X5_clear s_X5_add J70 Q) := by
  refine zs_aload_n C dX11_claims_52 rfl ?_
  refine zs_getR C zp_0 zF11 (j := 6) ⟨by decide, rfl⟩ zw_321 dX11_claims_53 ?_
  refine zs_aload_n C dX11_claims_56 rfl ?_
  refine zs_getR C zp_0 zF11 (j := 3) ⟨by decide, rfl⟩ zw_318 dX11_claims_57 ?_
  refine zs_callV C h_X4_spread g_X4_spread zy_X4_spread zp_22 (show vwCl[4]? = some (RX4, TX4, 8) from rfl) zw_747 zw_748 zs9_X4_spread dX11_claims_60 ?_
  refine zs_iconst C dX11_claims_63 (by decide) ?_
  refine zs_istore_n C dX11_claims_64 rfl (by decide) ?_
  refine zs_iconst C dX11_claims_65 (by decide) ?_
  refine zs_istore_n C dX11_claims_66 rfl (by decide) ?_
  refine zs_iconst C dX11_claims_67 (by decide) ?_
  refine zs_istore C dX11_claims_68 (by decide) ?_
  exact j70
def xX11_claims_44 (s_X4_start : zq_Sp) (s_X4_readClaims : zq_Sp) (s_X8_clear : zq_Sp) (s_X8_fault : zq_Sp) (s_X4_spread : zq_Sp) (s_J6_bitCount_0f7a4 : zq_Sp) (s_X4_canServe : zq_Sp) (s_X5_clear : zq_Sp) (s_X5_add : zq_Sp) (J70 : zq_P) (Q : zq_Q) (ls : zq_L) (st : List Value) (h : zq_H) : Prop := (zi_aload 0 (zi_getR 0 1 (zi_callV 0 1 s_X8_fault (zi_iret Q)))) ls st h
theorem kX11_claims_44 {X : zq_X} {d : Nat} (C : zq_C X cX11_claims 6 RX11 d) {d_X4_start : Nat} {s_X4_start : zq_Sp} (h_X4_start : zq_M yX4_start cX4_start 2 none 0 d_X4_start s_X4_start) (g_X4_start : d_X4_start + 1 ≤ d) {d_X4_readClaims : Nat} {s_X4_readClaims : zq_Sp} (h_X4_readClaims : zq_M yX4_readClaims cX4_readClaims 6 (some .boolean) 1 d_X4_readClaims s_X4_readClaims) (g_X4_readClaims : d_X4_readClaims + 1 ≤ d) {d_X8_clear : Nat} {s_X8_clear : zq_Sp} (h_X8_clear : zq_M yX8_clear cX8_clear 1 none 0 d_X8_clear s_X8_clear) (g_X8_clear : d_X8_clear + 1 ≤ d) {d_X8_fault : Nat} {s_X8_fault : zq_Sp} (h_X8_fault : zq_M yX8_fault cX8_fault 1 (some .int) 1 d_X8_fault s_X8_fault) (g_X8_fault : d_X8_fault + 1 ≤ d) {d_X4_spread : Nat} {s_X4_spread : zq_Sp} (h_X4_spread : zq_M yX4_spread cX4_spread 5 none 0 d_X4_spread s_X4_spread) (g_X4_spread : d_X4_spread + 1 ≤ d) {d_J6_bitCount_0f7a4 : Nat} {s_J6_bitCount_0f7a4 : zq_Sp} (h_J6_bitCount_0f7a4 : zq_M yJ6_bitCount_0f7a4 cJ6_bitCount_0f7a4 1 (some .int) 1 d_J6_bitCount_0f7a4 s_J6_bitCount_0f7a4) (g_J6_bitCount_0f7a4 : d_J6_bitCount_0f7a4 + 1 ≤ d) {d_X4_canServe : Nat} {s_X4_canServe : zq_Sp} (h_X4_canServe : zq_M yX4_canServe cX4_canServe 2 (some .boolean) 1 d_X4_canServe s_X4_canServe) (g_X4_canServe : d_X4_canServe + 1 ≤ d) {d_X5_clear : Nat} {s_X5_clear : zq_Sp} (h_X5_clear : zq_M yX5_clear cX5_clear 1 none 0 d_X5_clear s_X5_clear) (g_X5_clear : d_X5_clear + 1 ≤ d) {d_X5_add : Nat} {s_X5_add : zq_Sp} (h_X5_add : zq_M yX5_add cX5_add 3 none 0 d_X5_add s_X5_add) (g_X5_add : d_X5_add + 1 ≤ d) {J70 : zq_P} (j70 : zq_ok X 6 70 J70) {Q : zq_Q} (hq : zq_R X (some .int) 1 Q) : zq_ok X 6 44 (xX11_claims_44 s_X4_start s_X4_readClaims s_X8_clear s_X8_fault s_X4_spread s_J6_bitCount_0f7a4 s_X4_canServe s_X5_clear s_X5_add J70 Q) := by
  refine zs_aload_n C dX11_claims_44 rfl ?_
  refine zs_getR C zp_0 zF11 (j := 0) ⟨by decide, rfl⟩ zw_315 dX11_claims_45 ?_
  refine zs_callV C h_X8_fault g_X8_fault zy_X8_fault zp_1 (show vwCl[8]? = some (RX8, TX8, 4) from rfl) zw_419 zw_420 zs9_X8_fault dX11_claims_48 ?_
  exact zs_iret C hq dX11_claims_51
def xX11_claims_0 (s_X4_start : zq_Sp) (s_X4_readClaims : zq_Sp) (s_X8_clear : zq_Sp) (s_X8_fault : zq_Sp) (s_X4_spread : zq_Sp) (s_J6_bitCount_0f7a4 : zq_Sp) (s_X4_canServe : zq_Sp) (s_X5_clear : zq_Sp) (s_X5_add : zq_Sp) (J70 : zq_P) (Q : zq_Q) (ls : zq_L) (st : List Value) (h : zq_H) : Prop := (zi_aload 0 (zi_getR 0 22 (zi_aload 0 (zi_getR 0 40 (zi_getI 40 3 (zi_callV 1 22 s_X4_start (zi_aload 0 (zi_getR 0 22 (zi_aload 0 (zi_getR 0 1 (zi_aload 0 (zi_getR 0 5 (zi_getI 5 3 (zi_callV 2 22 s_X4_readClaims (zi_istore 1 (zi_aload 0 (zi_getR 0 1 (zi_callV 0 1 s_X8_clear (zi_iload 1 (zi_if1 (fun x => x = 0) (xX11_claims_44 s_X4_start s_X4_readClaims s_X8_clear s_X8_fault s_X4_spread s_J6_bitCount_0f7a4 s_X4_canServe s_X5_clear s_X5_add J70 Q) (xX11_claims_52 s_X4_start s_X4_readClaims s_X8_clear s_X8_fault s_X4_spread s_J6_bitCount_0f7a4 s_X4_canServe s_X5_clear s_X5_add J70 Q))))))))))))))))))))) ls st h
theorem kX11_claims_0 {X : zq_X} {d : Nat} (C : zq_C X cX11_claims 6 RX11 d) {d_X4_start : Nat} {s_X4_start : zq_Sp} (h_X4_start : zq_M yX4_start cX4_start 2 none 0 d_X4_start s_X4_start) (g_X4_start : d_X4_start + 1 ≤ d) {d_X4_readClaims : Nat} {s_X4_readClaims : zq_Sp} (h_X4_readClaims : zq_M yX4_readClaims cX4_readClaims 6 (some .boolean) 1 d_X4_readClaims s_X4_readClaims) (g_X4_readClaims : d_X4_readClaims + 1 ≤ d) {d_X8_clear : Nat} {s_X8_clear : zq_Sp} (h_X8_clear : zq_M yX8_clear cX8_clear 1 none 0 d_X8_clear s_X8_clear) (g_X8_clear : d_X8_clear + 1 ≤ d) {d_X8_fault : Nat} {s_X8_fault : zq_Sp} (h_X8_fault : zq_M yX8_fault cX8_fault 1 (some .int) 1 d_X8_fault s_X8_fault) (g_X8_fault : d_X8_fault + 1 ≤ d) {d_X4_spread : Nat} {s_X4_spread : zq_Sp} (h_X4_spread : zq_M yX4_spread cX4_spread 5 none 0 d_X4_spread s_X4_spread) (g_X4_spread : d_X4_spread + 1 ≤ d) {d_J6_bitCount_0f7a4 : Nat} {s_J6_bitCount_0f7a4 : zq_Sp} (h_J6_bitCount_0f7a4 : zq_M yJ6_bitCount_0f7a4 cJ6_bitCount_0f7a4 1 (some .int) 1 d_J6_bitCount_0f7a4 s_J6_bitCount_0f7a4) (g_J6_bitCount_0f7a4 : d_J6_bitCount_0f7a4 + 1 ≤ d) {d_X4_canServe : Nat} {s_X4_canServe : zq_Sp} (h_X4_canServe : zq_M yX4_canServe cX4_canServe 2 (some .boolean) 1 d_X4_canServe s_X4_canServe) (g_X4_canServe : d_X4_canServe + 1 ≤ d) {d_X5_clear : Nat} {s_X5_clear : zq_Sp} (h_X5_clear : zq_M yX5_clear cX5_clear 1 none 0 d_X5_clear s_X5_clear) (g_X5_clear : d_X5_clear + 1 ≤ d) {d_X5_add : Nat} {s_X5_add : zq_Sp} (h_X5_add : zq_M yX5_add cX5_add 3 none 0 d_X5_add s_X5_add) (g_X5_add : d_X5_add + 1 ≤ d) {J70 : zq_P} (j70 : zq_ok X 6 70 J70) {Q : zq_Q} (hq : zq_R X (some .int) 1 Q) : zq_ok X 6 0 (xX11_claims_0 s_X4_start s_X4_readClaims s_X8_clear s_X8_fault s_X4_spread s_J6_bitCount_0f7a4 s_X4_canServe s_X5_clear s_X5_add J70 Q) := by
  refine zs_aload_n C dX11_claims_0 rfl ?_
  refine zs_getR C zp_0 zF11 (j := 6) ⟨by decide, rfl⟩ zw_321 dX11_claims_1 ?_
  refine zs_aload_n C dX11_claims_4 rfl ?_
  refine zs_getR C zp_0 zF11 (j := 11) ⟨by decide, rfl⟩ zw_326 dX11_claims_5 ?_
  refine zs_getIN C zp_40 zF2 (j := 3) ⟨by decide, rfl⟩ zw_273 dX11_claims_8 ?_
  refine zs_callV C h_X4_start g_X4_start zy_X4_start zp_22 (show vwCl[4]? = some (RX4, TX4, 8) from rfl) zw_738 zw_739 zs9_X4_start dX11_claims_11 ?_
  refine zs_aload_n C dX11_claims_14 rfl ?_
  refine zs_getR C zp_0 zF11 (j := 6) ⟨by decide, rfl⟩ zw_321 dX11_claims_15 ?_
  refine zs_aload_n C dX11_claims_18 rfl ?_
  refine zs_getR C zp_0 zF11 (j := 0) ⟨by decide, rfl⟩ zw_315 dX11_claims_19 ?_
  refine zs_aload_n C dX11_claims_22 rfl ?_
  refine zs_getR C zp_0 zF11 (j := 2) ⟨by decide, rfl⟩ zw_317 dX11_claims_23 ?_
  refine zs_getIN C zp_5 zF3 (j := 3) ⟨by decide, rfl⟩ zw_85 dX11_claims_26 ?_
  refine zs_callV C h_X4_readClaims g_X4_readClaims zy_X4_readClaims zp_22 (show vwCl[4]? = some (RX4, TX4, 8) from rfl) zw_927 zw_928 zs9_X4_readClaims dX11_claims_29 ?_
  refine zs_istore_n C dX11_claims_32 rfl (by decide) ?_
  refine zs_aload_n C dX11_claims_33 rfl ?_
  refine zs_getR C zp_0 zF11 (j := 0) ⟨by decide, rfl⟩ zw_315 dX11_claims_34 ?_
  refine zs_callV C h_X8_clear g_X8_clear zy_X8_clear zp_1 (show vwCl[8]? = some (RX8, TX8, 4) from rfl) zw_415 zw_416 zs9_X8_clear dX11_claims_37 ?_
  refine zs_iload_n C dX11_claims_40 rfl ?_
  exact zs_if_ne C dX11_claims_41 (by decide) (kX11_claims_52 C h_X4_start g_X4_start h_X4_readClaims g_X4_readClaims h_X8_clear g_X8_clear h_X8_fault g_X8_fault h_X4_spread g_X4_spread h_J6_bitCount_0f7a4 g_J6_bitCount_0f7a4 h_X4_canServe g_X4_canServe h_X5_clear g_X5_clear h_X5_add g_X5_add j70 hq) (kX11_claims_44 C h_X4_start g_X4_start h_X4_readClaims g_X4_readClaims h_X8_clear g_X8_clear h_X8_fault g_X8_fault h_X4_spread g_X4_spread h_J6_bitCount_0f7a4 g_J6_bitCount_0f7a4 h_X4_canServe g_X4_canServe h_X5_clear g_X5_clear h_X5_add g_X5_add j70 hq)
theorem mX11_claims {d : Nat} {spec : zq_Sp} {σ70 : Type} {d_X4_start : Nat} {s_X4_start : zq_Sp} (h_X4_start : zq_M yX4_start cX4_start 2 none 0 d_X4_start s_X4_start) (g_X4_start : d_X4_start + 1 ≤ d) {d_X4_readClaims : Nat} {s_X4_readClaims : zq_Sp} (h_X4_readClaims : zq_M yX4_readClaims cX4_readClaims 6 (some .boolean) 1 d_X4_readClaims s_X4_readClaims) (g_X4_readClaims : d_X4_readClaims + 1 ≤ d) {d_X8_clear : Nat} {s_X8_clear : zq_Sp} (h_X8_clear : zq_M yX8_clear cX8_clear 1 none 0 d_X8_clear s_X8_clear) (g_X8_clear : d_X8_clear + 1 ≤ d) {d_X8_fault : Nat} {s_X8_fault : zq_Sp} (h_X8_fault : zq_M yX8_fault cX8_fault 1 (some .int) 1 d_X8_fault s_X8_fault) (g_X8_fault : d_X8_fault + 1 ≤ d) {d_X4_spread : Nat} {s_X4_spread : zq_Sp} (h_X4_spread : zq_M yX4_spread cX4_spread 5 none 0 d_X4_spread s_X4_spread) (g_X4_spread : d_X4_spread + 1 ≤ d) {d_J6_bitCount_0f7a4 : Nat} {s_J6_bitCount_0f7a4 : zq_Sp} (h_J6_bitCount_0f7a4 : zq_M yJ6_bitCount_0f7a4 cJ6_bitCount_0f7a4 1 (some .int) 1 d_J6_bitCount_0f7a4 s_J6_bitCount_0f7a4) (g_J6_bitCount_0f7a4 : d_J6_bitCount_0f7a4 + 1 ≤ d) {d_X4_canServe : Nat} {s_X4_canServe : zq_Sp} (h_X4_canServe : zq_M yX4_canServe cX4_canServe 2 (some .boolean) 1 d_X4_canServe s_X4_canServe) (g_X4_canServe : d_X4_canServe + 1 ≤ d) {d_X5_clear : Nat} {s_X5_clear : zq_Sp} (h_X5_clear : zq_M yX5_clear cX5_clear 1 none 0 d_X5_clear s_X5_clear) (g_X5_clear : d_X5_clear + 1 ≤ d) {d_X5_add : Nat} {s_X5_add : zq_Sp} (h_X5_add : zq_M yX5_add cX5_add 3 none 0 d_X5_add s_X5_add) (g_X5_add : d_X5_add + 1 ≤ d) (μ70 : σ70 → Nat) (I70 : zq_Q → σ70 → zq_P) (v : ∀ args h Q, spec args h Q → (zq_a args).length ≤ 6 ∧ xX11_claims_0 s_X4_start s_X4_readClaims s_X8_clear s_X8_fault s_X4_spread s_J6_bitCount_0f7a4 s_X4_canServe s_X5_clear s_X5_add (fun ls st h => ∃ b, I70 Q b ls st h) Q (zq_l0 6 args) [] h) (v70 : ∀ Q a ls st h, I70 Q a ls st h → xX11_claims_70 s_X4_start s_X4_readClaims s_X8_clear s_X8_fault s_X4_spread s_J6_bitCount_0f7a4 s_X4_canServe s_X5_clear s_X5_add (fun ls st h => ∃ b, μ70 b < μ70 a ∧ I70 Q b ls st h) Q ls st h) : zq_M yX11_claims cX11_claims 6 (some .int) 1 d spec := by
  refine zq_met (by decide +kernel) (by decide) (fun X Q args h C hq hs => ⟨(v args h Q hs).1, _, ?_, (v args h Q hs).2⟩)
  have hl := zq_loop1 (X := X) (nL := 6) (pc1 := 70) μ70 (I70 Q) (fun J70 => xX11_claims_70 s_X4_start s_X4_readClaims s_X8_clear s_X8_fault s_X4_spread s_J6_bitCount_0f7a4 s_X4_canServe s_X5_clear s_X5_add J70 Q) (fun j70 => kX11_claims_70 C h_X4_start g_X4_start h_X4_readClaims g_X4_readClaims h_X8_clear g_X8_clear h_X8_fault g_X8_fault h_X4_spread g_X4_spread h_J6_bitCount_0f7a4 g_J6_bitCount_0f7a4 h_X4_canServe g_X4_canServe h_X5_clear g_X5_clear h_X5_add g_X5_add j70 hq) (v70 Q)
  exact kX11_claims_0 C h_X4_start g_X4_start h_X4_readClaims g_X4_readClaims h_X8_clear g_X8_clear h_X8_fault g_X8_fault h_X4_spread g_X4_spread h_J6_bitCount_0f7a4 g_J6_bitCount_0f7a4 h_X4_canServe g_X4_canServe h_X5_clear g_X5_clear h_X5_add g_X5_add hl hq
/-! ToOneCrumb.settle(II)I -/
theorem dX11_settle_0 : decode cX11_settle 0 = .ok (.iload_n 1, 1) := by decide +kernel
theorem dX11_settle_1 : decode cX11_settle 1 = .ok (.ifCond .lt 21, 3) := by decide +kernel
theorem dX11_settle_4 : decode cX11_settle 4 = .ok (.iload_n 1, 1) := by decide +kernel
theorem dX11_settle_5 : decode cX11_settle 5 = .ok (.sipush 999, 3) := by decide +kernel
theorem dX11_settle_8 : decode cX11_settle 8 = .ok (.if_icmp .gt 14, 3) := by decide +kernel
theorem dX11_settle_11 : decode cX11_settle 11 = .ok (.iload_n 2, 1) := by decide +kernel
theorem dX11_settle_12 : decode cX11_settle 12 = .ok (.ifCond .lt 10, 3) := by decide +kernel
theorem dX11_settle_15 : decode cX11_settle 15 = .ok (.iload_n 2, 1) := by decide +kernel
theorem dX11_settle_16 : decode cX11_settle 16 = .ok (.sipush 999, 3) := by decide +kernel
theorem dX11_settle_19 : decode cX11_settle 19 = .ok (.if_icmp .le 5, 3) := by decide +kernel
theorem dX11_settle_22 : decode cX11_settle 22 = .ok (.iconst (-1), 1) := by decide +kernel
theorem dX11_settle_23 : decode cX11_settle 23 = .ok (.ireturn, 1) := by decide +kernel
theorem dX11_settle_24 : decode cX11_settle 24 = .ok (.iload_n 1, 1) := by decide +kernel
theorem dX11_settle_25 : decode cX11_settle 25 = .ok (.iload_n 2, 1) := by decide +kernel
theorem dX11_settle_26 : decode cX11_settle 26 = .ok (.invokestatic 337, 3) := by decide +kernel
theorem dX11_settle_29 : decode cX11_settle 29 = .ok (.istore_n 3, 1) := by decide +kernel
theorem dX11_settle_30 : decode cX11_settle 30 = .ok (.iload_n 1, 1) := by decide +kernel
theorem dX11_settle_31 : decode cX11_settle 31 = .ok (.iload_n 2, 1) := by decide +kernel
theorem dX11_settle_32 : decode cX11_settle 32 = .ok (.invokestatic 340, 3) := by decide +kernel
theorem dX11_settle_35 : decode cX11_settle 35 = .ok (.istore 4, 2) := by decide +kernel
theorem dX11_settle_37 : decode cX11_settle 37 = .ok (.iload_n 1, 1) := by decide +kernel
theorem dX11_settle_38 : decode cX11_settle 38 = .ok (.iload_n 2, 1) := by decide +kernel
theorem dX11_settle_39 : decode cX11_settle 39 = .ok (.if_icmp .gt 7, 3) := by decide +kernel
theorem dX11_settle_42 : decode cX11_settle 42 = .ok (.iconst 1, 1) := by decide +kernel
theorem dX11_settle_43 : decode cX11_settle 43 = .ok (.goto 4, 3) := by decide +kernel
theorem dX11_settle_46 : decode cX11_settle 46 = .ok (.iconst 0, 1) := by decide +kernel
theorem dX11_settle_47 : decode cX11_settle 47 = .ok (.istore 5, 2) := by decide +kernel
theorem dX11_settle_49 : decode cX11_settle 49 = .ok (.iconst 0, 1) := by decide +kernel
theorem dX11_settle_50 : decode cX11_settle 50 = .ok (.istore 6, 2) := by decide +kernel
theorem dX11_settle_52 : decode cX11_settle 52 = .ok (.iload 6, 2) := by decide +kernel
theorem dX11_settle_54 : decode cX11_settle 54 = .ok (.sipush 999, 3) := by decide +kernel
theorem dX11_settle_57 : decode cX11_settle 57 = .ok (.if_icmp .gt 75, 3) := by decide +kernel
theorem dX11_settle_60 : decode cX11_settle 60 = .ok (.iload 4, 2) := by decide +kernel
theorem dX11_settle_62 : decode cX11_settle 62 = .ok (.iload_n 3, 1) := by decide +kernel
theorem dX11_settle_63 : decode cX11_settle 63 = .ok (.isub, 1) := by decide +kernel
theorem dX11_settle_64 : decode cX11_settle 64 = .ok (.invokestatic 286, 3) := by decide +kernel
theorem dX11_settle_67 : decode cX11_settle 67 = .ok (.iconst 1, 1) := by decide +kernel
theorem dX11_settle_68 : decode cX11_settle 68 = .ok (.if_icmp .le 64, 3) := by decide +kernel
theorem dX11_settle_71 : decode cX11_settle 71 = .ok (.iload_n 3, 1) := by decide +kernel
theorem dX11_settle_72 : decode cX11_settle 72 = .ok (.iload 4, 2) := by decide +kernel
theorem dX11_settle_74 : decode cX11_settle 74 = .ok (.if_icmp .le 25, 3) := by decide +kernel
theorem dX11_settle_77 : decode cX11_settle 77 = .ok (.iload_n 3, 1) := by decide +kernel
theorem dX11_settle_78 : decode cX11_settle 78 = .ok (.istore 7, 2) := by decide +kernel
theorem dX11_settle_80 : decode cX11_settle 80 = .ok (.iload 4, 2) := by decide +kernel
theorem dX11_settle_82 : decode cX11_settle 82 = .ok (.istore_n 3, 1) := by decide +kernel
theorem dX11_settle_83 : decode cX11_settle 83 = .ok (.iload 7, 2) := by decide +kernel
theorem dX11_settle_85 : decode cX11_settle 85 = .ok (.istore 4, 2) := by decide +kernel
theorem dX11_settle_87 : decode cX11_settle 87 = .ok (.iload 5, 2) := by decide +kernel
theorem dX11_settle_89 : decode cX11_settle 89 = .ok (.ifCond .ne 7, 3) := by decide +kernel
theorem dX11_settle_92 : decode cX11_settle 92 = .ok (.iconst 1, 1) := by decide +kernel
theorem dX11_settle_93 : decode cX11_settle 93 = .ok (.goto 4, 3) := by decide +kernel
theorem dX11_settle_96 : decode cX11_settle 96 = .ok (.iconst 0, 1) := by decide +kernel
theorem dX11_settle_97 : decode cX11_settle 97 = .ok (.istore 5, 2) := by decide +kernel
theorem dX11_settle_99 : decode cX11_settle 99 = .ok (.iload_n 3, 1) := by decide +kernel
theorem dX11_settle_100 : decode cX11_settle 100 = .ok (.iload 4, 2) := by decide +kernel
theorem dX11_settle_102 : decode cX11_settle 102 = .ok (.iload_n 3, 1) := by decide +kernel
theorem dX11_settle_103 : decode cX11_settle 103 = .ok (.isub, 1) := by decide +kernel
theorem dX11_settle_104 : decode cX11_settle 104 = .ok (.iconst 3, 1) := by decide +kernel
theorem dX11_settle_105 : decode cX11_settle 105 = .ok (.idiv, 1) := by decide +kernel
theorem dX11_settle_106 : decode cX11_settle 106 = .ok (.iconst 1, 1) := by decide +kernel
theorem dX11_settle_107 : decode cX11_settle 107 = .ok (.iadd, 1) := by decide +kernel
theorem dX11_settle_108 : decode cX11_settle 108 = .ok (.iadd, 1) := by decide +kernel
theorem dX11_settle_109 : decode cX11_settle 109 = .ok (.istore_n 3, 1) := by decide +kernel
theorem dX11_settle_110 : decode cX11_settle 110 = .ok (.iload 4, 2) := by decide +kernel
theorem dX11_settle_112 : decode cX11_settle 112 = .ok (.iload 4, 2) := by decide +kernel
theorem dX11_settle_114 : decode cX11_settle 114 = .ok (.iload_n 3, 1) := by decide +kernel
theorem dX11_settle_115 : decode cX11_settle 115 = .ok (.isub, 1) := by decide +kernel
theorem dX11_settle_116 : decode cX11_settle 116 = .ok (.invokestatic 286, 3) := by decide +kernel
theorem dX11_settle_119 : decode cX11_settle 119 = .ok (.iconst 3, 1) := by decide +kernel
theorem dX11_settle_120 : decode cX11_settle 120 = .ok (.idiv, 1) := by decide +kernel
theorem dX11_settle_121 : decode cX11_settle 121 = .ok (.iconst 1, 1) := by decide +kernel
theorem dX11_settle_122 : decode cX11_settle 122 = .ok (.iadd, 1) := by decide +kernel
theorem dX11_settle_123 : decode cX11_settle 123 = .ok (.isub, 1) := by decide +kernel
theorem dX11_settle_124 : decode cX11_settle 124 = .ok (.istore 4, 2) := by decide +kernel
theorem dX11_settle_126 : decode cX11_settle 126 = .ok (.iinc 6 1, 3) := by decide +kernel
theorem dX11_settle_129 : decode cX11_settle 129 = .ok (.goto (-77), 3) := by decide +kernel
theorem dX11_settle_132 : decode cX11_settle 132 = .ok (.aload_n 0, 1) := by decide +kernel
theorem dX11_settle_133 : decode cX11_settle 133 = .ok (.getfield 19, 3) := by decide +kernel
theorem dX11_settle_136 : decode cX11_settle 136 = .ok (.invokevirtual 236, 3) := by decide +kernel
theorem dX11_settle_139 : decode cX11_settle 139 = .ok (.aload_n 0, 1) := by decide +kernel
theorem dX11_settle_140 : decode cX11_settle 140 = .ok (.getfield 19, 3) := by decide +kernel
theorem dX11_settle_143 : decode cX11_settle 143 = .ok (.iload 5, 2) := by decide +kernel
theorem dX11_settle_145 : decode cX11_settle 145 = .ok (.ifCond .eq 9, 3) := by decide +kernel
theorem dX11_settle_148 : decode cX11_settle 148 = .ok (.iload 4, 2) := by decide +kernel
theorem dX11_settle_150 : decode cX11_settle 150 = .ok (.i2l, 1) := by decide +kernel
theorem dX11_settle_151 : decode cX11_settle 151 = .ok (.goto 5, 3) := by decide +kernel
theorem dX11_settle_154 : decode cX11_settle 154 = .ok (.iload_n 3, 1) := by decide +kernel
theorem dX11_settle_155 : decode cX11_settle 155 = .ok (.i2l, 1) := by decide +kernel
theorem dX11_settle_156 : decode cX11_settle 156 = .ok (.invokevirtual 237, 3) := by decide +kernel
theorem dX11_settle_159 : decode cX11_settle 159 = .ok (.aload_n 0, 1) := by decide +kernel
theorem dX11_settle_160 : decode cX11_settle 160 = .ok (.getfield 19, 3) := by decide +kernel
theorem dX11_settle_163 : decode cX11_settle 163 = .ok (.iload 6, 2) := by decide +kernel
theorem dX11_settle_165 : decode cX11_settle 165 = .ok (.i2l, 1) := by decide +kernel
theorem dX11_settle_166 : decode cX11_settle 166 = .ok (.invokevirtual 237, 3) := by decide +kernel
theorem dX11_settle_169 : decode cX11_settle 169 = .ok (.iload 5, 2) := by decide +kernel
theorem dX11_settle_171 : decode cX11_settle 171 = .ok (.ifCond .eq 7, 3) := by decide +kernel
theorem dX11_settle_174 : decode cX11_settle 174 = .ok (.iload_n 3, 1) := by decide +kernel
theorem dX11_settle_175 : decode cX11_settle 175 = .ok (.goto 5, 3) := by decide +kernel
theorem dX11_settle_178 : decode cX11_settle 178 = .ok (.iload 4, 2) := by decide +kernel
theorem dX11_settle_180 : decode cX11_settle 180 = .ok (.ireturn, 1) := by decide +kernel
def xX11_settle_180 (s_X5_clear : zq_Sp) (s_X5_add : zq_Sp) (J52 : zq_P) (Q : zq_Q) (ls : zq_L) (st : List Value) (h : zq_H) : Prop := (zi_iret Q) ls st h
theorem kX11_settle_180 {X : zq_X} {d : Nat} (C : zq_C X cX11_settle 8 RX11 d) (hd1 : 1 ≤ d) {d_X5_clear : Nat} {s_X5_clear : zq_Sp} (h_X5_clear : zq_M yX5_clear cX5_clear 1 none 0 d_X5_clear s_X5_clear) (g_X5_clear : d_X5_clear + 1 ≤ d) {d_X5_add : Nat} {s_X5_add : zq_Sp} (h_X5_add : zq_M yX5_add cX5_add 3 none 0 d_X5_add s_X5_add) (g_X5_add : d_X5_add + 1 ≤ d) {J52 : zq_P} (j52 : zq_ok X 8 52 J52) {Q : zq_Q} (hq : zq_R X (some .int) 1 Q) : zq_ok X 8 180 (xX11_settle_180 s_X5_clear s_X5_add J52 Q) := by
  exact zs_iret C hq dX11_settle_180
def xX11_settle_178 (s_X5_clear : zq_Sp) (s_X5_add : zq_Sp) (J52 : zq_P) (Q : zq_Q) (ls : zq_L) (st : List Value) (h : zq_H) : Prop := (zi_iload 4 ((xX11_settle_180 s_X5_clear s_X5_add J52 Q))) ls st h
theorem kX11_settle_178 {X : zq_X} {d : Nat} (C : zq_C X cX11_settle 8 RX11 d) (hd1 : 1 ≤ d) {d_X5_clear : Nat} {s_X5_clear : zq_Sp} (h_X5_clear : zq_M yX5_clear cX5_clear 1 none 0 d_X5_clear s_X5_clear) (g_X5_clear : d_X5_clear + 1 ≤ d) {d_X5_add : Nat} {s_X5_add : zq_Sp} (h_X5_add : zq_M yX5_add cX5_add 3 none 0 d_X5_add s_X5_add) (g_X5_add : d_X5_add + 1 ≤ d) {J52 : zq_P} (j52 : zq_ok X 8 52 J52) {Q : zq_Q} (hq : zq_R X (some .int) 1 Q) : zq_ok X 8 178 (xX11_settle_178 s_X5_clear s_X5_add J52 Q) := by
  refine zs_iload C dX11_settle_178 ?_
  exact kX11_settle_180 C hd1 h_X5_clear g_X5_clear h_X5_add g_X5_add j52 hq
def xX11_settle_174 (s_X5_clear : zq_Sp) (s_X5_add : zq_Sp) (J52 : zq_P) (Q : zq_Q) (ls : zq_L) (st : List Value) (h : zq_H) : Prop := (zi_iload 3 ((xX11_settle_180 s_X5_clear s_X5_add J52 Q))) ls st h
theorem kX11_settle_174 {X : zq_X} {d : Nat} (C : zq_C X cX11_settle 8 RX11 d) (hd1 : 1 ≤ d) {d_X5_clear : Nat} {s_X5_clear : zq_Sp} (h_X5_clear : zq_M yX5_clear cX5_clear 1 none 0 d_X5_clear s_X5_clear) (g_X5_clear : d_X5_clear + 1 ≤ d) {d_X5_add : Nat} {s_X5_add : zq_Sp} (h_X5_add : zq_M yX5_add cX5_add 3 none 0 d_X5_add s_X5_add) (g_X5_add : d_X5_add + 1 ≤ d) {J52 : zq_P} (j52 : zq_ok X 8 52 J52) {Q : zq_Q} (hq : zq_R X (some .int) 1 Q) : zq_ok X 8 174 (xX11_settle_174 s_X5_clear s_X5_add J52 Q) := by
  refine zs_iload_n C dX11_settle_174 rfl ?_
  exact zs_goto C dX11_settle_175 (by decide) (kX11_settle_180 C hd1 h_X5_clear g_X5_clear h_X5_add g_X5_add j52 hq)
def xX11_settle_156 (s_X5_clear : zq_Sp) (s_X5_add : zq_Sp) (J52 : zq_P) (Q : zq_Q) (ls : zq_L) (st : List Value) (h : zq_H) : Prop := (zi_callV 1 3 s_X5_add (zi_aload 0 (zi_getR 0 3 (zi_iload 6 (zi_i2l (zi_callV 1 3 s_X5_add (zi_iload 5 (zi_if1 (fun x => x = 0) (xX11_settle_178 s_X5_clear s_X5_add J52 Q) (xX11_settle_174 s_X5_clear s_X5_add J52 Q))))))))) ls st h
theorem kX11_settle_156 {X : zq_X} {d : Nat} (C : zq_C X cX11_settle 8 RX11 d) (hd1 : 1 ≤ d) {d_X5_clear : Nat} {s_X5_clear : zq_Sp} (h_X5_clear : zq_M yX5_clear cX5_clear 1 none 0 d_X5_clear s_X5_clear) (g_X5_clear : d_X5_clear + 1 ≤ d) {d_X5_add : Nat} {s_X5_add : zq_Sp} (h_X5_add : zq_M yX5_add cX5_add 3 none 0 d_X5_add s_X5_add) (g_X5_add : d_X5_add + 1 ≤ d) {J52 : zq_P} (j52 : zq_ok X 8 52 J52) {Q : zq_Q} (hq : zq_R X (some .int) 1 Q) : zq_ok X 8 156 (xX11_settle_156 s_X5_clear s_X5_add J52 Q) := by
  refine zs_callV C h_X5_add g_X5_add zy_X5_add zp_3 (show vwCl[5]? = some (RX5, TX5, 2) from rfl) zw_654 zw_655 zs9_X5_add dX11_settle_156 ?_
  refine zs_aload_n C dX11_settle_159 rfl ?_
  refine zs_getR C zp_0 zF11 (j := 1) ⟨by decide, rfl⟩ zw_316 dX11_settle_160 ?_
  refine zs_iload C dX11_settle_163 ?_
  refine zs_i2l C dX11_settle_165 ?_
  refine zs_callV C h_X5_add g_X5_add zy_X5_add zp_3 (show vwCl[5]? = some (RX5, TX5, 2) from rfl) zw_654 zw_655 zs9_X5_add dX11_settle_166 ?_
  refine zs_iload C dX11_settle_169 ?_
  exact zs_if_eq C dX11_settle_171 (by decide) (kX11_settle_178 C hd1 h_X5_clear g_X5_clear h_X5_add g_X5_add j52 hq) (kX11_settle_174 C hd1 h_X5_clear g_X5_clear h_X5_add g_X5_add j52 hq)
def xX11_settle_154 (s_X5_clear : zq_Sp) (s_X5_add : zq_Sp) (J52 : zq_P) (Q : zq_Q) (ls : zq_L) (st : List Value) (h : zq_H) : Prop := (zi_iload 3 (zi_i2l ((xX11_settle_156 s_X5_clear s_X5_add J52 Q)))) ls st h
theorem kX11_settle_154 {X : zq_X} {d : Nat} (C : zq_C X cX11_settle 8 RX11 d) (hd1 : 1 ≤ d) {d_X5_clear : Nat} {s_X5_clear : zq_Sp} (h_X5_clear : zq_M yX5_clear cX5_clear 1 none 0 d_X5_clear s_X5_clear) (g_X5_clear : d_X5_clear + 1 ≤ d) {d_X5_add : Nat} {s_X5_add : zq_Sp} (h_X5_add : zq_M yX5_add cX5_add 3 none 0 d_X5_add s_X5_add) (g_X5_add : d_X5_add + 1 ≤ d) {J52 : zq_P} (j52 : zq_ok X 8 52 J52) {Q : zq_Q} (hq : zq_R X (some .int) 1 Q) : zq_ok X 8 154 (xX11_settle_154 s_X5_clear s_X5_add J52 Q) := by
  refine zs_iload_n C dX11_settle_154 rfl ?_
  refine zs_i2l C dX11_settle_155 ?_
  exact kX11_settle_156 C hd1 h_X5_clear g_X5_clear h_X5_add g_X5_add j52 hq
def xX11_settle_148 (s_X5_clear : zq_Sp) (s_X5_add : zq_Sp) (J52 : zq_P) (Q : zq_Q) (ls : zq_L) (st : List Value) (h : zq_H) : Prop := (zi_iload 4 (zi_i2l ((xX11_settle_156 s_X5_clear s_X5_add J52 Q)))) ls st h
theorem kX11_settle_148 {X : zq_X} {d : Nat} (C : zq_C X cX11_settle 8 RX11 d) (hd1 : 1 ≤ d) {d_X5_clear : Nat} {s_X5_clear : zq_Sp} (h_X5_clear : zq_M yX5_clear cX5_clear 1 none 0 d_X5_clear s_X5_clear) (g_X5_clear : d_X5_clear + 1 ≤ d) {d_X5_add : Nat} {s_X5_add : zq_Sp} (h_X5_add : zq_M yX5_add cX5_add 3 none 0 d_X5_add s_X5_add) (g_X5_add : d_X5_add + 1 ≤ d) {J52 : zq_P} (j52 : zq_ok X 8 52 J52) {Q : zq_Q} (hq : zq_R X (some .int) 1 Q) : zq_ok X 8 148 (xX11_settle_148 s_X5_clear s_X5_add J52 Q) := by
  refine zs_iload C dX11_settle_148 ?_
  refine zs_i2l C dX11_settle_150 ?_
  exact zs_goto C dX11_settle_151 (by decide) (kX11_settle_156 C hd1 h_X5_clear g_X5_clear h_X5_add g_X5_add j52 hq)
def xX11_settle_132 (s_X5_clear : zq_Sp) (s_X5_add : zq_Sp) (J52 : zq_P) (Q : zq_Q) (ls : zq_L) (st : List Value) (h : zq_H) : Prop := (zi_aload 0 (zi_getR 0 3 (zi_callV 0 3 s_X5_clear (zi_aload 0 (zi_getR 0 3 (zi_iload 5 (zi_if1 (fun x => x = 0) (xX11_settle_154 s_X5_clear s_X5_add J52 Q) (xX11_settle_148 s_X5_clear s_X5_add J52 Q)))))))) ls st h
theorem kX11_settle_132 {X : zq_X} {d : Nat} (C : zq_C X cX11_settle 8 RX11 d) (hd1 : 1 ≤ d) {d_X5_clear : Nat} {s_X5_clear : zq_Sp} (h_X5_clear : zq_M yX5_clear cX5_clear 1 none 0 d_X5_clear s_X5_clear) (g_X5_clear : d_X5_clear + 1 ≤ d) {d_X5_add : Nat} {s_X5_add : zq_Sp} (h_X5_add : zq_M yX5_add cX5_add 3 none 0 d_X5_add s_X5_add) (g_X5_add : d_X5_add + 1 ≤ d) {J52 : zq_P} (j52 : zq_ok X 8 52 J52) {Q : zq_Q} (hq : zq_R X (some .int) 1 Q) : zq_ok X 8 132 (xX11_settle_132 s_X5_clear s_X5_add J52 Q) := by
  refine zs_aload_n C dX11_settle_132 rfl ?_
  refine zs_getR C zp_0 zF11 (j := 1) ⟨by decide, rfl⟩ zw_316 dX11_settle_133 ?_
  refine zs_callV C h_X5_clear g_X5_clear zy_X5_clear zp_3 (show vwCl[5]? = some (RX5, TX5, 2) from rfl) zw_650 zw_651 zs9_X5_clear dX11_settle_136 ?_
  refine zs_aload_n C dX11_settle_139 rfl ?_
  refine zs_getR C zp_0 zF11 (j := 1) ⟨by decide, rfl⟩ zw_316 dX11_settle_140 ?_
  refine zs_iload C dX11_settle_143 ?_
  exact zs_if_eq C dX11_settle_145 (by decide) (kX11_settle_154 C hd1 h_X5_clear g_X5_clear h_X5_add g_X5_add j52 hq) (kX11_settle_148 C hd1 h_X5_clear g_X5_clear h_X5_add g_X5_add j52 hq)
def xX11_settle_99 (s_X5_clear : zq_Sp) (s_X5_add : zq_Sp) (J52 : zq_P) (Q : zq_Q) (ls : zq_L) (st : List Value) (h : zq_H) : Prop := (zi_iload 3 (zi_iload 4 (zi_iload 3 (zi_i2 (fun x y => x - y) (zi_push (.int 3) (zi_idv (fun x y => x / y) (zi_push (.int 1) (zi_i2 (fun x y => x + y) (zi_i2 (fun x y => x + y) (zi_istore 3 (zi_iload 4 (zi_iload 4 (zi_iload 3 (zi_i2 (fun x y => x - y) (zi_m1 zf_abs (zi_push (.int 3) (zi_idv (fun x y => x / y) (zi_push (.int 1) (zi_i2 (fun x y => x + y) (zi_i2 (fun x y => x - y) (zi_istore 4 (zi_iinc 6 1 (J52))))))))))))))))))))))) ls st h
theorem kX11_settle_99 {X : zq_X} {d : Nat} (C : zq_C X cX11_settle 8 RX11 d) (hd1 : 1 ≤ d) {d_X5_clear : Nat} {s_X5_clear : zq_Sp} (h_X5_clear : zq_M yX5_clear cX5_clear 1 none 0 d_X5_clear s_X5_clear) (g_X5_clear : d_X5_clear + 1 ≤ d) {d_X5_add : Nat} {s_X5_add : zq_Sp} (h_X5_add : zq_M yX5_add cX5_add 3 none 0 d_X5_add s_X5_add) (g_X5_add : d_X5_add + 1 ≤ d) {J52 : zq_P} (j52 : zq_ok X 8 52 J52) {Q : zq_Q} (hq : zq_R X (some .int) 1 Q) : zq_ok X 8 99 (xX11_settle_99 s_X5_clear s_X5_add J52 Q) := by
  refine zs_iload_n C dX11_settle_99 rfl ?_
  refine zs_iload C dX11_settle_100 ?_
  refine zs_iload_n C dX11_settle_102 rfl ?_
  refine zs_isub C dX11_settle_103 ?_
  refine zs_iconst C dX11_settle_104 (by decide) ?_
  refine zs_idiv C dX11_settle_105 ?_
  refine zs_iconst C dX11_settle_106 (by decide) ?_
  refine zs_iadd C dX11_settle_107 ?_
  refine zs_iadd C dX11_settle_108 ?_
  refine zs_istore_n C dX11_settle_109 rfl (by decide) ?_
  refine zs_iload C dX11_settle_110 ?_
  refine zs_iload C dX11_settle_112 ?_
  refine zs_iload_n C dX11_settle_114 rfl ?_
  refine zs_isub C dX11_settle_115 ?_
  refine zs_mabs C hd1 zw_837 zw_838 zw_14 zw_839 dX11_settle_116 ?_
  refine zs_iconst C dX11_settle_119 (by decide) ?_
  refine zs_idiv C dX11_settle_120 ?_
  refine zs_iconst C dX11_settle_121 (by decide) ?_
  refine zs_iadd C dX11_settle_122 ?_
  refine zs_isub C dX11_settle_123 ?_
  refine zs_istore C dX11_settle_124 (by decide) ?_
  refine zs_iinc C dX11_settle_126 (by decide) (by decide) ?_
  exact zs_goto C dX11_settle_129 (by decide) (j52)
def xX11_settle_97 (s_X5_clear : zq_Sp) (s_X5_add : zq_Sp) (J52 : zq_P) (Q : zq_Q) (ls : zq_L) (st : List Value) (h : zq_H) : Prop := (zi_istore 5 ((xX11_settle_99 s_X5_clear s_X5_add J52 Q))) ls st h
theorem kX11_settle_97 {X : zq_X} {d : Nat} (C : zq_C X cX11_settle 8 RX11 d) (hd1 : 1 ≤ d) {d_X5_clear : Nat} {s_X5_clear : zq_Sp} (h_X5_clear : zq_M yX5_clear cX5_clear 1 none 0 d_X5_clear s_X5_clear) (g_X5_clear : d_X5_clear + 1 ≤ d) {d_X5_add : Nat} {s_X5_add : zq_Sp} (h_X5_add : zq_M yX5_add cX5_add 3 none 0 d_X5_add s_X5_add) (g_X5_add : d_X5_add + 1 ≤ d) {J52 : zq_P} (j52 : zq_ok X 8 52 J52) {Q : zq_Q} (hq : zq_R X (some .int) 1 Q) : zq_ok X 8 97 (xX11_settle_97 s_X5_clear s_X5_add J52 Q) := by
  refine zs_istore C dX11_settle_97 (by decide) ?_
  exact kX11_settle_99 C hd1 h_X5_clear g_X5_clear h_X5_add g_X5_add j52 hq
def xX11_settle_96 (s_X5_clear : zq_Sp) (s_X5_add : zq_Sp) (J52 : zq_P) (Q : zq_Q) (ls : zq_L) (st : List Value) (h : zq_H) : Prop := (zi_push (.int 0) ((xX11_settle_97 s_X5_clear s_X5_add J52 Q))) ls st h
theorem kX11_settle_96 {X : zq_X} {d : Nat} (C : zq_C X cX11_settle 8 RX11 d) (hd1 : 1 ≤ d) {d_X5_clear : Nat} {s_X5_clear : zq_Sp} (h_X5_clear : zq_M yX5_clear cX5_clear 1 none 0 d_X5_clear s_X5_clear) (g_X5_clear : d_X5_clear + 1 ≤ d) {d_X5_add : Nat} {s_X5_add : zq_Sp} (h_X5_add : zq_M yX5_add cX5_add 3 none 0 d_X5_add s_X5_add) (g_X5_add : d_X5_add + 1 ≤ d) {J52 : zq_P} (j52 : zq_ok X 8 52 J52) {Q : zq_Q} (hq : zq_R X (some .int) 1 Q) : zq_ok X 8 96 (xX11_settle_96 s_X5_clear s_X5_add J52 Q) := by
  refine zs_iconst C dX11_settle_96 (by decide) ?_
  exact kX11_settle_97 C hd1 h_X5_clear g_X5_clear h_X5_add g_X5_add j52 hq
def xX11_settle_92 (s_X5_clear : zq_Sp) (s_X5_add : zq_Sp) (J52 : zq_P) (Q : zq_Q) (ls : zq_L) (st : List Value) (h : zq_H) : Prop := (zi_push (.int 1) ((xX11_settle_97 s_X5_clear s_X5_add J52 Q))) ls st h
theorem kX11_settle_92 {X : zq_X} {d : Nat} (C : zq_C X cX11_settle 8 RX11 d) (hd1 : 1 ≤ d) {d_X5_clear : Nat} {s_X5_clear : zq_Sp} (h_X5_clear : zq_M yX5_clear cX5_clear 1 none 0 d_X5_clear s_X5_clear) (g_X5_clear : d_X5_clear + 1 ≤ d) {d_X5_add : Nat} {s_X5_add : zq_Sp} (h_X5_add : zq_M yX5_add cX5_add 3 none 0 d_X5_add s_X5_add) (g_X5_add : d_X5_add + 1 ≤ d) {J52 : zq_P} (j52 : zq_ok X 8 52 J52) {Q : zq_Q} (hq : zq_R X (some .int) 1 Q) : zq_ok X 8 92 (xX11_settle_92 s_X5_clear s_X5_add J52 Q) := by
  refine zs_iconst C dX11_settle_92 (by decide) ?_
  exact zs_goto C dX11_settle_93 (by decide) (kX11_settle_97 C hd1 h_X5_clear g_X5_clear h_X5_add g_X5_add j52 hq)
def xX11_settle_77 (s_X5_clear : zq_Sp) (s_X5_add : zq_Sp) (J52 : zq_P) (Q : zq_Q) (ls : zq_L) (st : List Value) (h : zq_H) : Prop := (zi_iload 3 (zi_istore 7 (zi_iload 4 (zi_istore 3 (zi_iload 7 (zi_istore 4 (zi_iload 5 (zi_if1 (fun x => x = 0) (xX11_settle_92 s_X5_clear s_X5_add J52 Q) (xX11_settle_96 s_X5_clear s_X5_add J52 Q))))))))) ls st h
theorem kX11_settle_77 {X : zq_X} {d : Nat} (C : zq_C X cX11_settle 8 RX11 d) (hd1 : 1 ≤ d) {d_X5_clear : Nat} {s_X5_clear : zq_Sp} (h_X5_clear : zq_M yX5_clear cX5_clear 1 none 0 d_X5_clear s_X5_clear) (g_X5_clear : d_X5_clear + 1 ≤ d) {d_X5_add : Nat} {s_X5_add : zq_Sp} (h_X5_add : zq_M yX5_add cX5_add 3 none 0 d_X5_add s_X5_add) (g_X5_add : d_X5_add + 1 ≤ d) {J52 : zq_P} (j52 : zq_ok X 8 52 J52) {Q : zq_Q} (hq : zq_R X (some .int) 1 Q) : zq_ok X 8 77 (xX11_settle_77 s_X5_clear s_X5_add J52 Q) := by
  refine zs_iload_n C dX11_settle_77 rfl ?_
  refine zs_istore C dX11_settle_78 (by decide) ?_
  refine zs_iload C dX11_settle_80 ?_
  refine zs_istore_n C dX11_settle_82 rfl (by decide) ?_
  refine zs_iload C dX11_settle_83 ?_
  refine zs_istore C dX11_settle_85 (by decide) ?_
  refine zs_iload C dX11_settle_87 ?_
  exact zs_if_ne C dX11_settle_89 (by decide) (kX11_settle_96 C hd1 h_X5_clear g_X5_clear h_X5_add g_X5_add j52 hq) (kX11_settle_92 C hd1 h_X5_clear g_X5_clear h_X5_add g_X5_add j52 hq)
def xX11_settle_71 (s_X5_clear : zq_Sp) (s_X5_add : zq_Sp) (J52 : zq_P) (Q : zq_Q) (ls : zq_L) (st : List Value) (h : zq_H) : Prop := (zi_iload 3 (zi_iload 4 (zi_if2 (fun x y => x ≤ y) (xX11_settle_99 s_X5_clear s_X5_add J52 Q) (xX11_settle_77 s_X5_clear s_X5_add J52 Q)))) ls st h
theorem kX11_settle_71 {X : zq_X} {d : Nat} (C : zq_C X cX11_settle 8 RX11 d) (hd1 : 1 ≤ d) {d_X5_clear : Nat} {s_X5_clear : zq_Sp} (h_X5_clear : zq_M yX5_clear cX5_clear 1 none 0 d_X5_clear s_X5_clear) (g_X5_clear : d_X5_clear + 1 ≤ d) {d_X5_add : Nat} {s_X5_add : zq_Sp} (h_X5_add : zq_M yX5_add cX5_add 3 none 0 d_X5_add s_X5_add) (g_X5_add : d_X5_add + 1 ≤ d) {J52 : zq_P} (j52 : zq_ok X 8 52 J52) {Q : zq_Q} (hq : zq_R X (some .int) 1 Q) : zq_ok X 8 71 (xX11_settle_71 s_X5_clear s_X5_add J52 Q) := by
  refine zs_iload_n C dX11_settle_71 rfl ?_
  refine zs_iload C dX11_settle_72 ?_
  exact zs_icmp_le C dX11_settle_74 (by decide) (kX11_settle_99 C hd1 h_X5_clear g_X5_clear h_X5_add g_X5_add j52 hq) (kX11_settle_77 C hd1 h_X5_clear g_X5_clear h_X5_add g_X5_add j52 hq)
def xX11_settle_60 (s_X5_clear : zq_Sp) (s_X5_add : zq_Sp) (J52 : zq_P) (Q : zq_Q) (ls : zq_L) (st : List Value) (h : zq_H) : Prop := (zi_iload 4 (zi_iload 3 (zi_i2 (fun x y => x - y) (zi_m1 zf_abs (zi_push (.int 1) (zi_if2 (fun x y => x ≤ y) (xX11_settle_132 s_X5_clear s_X5_add J52 Q) (xX11_settle_71 s_X5_clear s_X5_add J52 Q))))))) ls st h
theorem kX11_settle_60 {X : zq_X} {d : Nat} (C : zq_C X cX11_settle 8 RX11 d) (hd1 : 1 ≤ d) {d_X5_clear : Nat} {s_X5_clear : zq_Sp} (h_X5_clear : zq_M yX5_clear cX5_clear 1 none 0 d_X5_clear s_X5_clear) (g_X5_clear : d_X5_clear + 1 ≤ d) {d_X5_add : Nat} {s_X5_add : zq_Sp} (h_X5_add : zq_M yX5_add cX5_add 3 none 0 d_X5_add s_X5_add) (g_X5_add : d_X5_add + 1 ≤ d) {J52 : zq_P} (j52 : zq_ok X 8 52 J52) {Q : zq_Q} (hq : zq_R X (some .int) 1 Q) : zq_ok X 8 60 (xX11_settle_60 s_X5_clear s_X5_add J52 Q) := by
  refine zs_iload C dX11_settle_60 ?_
  refine zs_iload_n C dX11_settle_62 rfl ?_
  refine zs_isub C dX11_settle_63 ?_
  refine zs_mabs C hd1 zw_837 zw_838 zw_14 zw_839 dX11_settle_64 ?_
  refine zs_iconst C dX11_settle_67 (by decide) ?_
  exact zs_icmp_le C dX11_settle_68 (by decide) (kX11_settle_132 C hd1 h_X5_clear g_X5_clear h_X5_add g_X5_add j52 hq) (kX11_settle_71 C hd1 h_X5_clear g_X5_clear h_X5_add g_X5_add j52 hq)
def xX11_settle_52 (s_X5_clear : zq_Sp) (s_X5_add : zq_Sp) (J52 : zq_P) (Q : zq_Q) (ls : zq_L) (st : List Value) (h : zq_H) : Prop := (zi_iload 6 (zi_push (.int 999) (zi_if2 (fun x y => y < x) (xX11_settle_132 s_X5_clear s_X5_add J52 Q) (xX11_settle_60 s_X5_clear s_X5_add J52 Q)))) ls st h
theorem kX11_settle_52 {X : zq_X} {d : Nat} (C : zq_C X cX11_settle 8 RX11 d) (hd1 : 1 ≤ d) {d_X5_clear : Nat} {s_X5_clear : zq_Sp} (h_X5_clear : zq_M yX5_clear cX5_clear 1 none 0 d_X5_clear s_X5_clear) (g_X5_clear : d_X5_clear + 1 ≤ d) {d_X5_add : Nat} {s_X5_add : zq_Sp} (h_X5_add : zq_M yX5_add cX5_add 3 none 0 d_X5_add s_X5_add) (g_X5_add : d_X5_add + 1 ≤ d) {J52 : zq_P} (j52 : zq_ok X 8 52 J52) {Q : zq_Q} (hq : zq_R X (some .int) 1 Q) : zq_ok X 8 52 (xX11_settle_52 s_X5_clear s_X5_add J52 Q) := by
  refine zs_iload C dX11_settle_52 ?_
  refine zs_sipush C dX11_settle_54 (by decide) ?_
  exact zs_icmp_gt C dX11_settle_57 (by decide) (kX11_settle_132 C hd1 h_X5_clear g_X5_clear h_X5_add g_X5_add j52 hq) (kX11_settle_60 C hd1 h_X5_clear g_X5_clear h_X5_add g_X5_add j52 hq)
def xX11_settle_47 (s_X5_clear : zq_Sp) (s_X5_add : zq_Sp) (J52 : zq_P) (Q : zq_Q) (ls : zq_L) (st : List Value) (h : zq_H) : Prop := (zi_istore 5 (zi_push (.int 0) (zi_istore 6 (J52)))) ls st h
theorem kX11_settle_47 {X : zq_X} {d : Nat} (C : zq_C X cX11_settle 8 RX11 d) (hd1 : 1 ≤ d) {d_X5_clear : Nat} {s_X5_clear : zq_Sp} (h_X5_clear : zq_M yX5_clear cX5_clear 1 none 0 d_X5_clear s_X5_clear) (g_X5_clear : d_X5_clear + 1 ≤ d) {d_X5_add : Nat} {s_X5_add : zq_Sp} (h_X5_add : zq_M yX5_add cX5_add 3 none 0 d_X5_add s_X5_add) (g_X5_add : d_X5_add + 1 ≤ d) {J52 : zq_P} (j52 : zq_ok X 8 52 J52) {Q : zq_Q} (hq : zq_R X (some .int) 1 Q) : zq_ok X 8 47 (xX11_settle_47 s_X5_clear s_X5_add J52 Q) := by
  refine zs_istore C dX11_settle_47 (by decide) ?_
  refine zs_iconst C dX11_settle_49 (by decide) ?_
  refine zs_istore C dX11_settle_50 (by decide) ?_
  exact j52
def xX11_settle_46 (s_X5_clear : zq_Sp) (s_X5_add : zq_Sp) (J52 : zq_P) (Q : zq_Q) (ls : zq_L) (st : List Value) (h : zq_H) : Prop := (zi_push (.int 0) ((xX11_settle_47 s_X5_clear s_X5_add J52 Q))) ls st h
theorem kX11_settle_46 {X : zq_X} {d : Nat} (C : zq_C X cX11_settle 8 RX11 d) (hd1 : 1 ≤ d) {d_X5_clear : Nat} {s_X5_clear : zq_Sp} (h_X5_clear : zq_M yX5_clear cX5_clear 1 none 0 d_X5_clear s_X5_clear) (g_X5_clear : d_X5_clear + 1 ≤ d) {d_X5_add : Nat} {s_X5_add : zq_Sp} (h_X5_add : zq_M yX5_add cX5_add 3 none 0 d_X5_add s_X5_add) (g_X5_add : d_X5_add + 1 ≤ d) {J52 : zq_P} (j52 : zq_ok X 8 52 J52) {Q : zq_Q} (hq : zq_R X (some .int) 1 Q) : zq_ok X 8 46 (xX11_settle_46 s_X5_clear s_X5_add J52 Q) := by
  refine zs_iconst C dX11_settle_46 (by decide) ?_
  exact kX11_settle_47 C hd1 h_X5_clear g_X5_clear h_X5_add g_X5_add j52 hq
def xX11_settle_42 (s_X5_clear : zq_Sp) (s_X5_add : zq_Sp) (J52 : zq_P) (Q : zq_Q) (ls : zq_L) (st : List Value) (h : zq_H) : Prop := (zi_push (.int 1) ((xX11_settle_47 s_X5_clear s_X5_add J52 Q))) ls st h
theorem kX11_settle_42 {X : zq_X} {d : Nat} (C : zq_C X cX11_settle 8 RX11 d) (hd1 : 1 ≤ d) {d_X5_clear : Nat} {s_X5_clear : zq_Sp} (h_X5_clear : zq_M yX5_clear cX5_clear 1 none 0 d_X5_clear s_X5_clear) (g_X5_clear : d_X5_clear + 1 ≤ d) {d_X5_add : Nat} {s_X5_add : zq_Sp} (h_X5_add : zq_M yX5_add cX5_add 3 none 0 d_X5_add s_X5_add) (g_X5_add : d_X5_add + 1 ≤ d) {J52 : zq_P} (j52 : zq_ok X 8 52 J52) {Q : zq_Q} (hq : zq_R X (some .int) 1 Q) : zq_ok X 8 42 (xX11_settle_42 s_X5_clear s_X5_add J52 Q) := by
  refine zs_iconst C dX11_settle_42 (by decide) ?_
  exact zs_goto C dX11_settle_43 (by decide) (kX11_settle_47 C hd1 h_X5_clear g_X5_clear h_X5_add g_X5_add j52 hq)
def xX11_settle_24 (s_X5_clear : zq_Sp) (s_X5_add : zq_Sp) (J52 : zq_P) (Q : zq_Q) (ls : zq_L) (st : List Value) (h : zq_H) : Prop := (zi_iload 1 (zi_iload 2 (zi_m2 zf_min (zi_istore 3 (zi_iload 1 (zi_iload 2 (zi_m2 zf_max (zi_istore 4 (zi_iload 1 (zi_iload 2 (zi_if2 (fun x y => y < x) (xX11_settle_46 s_X5_clear s_X5_add J52 Q) (xX11_settle_42 s_X5_clear s_X5_add J52 Q)))))))))))) ls st h
theorem kX11_settle_24 {X : zq_X} {d : Nat} (C : zq_C X cX11_settle 8 RX11 d) (hd1 : 1 ≤ d) {d_X5_clear : Nat} {s_X5_clear : zq_Sp} (h_X5_clear : zq_M yX5_clear cX5_clear 1 none 0 d_X5_clear s_X5_clear) (g_X5_clear : d_X5_clear + 1 ≤ d) {d_X5_add : Nat} {s_X5_add : zq_Sp} (h_X5_add : zq_M yX5_add cX5_add 3 none 0 d_X5_add s_X5_add) (g_X5_add : d_X5_add + 1 ≤ d) {J52 : zq_P} (j52 : zq_ok X 8 52 J52) {Q : zq_Q} (hq : zq_R X (some .int) 1 Q) : zq_ok X 8 24 (xX11_settle_24 s_X5_clear s_X5_add J52 Q) := by
  refine zs_iload_n C dX11_settle_24 rfl ?_
  refine zs_iload_n C dX11_settle_25 rfl ?_
  refine zs_mmin C hd1 zw_573 zw_393 zw_14 zw_394 dX11_settle_26 ?_
  refine zs_istore_n C dX11_settle_29 rfl (by decide) ?_
  refine zs_iload_n C dX11_settle_30 rfl ?_
  refine zs_iload_n C dX11_settle_31 rfl ?_
  refine zs_mmax C hd1 zw_574 zw_454 zw_14 zw_455 dX11_settle_32 ?_
  refine zs_istore C dX11_settle_35 (by decide) ?_
  refine zs_iload_n C dX11_settle_37 rfl ?_
  refine zs_iload_n C dX11_settle_38 rfl ?_
  exact zs_icmp_gt C dX11_settle_39 (by decide) (kX11_settle_46 C hd1 h_X5_clear g_X5_clear h_X5_add g_X5_add j52 hq) (kX11_settle_42 C hd1 h_X5_clear g_X5_clear h_X5_add g_X5_add j52 hq)
def xX11_settle_22 (s_X5_clear : zq_Sp) (s_X5_add : zq_Sp) (J52 : zq_P) (Q : zq_Q) (ls : zq_L) (st : List Value) (h : zq_H) : Prop := (zi_push (.int (-1)) (zi_iret Q)) ls st h
theorem kX11_settle_22 {X : zq_X} {d : Nat} (C : zq_C X cX11_settle 8 RX11 d) (hd1 : 1 ≤ d) {d_X5_clear : Nat} {s_X5_clear : zq_Sp} (h_X5_clear : zq_M yX5_clear cX5_clear 1 none 0 d_X5_clear s_X5_clear) (g_X5_clear : d_X5_clear + 1 ≤ d) {d_X5_add : Nat} {s_X5_add : zq_Sp} (h_X5_add : zq_M yX5_add cX5_add 3 none 0 d_X5_add s_X5_add) (g_X5_add : d_X5_add + 1 ≤ d) {J52 : zq_P} (j52 : zq_ok X 8 52 J52) {Q : zq_Q} (hq : zq_R X (some .int) 1 Q) : zq_ok X 8 22 (xX11_settle_22 s_X5_clear s_X5_add J52 Q) := by
  refine zs_iconst C dX11_settle_22 (by decide) ?_
  exact zs_iret C hq dX11_settle_23
def xX11_settle_15 (s_X5_clear : zq_Sp) (s_X5_add : zq_Sp) (J52 : zq_P) (Q : zq_Q) (ls : zq_L) (st : List Value) (h : zq_H) : Prop := (zi_iload 2 (zi_push (.int 999) (zi_if2 (fun x y => x ≤ y) (xX11_settle_24 s_X5_clear s_X5_add J52 Q) (xX11_settle_22 s_X5_clear s_X5_add J52 Q)))) ls st h
theorem kX11_settle_15 {X : zq_X} {d : Nat} (C : zq_C X cX11_settle 8 RX11 d) (hd1 : 1 ≤ d) {d_X5_clear : Nat} {s_X5_clear : zq_Sp} (h_X5_clear : zq_M yX5_clear cX5_clear 1 none 0 d_X5_clear s_X5_clear) (g_X5_clear : d_X5_clear + 1 ≤ d) {d_X5_add : Nat} {s_X5_add : zq_Sp} (h_X5_add : zq_M yX5_add cX5_add 3 none 0 d_X5_add s_X5_add) (g_X5_add : d_X5_add + 1 ≤ d) {J52 : zq_P} (j52 : zq_ok X 8 52 J52) {Q : zq_Q} (hq : zq_R X (some .int) 1 Q) : zq_ok X 8 15 (xX11_settle_15 s_X5_clear s_X5_add J52 Q) := by
  refine zs_iload_n C dX11_settle_15 rfl ?_
  refine zs_sipush C dX11_settle_16 (by decide) ?_
  exact zs_icmp_le C dX11_settle_19 (by decide) (kX11_settle_24 C hd1 h_X5_clear g_X5_clear h_X5_add g_X5_add j52 hq) (kX11_settle_22 C hd1 h_X5_clear g_X5_clear h_X5_add g_X5_add j52 hq)
def xX11_settle_11 (s_X5_clear : zq_Sp) (s_X5_add : zq_Sp) (J52 : zq_P) (Q : zq_Q) (ls : zq_L) (st : List Value) (h : zq_H) : Prop := (zi_iload 2 (zi_if1 (fun x => x < 0) (xX11_settle_22 s_X5_clear s_X5_add J52 Q) (xX11_settle_15 s_X5_clear s_X5_add J52 Q))) ls st h
theorem kX11_settle_11 {X : zq_X} {d : Nat} (C : zq_C X cX11_settle 8 RX11 d) (hd1 : 1 ≤ d) {d_X5_clear : Nat} {s_X5_clear : zq_Sp} (h_X5_clear : zq_M yX5_clear cX5_clear 1 none 0 d_X5_clear s_X5_clear) (g_X5_clear : d_X5_clear + 1 ≤ d) {d_X5_add : Nat} {s_X5_add : zq_Sp} (h_X5_add : zq_M yX5_add cX5_add 3 none 0 d_X5_add s_X5_add) (g_X5_add : d_X5_add + 1 ≤ d) {J52 : zq_P} (j52 : zq_ok X 8 52 J52) {Q : zq_Q} (hq : zq_R X (some .int) 1 Q) : zq_ok X 8 11 (xX11_settle_11 s_X5_clear s_X5_add J52 Q) := by
  refine zs_iload_n C dX11_settle_11 rfl ?_
  exact zs_if_lt C dX11_settle_12 (by decide) (kX11_settle_22 C hd1 h_X5_clear g_X5_clear h_X5_add g_X5_add j52 hq) (kX11_settle_15 C hd1 h_X5_clear g_X5_clear h_X5_add g_X5_add j52 hq)
def xX11_settle_4 (s_X5_clear : zq_Sp) (s_X5_add : zq_Sp) (J52 : zq_P) (Q : zq_Q) (ls : zq_L) (st : List Value) (h : zq_H) : Prop := (zi_iload 1 (zi_push (.int 999) (zi_if2 (fun x y => y < x) (xX11_settle_22 s_X5_clear s_X5_add J52 Q) (xX11_settle_11 s_X5_clear s_X5_add J52 Q)))) ls st h
theorem kX11_settle_4 {X : zq_X} {d : Nat} (C : zq_C X cX11_settle 8 RX11 d) (hd1 : 1 ≤ d) {d_X5_clear : Nat} {s_X5_clear : zq_Sp} (h_X5_clear : zq_M yX5_clear cX5_clear 1 none 0 d_X5_clear s_X5_clear) (g_X5_clear : d_X5_clear + 1 ≤ d) {d_X5_add : Nat} {s_X5_add : zq_Sp} (h_X5_add : zq_M yX5_add cX5_add 3 none 0 d_X5_add s_X5_add) (g_X5_add : d_X5_add + 1 ≤ d) {J52 : zq_P} (j52 : zq_ok X 8 52 J52) {Q : zq_Q} (hq : zq_R X (some .int) 1 Q) : zq_ok X 8 4 (xX11_settle_4 s_X5_clear s_X5_add J52 Q) := by
  refine zs_iload_n C dX11_settle_4 rfl ?_
  refine zs_sipush C dX11_settle_5 (by decide) ?_
  exact zs_icmp_gt C dX11_settle_8 (by decide) (kX11_settle_22 C hd1 h_X5_clear g_X5_clear h_X5_add g_X5_add j52 hq) (kX11_settle_11 C hd1 h_X5_clear g_X5_clear h_X5_add g_X5_add j52 hq)
def xX11_settle_0 (s_X5_clear : zq_Sp) (s_X5_add : zq_Sp) (J52 : zq_P) (Q : zq_Q) (ls : zq_L) (st : List Value) (h : zq_H) : Prop := (zi_iload 1 (zi_if1 (fun x => x < 0) (xX11_settle_22 s_X5_clear s_X5_add J52 Q) (xX11_settle_4 s_X5_clear s_X5_add J52 Q))) ls st h
theorem kX11_settle_0 {X : zq_X} {d : Nat} (C : zq_C X cX11_settle 8 RX11 d) (hd1 : 1 ≤ d) {d_X5_clear : Nat} {s_X5_clear : zq_Sp} (h_X5_clear : zq_M yX5_clear cX5_clear 1 none 0 d_X5_clear s_X5_clear) (g_X5_clear : d_X5_clear + 1 ≤ d) {d_X5_add : Nat} {s_X5_add : zq_Sp} (h_X5_add : zq_M yX5_add cX5_add 3 none 0 d_X5_add s_X5_add) (g_X5_add : d_X5_add + 1 ≤ d) {J52 : zq_P} (j52 : zq_ok X 8 52 J52) {Q : zq_Q} (hq : zq_R X (some .int) 1 Q) : zq_ok X 8 0 (xX11_settle_0 s_X5_clear s_X5_add J52 Q) := by
  refine zs_iload_n C dX11_settle_0 rfl ?_
  exact zs_if_lt C dX11_settle_1 (by decide) (kX11_settle_22 C hd1 h_X5_clear g_X5_clear h_X5_add g_X5_add j52 hq) (kX11_settle_4 C hd1 h_X5_clear g_X5_clear h_X5_add g_X5_add j52 hq)
theorem mX11_settle {d : Nat} {spec : zq_Sp} {σ52 : Type} {d_X5_clear : Nat} {s_X5_clear : zq_Sp} (h_X5_clear : zq_M yX5_clear cX5_clear 1 none 0 d_X5_clear s_X5_clear) (g_X5_clear : d_X5_clear + 1 ≤ d) {d_X5_add : Nat} {s_X5_add : zq_Sp} (h_X5_add : zq_M yX5_add cX5_add 3 none 0 d_X5_add s_X5_add) (g_X5_add : d_X5_add + 1 ≤ d) (hd1 : 1 ≤ d) (μ52 : σ52 → Nat) (I52 : zq_Q → σ52 → zq_P) (v : ∀ args h Q, spec args h Q → (zq_a args).length ≤ 8 ∧ xX11_settle_0 s_X5_clear s_X5_add (fun ls st h => ∃ b, I52 Q b ls st h) Q (zq_l0 8 args) [] h) (v52 : ∀ Q a ls st h, I52 Q a ls st h → xX11_settle_52 s_X5_clear s_X5_add (fun ls st h => ∃ b, μ52 b < μ52 a ∧ I52 Q b ls st h) Q ls st h) : zq_M yX11_settle cX11_settle 8 (some .int) 1 d spec := by
  refine zq_met (by decide +kernel) (by decide) (fun X Q args h C hq hs => ⟨(v args h Q hs).1, _, ?_, (v args h Q hs).2⟩)
  have hl := zq_loop1 (X := X) (nL := 8) (pc1 := 52) μ52 (I52 Q) (fun J52 => xX11_settle_52 s_X5_clear s_X5_add J52 Q) (fun j52 => kX11_settle_52 C hd1 h_X5_clear g_X5_clear h_X5_add g_X5_add j52 hq) (v52 Q)
  exact kX11_settle_0 C hd1 h_X5_clear g_X5_clear h_X5_add g_X5_add hl hq
/-! ToOneCrumb.nothing()I -/
theorem dX11_nothing_0 : decode cX11_nothing 0 = .ok (.aload_n 0, 1) := by decide +kernel
theorem dX11_nothing_1 : decode cX11_nothing 1 = .ok (.getfield 26, 3) := by decide +kernel
theorem dX11_nothing_4 : decode cX11_nothing 4 = .ok (.invokevirtual 145, 3) := by decide +kernel
theorem dX11_nothing_7 : decode cX11_nothing 7 = .ok (.istore_n 1, 1) := by decide +kernel
theorem dX11_nothing_8 : decode cX11_nothing 8 = .ok (.iload_n 1, 1) := by decide +kernel
theorem dX11_nothing_9 : decode cX11_nothing 9 = .ok (.ifCond .gt 6, 3) := by decide +kernel
theorem dX11_nothing_12 : decode cX11_nothing 12 = .ok (.bipush (-2), 2) := by decide +kernel
theorem dX11_nothing_14 : decode cX11_nothing 14 = .ok (.ireturn, 1) := by decide +kernel
theorem dX11_nothing_15 : decode cX11_nothing 15 = .ok (.aload_n 0, 1) := by decide +kernel
theorem dX11_nothing_16 : decode cX11_nothing 16 = .ok (.getfield 82, 3) := by decide +kernel
theorem dX11_nothing_19 : decode cX11_nothing 19 = .ok (.invokevirtual 343, 3) := by decide +kernel
theorem dX11_nothing_22 : decode cX11_nothing 22 = .ok (.istore_n 2, 1) := by decide +kernel
theorem dX11_nothing_23 : decode cX11_nothing 23 = .ok (.iconst 0, 1) := by decide +kernel
theorem dX11_nothing_24 : decode cX11_nothing 24 = .ok (.istore_n 3, 1) := by decide +kernel
theorem dX11_nothing_25 : decode cX11_nothing 25 = .ok (.iload_n 3, 1) := by decide +kernel
theorem dX11_nothing_26 : decode cX11_nothing 26 = .ok (.sipush 999, 3) := by decide +kernel
theorem dX11_nothing_29 : decode cX11_nothing 29 = .ok (.if_icmp .gt 23, 3) := by decide +kernel
theorem dX11_nothing_32 : decode cX11_nothing 32 = .ok (.aload_n 0, 1) := by decide +kernel
theorem dX11_nothing_33 : decode cX11_nothing 33 = .ok (.getfield 26, 3) := by decide +kernel
theorem dX11_nothing_36 : decode cX11_nothing 36 = .ok (.iload_n 2, 1) := by decide +kernel
theorem dX11_nothing_37 : decode cX11_nothing 37 = .ok (.iload_n 3, 1) := by decide +kernel
theorem dX11_nothing_38 : decode cX11_nothing 38 = .ok (.iadd, 1) := by decide +kernel
theorem dX11_nothing_39 : decode cX11_nothing 39 = .ok (.iload_n 1, 1) := by decide +kernel
theorem dX11_nothing_40 : decode cX11_nothing 40 = .ok (.invokevirtual 346, 3) := by decide +kernel
theorem dX11_nothing_43 : decode cX11_nothing 43 = .ok (.ifCond .ne 9, 3) := by decide +kernel
theorem dX11_nothing_46 : decode cX11_nothing 46 = .ok (.iinc 3 1, 3) := by decide +kernel
theorem dX11_nothing_49 : decode cX11_nothing 49 = .ok (.goto (-24), 3) := by decide +kernel
theorem dX11_nothing_52 : decode cX11_nothing 52 = .ok (.iload_n 3, 1) := by decide +kernel
theorem dX11_nothing_53 : decode cX11_nothing 53 = .ok (.sipush 999, 3) := by decide +kernel
theorem dX11_nothing_56 : decode cX11_nothing 56 = .ok (.if_icmp .le 6, 3) := by decide +kernel
theorem dX11_nothing_59 : decode cX11_nothing 59 = .ok (.bipush (-2), 2) := by decide +kernel
theorem dX11_nothing_61 : decode cX11_nothing 61 = .ok (.ireturn, 1) := by decide +kernel
theorem dX11_nothing_62 : decode cX11_nothing 62 = .ok (.aload_n 0, 1) := by decide +kernel
theorem dX11_nothing_63 : decode cX11_nothing 63 = .ok (.getfield 19, 3) := by decide +kernel
theorem dX11_nothing_66 : decode cX11_nothing 66 = .ok (.invokevirtual 236, 3) := by decide +kernel
theorem dX11_nothing_69 : decode cX11_nothing 69 = .ok (.iconst 0, 1) := by decide +kernel
theorem dX11_nothing_70 : decode cX11_nothing 70 = .ok (.istore 4, 2) := by decide +kernel
theorem dX11_nothing_72 : decode cX11_nothing 72 = .ok (.iload 4, 2) := by decide +kernel
theorem dX11_nothing_74 : decode cX11_nothing 74 = .ok (.aload_n 0, 1) := by decide +kernel
theorem dX11_nothing_75 : decode cX11_nothing 75 = .ok (.getfield 26, 3) := by decide +kernel
theorem dX11_nothing_78 : decode cX11_nothing 78 = .ok (.getfield 243, 3) := by decide +kernel
theorem dX11_nothing_81 : decode cX11_nothing 81 = .ok (.if_icmp .ge 35, 3) := by decide +kernel
theorem dX11_nothing_84 : decode cX11_nothing 84 = .ok (.aload_n 0, 1) := by decide +kernel
theorem dX11_nothing_85 : decode cX11_nothing 85 = .ok (.getfield 19, 3) := by decide +kernel
theorem dX11_nothing_88 : decode cX11_nothing 88 = .ok (.iload_n 2, 1) := by decide +kernel
theorem dX11_nothing_89 : decode cX11_nothing 89 = .ok (.iload_n 3, 1) := by decide +kernel
theorem dX11_nothing_90 : decode cX11_nothing 90 = .ok (.iadd, 1) := by decide +kernel
theorem dX11_nothing_91 : decode cX11_nothing 91 = .ok (.i2l, 1) := by decide +kernel
theorem dX11_nothing_92 : decode cX11_nothing 92 = .ok (.aload_n 0, 1) := by decide +kernel
theorem dX11_nothing_93 : decode cX11_nothing 93 = .ok (.getfield 26, 3) := by decide +kernel
theorem dX11_nothing_96 : decode cX11_nothing 96 = .ok (.getfield 176, 3) := by decide +kernel
theorem dX11_nothing_99 : decode cX11_nothing 99 = .ok (.iload 4, 2) := by decide +kernel
theorem dX11_nothing_101 : decode cX11_nothing 101 = .ok (.iaload, 1) := by decide +kernel
theorem dX11_nothing_102 : decode cX11_nothing 102 = .ok (.i2l, 1) := by decide +kernel
theorem dX11_nothing_103 : decode cX11_nothing 103 = .ok (.lmul, 1) := by decide +kernel
theorem dX11_nothing_104 : decode cX11_nothing 104 = .ok (.iload_n 1, 1) := by decide +kernel
theorem dX11_nothing_105 : decode cX11_nothing 105 = .ok (.i2l, 1) := by decide +kernel
theorem dX11_nothing_106 : decode cX11_nothing 106 = .ok (.ldiv, 1) := by decide +kernel
theorem dX11_nothing_107 : decode cX11_nothing 107 = .ok (.invokevirtual 237, 3) := by decide +kernel
theorem dX11_nothing_110 : decode cX11_nothing 110 = .ok (.iinc 4 1, 3) := by decide +kernel
theorem dX11_nothing_113 : decode cX11_nothing 113 = .ok (.goto (-41), 3) := by decide +kernel
theorem dX11_nothing_116 : decode cX11_nothing 116 = .ok (.iload_n 3, 1) := by decide +kernel
theorem dX11_nothing_117 : decode cX11_nothing 117 = .ok (.ireturn, 1) := by decide +kernel
def xX11_nothing_116 (s_X3_allDeserts : zq_Sp) (s_X2_allCrumbs : zq_Sp) (s_X3_canPart : zq_Sp) (s_X5_clear : zq_Sp) (s_X5_add : zq_Sp) (J25 : zq_P) (J72 : zq_P) (Q : zq_Q) (ls : zq_L) (st : List Value) (h : zq_H) : Prop := (zi_iload 3 (zi_iret Q)) ls st h
theorem kX11_nothing_116 {X : zq_X} {d : Nat} (C : zq_C X cX11_nothing 5 RX11 d) {d_X3_allDeserts : Nat} {s_X3_allDeserts : zq_Sp} (h_X3_allDeserts : zq_M yX3_allDeserts cX3_allDeserts 1 (some .int) 1 d_X3_allDeserts s_X3_allDeserts) (g_X3_allDeserts : d_X3_allDeserts + 1 ≤ d) {d_X2_allCrumbs : Nat} {s_X2_allCrumbs : zq_Sp} (h_X2_allCrumbs : zq_M yX2_allCrumbs cX2_allCrumbs 3 (some .int) 1 d_X2_allCrumbs s_X2_allCrumbs) (g_X2_allCrumbs : d_X2_allCrumbs + 1 ≤ d) {d_X3_canPart : Nat} {s_X3_canPart : zq_Sp} (h_X3_canPart : zq_M yX3_canPart cX3_canPart 4 (some .boolean) 1 d_X3_canPart s_X3_canPart) (g_X3_canPart : d_X3_canPart + 1 ≤ d) {d_X5_clear : Nat} {s_X5_clear : zq_Sp} (h_X5_clear : zq_M yX5_clear cX5_clear 1 none 0 d_X5_clear s_X5_clear) (g_X5_clear : d_X5_clear + 1 ≤ d) {d_X5_add : Nat} {s_X5_add : zq_Sp} (h_X5_add : zq_M yX5_add cX5_add 3 none 0 d_X5_add s_X5_add) (g_X5_add : d_X5_add + 1 ≤ d) {J25 : zq_P} (j25 : zq_ok X 5 25 J25) {J72 : zq_P} (j72 : zq_ok X 5 72 J72) {Q : zq_Q} (hq : zq_R X (some .int) 1 Q) : zq_ok X 5 116 (xX11_nothing_116 s_X3_allDeserts s_X2_allCrumbs s_X3_canPart s_X5_clear s_X5_add J25 J72 Q) := by
  refine zs_iload_n C dX11_nothing_116 rfl ?_
  exact zs_iret C hq dX11_nothing_117
def xX11_nothing_84 (s_X3_allDeserts : zq_Sp) (s_X2_allCrumbs : zq_Sp) (s_X3_canPart : zq_Sp) (s_X5_clear : zq_Sp) (s_X5_add : zq_Sp) (J25 : zq_P) (J72 : zq_P) (Q : zq_Q) (ls : zq_L) (st : List Value) (h : zq_H) : Prop := (zi_aload 0 (zi_getR 0 3 (zi_iload 2 (zi_iload 3 (zi_i2 (fun x y => x + y) (zi_i2l (zi_aload 0 (zi_getR 0 5 (zi_getR 5 7 (zi_iload 4 (zi_aldI 7 6 (zi_i2l (zi_l2 (fun x y => x * y) (zi_iload 1 (zi_i2l (zi_ldv (fun x y => x / y) (zi_callV 1 3 s_X5_add (zi_iinc 4 1 (J72))))))))))))))))))) ls st h
theorem kX11_nothing_84 {X : zq_X} {d : Nat} (C : zq_C X cX11_nothing 5 RX11 d) {d_X3_allDeserts : Nat} {s_X3_allDeserts : zq_Sp} (h_X3_allDeserts : zq_M yX3_allDeserts cX3_allDeserts 1 (some .int) 1 d_X3_allDeserts s_X3_allDeserts) (g_X3_allDeserts : d_X3_allDeserts + 1 ≤ d) {d_X2_allCrumbs : Nat} {s_X2_allCrumbs : zq_Sp} (h_X2_allCrumbs : zq_M yX2_allCrumbs cX2_allCrumbs 3 (some .int) 1 d_X2_allCrumbs s_X2_allCrumbs) (g_X2_allCrumbs : d_X2_allCrumbs + 1 ≤ d) {d_X3_canPart : Nat} {s_X3_canPart : zq_Sp} (h_X3_canPart : zq_M yX3_canPart cX3_canPart 4 (some .boolean) 1 d_X3_canPart s_X3_canPart) (g_X3_canPart : d_X3_canPart + 1 ≤ d) {d_X5_clear : Nat} {s_X5_clear : zq_Sp} (h_X5_clear : zq_M yX5_clear cX5_clear 1 none 0 d_X5_clear s_X5_clear) (g_X5_clear : d_X5_clear + 1 ≤ d) {d_X5_add : Nat} {s_X5_add : zq_Sp} (h_X5_add : zq_M yX5_add cX5_add 3 none 0 d_X5_add s_X5_add) (g_X5_add : d_X5_add + 1 ≤ d) {J25 : zq_P} (j25 : zq_ok X 5 25 J25) {J72 : zq_P} (j72 : zq_ok X 5 72 J72) {Q : zq_Q} (hq : zq_R X (some .int) 1 Q) : zq_ok X 5 84 (xX11_nothing_84 s_X3_allDeserts s_X2_allCrumbs s_X3_canPart s_X5_clear s_X5_add J25 J72 Q) := by
  refine zs_aload_n C dX11_nothing_84 rfl ?_
  refine zs_getR C zp_0 zF11 (j := 1) ⟨by decide, rfl⟩ zw_316 dX11_nothing_85 ?_
  refine zs_iload_n C dX11_nothing_88 rfl ?_
  refine zs_iload_n C dX11_nothing_89 rfl ?_
  refine zs_iadd C dX11_nothing_90 ?_
  refine zs_i2l C dX11_nothing_91 ?_
  refine zs_aload_n C dX11_nothing_92 rfl ?_
  refine zs_getR C zp_0 zF11 (j := 2) ⟨by decide, rfl⟩ zw_317 dX11_nothing_93 ?_
  refine zs_getRN C zp_5 zF3 (j := 1) ⟨by decide, rfl⟩ zw_81 dX11_nothing_96 ?_
  refine zs_iload C dX11_nothing_99 ?_
  refine zs_iaload C zp_7 dX11_nothing_101 ?_
  refine zs_i2l C dX11_nothing_102 ?_
  refine zs_lmul C dX11_nothing_103 ?_
  refine zs_iload_n C dX11_nothing_104 rfl ?_
  refine zs_i2l C dX11_nothing_105 ?_
  refine zs_ldiv C dX11_nothing_106 ?_
  refine zs_callV C h_X5_add g_X5_add zy_X5_add zp_3 (show vwCl[5]? = some (RX5, TX5, 2) from rfl) zw_654 zw_655 zs9_X5_add dX11_nothing_107 ?_
  refine zs_iinc C dX11_nothing_110 (by decide) (by decide) ?_
  exact zs_goto C dX11_nothing_113 (by decide) (j72)
def xX11_nothing_72 (s_X3_allDeserts : zq_Sp) (s_X2_allCrumbs : zq_Sp) (s_X3_canPart : zq_Sp) (s_X5_clear : zq_Sp) (s_X5_add : zq_Sp) (J25 : zq_P) (J72 : zq_P) (Q : zq_Q) (ls : zq_L) (st : List Value) (h : zq_H) : Prop := (zi_iload 4 (zi_aload 0 (zi_getR 0 5 (zi_getI 5 3 (zi_if2 (fun x y => y ≤ x) (xX11_nothing_116 s_X3_allDeserts s_X2_allCrumbs s_X3_canPart s_X5_clear s_X5_add J25 J72 Q) (xX11_nothing_84 s_X3_allDeserts s_X2_allCrumbs s_X3_canPart s_X5_clear s_X5_add J25 J72 Q)))))) ls st h
theorem kX11_nothing_72 {X : zq_X} {d : Nat} (C : zq_C X cX11_nothing 5 RX11 d) {d_X3_allDeserts : Nat} {s_X3_allDeserts : zq_Sp} (h_X3_allDeserts : zq_M yX3_allDeserts cX3_allDeserts 1 (some .int) 1 d_X3_allDeserts s_X3_allDeserts) (g_X3_allDeserts : d_X3_allDeserts + 1 ≤ d) {d_X2_allCrumbs : Nat} {s_X2_allCrumbs : zq_Sp} (h_X2_allCrumbs : zq_M yX2_allCrumbs cX2_allCrumbs 3 (some .int) 1 d_X2_allCrumbs s_X2_allCrumbs) (g_X2_allCrumbs : d_X2_allCrumbs + 1 ≤ d) {d_X3_canPart : Nat} {s_X3_canPart : zq_Sp} (h_X3_canPart : zq_M yX3_canPart cX3_canPart 4 (some .boolean) 1 d_X3_canPart s_X3_canPart) (g_X3_canPart : d_X3_canPart + 1 ≤ d) {d_X5_clear : Nat} {s_X5_clear : zq_Sp} (h_X5_clear : zq_M yX5_clear cX5_clear 1 none 0 d_X5_clear s_X5_clear) (g_X5_clear : d_X5_clear + 1 ≤ d) {d_X5_add : Nat} {s_X5_add : zq_Sp} (h_X5_add : zq_M yX5_add cX5_add 3 none 0 d_X5_add s_X5_add) (g_X5_add : d_X5_add + 1 ≤ d) {J25 : zq_P} (j25 : zq_ok X 5 25 J25) {J72 : zq_P} (j72 : zq_ok X 5 72 J72) {Q : zq_Q} (hq : zq_R X (some .int) 1 Q) : zq_ok X 5 72 (xX11_nothing_72 s_X3_allDeserts s_X2_allCrumbs s_X3_canPart s_X5_clear s_X5_add J25 J72 Q) := by
  refine zs_iload C dX11_nothing_72 ?_
  refine zs_aload_n C dX11_nothing_74 rfl ?_
  refine zs_getR C zp_0 zF11 (j := 2) ⟨by decide, rfl⟩ zw_317 dX11_nothing_75 ?_
  refine zs_getIN C zp_5 zF3 (j := 3) ⟨by decide, rfl⟩ zw_85 dX11_nothing_78 ?_
  exact zs_icmp_ge C dX11_nothing_81 (by decide) (kX11_nothing_116 C h_X3_allDeserts g_X3_allDeserts h_X2_allCrumbs g_X2_allCrumbs h_X3_canPart g_X3_canPart h_X5_clear g_X5_clear h_X5_add g_X5_add j25 j72 hq) (kX11_nothing_84 C h_X3_allDeserts g_X3_allDeserts h_X2_allCrumbs g_X2_allCrumbs h_X3_canPart g_X3_canPart h_X5_clear g_X5_clear h_X5_add g_X5_add j25 j72 hq)
def xX11_nothing_62 (s_X3_allDeserts : zq_Sp) (s_X2_allCrumbs : zq_Sp) (s_X3_canPart : zq_Sp) (s_X5_clear : zq_Sp) (s_X5_add : zq_Sp) (J25 : zq_P) (J72 : zq_P) (Q : zq_Q) (ls : zq_L) (st : List Value) (h : zq_H) : Prop := (zi_aload 0 (zi_getR 0 3 (zi_callV 0 3 s_X5_clear (zi_push (.int 0) (zi_istore 4 (J72)))))) ls st h
theorem kX11_nothing_62 {X : zq_X} {d : Nat} (C : zq_C X cX11_nothing 5 RX11 d) {d_X3_allDeserts : Nat} {s_X3_allDeserts : zq_Sp} (h_X3_allDeserts : zq_M yX3_allDeserts cX3_allDeserts 1 (some .int) 1 d_X3_allDeserts s_X3_allDeserts) (g_X3_allDeserts : d_X3_allDeserts + 1 ≤ d) {d_X2_allCrumbs : Nat} {s_X2_allCrumbs : zq_Sp} (h_X2_allCrumbs : zq_M yX2_allCrumbs cX2_allCrumbs 3 (some .int) 1 d_X2_allCrumbs s_X2_allCrumbs) (g_X2_allCrumbs : d_X2_allCrumbs + 1 ≤ d) {d_X3_canPart : Nat} {s_X3_canPart : zq_Sp} (h_X3_canPart : zq_M yX3_canPart cX3_canPart 4 (some .boolean) 1 d_X3_canPart s_X3_canPart) (g_X3_canPart : d_X3_canPart + 1 ≤ d) {d_X5_clear : Nat} {s_X5_clear : zq_Sp} (h_X5_clear : zq_M yX5_clear cX5_clear 1 none 0 d_X5_clear s_X5_clear) (g_X5_clear : d_X5_clear + 1 ≤ d) {d_X5_add : Nat} {s_X5_add : zq_Sp} (h_X5_add : zq_M yX5_add cX5_add 3 none 0 d_X5_add s_X5_add) (g_X5_add : d_X5_add + 1 ≤ d) {J25 : zq_P} (j25 : zq_ok X 5 25 J25) {J72 : zq_P} (j72 : zq_ok X 5 72 J72) {Q : zq_Q} (hq : zq_R X (some .int) 1 Q) : zq_ok X 5 62 (xX11_nothing_62 s_X3_allDeserts s_X2_allCrumbs s_X3_canPart s_X5_clear s_X5_add J25 J72 Q) := by
  refine zs_aload_n C dX11_nothing_62 rfl ?_
  refine zs_getR C zp_0 zF11 (j := 1) ⟨by decide, rfl⟩ zw_316 dX11_nothing_63 ?_
  refine zs_callV C h_X5_clear g_X5_clear zy_X5_clear zp_3 (show vwCl[5]? = some (RX5, TX5, 2) from rfl) zw_650 zw_651 zs9_X5_clear dX11_nothing_66 ?_
  refine zs_iconst C dX11_nothing_69 (by decide) ?_
  refine zs_istore C dX11_nothing_70 (by decide) ?_
  exact j72
def xX11_nothing_59 (s_X3_allDeserts : zq_Sp) (s_X2_allCrumbs : zq_Sp) (s_X3_canPart : zq_Sp) (s_X5_clear : zq_Sp) (s_X5_add : zq_Sp) (J25 : zq_P) (J72 : zq_P) (Q : zq_Q) (ls : zq_L) (st : List Value) (h : zq_H) : Prop := (zi_push (.int (-2)) (zi_iret Q)) ls st h
theorem kX11_nothing_59 {X : zq_X} {d : Nat} (C : zq_C X cX11_nothing 5 RX11 d) {d_X3_allDeserts : Nat} {s_X3_allDeserts : zq_Sp} (h_X3_allDeserts : zq_M yX3_allDeserts cX3_allDeserts 1 (some .int) 1 d_X3_allDeserts s_X3_allDeserts) (g_X3_allDeserts : d_X3_allDeserts + 1 ≤ d) {d_X2_allCrumbs : Nat} {s_X2_allCrumbs : zq_Sp} (h_X2_allCrumbs : zq_M yX2_allCrumbs cX2_allCrumbs 3 (some .int) 1 d_X2_allCrumbs s_X2_allCrumbs) (g_X2_allCrumbs : d_X2_allCrumbs + 1 ≤ d) {d_X3_canPart : Nat} {s_X3_canPart : zq_Sp} (h_X3_canPart : zq_M yX3_canPart cX3_canPart 4 (some .boolean) 1 d_X3_canPart s_X3_canPart) (g_X3_canPart : d_X3_canPart + 1 ≤ d) {d_X5_clear : Nat} {s_X5_clear : zq_Sp} (h_X5_clear : zq_M yX5_clear cX5_clear 1 none 0 d_X5_clear s_X5_clear) (g_X5_clear : d_X5_clear + 1 ≤ d) {d_X5_add : Nat} {s_X5_add : zq_Sp} (h_X5_add : zq_M yX5_add cX5_add 3 none 0 d_X5_add s_X5_add) (g_X5_add : d_X5_add + 1 ≤ d) {J25 : zq_P} (j25 : zq_ok X 5 25 J25) {J72 : zq_P} (j72 : zq_ok X 5 72 J72) {Q : zq_Q} (hq : zq_R X (some .int) 1 Q) : zq_ok X 5 59 (xX11_nothing_59 s_X3_allDeserts s_X2_allCrumbs s_X3_canPart s_X5_clear s_X5_add J25 J72 Q) := by
  refine zs_bipush C dX11_nothing_59 (by decide) ?_
  exact zs_iret C hq dX11_nothing_61
def xX11_nothing_52 (s_X3_allDeserts : zq_Sp) (s_X2_allCrumbs : zq_Sp) (s_X3_canPart : zq_Sp) (s_X5_clear : zq_Sp) (s_X5_add : zq_Sp) (J25 : zq_P) (J72 : zq_P) (Q : zq_Q) (ls : zq_L) (st : List Value) (h : zq_H) : Prop := (zi_iload 3 (zi_push (.int 999) (zi_if2 (fun x y => x ≤ y) (xX11_nothing_62 s_X3_allDeserts s_X2_allCrumbs s_X3_canPart s_X5_clear s_X5_add J25 J72 Q) (xX11_nothing_59 s_X3_allDeserts s_X2_allCrumbs s_X3_canPart s_X5_clear s_X5_add J25 J72 Q)))) ls st h
theorem kX11_nothing_52 {X : zq_X} {d : Nat} (C : zq_C X cX11_nothing 5 RX11 d) {d_X3_allDeserts : Nat} {s_X3_allDeserts : zq_Sp} (h_X3_allDeserts : zq_M yX3_allDeserts cX3_allDeserts 1 (some .int) 1 d_X3_allDeserts s_X3_allDeserts) (g_X3_allDeserts : d_X3_allDeserts + 1 ≤ d) {d_X2_allCrumbs : Nat} {s_X2_allCrumbs : zq_Sp} (h_X2_allCrumbs : zq_M yX2_allCrumbs cX2_allCrumbs 3 (some .int) 1 d_X2_allCrumbs s_X2_allCrumbs) (g_X2_allCrumbs : d_X2_allCrumbs + 1 ≤ d) {d_X3_canPart : Nat} {s_X3_canPart : zq_Sp} (h_X3_canPart : zq_M yX3_canPart cX3_canPart 4 (some .boolean) 1 d_X3_canPart s_X3_canPart) (g_X3_canPart : d_X3_canPart + 1 ≤ d) {d_X5_clear : Nat} {s_X5_clear : zq_Sp} (h_X5_clear : zq_M yX5_clear cX5_clear 1 none 0 d_X5_clear s_X5_clear) (g_X5_clear : d_X5_clear + 1 ≤ d) {d_X5_add : Nat} {s_X5_add : zq_Sp} (h_X5_add : zq_M yX5_add cX5_add 3 none 0 d_X5_add s_X5_add) (g_X5_add : d_X5_add + 1 ≤ d) {J25 : zq_P} (j25 : zq_ok X 5 25 J25) {J72 : zq_P} (j72 : zq_ok X 5 72 J72) {Q : zq_Q} (hq : zq_R X (some .int) 1 Q) : zq_ok X 5 52 (xX11_nothing_52 s_X3_allDeserts s_X2_allCrumbs s_X3_canPart s_X5_clear s_X5_add J25 J72 Q) := by
  refine zs_iload_n C dX11_nothing_52 rfl ?_
  refine zs_sipush C dX11_nothing_53 (by decide) ?_
  exact zs_icmp_le C dX11_nothing_56 (by decide) (kX11_nothing_62 C h_X3_allDeserts g_X3_allDeserts h_X2_allCrumbs g_X2_allCrumbs h_X3_canPart g_X3_canPart h_X5_clear g_X5_clear h_X5_add g_X5_add j25 j72 hq) (kX11_nothing_59 C h_X3_allDeserts g_X3_allDeserts h_X2_allCrumbs g_X2_allCrumbs h_X3_canPart g_X3_canPart h_X5_clear g_X5_clear h_X5_add g_X5_add j25 j72 hq)
def xX11_nothing_46 (s_X3_allDeserts : zq_Sp) (s_X2_allCrumbs : zq_Sp) (s_X3_canPart : zq_Sp) (s_X5_clear : zq_Sp) (s_X5_add : zq_Sp) (J25 : zq_P) (J72 : zq_P) (Q : zq_Q) (ls : zq_L) (st : List Value) (h : zq_H) : Prop := (zi_iinc 3 1 (J25)) ls st h
theorem kX11_nothing_46 {X : zq_X} {d : Nat} (C : zq_C X cX11_nothing 5 RX11 d) {d_X3_allDeserts : Nat} {s_X3_allDeserts : zq_Sp} (h_X3_allDeserts : zq_M yX3_allDeserts cX3_allDeserts 1 (some .int) 1 d_X3_allDeserts s_X3_allDeserts) (g_X3_allDeserts : d_X3_allDeserts + 1 ≤ d) {d_X2_allCrumbs : Nat} {s_X2_allCrumbs : zq_Sp} (h_X2_allCrumbs : zq_M yX2_allCrumbs cX2_allCrumbs 3 (some .int) 1 d_X2_allCrumbs s_X2_allCrumbs) (g_X2_allCrumbs : d_X2_allCrumbs + 1 ≤ d) {d_X3_canPart : Nat} {s_X3_canPart : zq_Sp} (h_X3_canPart : zq_M yX3_canPart cX3_canPart 4 (some .boolean) 1 d_X3_canPart s_X3_canPart) (g_X3_canPart : d_X3_canPart + 1 ≤ d) {d_X5_clear : Nat} {s_X5_clear : zq_Sp} (h_X5_clear : zq_M yX5_clear cX5_clear 1 none 0 d_X5_clear s_X5_clear) (g_X5_clear : d_X5_clear + 1 ≤ d) {d_X5_add : Nat} {s_X5_add : zq_Sp} (h_X5_add : zq_M yX5_add cX5_add 3 none 0 d_X5_add s_X5_add) (g_X5_add : d_X5_add + 1 ≤ d) {J25 : zq_P} (j25 : zq_ok X 5 25 J25) {J72 : zq_P} (j72 : zq_ok X 5 72 J72) {Q : zq_Q} (hq : zq_R X (some .int) 1 Q) : zq_ok X 5 46 (xX11_nothing_46 s_X3_allDeserts s_X2_allCrumbs s_X3_canPart s_X5_clear s_X5_add J25 J72 Q) := by
  refine zs_iinc C dX11_nothing_46 (by decide) (by decide) ?_
  exact zs_goto C dX11_nothing_49 (by decide) (j25)
def xX11_nothing_32 (s_X3_allDeserts : zq_Sp) (s_X2_allCrumbs : zq_Sp) (s_X3_canPart : zq_Sp) (s_X5_clear : zq_Sp) (s_X5_add : zq_Sp) (J25 : zq_P) (J72 : zq_P) (Q : zq_Q) (ls : zq_L) (st : List Value) (h : zq_H) : Prop := (zi_aload 0 (zi_getR 0 5 (zi_iload 2 (zi_iload 3 (zi_i2 (fun x y => x + y) (zi_iload 1 (zi_callV 2 5 s_X3_canPart (zi_if1 (fun x => x = 0) (xX11_nothing_46 s_X3_allDeserts s_X2_allCrumbs s_X3_canPart s_X5_clear s_X5_add J25 J72 Q) (xX11_nothing_52 s_X3_allDeserts s_X2_allCrumbs s_X3_canPart s_X5_clear s_X5_add J25 J72 Q))))))))) ls st h
theorem kX11_nothing_32 {X : zq_X} {d : Nat} (C : zq_C X cX11_nothing 5 RX11 d) {d_X3_allDeserts : Nat} {s_X3_allDeserts : zq_Sp} (h_X3_allDeserts : zq_M yX3_allDeserts cX3_allDeserts 1 (some .int) 1 d_X3_allDeserts s_X3_allDeserts) (g_X3_allDeserts : d_X3_allDeserts + 1 ≤ d) {d_X2_allCrumbs : Nat} {s_X2_allCrumbs : zq_Sp} (h_X2_allCrumbs : zq_M yX2_allCrumbs cX2_allCrumbs 3 (some .int) 1 d_X2_allCrumbs s_X2_allCrumbs) (g_X2_allCrumbs : d_X2_allCrumbs + 1 ≤ d) {d_X3_canPart : Nat} {s_X3_canPart : zq_Sp} (h_X3_canPart : zq_M yX3_canPart cX3_canPart 4 (some .boolean) 1 d_X3_canPart s_X3_canPart) (g_X3_canPart : d_X3_canPart + 1 ≤ d) {d_X5_clear : Nat} {s_X5_clear : zq_Sp} (h_X5_clear : zq_M yX5_clear cX5_clear 1 none 0 d_X5_clear s_X5_clear) (g_X5_clear : d_X5_clear + 1 ≤ d) {d_X5_add : Nat} {s_X5_add : zq_Sp} (h_X5_add : zq_M yX5_add cX5_add 3 none 0 d_X5_add s_X5_add) (g_X5_add : d_X5_add + 1 ≤ d) {J25 : zq_P} (j25 : zq_ok X 5 25 J25) {J72 : zq_P} (j72 : zq_ok X 5 72 J72) {Q : zq_Q} (hq : zq_R X (some .int) 1 Q) : zq_ok X 5 32 (xX11_nothing_32 s_X3_allDeserts s_X2_allCrumbs s_X3_canPart s_X5_clear s_X5_add J25 J72 Q) := by
  refine zs_aload_n C dX11_nothing_32 rfl ?_
  refine zs_getR C zp_0 zF11 (j := 2) ⟨by decide, rfl⟩ zw_317 dX11_nothing_33 ?_
  refine zs_iload_n C dX11_nothing_36 rfl ?_
  refine zs_iload_n C dX11_nothing_37 rfl ?_
  refine zs_iadd C dX11_nothing_38 ?_
  refine zs_iload_n C dX11_nothing_39 rfl ?_
  refine zs_callV C h_X3_canPart g_X3_canPart zy_X3_canPart zp_5 (show vwCl[3]? = some (RX3, TX3, 4) from rfl) zw_949 zw_950 zs9_X3_canPart dX11_nothing_40 ?_
  exact zs_if_ne C dX11_nothing_43 (by decide) (kX11_nothing_52 C h_X3_allDeserts g_X3_allDeserts h_X2_allCrumbs g_X2_allCrumbs h_X3_canPart g_X3_canPart h_X5_clear g_X5_clear h_X5_add g_X5_add j25 j72 hq) (kX11_nothing_46 C h_X3_allDeserts g_X3_allDeserts h_X2_allCrumbs g_X2_allCrumbs h_X3_canPart g_X3_canPart h_X5_clear g_X5_clear h_X5_add g_X5_add j25 j72 hq)
def xX11_nothing_25 (s_X3_allDeserts : zq_Sp) (s_X2_allCrumbs : zq_Sp) (s_X3_canPart : zq_Sp) (s_X5_clear : zq_Sp) (s_X5_add : zq_Sp) (J25 : zq_P) (J72 : zq_P) (Q : zq_Q) (ls : zq_L) (st : List Value) (h : zq_H) : Prop := (zi_iload 3 (zi_push (.int 999) (zi_if2 (fun x y => y < x) (xX11_nothing_52 s_X3_allDeserts s_X2_allCrumbs s_X3_canPart s_X5_clear s_X5_add J25 J72 Q) (xX11_nothing_32 s_X3_allDeserts s_X2_allCrumbs s_X3_canPart s_X5_clear s_X5_add J25 J72 Q)))) ls st h
theorem kX11_nothing_25 {X : zq_X} {d : Nat} (C : zq_C X cX11_nothing 5 RX11 d) {d_X3_allDeserts : Nat} {s_X3_allDeserts : zq_Sp} (h_X3_allDeserts : zq_M yX3_allDeserts cX3_allDeserts 1 (some .int) 1 d_X3_allDeserts s_X3_allDeserts) (g_X3_allDeserts : d_X3_allDeserts + 1 ≤ d) {d_X2_allCrumbs : Nat} {s_X2_allCrumbs : zq_Sp} (h_X2_allCrumbs : zq_M yX2_allCrumbs cX2_allCrumbs 3 (some .int) 1 d_X2_allCrumbs s_X2_allCrumbs) (g_X2_allCrumbs : d_X2_allCrumbs + 1 ≤ d) {d_X3_canPart : Nat} {s_X3_canPart : zq_Sp} (h_X3_canPart : zq_M yX3_canPart cX3_canPart 4 (some .boolean) 1 d_X3_canPart s_X3_canPart) (g_X3_canPart : d_X3_canPart + 1 ≤ d) {d_X5_clear : Nat} {s_X5_clear : zq_Sp} (h_X5_clear : zq_M yX5_clear cX5_clear 1 none 0 d_X5_clear s_X5_clear) (g_X5_clear : d_X5_clear + 1 ≤ d) {d_X5_add : Nat} {s_X5_add : zq_Sp} (h_X5_add : zq_M yX5_add cX5_add 3 none 0 d_X5_add s_X5_add) (g_X5_add : d_X5_add + 1 ≤ d) {J25 : zq_P} (j25 : zq_ok X 5 25 J25) {J72 : zq_P} (j72 : zq_ok X 5 72 J72) {Q : zq_Q} (hq : zq_R X (some .int) 1 Q) : zq_ok X 5 25 (xX11_nothing_25 s_X3_allDeserts s_X2_allCrumbs s_X3_canPart s_X5_clear s_X5_add J25 J72 Q) := by
  refine zs_iload_n C dX11_nothing_25 rfl ?_
  refine zs_sipush C dX11_nothing_26 (by decide) ?_
  exact zs_icmp_gt C dX11_nothing_29 (by decide) (kX11_nothing_52 C h_X3_allDeserts g_X3_allDeserts h_X2_allCrumbs g_X2_allCrumbs h_X3_canPart g_X3_canPart h_X5_clear g_X5_clear h_X5_add g_X5_add j25 j72 hq) (kX11_nothing_32 C h_X3_allDeserts g_X3_allDeserts h_X2_allCrumbs g_X2_allCrumbs h_X3_canPart g_X3_canPart h_X5_clear g_X5_clear h_X5_add g_X5_add j25 j72 hq)
def xX11_nothing_15 (s_X3_allDeserts : zq_Sp) (s_X2_allCrumbs : zq_Sp) (s_X3_canPart : zq_Sp) (s_X5_clear : zq_Sp) (s_X5_add : zq_Sp) (J25 : zq_P) (J72 : zq_P) (Q : zq_Q) (ls : zq_L) (st : List Value) (h : zq_H) : Prop := (zi_aload 0 (zi_getR 0 40 (zi_callV 0 40 s_X2_allCrumbs (zi_istore 2 (zi_push (.int 0) (zi_istore 3 (J25))))))) ls st h
theorem kX11_nothing_15 {X : zq_X} {d : Nat} (C : zq_C X cX11_nothing 5 RX11 d) {d_X3_allDeserts : Nat} {s_X3_allDeserts : zq_Sp} (h_X3_allDeserts : zq_M yX3_allDeserts cX3_allDeserts 1 (some .int) 1 d_X3_allDeserts s_X3_allDeserts) (g_X3_allDeserts : d_X3_allDeserts + 1 ≤ d) {d_X2_allCrumbs : Nat} {s_X2_allCrumbs : zq_Sp} (h_X2_allCrumbs : zq_M yX2_allCrumbs cX2_allCrumbs 3 (some .int) 1 d_X2_allCrumbs s_X2_allCrumbs) (g_X2_allCrumbs : d_X2_allCrumbs + 1 ≤ d) {d_X3_canPart : Nat} {s_X3_canPart : zq_Sp} (h_X3_canPart : zq_M yX3_canPart cX3_canPart 4 (some .boolean) 1 d_X3_canPart s_X3_canPart) (g_X3_canPart : d_X3_canPart + 1 ≤ d) {d_X5_clear : Nat} {s_X5_clear : zq_Sp} (h_X5_clear : zq_M yX5_clear cX5_clear 1 none 0 d_X5_clear s_X5_clear) (g_X5_clear : d_X5_clear + 1 ≤ d) {d_X5_add : Nat} {s_X5_add : zq_Sp} (h_X5_add : zq_M yX5_add cX5_add 3 none 0 d_X5_add s_X5_add) (g_X5_add : d_X5_add + 1 ≤ d) {J25 : zq_P} (j25 : zq_ok X 5 25 J25) {J72 : zq_P} (j72 : zq_ok X 5 72 J72) {Q : zq_Q} (hq : zq_R X (some .int) 1 Q) : zq_ok X 5 15 (xX11_nothing_15 s_X3_allDeserts s_X2_allCrumbs s_X3_canPart s_X5_clear s_X5_add J25 J72 Q) := by
  refine zs_aload_n C dX11_nothing_15 rfl ?_
  refine zs_getR C zp_0 zF11 (j := 11) ⟨by decide, rfl⟩ zw_326 dX11_nothing_16 ?_
  refine zs_callV C h_X2_allCrumbs g_X2_allCrumbs zy_X2_allCrumbs zp_40 (show vwCl[2]? = some (RX2, TX2, 4) from rfl) zw_945 zw_946 zs9_X2_allCrumbs dX11_nothing_19 ?_
  refine zs_istore_n C dX11_nothing_22 rfl (by decide) ?_
  refine zs_iconst C dX11_nothing_23 (by decide) ?_
  refine zs_istore_n C dX11_nothing_24 rfl (by decide) ?_
  exact j25
def xX11_nothing_12 (s_X3_allDeserts : zq_Sp) (s_X2_allCrumbs : zq_Sp) (s_X3_canPart : zq_Sp) (s_X5_clear : zq_Sp) (s_X5_add : zq_Sp) (J25 : zq_P) (J72 : zq_P) (Q : zq_Q) (ls : zq_L) (st : List Value) (h : zq_H) : Prop := (zi_push (.int (-2)) (zi_iret Q)) ls st h
theorem kX11_nothing_12 {X : zq_X} {d : Nat} (C : zq_C X cX11_nothing 5 RX11 d) {d_X3_allDeserts : Nat} {s_X3_allDeserts : zq_Sp} (h_X3_allDeserts : zq_M yX3_allDeserts cX3_allDeserts 1 (some .int) 1 d_X3_allDeserts s_X3_allDeserts) (g_X3_allDeserts : d_X3_allDeserts + 1 ≤ d) {d_X2_allCrumbs : Nat} {s_X2_allCrumbs : zq_Sp} (h_X2_allCrumbs : zq_M yX2_allCrumbs cX2_allCrumbs 3 (some .int) 1 d_X2_allCrumbs s_X2_allCrumbs) (g_X2_allCrumbs : d_X2_allCrumbs + 1 ≤ d) {d_X3_canPart : Nat} {s_X3_canPart : zq_Sp} (h_X3_canPart : zq_M yX3_canPart cX3_canPart 4 (some .boolean) 1 d_X3_canPart s_X3_canPart) (g_X3_canPart : d_X3_canPart + 1 ≤ d) {d_X5_clear : Nat} {s_X5_clear : zq_Sp} (h_X5_clear : zq_M yX5_clear cX5_clear 1 none 0 d_X5_clear s_X5_clear) (g_X5_clear : d_X5_clear + 1 ≤ d) {d_X5_add : Nat} {s_X5_add : zq_Sp} (h_X5_add : zq_M yX5_add cX5_add 3 none 0 d_X5_add s_X5_add) (g_X5_add : d_X5_add + 1 ≤ d) {J25 : zq_P} (j25 : zq_ok X 5 25 J25) {J72 : zq_P} (j72 : zq_ok X 5 72 J72) {Q : zq_Q} (hq : zq_R X (some .int) 1 Q) : zq_ok X 5 12 (xX11_nothing_12 s_X3_allDeserts s_X2_allCrumbs s_X3_canPart s_X5_clear s_X5_add J25 J72 Q) := by
  refine zs_bipush C dX11_nothing_12 (by decide) ?_
  exact zs_iret C hq dX11_nothing_14
def xX11_nothing_0 (s_X3_allDeserts : zq_Sp) (s_X2_allCrumbs : zq_Sp) (s_X3_canPart : zq_Sp) (s_X5_clear : zq_Sp) (s_X5_add : zq_Sp) (J25 : zq_P) (J72 : zq_P) (Q : zq_Q) (ls : zq_L) (st : List Value) (h : zq_H) : Prop := (zi_aload 0 (zi_getR 0 5 (zi_callV 0 5 s_X3_allDeserts (zi_istore 1 (zi_iload 1 (zi_if1 (fun x => 0 < x) (xX11_nothing_15 s_X3_allDeserts s_X2_allCrumbs s_X3_canPart s_X5_clear s_X5_add J25 J72 Q) (xX11_nothing_12 s_X3_allDeserts s_X2_allCrumbs s_X3_canPart s_X5_clear s_X5_add J25 J72 Q))))))) ls st h
theorem kX11_nothing_0 {X : zq_X} {d : Nat} (C : zq_C X cX11_nothing 5 RX11 d) {d_X3_allDeserts : Nat} {s_X3_allDeserts : zq_Sp} (h_X3_allDeserts : zq_M yX3_allDeserts cX3_allDeserts 1 (some .int) 1 d_X3_allDeserts s_X3_allDeserts) (g_X3_allDeserts : d_X3_allDeserts + 1 ≤ d) {d_X2_allCrumbs : Nat} {s_X2_allCrumbs : zq_Sp} (h_X2_allCrumbs : zq_M yX2_allCrumbs cX2_allCrumbs 3 (some .int) 1 d_X2_allCrumbs s_X2_allCrumbs) (g_X2_allCrumbs : d_X2_allCrumbs + 1 ≤ d) {d_X3_canPart : Nat} {s_X3_canPart : zq_Sp} (h_X3_canPart : zq_M yX3_canPart cX3_canPart 4 (some .boolean) 1 d_X3_canPart s_X3_canPart) (g_X3_canPart : d_X3_canPart + 1 ≤ d) {d_X5_clear : Nat} {s_X5_clear : zq_Sp} (h_X5_clear : zq_M yX5_clear cX5_clear 1 none 0 d_X5_clear s_X5_clear) (g_X5_clear : d_X5_clear + 1 ≤ d) {d_X5_add : Nat} {s_X5_add : zq_Sp} (h_X5_add : zq_M yX5_add cX5_add 3 none 0 d_X5_add s_X5_add) (g_X5_add : d_X5_add + 1 ≤ d) {J25 : zq_P} (j25 : zq_ok X 5 25 J25) {J72 : zq_P} (j72 : zq_ok X 5 72 J72) {Q : zq_Q} (hq : zq_R X (some .int) 1 Q) : zq_ok X 5 0 (xX11_nothing_0 s_X3_allDeserts s_X2_allCrumbs s_X3_canPart s_X5_clear s_X5_add J25 J72 Q) := by
  refine zs_aload_n C dX11_nothing_0 rfl ?_
  refine zs_getR C zp_0 zF11 (j := 2) ⟨by decide, rfl⟩ zw_317 dX11_nothing_1 ?_
  refine zs_callV C h_X3_allDeserts g_X3_allDeserts zy_X3_allDeserts zp_5 (show vwCl[3]? = some (RX3, TX3, 4) from rfl) zw_494 zw_495 zs9_X3_allDeserts dX11_nothing_4 ?_
  refine zs_istore_n C dX11_nothing_7 rfl (by decide) ?_
  refine zs_iload_n C dX11_nothing_8 rfl ?_
  exact zs_if_gt C dX11_nothing_9 (by decide) (kX11_nothing_15 C h_X3_allDeserts g_X3_allDeserts h_X2_allCrumbs g_X2_allCrumbs h_X3_canPart g_X3_canPart h_X5_clear g_X5_clear h_X5_add g_X5_add j25 j72 hq) (kX11_nothing_12 C h_X3_allDeserts g_X3_allDeserts h_X2_allCrumbs g_X2_allCrumbs h_X3_canPart g_X3_canPart h_X5_clear g_X5_clear h_X5_add g_X5_add j25 j72 hq)
theorem mX11_nothing {d : Nat} {spec : zq_Sp} {σ25 : Type} {σ72 : Type} {d_X3_allDeserts : Nat} {s_X3_allDeserts : zq_Sp} (h_X3_allDeserts : zq_M yX3_allDeserts cX3_allDeserts 1 (some .int) 1 d_X3_allDeserts s_X3_allDeserts) (g_X3_allDeserts : d_X3_allDeserts + 1 ≤ d) {d_X2_allCrumbs : Nat} {s_X2_allCrumbs : zq_Sp} (h_X2_allCrumbs : zq_M yX2_allCrumbs cX2_allCrumbs 3 (some .int) 1 d_X2_allCrumbs s_X2_allCrumbs) (g_X2_allCrumbs : d_X2_allCrumbs + 1 ≤ d) {d_X3_canPart : Nat} {s_X3_canPart : zq_Sp} (h_X3_canPart : zq_M yX3_canPart cX3_canPart 4 (some .boolean) 1 d_X3_canPart s_X3_canPart) (g_X3_canPart : d_X3_canPart + 1 ≤ d) {d_X5_clear : Nat} {s_X5_clear : zq_Sp} (h_X5_clear : zq_M yX5_clear cX5_clear 1 none 0 d_X5_clear s_X5_clear) (g_X5_clear : d_X5_clear + 1 ≤ d) {d_X5_add : Nat} {s_X5_add : zq_Sp} (h_X5_add : zq_M yX5_add cX5_add 3 none 0 d_X5_add s_X5_add) (g_X5_add : d_X5_add + 1 ≤ d) (μ25 : σ25 → Nat) (I25 : zq_Q → σ25 → zq_P) (μ72 : σ72 → Nat) (I72 : zq_Q → σ72 → zq_P) (v : ∀ args h Q, spec args h Q → (zq_a args).length ≤ 5 ∧ xX11_nothing_0 s_X3_allDeserts s_X2_allCrumbs s_X3_canPart s_X5_clear s_X5_add (fun ls st h => ∃ b, I25 Q b ls st h) (fun ls st h => ∃ b, I72 Q b ls st h) Q (zq_l0 5 args) [] h) (v25 : ∀ Q a ls st h, I25 Q a ls st h → xX11_nothing_25 s_X3_allDeserts s_X2_allCrumbs s_X3_canPart s_X5_clear s_X5_add (fun ls st h => ∃ b, μ25 b < μ25 a ∧ I25 Q b ls st h) (fun ls st h => ∃ b, μ72 b < μ25 a ∧ I72 Q b ls st h) Q ls st h) (v72 : ∀ Q a ls st h, I72 Q a ls st h → xX11_nothing_72 s_X3_allDeserts s_X2_allCrumbs s_X3_canPart s_X5_clear s_X5_add (fun ls st h => ∃ b, μ25 b < μ72 a ∧ I25 Q b ls st h) (fun ls st h => ∃ b, μ72 b < μ72 a ∧ I72 Q b ls st h) Q ls st h) : zq_M yX11_nothing cX11_nothing 5 (some .int) 1 d spec := by
  refine zq_met (by decide +kernel) (by decide) (fun X Q args h C hq hs => ⟨(v args h Q hs).1, _, ?_, (v args h Q hs).2⟩)
  have hl := zq_loop2 (X := X) (nL := 5) (pc1 := 25) (pc2 := 72) μ25 μ72 (I25 Q) (I72 Q) (fun J25 J72 => xX11_nothing_25 s_X3_allDeserts s_X2_allCrumbs s_X3_canPart s_X5_clear s_X5_add J25 J72 Q) (fun J25 J72 => xX11_nothing_72 s_X3_allDeserts s_X2_allCrumbs s_X3_canPart s_X5_clear s_X5_add J25 J72 Q) (fun j25 j72 => kX11_nothing_25 C h_X3_allDeserts g_X3_allDeserts h_X2_allCrumbs g_X2_allCrumbs h_X3_canPart g_X3_canPart h_X5_clear g_X5_clear h_X5_add g_X5_add j25 j72 hq) (fun j25 j72 => kX11_nothing_72 C h_X3_allDeserts g_X3_allDeserts h_X2_allCrumbs g_X2_allCrumbs h_X3_canPart g_X3_canPart h_X5_clear g_X5_clear h_X5_add g_X5_add j25 j72 hq) (v25 Q) (v72 Q)
  exact kX11_nothing_0 C h_X3_allDeserts g_X3_allDeserts h_X2_allCrumbs g_X2_allCrumbs h_X3_canPart g_X3_canPart h_X5_clear g_X5_clear h_X5_add g_X5_add hl.1 hl.2 hq
/-! ToOneCrumb.ate(I)I -/
theorem dX11_ate_0 : decode cX11_ate 0 = .ok (.iload_n 1, 1) := by decide +kernel
theorem dX11_ate_1 : decode cX11_ate 1 = .ok (.ifCond .lt 10, 3) := by decide +kernel
theorem dX11_ate_4 : decode cX11_ate 4 = .ok (.iload_n 1, 1) := by decide +kernel
theorem dX11_ate_5 : decode cX11_ate 5 = .ok (.sipush 9999, 3) := by decide +kernel
theorem dX11_ate_8 : decode cX11_ate 8 = .ok (.if_icmp .le 5, 3) := by decide +kernel
theorem dX11_ate_11 : decode cX11_ate 11 = .ok (.iconst (-1), 1) := by decide +kernel
theorem dX11_ate_12 : decode cX11_ate 12 = .ok (.ireturn, 1) := by decide +kernel
theorem dX11_ate_13 : decode cX11_ate 13 = .ok (.iconst 0, 1) := by decide +kernel
theorem dX11_ate_14 : decode cX11_ate 14 = .ok (.istore_n 2, 1) := by decide +kernel
theorem dX11_ate_15 : decode cX11_ate 15 = .ok (.iconst (-1), 1) := by decide +kernel
theorem dX11_ate_16 : decode cX11_ate 16 = .ok (.istore_n 3, 1) := by decide +kernel
theorem dX11_ate_17 : decode cX11_ate 17 = .ok (.aload_n 0, 1) := by decide +kernel
theorem dX11_ate_18 : decode cX11_ate 18 = .ok (.invokevirtual 273, 3) := by decide +kernel
theorem dX11_ate_21 : decode cX11_ate 21 = .ok (.istore 4, 2) := by decide +kernel
theorem dX11_ate_23 : decode cX11_ate 23 = .ok (.iload 4, 2) := by decide +kernel
theorem dX11_ate_25 : decode cX11_ate 25 = .ok (.istore 5, 2) := by decide +kernel
theorem dX11_ate_27 : decode cX11_ate 27 = .ok (.iconst 0, 1) := by decide +kernel
theorem dX11_ate_28 : decode cX11_ate 28 = .ok (.istore 6, 2) := by decide +kernel
theorem dX11_ate_30 : decode cX11_ate 30 = .ok (.iload 6, 2) := by decide +kernel
theorem dX11_ate_32 : decode cX11_ate 32 = .ok (.iload 4, 2) := by decide +kernel
theorem dX11_ate_34 : decode cX11_ate 34 = .ok (.if_icmp .gt 51, 3) := by decide +kernel
theorem dX11_ate_37 : decode cX11_ate 37 = .ok (.aload_n 0, 1) := by decide +kernel
theorem dX11_ate_38 : decode cX11_ate 38 = .ok (.getfield 26, 3) := by decide +kernel
theorem dX11_ate_41 : decode cX11_ate 41 = .ok (.iload 6, 2) := by decide +kernel
theorem dX11_ate_43 : decode cX11_ate 43 = .ok (.invokevirtual 350, 3) := by decide +kernel
theorem dX11_ate_46 : decode cX11_ate 46 = .ok (.iload_n 1, 1) := by decide +kernel
theorem dX11_ate_47 : decode cX11_ate 47 = .ok (.if_icmp .ne 32, 3) := by decide +kernel
theorem dX11_ate_50 : decode cX11_ate 50 = .ok (.iload_n 2, 1) := by decide +kernel
theorem dX11_ate_51 : decode cX11_ate 51 = .ok (.ifCond .eq 15, 3) := by decide +kernel
theorem dX11_ate_54 : decode cX11_ate 54 = .ok (.iload 6, 2) := by decide +kernel
theorem dX11_ate_56 : decode cX11_ate 56 = .ok (.invokestatic 244, 3) := by decide +kernel
theorem dX11_ate_59 : decode cX11_ate 59 = .ok (.iload_n 3, 1) := by decide +kernel
theorem dX11_ate_60 : decode cX11_ate 60 = .ok (.invokestatic 244, 3) := by decide +kernel
theorem dX11_ate_63 : decode cX11_ate 63 = .ok (.if_icmp .ge 6, 3) := by decide +kernel
theorem dX11_ate_66 : decode cX11_ate 66 = .ok (.iload 6, 2) := by decide +kernel
theorem dX11_ate_68 : decode cX11_ate 68 = .ok (.istore_n 3, 1) := by decide +kernel
theorem dX11_ate_69 : decode cX11_ate 69 = .ok (.iload 5, 2) := by decide +kernel
theorem dX11_ate_71 : decode cX11_ate 71 = .ok (.iload 6, 2) := by decide +kernel
theorem dX11_ate_73 : decode cX11_ate 73 = .ok (.iand, 1) := by decide +kernel
theorem dX11_ate_74 : decode cX11_ate 74 = .ok (.istore 5, 2) := by decide +kernel
theorem dX11_ate_76 : decode cX11_ate 76 = .ok (.iinc 2 1, 3) := by decide +kernel
theorem dX11_ate_79 : decode cX11_ate 79 = .ok (.iinc 6 1, 3) := by decide +kernel
theorem dX11_ate_82 : decode cX11_ate 82 = .ok (.goto (-52), 3) := by decide +kernel
theorem dX11_ate_85 : decode cX11_ate 85 = .ok (.aload_n 0, 1) := by decide +kernel
theorem dX11_ate_86 : decode cX11_ate 86 = .ok (.getfield 19, 3) := by decide +kernel
theorem dX11_ate_89 : decode cX11_ate 89 = .ok (.invokevirtual 236, 3) := by decide +kernel
theorem dX11_ate_92 : decode cX11_ate 92 = .ok (.aload_n 0, 1) := by decide +kernel
theorem dX11_ate_93 : decode cX11_ate 93 = .ok (.getfield 19, 3) := by decide +kernel
theorem dX11_ate_96 : decode cX11_ate 96 = .ok (.iload_n 3, 1) := by decide +kernel
theorem dX11_ate_97 : decode cX11_ate 97 = .ok (.i2l, 1) := by decide +kernel
theorem dX11_ate_98 : decode cX11_ate 98 = .ok (.invokevirtual 237, 3) := by decide +kernel
theorem dX11_ate_101 : decode cX11_ate 101 = .ok (.aload_n 0, 1) := by decide +kernel
theorem dX11_ate_102 : decode cX11_ate 102 = .ok (.getfield 19, 3) := by decide +kernel
theorem dX11_ate_105 : decode cX11_ate 105 = .ok (.iload_n 2, 1) := by decide +kernel
theorem dX11_ate_106 : decode cX11_ate 106 = .ok (.ifCond .ne 7, 3) := by decide +kernel
theorem dX11_ate_109 : decode cX11_ate 109 = .ok (.lconst 0, 1) := by decide +kernel
theorem dX11_ate_110 : decode cX11_ate 110 = .ok (.goto 6, 3) := by decide +kernel
theorem dX11_ate_113 : decode cX11_ate 113 = .ok (.iload 5, 2) := by decide +kernel
theorem dX11_ate_115 : decode cX11_ate 115 = .ok (.i2l, 1) := by decide +kernel
theorem dX11_ate_116 : decode cX11_ate 116 = .ok (.invokevirtual 237, 3) := by decide +kernel
theorem dX11_ate_119 : decode cX11_ate 119 = .ok (.iload_n 2, 1) := by decide +kernel
theorem dX11_ate_120 : decode cX11_ate 120 = .ok (.ireturn, 1) := by decide +kernel
def xX11_ate_116 (s_X11_everyone : zq_Sp) (s_X3_desertsOf : zq_Sp) (s_J6_bitCount_0f7a4 : zq_Sp) (s_X5_clear : zq_Sp) (s_X5_add : zq_Sp) (J30 : zq_P) (Q : zq_Q) (ls : zq_L) (st : List Value) (h : zq_H) : Prop := (zi_callV 1 3 s_X5_add (zi_iload 2 (zi_iret Q))) ls st h
theorem kX11_ate_116 {X : zq_X} {d : Nat} (C : zq_C X cX11_ate 7 RX11 d) {d_X11_everyone : Nat} {s_X11_everyone : zq_Sp} (h_X11_everyone : zq_M yX11_everyone cX11_everyone 1 (some .int) 1 d_X11_everyone s_X11_everyone) (g_X11_everyone : d_X11_everyone + 1 ≤ d) {d_X3_desertsOf : Nat} {s_X3_desertsOf : zq_Sp} (h_X3_desertsOf : zq_M yX3_desertsOf cX3_desertsOf 4 (some .int) 1 d_X3_desertsOf s_X3_desertsOf) (g_X3_desertsOf : d_X3_desertsOf + 1 ≤ d) {d_J6_bitCount_0f7a4 : Nat} {s_J6_bitCount_0f7a4 : zq_Sp} (h_J6_bitCount_0f7a4 : zq_M yJ6_bitCount_0f7a4 cJ6_bitCount_0f7a4 1 (some .int) 1 d_J6_bitCount_0f7a4 s_J6_bitCount_0f7a4) (g_J6_bitCount_0f7a4 : d_J6_bitCount_0f7a4 + 1 ≤ d) {d_X5_clear : Nat} {s_X5_clear : zq_Sp} (h_X5_clear : zq_M yX5_clear cX5_clear 1 none 0 d_X5_clear s_X5_clear) (g_X5_clear : d_X5_clear + 1 ≤ d) {d_X5_add : Nat} {s_X5_add : zq_Sp} (h_X5_add : zq_M yX5_add cX5_add 3 none 0 d_X5_add s_X5_add) (g_X5_add : d_X5_add + 1 ≤ d) {J30 : zq_P} (j30 : zq_ok X 7 30 J30) {Q : zq_Q} (hq : zq_R X (some .int) 1 Q) : zq_ok X 7 116 (xX11_ate_116 s_X11_everyone s_X3_desertsOf s_J6_bitCount_0f7a4 s_X5_clear s_X5_add J30 Q) := by
  refine zs_callV C h_X5_add g_X5_add zy_X5_add zp_3 (show vwCl[5]? = some (RX5, TX5, 2) from rfl) zw_654 zw_655 zs9_X5_add dX11_ate_116 ?_
  refine zs_iload_n C dX11_ate_119 rfl ?_
  exact zs_iret C hq dX11_ate_120
def xX11_ate_113 (s_X11_everyone : zq_Sp) (s_X3_desertsOf : zq_Sp) (s_J6_bitCount_0f7a4 : zq_Sp) (s_X5_clear : zq_Sp) (s_X5_add : zq_Sp) (J30 : zq_P) (Q : zq_Q) (ls : zq_L) (st : List Value) (h : zq_H) : Prop := (zi_iload 5 (zi_i2l ((xX11_ate_116 s_X11_everyone s_X3_desertsOf s_J6_bitCount_0f7a4 s_X5_clear s_X5_add J30 Q)))) ls st h
theorem kX11_ate_113 {X : zq_X} {d : Nat} (C : zq_C X cX11_ate 7 RX11 d) {d_X11_everyone : Nat} {s_X11_everyone : zq_Sp} (h_X11_everyone : zq_M yX11_everyone cX11_everyone 1 (some .int) 1 d_X11_everyone s_X11_everyone) (g_X11_everyone : d_X11_everyone + 1 ≤ d) {d_X3_desertsOf : Nat} {s_X3_desertsOf : zq_Sp} (h_X3_desertsOf : zq_M yX3_desertsOf cX3_desertsOf 4 (some .int) 1 d_X3_desertsOf s_X3_desertsOf) (g_X3_desertsOf : d_X3_desertsOf + 1 ≤ d) {d_J6_bitCount_0f7a4 : Nat} {s_J6_bitCount_0f7a4 : zq_Sp} (h_J6_bitCount_0f7a4 : zq_M yJ6_bitCount_0f7a4 cJ6_bitCount_0f7a4 1 (some .int) 1 d_J6_bitCount_0f7a4 s_J6_bitCount_0f7a4) (g_J6_bitCount_0f7a4 : d_J6_bitCount_0f7a4 + 1 ≤ d) {d_X5_clear : Nat} {s_X5_clear : zq_Sp} (h_X5_clear : zq_M yX5_clear cX5_clear 1 none 0 d_X5_clear s_X5_clear) (g_X5_clear : d_X5_clear + 1 ≤ d) {d_X5_add : Nat} {s_X5_add : zq_Sp} (h_X5_add : zq_M yX5_add cX5_add 3 none 0 d_X5_add s_X5_add) (g_X5_add : d_X5_add + 1 ≤ d) {J30 : zq_P} (j30 : zq_ok X 7 30 J30) {Q : zq_Q} (hq : zq_R X (some .int) 1 Q) : zq_ok X 7 113 (xX11_ate_113 s_X11_everyone s_X3_desertsOf s_J6_bitCount_0f7a4 s_X5_clear s_X5_add J30 Q) := by
  refine zs_iload C dX11_ate_113 ?_
  refine zs_i2l C dX11_ate_115 ?_
  exact kX11_ate_116 C h_X11_everyone g_X11_everyone h_X3_desertsOf g_X3_desertsOf h_J6_bitCount_0f7a4 g_J6_bitCount_0f7a4 h_X5_clear g_X5_clear h_X5_add g_X5_add j30 hq
def xX11_ate_109 (s_X11_everyone : zq_Sp) (s_X3_desertsOf : zq_Sp) (s_J6_bitCount_0f7a4 : zq_Sp) (s_X5_clear : zq_Sp) (s_X5_add : zq_Sp) (J30 : zq_P) (Q : zq_Q) (ls : zq_L) (st : List Value) (h : zq_H) : Prop := (zi_push (.long 0) ((xX11_ate_116 s_X11_everyone s_X3_desertsOf s_J6_bitCount_0f7a4 s_X5_clear s_X5_add J30 Q))) ls st h
theorem kX11_ate_109 {X : zq_X} {d : Nat} (C : zq_C X cX11_ate 7 RX11 d) {d_X11_everyone : Nat} {s_X11_everyone : zq_Sp} (h_X11_everyone : zq_M yX11_everyone cX11_everyone 1 (some .int) 1 d_X11_everyone s_X11_everyone) (g_X11_everyone : d_X11_everyone + 1 ≤ d) {d_X3_desertsOf : Nat} {s_X3_desertsOf : zq_Sp} (h_X3_desertsOf : zq_M yX3_desertsOf cX3_desertsOf 4 (some .int) 1 d_X3_desertsOf s_X3_desertsOf) (g_X3_desertsOf : d_X3_desertsOf + 1 ≤ d) {d_J6_bitCount_0f7a4 : Nat} {s_J6_bitCount_0f7a4 : zq_Sp} (h_J6_bitCount_0f7a4 : zq_M yJ6_bitCount_0f7a4 cJ6_bitCount_0f7a4 1 (some .int) 1 d_J6_bitCount_0f7a4 s_J6_bitCount_0f7a4) (g_J6_bitCount_0f7a4 : d_J6_bitCount_0f7a4 + 1 ≤ d) {d_X5_clear : Nat} {s_X5_clear : zq_Sp} (h_X5_clear : zq_M yX5_clear cX5_clear 1 none 0 d_X5_clear s_X5_clear) (g_X5_clear : d_X5_clear + 1 ≤ d) {d_X5_add : Nat} {s_X5_add : zq_Sp} (h_X5_add : zq_M yX5_add cX5_add 3 none 0 d_X5_add s_X5_add) (g_X5_add : d_X5_add + 1 ≤ d) {J30 : zq_P} (j30 : zq_ok X 7 30 J30) {Q : zq_Q} (hq : zq_R X (some .int) 1 Q) : zq_ok X 7 109 (xX11_ate_109 s_X11_everyone s_X3_desertsOf s_J6_bitCount_0f7a4 s_X5_clear s_X5_add J30 Q) := by
  refine zs_lconst C dX11_ate_109 (by decide) ?_
  exact zs_goto C dX11_ate_110 (by decide) (kX11_ate_116 C h_X11_everyone g_X11_everyone h_X3_desertsOf g_X3_desertsOf h_J6_bitCount_0f7a4 g_J6_bitCount_0f7a4 h_X5_clear g_X5_clear h_X5_add g_X5_add j30 hq)
def xX11_ate_85 (s_X11_everyone : zq_Sp) (s_X3_desertsOf : zq_Sp) (s_J6_bitCount_0f7a4 : zq_Sp) (s_X5_clear : zq_Sp) (s_X5_add : zq_Sp) (J30 : zq_P) (Q : zq_Q) (ls : zq_L) (st : List Value) (h : zq_H) : Prop := (zi_aload 0 (zi_getR 0 3 (zi_callV 0 3 s_X5_clear (zi_aload 0 (zi_getR 0 3 (zi_iload 3 (zi_i2l (zi_callV 1 3 s_X5_add (zi_aload 0 (zi_getR 0 3 (zi_iload 2 (zi_if1 (fun x => x = 0) (xX11_ate_109 s_X11_everyone s_X3_desertsOf s_J6_bitCount_0f7a4 s_X5_clear s_X5_add J30 Q) (xX11_ate_113 s_X11_everyone s_X3_desertsOf s_J6_bitCount_0f7a4 s_X5_clear s_X5_add J30 Q))))))))))))) ls st h
theorem kX11_ate_85 {X : zq_X} {d : Nat} (C : zq_C X cX11_ate 7 RX11 d) {d_X11_everyone : Nat} {s_X11_everyone : zq_Sp} (h_X11_everyone : zq_M yX11_everyone cX11_everyone 1 (some .int) 1 d_X11_everyone s_X11_everyone) (g_X11_everyone : d_X11_everyone + 1 ≤ d) {d_X3_desertsOf : Nat} {s_X3_desertsOf : zq_Sp} (h_X3_desertsOf : zq_M yX3_desertsOf cX3_desertsOf 4 (some .int) 1 d_X3_desertsOf s_X3_desertsOf) (g_X3_desertsOf : d_X3_desertsOf + 1 ≤ d) {d_J6_bitCount_0f7a4 : Nat} {s_J6_bitCount_0f7a4 : zq_Sp} (h_J6_bitCount_0f7a4 : zq_M yJ6_bitCount_0f7a4 cJ6_bitCount_0f7a4 1 (some .int) 1 d_J6_bitCount_0f7a4 s_J6_bitCount_0f7a4) (g_J6_bitCount_0f7a4 : d_J6_bitCount_0f7a4 + 1 ≤ d) {d_X5_clear : Nat} {s_X5_clear : zq_Sp} (h_X5_clear : zq_M yX5_clear cX5_clear 1 none 0 d_X5_clear s_X5_clear) (g_X5_clear : d_X5_clear + 1 ≤ d) {d_X5_add : Nat} {s_X5_add : zq_Sp} (h_X5_add : zq_M yX5_add cX5_add 3 none 0 d_X5_add s_X5_add) (g_X5_add : d_X5_add + 1 ≤ d) {J30 : zq_P} (j30 : zq_ok X 7 30 J30) {Q : zq_Q} (hq : zq_R X (some .int) 1 Q) : zq_ok X 7 85 (xX11_ate_85 s_X11_everyone s_X3_desertsOf s_J6_bitCount_0f7a4 s_X5_clear s_X5_add J30 Q) := by
  refine zs_aload_n C dX11_ate_85 rfl ?_
  refine zs_getR C zp_0 zF11 (j := 1) ⟨by decide, rfl⟩ zw_316 dX11_ate_86 ?_
  refine zs_callV C h_X5_clear g_X5_clear zy_X5_clear zp_3 (show vwCl[5]? = some (RX5, TX5, 2) from rfl) zw_650 zw_651 zs9_X5_clear dX11_ate_89 ?_
  refine zs_aload_n C dX11_ate_92 rfl ?_
  refine zs_getR C zp_0 zF11 (j := 1) ⟨by decide, rfl⟩ zw_316 dX11_ate_93 ?_
  refine zs_iload_n C dX11_ate_96 rfl ?_
  refine zs_i2l C dX11_ate_97 ?_
  refine zs_callV C h_X5_add g_X5_add zy_X5_add zp_3 (show vwCl[5]? = some (RX5, TX5, 2) from rfl) zw_654 zw_655 zs9_X5_add dX11_ate_98 ?_
  refine zs_aload_n C dX11_ate_101 rfl ?_
  refine zs_getR C zp_0 zF11 (j := 1) ⟨by decide, rfl⟩ zw_316 dX11_ate_102 ?_
  refine zs_iload_n C dX11_ate_105 rfl ?_
  exact zs_if_ne C dX11_ate_106 (by decide) (kX11_ate_113 C h_X11_everyone g_X11_everyone h_X3_desertsOf g_X3_desertsOf h_J6_bitCount_0f7a4 g_J6_bitCount_0f7a4 h_X5_clear g_X5_clear h_X5_add g_X5_add j30 hq) (kX11_ate_109 C h_X11_everyone g_X11_everyone h_X3_desertsOf g_X3_desertsOf h_J6_bitCount_0f7a4 g_J6_bitCount_0f7a4 h_X5_clear g_X5_clear h_X5_add g_X5_add j30 hq)
def xX11_ate_79 (s_X11_everyone : zq_Sp) (s_X3_desertsOf : zq_Sp) (s_J6_bitCount_0f7a4 : zq_Sp) (s_X5_clear : zq_Sp) (s_X5_add : zq_Sp) (J30 : zq_P) (Q : zq_Q) (ls : zq_L) (st : List Value) (h : zq_H) : Prop := (zi_iinc 6 1 (J30)) ls st h
theorem kX11_ate_79 {X : zq_X} {d : Nat} (C : zq_C X cX11_ate 7 RX11 d) {d_X11_everyone : Nat} {s_X11_everyone : zq_Sp} (h_X11_everyone : zq_M yX11_everyone cX11_everyone 1 (some .int) 1 d_X11_everyone s_X11_everyone) (g_X11_everyone : d_X11_everyone + 1 ≤ d) {d_X3_desertsOf : Nat} {s_X3_desertsOf : zq_Sp} (h_X3_desertsOf : zq_M yX3_desertsOf cX3_desertsOf 4 (some .int) 1 d_X3_desertsOf s_X3_desertsOf) (g_X3_desertsOf : d_X3_desertsOf + 1 ≤ d) {d_J6_bitCount_0f7a4 : Nat} {s_J6_bitCount_0f7a4 : zq_Sp} (h_J6_bitCount_0f7a4 : zq_M yJ6_bitCount_0f7a4 cJ6_bitCount_0f7a4 1 (some .int) 1 d_J6_bitCount_0f7a4 s_J6_bitCount_0f7a4) (g_J6_bitCount_0f7a4 : d_J6_bitCount_0f7a4 + 1 ≤ d) {d_X5_clear : Nat} {s_X5_clear : zq_Sp} (h_X5_clear : zq_M yX5_clear cX5_clear 1 none 0 d_X5_clear s_X5_clear) (g_X5_clear : d_X5_clear + 1 ≤ d) {d_X5_add : Nat} {s_X5_add : zq_Sp} (h_X5_add : zq_M yX5_add cX5_add 3 none 0 d_X5_add s_X5_add) (g_X5_add : d_X5_add + 1 ≤ d) {J30 : zq_P} (j30 : zq_ok X 7 30 J30) {Q : zq_Q} (hq : zq_R X (some .int) 1 Q) : zq_ok X 7 79 (xX11_ate_79 s_X11_everyone s_X3_desertsOf s_J6_bitCount_0f7a4 s_X5_clear s_X5_add J30 Q) := by
  refine zs_iinc C dX11_ate_79 (by decide) (by decide) ?_
  exact zs_goto C dX11_ate_82 (by decide) (j30)
def xX11_ate_69 (s_X11_everyone : zq_Sp) (s_X3_desertsOf : zq_Sp) (s_J6_bitCount_0f7a4 : zq_Sp) (s_X5_clear : zq_Sp) (s_X5_add : zq_Sp) (J30 : zq_P) (Q : zq_Q) (ls : zq_L) (st : List Value) (h : zq_H) : Prop := (zi_iload 5 (zi_iload 6 (zi_i2 (fun x y => x &&& y) (zi_istore 5 (zi_iinc 2 1 ((xX11_ate_79 s_X11_everyone s_X3_desertsOf s_J6_bitCount_0f7a4 s_X5_clear s_X5_add J30 Q))))))) ls st h
theorem kX11_ate_69 {X : zq_X} {d : Nat} (C : zq_C X cX11_ate 7 RX11 d) {d_X11_everyone : Nat} {s_X11_everyone : zq_Sp} (h_X11_everyone : zq_M yX11_everyone cX11_everyone 1 (some .int) 1 d_X11_everyone s_X11_everyone) (g_X11_everyone : d_X11_everyone + 1 ≤ d) {d_X3_desertsOf : Nat} {s_X3_desertsOf : zq_Sp} (h_X3_desertsOf : zq_M yX3_desertsOf cX3_desertsOf 4 (some .int) 1 d_X3_desertsOf s_X3_desertsOf) (g_X3_desertsOf : d_X3_desertsOf + 1 ≤ d) {d_J6_bitCount_0f7a4 : Nat} {s_J6_bitCount_0f7a4 : zq_Sp} (h_J6_bitCount_0f7a4 : zq_M yJ6_bitCount_0f7a4 cJ6_bitCount_0f7a4 1 (some .int) 1 d_J6_bitCount_0f7a4 s_J6_bitCount_0f7a4) (g_J6_bitCount_0f7a4 : d_J6_bitCount_0f7a4 + 1 ≤ d) {d_X5_clear : Nat} {s_X5_clear : zq_Sp} (h_X5_clear : zq_M yX5_clear cX5_clear 1 none 0 d_X5_clear s_X5_clear) (g_X5_clear : d_X5_clear + 1 ≤ d) {d_X5_add : Nat} {s_X5_add : zq_Sp} (h_X5_add : zq_M yX5_add cX5_add 3 none 0 d_X5_add s_X5_add) (g_X5_add : d_X5_add + 1 ≤ d) {J30 : zq_P} (j30 : zq_ok X 7 30 J30) {Q : zq_Q} (hq : zq_R X (some .int) 1 Q) : zq_ok X 7 69 (xX11_ate_69 s_X11_everyone s_X3_desertsOf s_J6_bitCount_0f7a4 s_X5_clear s_X5_add J30 Q) := by
  refine zs_iload C dX11_ate_69 ?_
  refine zs_iload C dX11_ate_71 ?_
  refine zs_iand C dX11_ate_73 ?_
  refine zs_istore C dX11_ate_74 (by decide) ?_
  refine zs_iinc C dX11_ate_76 (by decide) (by decide) ?_
  exact kX11_ate_79 C h_X11_everyone g_X11_everyone h_X3_desertsOf g_X3_desertsOf h_J6_bitCount_0f7a4 g_J6_bitCount_0f7a4 h_X5_clear g_X5_clear h_X5_add g_X5_add j30 hq
def xX11_ate_66 (s_X11_everyone : zq_Sp) (s_X3_desertsOf : zq_Sp) (s_J6_bitCount_0f7a4 : zq_Sp) (s_X5_clear : zq_Sp) (s_X5_add : zq_Sp) (J30 : zq_P) (Q : zq_Q) (ls : zq_L) (st : List Value) (h : zq_H) : Prop := (zi_iload 6 (zi_istore 3 ((xX11_ate_69 s_X11_everyone s_X3_desertsOf s_J6_bitCount_0f7a4 s_X5_clear s_X5_add J30 Q)))) ls st h
theorem kX11_ate_66 {X : zq_X} {d : Nat} (C : zq_C X cX11_ate 7 RX11 d) {d_X11_everyone : Nat} {s_X11_everyone : zq_Sp} (h_X11_everyone : zq_M yX11_everyone cX11_everyone 1 (some .int) 1 d_X11_everyone s_X11_everyone) (g_X11_everyone : d_X11_everyone + 1 ≤ d) {d_X3_desertsOf : Nat} {s_X3_desertsOf : zq_Sp} (h_X3_desertsOf : zq_M yX3_desertsOf cX3_desertsOf 4 (some .int) 1 d_X3_desertsOf s_X3_desertsOf) (g_X3_desertsOf : d_X3_desertsOf + 1 ≤ d) {d_J6_bitCount_0f7a4 : Nat} {s_J6_bitCount_0f7a4 : zq_Sp} (h_J6_bitCount_0f7a4 : zq_M yJ6_bitCount_0f7a4 cJ6_bitCount_0f7a4 1 (some .int) 1 d_J6_bitCount_0f7a4 s_J6_bitCount_0f7a4) (g_J6_bitCount_0f7a4 : d_J6_bitCount_0f7a4 + 1 ≤ d) {d_X5_clear : Nat} {s_X5_clear : zq_Sp} (h_X5_clear : zq_M yX5_clear cX5_clear 1 none 0 d_X5_clear s_X5_clear) (g_X5_clear : d_X5_clear + 1 ≤ d) {d_X5_add : Nat} {s_X5_add : zq_Sp} (h_X5_add : zq_M yX5_add cX5_add 3 none 0 d_X5_add s_X5_add) (g_X5_add : d_X5_add + 1 ≤ d) {J30 : zq_P} (j30 : zq_ok X 7 30 J30) {Q : zq_Q} (hq : zq_R X (some .int) 1 Q) : zq_ok X 7 66 (xX11_ate_66 s_X11_everyone s_X3_desertsOf s_J6_bitCount_0f7a4 s_X5_clear s_X5_add J30 Q) := by
  refine zs_iload C dX11_ate_66 ?_
  refine zs_istore_n C dX11_ate_68 rfl (by decide) ?_
  exact kX11_ate_69 C h_X11_everyone g_X11_everyone h_X3_desertsOf g_X3_desertsOf h_J6_bitCount_0f7a4 g_J6_bitCount_0f7a4 h_X5_clear g_X5_clear h_X5_add g_X5_add j30 hq
def xX11_ate_54 (s_X11_everyone : zq_Sp) (s_X3_desertsOf : zq_Sp) (s_J6_bitCount_0f7a4 : zq_Sp) (s_X5_clear : zq_Sp) (s_X5_add : zq_Sp) (J30 : zq_P) (Q : zq_Q) (ls : zq_L) (st : List Value) (h : zq_H) : Prop := (zi_iload 6 (zi_callS 1 s_J6_bitCount_0f7a4 (zi_iload 3 (zi_callS 1 s_J6_bitCount_0f7a4 (zi_if2 (fun x y => y ≤ x) (xX11_ate_69 s_X11_everyone s_X3_desertsOf s_J6_bitCount_0f7a4 s_X5_clear s_X5_add J30 Q) (xX11_ate_66 s_X11_everyone s_X3_desertsOf s_J6_bitCount_0f7a4 s_X5_clear s_X5_add J30 Q)))))) ls st h
theorem kX11_ate_54 {X : zq_X} {d : Nat} (C : zq_C X cX11_ate 7 RX11 d) {d_X11_everyone : Nat} {s_X11_everyone : zq_Sp} (h_X11_everyone : zq_M yX11_everyone cX11_everyone 1 (some .int) 1 d_X11_everyone s_X11_everyone) (g_X11_everyone : d_X11_everyone + 1 ≤ d) {d_X3_desertsOf : Nat} {s_X3_desertsOf : zq_Sp} (h_X3_desertsOf : zq_M yX3_desertsOf cX3_desertsOf 4 (some .int) 1 d_X3_desertsOf s_X3_desertsOf) (g_X3_desertsOf : d_X3_desertsOf + 1 ≤ d) {d_J6_bitCount_0f7a4 : Nat} {s_J6_bitCount_0f7a4 : zq_Sp} (h_J6_bitCount_0f7a4 : zq_M yJ6_bitCount_0f7a4 cJ6_bitCount_0f7a4 1 (some .int) 1 d_J6_bitCount_0f7a4 s_J6_bitCount_0f7a4) (g_J6_bitCount_0f7a4 : d_J6_bitCount_0f7a4 + 1 ≤ d) {d_X5_clear : Nat} {s_X5_clear : zq_Sp} (h_X5_clear : zq_M yX5_clear cX5_clear 1 none 0 d_X5_clear s_X5_clear) (g_X5_clear : d_X5_clear + 1 ≤ d) {d_X5_add : Nat} {s_X5_add : zq_Sp} (h_X5_add : zq_M yX5_add cX5_add 3 none 0 d_X5_add s_X5_add) (g_X5_add : d_X5_add + 1 ≤ d) {J30 : zq_P} (j30 : zq_ok X 7 30 J30) {Q : zq_Q} (hq : zq_R X (some .int) 1 Q) : zq_ok X 7 54 (xX11_ate_54 s_X11_everyone s_X3_desertsOf s_J6_bitCount_0f7a4 s_X5_clear s_X5_add J30 Q) := by
  refine zs_iload C dX11_ate_54 ?_
  refine zs_callS C h_J6_bitCount_0f7a4 g_J6_bitCount_0f7a4 zy_J6_bitCount_0f7a4 zw_695 zw_696 dX11_ate_56 ?_
  refine zs_iload_n C dX11_ate_59 rfl ?_
  refine zs_callS C h_J6_bitCount_0f7a4 g_J6_bitCount_0f7a4 zy_J6_bitCount_0f7a4 zw_695 zw_696 dX11_ate_60 ?_
  exact zs_icmp_ge C dX11_ate_63 (by decide) (kX11_ate_69 C h_X11_everyone g_X11_everyone h_X3_desertsOf g_X3_desertsOf h_J6_bitCount_0f7a4 g_J6_bitCount_0f7a4 h_X5_clear g_X5_clear h_X5_add g_X5_add j30 hq) (kX11_ate_66 C h_X11_everyone g_X11_everyone h_X3_desertsOf g_X3_desertsOf h_J6_bitCount_0f7a4 g_J6_bitCount_0f7a4 h_X5_clear g_X5_clear h_X5_add g_X5_add j30 hq)
def xX11_ate_50 (s_X11_everyone : zq_Sp) (s_X3_desertsOf : zq_Sp) (s_J6_bitCount_0f7a4 : zq_Sp) (s_X5_clear : zq_Sp) (s_X5_add : zq_Sp) (J30 : zq_P) (Q : zq_Q) (ls : zq_L) (st : List Value) (h : zq_H) : Prop := (zi_iload 2 (zi_if1 (fun x => x = 0) (xX11_ate_66 s_X11_everyone s_X3_desertsOf s_J6_bitCount_0f7a4 s_X5_clear s_X5_add J30 Q) (xX11_ate_54 s_X11_everyone s_X3_desertsOf s_J6_bitCount_0f7a4 s_X5_clear s_X5_add J30 Q))) ls st h
theorem kX11_ate_50 {X : zq_X} {d : Nat} (C : zq_C X cX11_ate 7 RX11 d) {d_X11_everyone : Nat} {s_X11_everyone : zq_Sp} (h_X11_everyone : zq_M yX11_everyone cX11_everyone 1 (some .int) 1 d_X11_everyone s_X11_everyone) (g_X11_everyone : d_X11_everyone + 1 ≤ d) {d_X3_desertsOf : Nat} {s_X3_desertsOf : zq_Sp} (h_X3_desertsOf : zq_M yX3_desertsOf cX3_desertsOf 4 (some .int) 1 d_X3_desertsOf s_X3_desertsOf) (g_X3_desertsOf : d_X3_desertsOf + 1 ≤ d) {d_J6_bitCount_0f7a4 : Nat} {s_J6_bitCount_0f7a4 : zq_Sp} (h_J6_bitCount_0f7a4 : zq_M yJ6_bitCount_0f7a4 cJ6_bitCount_0f7a4 1 (some .int) 1 d_J6_bitCount_0f7a4 s_J6_bitCount_0f7a4) (g_J6_bitCount_0f7a4 : d_J6_bitCount_0f7a4 + 1 ≤ d) {d_X5_clear : Nat} {s_X5_clear : zq_Sp} (h_X5_clear : zq_M yX5_clear cX5_clear 1 none 0 d_X5_clear s_X5_clear) (g_X5_clear : d_X5_clear + 1 ≤ d) {d_X5_add : Nat} {s_X5_add : zq_Sp} (h_X5_add : zq_M yX5_add cX5_add 3 none 0 d_X5_add s_X5_add) (g_X5_add : d_X5_add + 1 ≤ d) {J30 : zq_P} (j30 : zq_ok X 7 30 J30) {Q : zq_Q} (hq : zq_R X (some .int) 1 Q) : zq_ok X 7 50 (xX11_ate_50 s_X11_everyone s_X3_desertsOf s_J6_bitCount_0f7a4 s_X5_clear s_X5_add J30 Q) := by
  refine zs_iload_n C dX11_ate_50 rfl ?_
  exact zs_if_eq C dX11_ate_51 (by decide) (kX11_ate_66 C h_X11_everyone g_X11_everyone h_X3_desertsOf g_X3_desertsOf h_J6_bitCount_0f7a4 g_J6_bitCount_0f7a4 h_X5_clear g_X5_clear h_X5_add g_X5_add j30 hq) (kX11_ate_54 C h_X11_everyone g_X11_everyone h_X3_desertsOf g_X3_desertsOf h_J6_bitCount_0f7a4 g_J6_bitCount_0f7a4 h_X5_clear g_X5_clear h_X5_add g_X5_add j30 hq)
def xX11_ate_37 (s_X11_everyone : zq_Sp) (s_X3_desertsOf : zq_Sp) (s_J6_bitCount_0f7a4 : zq_Sp) (s_X5_clear : zq_Sp) (s_X5_add : zq_Sp) (J30 : zq_P) (Q : zq_Q) (ls : zq_L) (st : List Value) (h : zq_H) : Prop := (zi_aload 0 (zi_getR 0 5 (zi_iload 6 (zi_callV 1 5 s_X3_desertsOf (zi_iload 1 (zi_if2 (fun x y => x = y) (xX11_ate_50 s_X11_everyone s_X3_desertsOf s_J6_bitCount_0f7a4 s_X5_clear s_X5_add J30 Q) (xX11_ate_79 s_X11_everyone s_X3_desertsOf s_J6_bitCount_0f7a4 s_X5_clear s_X5_add J30 Q))))))) ls st h
theorem kX11_ate_37 {X : zq_X} {d : Nat} (C : zq_C X cX11_ate 7 RX11 d) {d_X11_everyone : Nat} {s_X11_everyone : zq_Sp} (h_X11_everyone : zq_M yX11_everyone cX11_everyone 1 (some .int) 1 d_X11_everyone s_X11_everyone) (g_X11_everyone : d_X11_everyone + 1 ≤ d) {d_X3_desertsOf : Nat} {s_X3_desertsOf : zq_Sp} (h_X3_desertsOf : zq_M yX3_desertsOf cX3_desertsOf 4 (some .int) 1 d_X3_desertsOf s_X3_desertsOf) (g_X3_desertsOf : d_X3_desertsOf + 1 ≤ d) {d_J6_bitCount_0f7a4 : Nat} {s_J6_bitCount_0f7a4 : zq_Sp} (h_J6_bitCount_0f7a4 : zq_M yJ6_bitCount_0f7a4 cJ6_bitCount_0f7a4 1 (some .int) 1 d_J6_bitCount_0f7a4 s_J6_bitCount_0f7a4) (g_J6_bitCount_0f7a4 : d_J6_bitCount_0f7a4 + 1 ≤ d) {d_X5_clear : Nat} {s_X5_clear : zq_Sp} (h_X5_clear : zq_M yX5_clear cX5_clear 1 none 0 d_X5_clear s_X5_clear) (g_X5_clear : d_X5_clear + 1 ≤ d) {d_X5_add : Nat} {s_X5_add : zq_Sp} (h_X5_add : zq_M yX5_add cX5_add 3 none 0 d_X5_add s_X5_add) (g_X5_add : d_X5_add + 1 ≤ d) {J30 : zq_P} (j30 : zq_ok X 7 30 J30) {Q : zq_Q} (hq : zq_R X (some .int) 1 Q) : zq_ok X 7 37 (xX11_ate_37 s_X11_everyone s_X3_desertsOf s_J6_bitCount_0f7a4 s_X5_clear s_X5_add J30 Q) := by
  refine zs_aload_n C dX11_ate_37 rfl ?_
  refine zs_getR C zp_0 zF11 (j := 2) ⟨by decide, rfl⟩ zw_317 dX11_ate_38 ?_
  refine zs_iload C dX11_ate_41 ?_
  refine zs_callV C h_X3_desertsOf g_X3_desertsOf zy_X3_desertsOf zp_5 (show vwCl[3]? = some (RX3, TX3, 4) from rfl) zw_957 zw_499 zs9_X3_desertsOf dX11_ate_43 ?_
  refine zs_iload_n C dX11_ate_46 rfl ?_
  exact zs_icmp_ne C dX11_ate_47 (by decide) (kX11_ate_79 C h_X11_everyone g_X11_everyone h_X3_desertsOf g_X3_desertsOf h_J6_bitCount_0f7a4 g_J6_bitCount_0f7a4 h_X5_clear g_X5_clear h_X5_add g_X5_add j30 hq) (kX11_ate_50 C h_X11_everyone g_X11_everyone h_X3_desertsOf g_X3_desertsOf h_J6_bitCount_0f7a4 g_J6_bitCount_0f7a4 h_X5_clear g_X5_clear h_X5_add g_X5_add j30 hq)
def xX11_ate_30 (s_X11_everyone : zq_Sp) (s_X3_desertsOf : zq_Sp) (s_J6_bitCount_0f7a4 : zq_Sp) (s_X5_clear : zq_Sp) (s_X5_add : zq_Sp) (J30 : zq_P) (Q : zq_Q) (ls : zq_L) (st : List Value) (h : zq_H) : Prop := (zi_iload 6 (zi_iload 4 (zi_if2 (fun x y => y < x) (xX11_ate_85 s_X11_everyone s_X3_desertsOf s_J6_bitCount_0f7a4 s_X5_clear s_X5_add J30 Q) (xX11_ate_37 s_X11_everyone s_X3_desertsOf s_J6_bitCount_0f7a4 s_X5_clear s_X5_add J30 Q)))) ls st h
theorem kX11_ate_30 {X : zq_X} {d : Nat} (C : zq_C X cX11_ate 7 RX11 d) {d_X11_everyone : Nat} {s_X11_everyone : zq_Sp} (h_X11_everyone : zq_M yX11_everyone cX11_everyone 1 (some .int) 1 d_X11_everyone s_X11_everyone) (g_X11_everyone : d_X11_everyone + 1 ≤ d) {d_X3_desertsOf : Nat} {s_X3_desertsOf : zq_Sp} (h_X3_desertsOf : zq_M yX3_desertsOf cX3_desertsOf 4 (some .int) 1 d_X3_desertsOf s_X3_desertsOf) (g_X3_desertsOf : d_X3_desertsOf + 1 ≤ d) {d_J6_bitCount_0f7a4 : Nat} {s_J6_bitCount_0f7a4 : zq_Sp} (h_J6_bitCount_0f7a4 : zq_M yJ6_bitCount_0f7a4 cJ6_bitCount_0f7a4 1 (some .int) 1 d_J6_bitCount_0f7a4 s_J6_bitCount_0f7a4) (g_J6_bitCount_0f7a4 : d_J6_bitCount_0f7a4 + 1 ≤ d) {d_X5_clear : Nat} {s_X5_clear : zq_Sp} (h_X5_clear : zq_M yX5_clear cX5_clear 1 none 0 d_X5_clear s_X5_clear) (g_X5_clear : d_X5_clear + 1 ≤ d) {d_X5_add : Nat} {s_X5_add : zq_Sp} (h_X5_add : zq_M yX5_add cX5_add 3 none 0 d_X5_add s_X5_add) (g_X5_add : d_X5_add + 1 ≤ d) {J30 : zq_P} (j30 : zq_ok X 7 30 J30) {Q : zq_Q} (hq : zq_R X (some .int) 1 Q) : zq_ok X 7 30 (xX11_ate_30 s_X11_everyone s_X3_desertsOf s_J6_bitCount_0f7a4 s_X5_clear s_X5_add J30 Q) := by
  refine zs_iload C dX11_ate_30 ?_
  refine zs_iload C dX11_ate_32 ?_
  exact zs_icmp_gt C dX11_ate_34 (by decide) (kX11_ate_85 C h_X11_everyone g_X11_everyone h_X3_desertsOf g_X3_desertsOf h_J6_bitCount_0f7a4 g_J6_bitCount_0f7a4 h_X5_clear g_X5_clear h_X5_add g_X5_add j30 hq) (kX11_ate_37 C h_X11_everyone g_X11_everyone h_X3_desertsOf g_X3_desertsOf h_J6_bitCount_0f7a4 g_J6_bitCount_0f7a4 h_X5_clear g_X5_clear h_X5_add g_X5_add j30 hq)
def xX11_ate_13 (s_X11_everyone : zq_Sp) (s_X3_desertsOf : zq_Sp) (s_J6_bitCount_0f7a4 : zq_Sp) (s_X5_clear : zq_Sp) (s_X5_add : zq_Sp) (J30 : zq_P) (Q : zq_Q) (ls : zq_L) (st : List Value) (h : zq_H) : Prop := (zi_push (.int 0) (zi_istore 2 (zi_push (.int (-1)) (zi_istore 3 (zi_aload 0 (zi_callV 0 0 s_X11_everyone (zi_istore 4 (zi_iload 4 (zi_istore 5 (zi_push (.int 0) (zi_istore 6 (J30)))))))))))) ls st h
theorem kX11_ate_13 {X : zq_X} {d : Nat} (C : zq_C X cX11_ate 7 RX11 d) {d_X11_everyone : Nat} {s_X11_everyone : zq_Sp} (h_X11_everyone : zq_M yX11_everyone cX11_everyone 1 (some .int) 1 d_X11_everyone s_X11_everyone) (g_X11_everyone : d_X11_everyone + 1 ≤ d) {d_X3_desertsOf : Nat} {s_X3_desertsOf : zq_Sp} (h_X3_desertsOf : zq_M yX3_desertsOf cX3_desertsOf 4 (some .int) 1 d_X3_desertsOf s_X3_desertsOf) (g_X3_desertsOf : d_X3_desertsOf + 1 ≤ d) {d_J6_bitCount_0f7a4 : Nat} {s_J6_bitCount_0f7a4 : zq_Sp} (h_J6_bitCount_0f7a4 : zq_M yJ6_bitCount_0f7a4 cJ6_bitCount_0f7a4 1 (some .int) 1 d_J6_bitCount_0f7a4 s_J6_bitCount_0f7a4) (g_J6_bitCount_0f7a4 : d_J6_bitCount_0f7a4 + 1 ≤ d) {d_X5_clear : Nat} {s_X5_clear : zq_Sp} (h_X5_clear : zq_M yX5_clear cX5_clear 1 none 0 d_X5_clear s_X5_clear) (g_X5_clear : d_X5_clear + 1 ≤ d) {d_X5_add : Nat} {s_X5_add : zq_Sp} (h_X5_add : zq_M yX5_add cX5_add 3 none 0 d_X5_add s_X5_add) (g_X5_add : d_X5_add + 1 ≤ d) {J30 : zq_P} (j30 : zq_ok X 7 30 J30) {Q : zq_Q} (hq : zq_R X (some .int) 1 Q) : zq_ok X 7 13 (xX11_ate_13 s_X11_everyone s_X3_desertsOf s_J6_bitCount_0f7a4 s_X5_clear s_X5_add J30 Q) := by
  refine zs_iconst C dX11_ate_13 (by decide) ?_
  refine zs_istore_n C dX11_ate_14 rfl (by decide) ?_
  refine zs_iconst C dX11_ate_15 (by decide) ?_
  refine zs_istore_n C dX11_ate_16 rfl (by decide) ?_
  refine zs_aload_n C dX11_ate_17 rfl ?_
  refine zs_callV C h_X11_everyone g_X11_everyone zy_X11_everyone zp_0 (show vwCl[11]? = some (RX11, TX11, 16) from rfl) zw_730 zw_732 zs9_X11_everyone dX11_ate_18 ?_
  refine zs_istore C dX11_ate_21 (by decide) ?_
  refine zs_iload C dX11_ate_23 ?_
  refine zs_istore C dX11_ate_25 (by decide) ?_
  refine zs_iconst C dX11_ate_27 (by decide) ?_
  refine zs_istore C dX11_ate_28 (by decide) ?_
  exact j30
def xX11_ate_11 (s_X11_everyone : zq_Sp) (s_X3_desertsOf : zq_Sp) (s_J6_bitCount_0f7a4 : zq_Sp) (s_X5_clear : zq_Sp) (s_X5_add : zq_Sp) (J30 : zq_P) (Q : zq_Q) (ls : zq_L) (st : List Value) (h : zq_H) : Prop := (zi_push (.int (-1)) (zi_iret Q)) ls st h
theorem kX11_ate_11 {X : zq_X} {d : Nat} (C : zq_C X cX11_ate 7 RX11 d) {d_X11_everyone : Nat} {s_X11_everyone : zq_Sp} (h_X11_everyone : zq_M yX11_everyone cX11_everyone 1 (some .int) 1 d_X11_everyone s_X11_everyone) (g_X11_everyone : d_X11_everyone + 1 ≤ d) {d_X3_desertsOf : Nat} {s_X3_desertsOf : zq_Sp} (h_X3_desertsOf : zq_M yX3_desertsOf cX3_desertsOf 4 (some .int) 1 d_X3_desertsOf s_X3_desertsOf) (g_X3_desertsOf : d_X3_desertsOf + 1 ≤ d) {d_J6_bitCount_0f7a4 : Nat} {s_J6_bitCount_0f7a4 : zq_Sp} (h_J6_bitCount_0f7a4 : zq_M yJ6_bitCount_0f7a4 cJ6_bitCount_0f7a4 1 (some .int) 1 d_J6_bitCount_0f7a4 s_J6_bitCount_0f7a4) (g_J6_bitCount_0f7a4 : d_J6_bitCount_0f7a4 + 1 ≤ d) {d_X5_clear : Nat} {s_X5_clear : zq_Sp} (h_X5_clear : zq_M yX5_clear cX5_clear 1 none 0 d_X5_clear s_X5_clear) (g_X5_clear : d_X5_clear + 1 ≤ d) {d_X5_add : Nat} {s_X5_add : zq_Sp} (h_X5_add : zq_M yX5_add cX5_add 3 none 0 d_X5_add s_X5_add) (g_X5_add : d_X5_add + 1 ≤ d) {J30 : zq_P} (j30 : zq_ok X 7 30 J30) {Q : zq_Q} (hq : zq_R X (some .int) 1 Q) : zq_ok X 7 11 (xX11_ate_11 s_X11_everyone s_X3_desertsOf s_J6_bitCount_0f7a4 s_X5_clear s_X5_add J30 Q) := by
  refine zs_iconst C dX11_ate_11 (by decide) ?_
  exact zs_iret C hq dX11_ate_12
def xX11_ate_4 (s_X11_everyone : zq_Sp) (s_X3_desertsOf : zq_Sp) (s_J6_bitCount_0f7a4 : zq_Sp) (s_X5_clear : zq_Sp) (s_X5_add : zq_Sp) (J30 : zq_P) (Q : zq_Q) (ls : zq_L) (st : List Value) (h : zq_H) : Prop := (zi_iload 1 (zi_push (.int 9999) (zi_if2 (fun x y => x ≤ y) (xX11_ate_13 s_X11_everyone s_X3_desertsOf s_J6_bitCount_0f7a4 s_X5_clear s_X5_add J30 Q) (xX11_ate_11 s_X11_everyone s_X3_desertsOf s_J6_bitCount_0f7a4 s_X5_clear s_X5_add J30 Q)))) ls st h
theorem kX11_ate_4 {X : zq_X} {d : Nat} (C : zq_C X cX11_ate 7 RX11 d) {d_X11_everyone : Nat} {s_X11_everyone : zq_Sp} (h_X11_everyone : zq_M yX11_everyone cX11_everyone 1 (some .int) 1 d_X11_everyone s_X11_everyone) (g_X11_everyone : d_X11_everyone + 1 ≤ d) {d_X3_desertsOf : Nat} {s_X3_desertsOf : zq_Sp} (h_X3_desertsOf : zq_M yX3_desertsOf cX3_desertsOf 4 (some .int) 1 d_X3_desertsOf s_X3_desertsOf) (g_X3_desertsOf : d_X3_desertsOf + 1 ≤ d) {d_J6_bitCount_0f7a4 : Nat} {s_J6_bitCount_0f7a4 : zq_Sp} (h_J6_bitCount_0f7a4 : zq_M yJ6_bitCount_0f7a4 cJ6_bitCount_0f7a4 1 (some .int) 1 d_J6_bitCount_0f7a4 s_J6_bitCount_0f7a4) (g_J6_bitCount_0f7a4 : d_J6_bitCount_0f7a4 + 1 ≤ d) {d_X5_clear : Nat} {s_X5_clear : zq_Sp} (h_X5_clear : zq_M yX5_clear cX5_clear 1 none 0 d_X5_clear s_X5_clear) (g_X5_clear : d_X5_clear + 1 ≤ d) {d_X5_add : Nat} {s_X5_add : zq_Sp} (h_X5_add : zq_M yX5_add cX5_add 3 none 0 d_X5_add s_X5_add) (g_X5_add : d_X5_add + 1 ≤ d) {J30 : zq_P} (j30 : zq_ok X 7 30 J30) {Q : zq_Q} (hq : zq_R X (some .int) 1 Q) : zq_ok X 7 4 (xX11_ate_4 s_X11_everyone s_X3_desertsOf s_J6_bitCount_0f7a4 s_X5_clear s_X5_add J30 Q) := by
  refine zs_iload_n C dX11_ate_4 rfl ?_
  refine zs_sipush C dX11_ate_5 (by decide) ?_
  exact zs_icmp_le C dX11_ate_8 (by decide) (kX11_ate_13 C h_X11_everyone g_X11_everyone h_X3_desertsOf g_X3_desertsOf h_J6_bitCount_0f7a4 g_J6_bitCount_0f7a4 h_X5_clear g_X5_clear h_X5_add g_X5_add j30 hq) (kX11_ate_11 C h_X11_everyone g_X11_everyone h_X3_desertsOf g_X3_desertsOf h_J6_bitCount_0f7a4 g_J6_bitCount_0f7a4 h_X5_clear g_X5_clear h_X5_add g_X5_add j30 hq)
def xX11_ate_0 (s_X11_everyone : zq_Sp) (s_X3_desertsOf : zq_Sp) (s_J6_bitCount_0f7a4 : zq_Sp) (s_X5_clear : zq_Sp) (s_X5_add : zq_Sp) (J30 : zq_P) (Q : zq_Q) (ls : zq_L) (st : List Value) (h : zq_H) : Prop := (zi_iload 1 (zi_if1 (fun x => x < 0) (xX11_ate_11 s_X11_everyone s_X3_desertsOf s_J6_bitCount_0f7a4 s_X5_clear s_X5_add J30 Q) (xX11_ate_4 s_X11_everyone s_X3_desertsOf s_J6_bitCount_0f7a4 s_X5_clear s_X5_add J30 Q))) ls st h
theorem kX11_ate_0 {X : zq_X} {d : Nat} (C : zq_C X cX11_ate 7 RX11 d) {d_X11_everyone : Nat} {s_X11_everyone : zq_Sp} (h_X11_everyone : zq_M yX11_everyone cX11_everyone 1 (some .int) 1 d_X11_everyone s_X11_everyone) (g_X11_everyone : d_X11_everyone + 1 ≤ d) {d_X3_desertsOf : Nat} {s_X3_desertsOf : zq_Sp} (h_X3_desertsOf : zq_M yX3_desertsOf cX3_desertsOf 4 (some .int) 1 d_X3_desertsOf s_X3_desertsOf) (g_X3_desertsOf : d_X3_desertsOf + 1 ≤ d) {d_J6_bitCount_0f7a4 : Nat} {s_J6_bitCount_0f7a4 : zq_Sp} (h_J6_bitCount_0f7a4 : zq_M yJ6_bitCount_0f7a4 cJ6_bitCount_0f7a4 1 (some .int) 1 d_J6_bitCount_0f7a4 s_J6_bitCount_0f7a4) (g_J6_bitCount_0f7a4 : d_J6_bitCount_0f7a4 + 1 ≤ d) {d_X5_clear : Nat} {s_X5_clear : zq_Sp} (h_X5_clear : zq_M yX5_clear cX5_clear 1 none 0 d_X5_clear s_X5_clear) (g_X5_clear : d_X5_clear + 1 ≤ d) {d_X5_add : Nat} {s_X5_add : zq_Sp} (h_X5_add : zq_M yX5_add cX5_add 3 none 0 d_X5_add s_X5_add) (g_X5_add : d_X5_add + 1 ≤ d) {J30 : zq_P} (j30 : zq_ok X 7 30 J30) {Q : zq_Q} (hq : zq_R X (some .int) 1 Q) : zq_ok X 7 0 (xX11_ate_0 s_X11_everyone s_X3_desertsOf s_J6_bitCount_0f7a4 s_X5_clear s_X5_add J30 Q) := by
  refine zs_iload_n C dX11_ate_0 rfl ?_
  exact zs_if_lt C dX11_ate_1 (by decide) (kX11_ate_11 C h_X11_everyone g_X11_everyone h_X3_desertsOf g_X3_desertsOf h_J6_bitCount_0f7a4 g_J6_bitCount_0f7a4 h_X5_clear g_X5_clear h_X5_add g_X5_add j30 hq) (kX11_ate_4 C h_X11_everyone g_X11_everyone h_X3_desertsOf g_X3_desertsOf h_J6_bitCount_0f7a4 g_J6_bitCount_0f7a4 h_X5_clear g_X5_clear h_X5_add g_X5_add j30 hq)
theorem mX11_ate {d : Nat} {spec : zq_Sp} {σ30 : Type} {d_X11_everyone : Nat} {s_X11_everyone : zq_Sp} (h_X11_everyone : zq_M yX11_everyone cX11_everyone 1 (some .int) 1 d_X11_everyone s_X11_everyone) (g_X11_everyone : d_X11_everyone + 1 ≤ d) {d_X3_desertsOf : Nat} {s_X3_desertsOf : zq_Sp} (h_X3_desertsOf : zq_M yX3_desertsOf cX3_desertsOf 4 (some .int) 1 d_X3_desertsOf s_X3_desertsOf) (g_X3_desertsOf : d_X3_desertsOf + 1 ≤ d) {d_J6_bitCount_0f7a4 : Nat} {s_J6_bitCount_0f7a4 : zq_Sp} (h_J6_bitCount_0f7a4 : zq_M yJ6_bitCount_0f7a4 cJ6_bitCount_0f7a4 1 (some .int) 1 d_J6_bitCount_0f7a4 s_J6_bitCount_0f7a4) (g_J6_bitCount_0f7a4 : d_J6_bitCount_0f7a4 + 1 ≤ d) {d_X5_clear : Nat} {s_X5_clear : zq_Sp} (h_X5_clear : zq_M yX5_clear cX5_clear 1 none 0 d_X5_clear s_X5_clear) (g_X5_clear : d_X5_clear + 1 ≤ d) {d_X5_add : Nat} {s_X5_add : zq_Sp} (h_X5_add : zq_M yX5_add cX5_add 3 none 0 d_X5_add s_X5_add) (g_X5_add : d_X5_add + 1 ≤ d) (μ30 : σ30 → Nat) (I30 : zq_Q → σ30 → zq_P) (v : ∀ args h Q, spec args h Q → (zq_a args).length ≤ 7 ∧ xX11_ate_0 s_X11_everyone s_X3_desertsOf s_J6_bitCount_0f7a4 s_X5_clear s_X5_add (fun ls st h => ∃ b, I30 Q b ls st h) Q (zq_l0 7 args) [] h) (v30 : ∀ Q a ls st h, I30 Q a ls st h → xX11_ate_30 s_X11_everyone s_X3_desertsOf s_J6_bitCount_0f7a4 s_X5_clear s_X5_add (fun ls st h => ∃ b, μ30 b < μ30 a ∧ I30 Q b ls st h) Q ls st h) : zq_M yX11_ate cX11_ate 7 (some .int) 1 d spec := by
  refine zq_met (by decide +kernel) (by decide) (fun X Q args h C hq hs => ⟨(v args h Q hs).1, _, ?_, (v args h Q hs).2⟩)
  have hl := zq_loop1 (X := X) (nL := 7) (pc1 := 30) μ30 (I30 Q) (fun J30 => xX11_ate_30 s_X11_everyone s_X3_desertsOf s_J6_bitCount_0f7a4 s_X5_clear s_X5_add J30 Q) (fun j30 => kX11_ate_30 C h_X11_everyone g_X11_everyone h_X3_desertsOf g_X3_desertsOf h_J6_bitCount_0f7a4 g_J6_bitCount_0f7a4 h_X5_clear g_X5_clear h_X5_add g_X5_add j30 hq) (v30 Q)
  exact kX11_ate_0 C h_X11_everyone g_X11_everyone h_X3_desertsOf g_X3_desertsOf h_J6_bitCount_0f7a4 g_J6_bitCount_0f7a4 h_X5_clear g_X5_clear h_X5_add g_X5_add hl hq
/-! ToOneCrumb.enough(II)I -/
theorem dX11_enough_0 : decode cX11_enough 0 = .ok (.iload_n 1, 1) := by decide +kernel
theorem dX11_enough_1 : decode cX11_enough 1 = .ok (.ifCond .lt 20, 3) := by decide +kernel
theorem dX11_enough_4 : decode cX11_enough 4 = .ok (.iload_n 1, 1) := by decide +kernel
theorem dX11_enough_5 : decode cX11_enough 5 = .ok (.bipush 10, 2) := by decide +kernel
theorem dX11_enough_7 : decode cX11_enough 7 = .ok (.if_icmp .gt 14, 3) := by decide +kernel
theorem dX11_enough_10 : decode cX11_enough 10 = .ok (.iload_n 2, 1) := by decide +kernel
theorem dX11_enough_11 : decode cX11_enough 11 = .ok (.ifCond .lt 10, 3) := by decide +kernel
theorem dX11_enough_14 : decode cX11_enough 14 = .ok (.iload_n 2, 1) := by decide +kernel
theorem dX11_enough_15 : decode cX11_enough 15 = .ok (.sipush 9999, 3) := by decide +kernel
theorem dX11_enough_18 : decode cX11_enough 18 = .ok (.if_icmp .le 5, 3) := by decide +kernel
theorem dX11_enough_21 : decode cX11_enough 21 = .ok (.iconst (-1), 1) := by decide +kernel
theorem dX11_enough_22 : decode cX11_enough 22 = .ok (.ireturn, 1) := by decide +kernel
theorem dX11_enough_23 : decode cX11_enough 23 = .ok (.aload_n 0, 1) := by decide +kernel
theorem dX11_enough_24 : decode cX11_enough 24 = .ok (.getfield 19, 3) := by decide +kernel
theorem dX11_enough_27 : decode cX11_enough 27 = .ok (.invokevirtual 236, 3) := by decide +kernel
theorem dX11_enough_30 : decode cX11_enough 30 = .ok (.aload_n 0, 1) := by decide +kernel
theorem dX11_enough_31 : decode cX11_enough 31 = .ok (.getfield 19, 3) := by decide +kernel
theorem dX11_enough_34 : decode cX11_enough 34 = .ok (.aload_n 0, 1) := by decide +kernel
theorem dX11_enough_35 : decode cX11_enough 35 = .ok (.getfield 26, 3) := by decide +kernel
theorem dX11_enough_38 : decode cX11_enough 38 = .ok (.iload_n 1, 1) := by decide +kernel
theorem dX11_enough_39 : decode cX11_enough 39 = .ok (.iload_n 2, 1) := by decide +kernel
theorem dX11_enough_40 : decode cX11_enough 40 = .ok (.invokevirtual 353, 3) := by decide +kernel
theorem dX11_enough_43 : decode cX11_enough 43 = .ok (.aload_n 0, 1) := by decide +kernel
theorem dX11_enough_44 : decode cX11_enough 44 = .ok (.getfield 26, 3) := by decide +kernel
theorem dX11_enough_47 : decode cX11_enough 47 = .ok (.invokevirtual 357, 3) := by decide +kernel
theorem dX11_enough_50 : decode cX11_enough 50 = .ok (.invokevirtual 249, 3) := by decide +kernel
theorem dX11_enough_53 : decode cX11_enough 53 = .ok (.iconst 0, 1) := by decide +kernel
theorem dX11_enough_54 : decode cX11_enough 54 = .ok (.ireturn, 1) := by decide +kernel
def xX11_enough_23 (s_X5_clear : zq_Sp) (s_X3_chanceOf : zq_Sp) (s_X3_allChances : zq_Sp) (s_X5_addFraction : zq_Sp) (Q : zq_Q) (ls : zq_L) (st : List Value) (h : zq_H) : Prop := (zi_aload 0 (zi_getR 0 3 (zi_callV 0 3 s_X5_clear (zi_aload 0 (zi_getR 0 3 (zi_aload 0 (zi_getR 0 5 (zi_iload 1 (zi_iload 2 (zi_callV 2 5 s_X3_chanceOf (zi_aload 0 (zi_getR 0 5 (zi_callV 0 5 s_X3_allChances (zi_callV 2 3 s_X5_addFraction (zi_push (.int 0) (zi_iret Q)))))))))))))))) ls st h
theorem kX11_enough_23 {X : zq_X} {d : Nat} (C : zq_C X cX11_enough 3 RX11 d) {d_X5_clear : Nat} {s_X5_clear : zq_Sp} (h_X5_clear : zq_M yX5_clear cX5_clear 1 none 0 d_X5_clear s_X5_clear) (g_X5_clear : d_X5_clear + 1 ≤ d) {d_X3_chanceOf : Nat} {s_X3_chanceOf : zq_Sp} (h_X3_chanceOf : zq_M yX3_chanceOf cX3_chanceOf 9 (some .long) 2 d_X3_chanceOf s_X3_chanceOf) (g_X3_chanceOf : d_X3_chanceOf + 1 ≤ d) {d_X3_allChances : Nat} {s_X3_allChances : zq_Sp} (h_X3_allChances : zq_M yX3_allChances cX3_allChances 4 (some .long) 2 d_X3_allChances s_X3_allChances) (g_X3_allChances : d_X3_allChances + 1 ≤ d) {d_X5_addFraction : Nat} {s_X5_addFraction : zq_Sp} (h_X5_addFraction : zq_M yX5_addFraction cX5_addFraction 12 none 0 d_X5_addFraction s_X5_addFraction) (g_X5_addFraction : d_X5_addFraction + 1 ≤ d) {Q : zq_Q} (hq : zq_R X (some .int) 1 Q) : zq_ok X 3 23 (xX11_enough_23 s_X5_clear s_X3_chanceOf s_X3_allChances s_X5_addFraction Q) := by
  refine zs_aload_n C dX11_enough_23 rfl ?_
  refine zs_getR C zp_0 zF11 (j := 1) ⟨by decide, rfl⟩ zw_316 dX11_enough_24 ?_
  refine zs_callV C h_X5_clear g_X5_clear zy_X5_clear zp_3 (show vwCl[5]? = some (RX5, TX5, 2) from rfl) zw_650 zw_651 zs9_X5_clear dX11_enough_27 ?_
  refine zs_aload_n C dX11_enough_30 rfl ?_
  refine zs_getR C zp_0 zF11 (j := 1) ⟨by decide, rfl⟩ zw_316 dX11_enough_31 ?_
  refine zs_aload_n C dX11_enough_34 rfl ?_
  refine zs_getR C zp_0 zF11 (j := 2) ⟨by decide, rfl⟩ zw_317 dX11_enough_35 ?_
  refine zs_iload_n C dX11_enough_38 rfl ?_
  refine zs_iload_n C dX11_enough_39 rfl ?_
  refine zs_callV C h_X3_chanceOf g_X3_chanceOf zy_X3_chanceOf zp_5 (show vwCl[3]? = some (RX3, TX3, 4) from rfl) zw_962 zw_963 zs9_X3_chanceOf dX11_enough_40 ?_
  refine zs_aload_n C dX11_enough_43 rfl ?_
  refine zs_getR C zp_0 zF11 (j := 2) ⟨by decide, rfl⟩ zw_317 dX11_enough_44 ?_
  refine zs_callV C h_X3_allChances g_X3_allChances zy_X3_allChances zp_5 (show vwCl[3]? = some (RX3, TX3, 4) from rfl) zw_966 zw_967 zs9_X3_allChances dX11_enough_47 ?_
  refine zs_callV C h_X5_addFraction g_X5_addFraction zy_X5_addFraction zp_3 (show vwCl[5]? = some (RX5, TX5, 2) from rfl) zw_705 zw_706 zs9_X5_addFraction dX11_enough_50 ?_
  refine zs_iconst C dX11_enough_53 (by decide) ?_
  exact zs_iret C hq dX11_enough_54
def xX11_enough_21 (s_X5_clear : zq_Sp) (s_X3_chanceOf : zq_Sp) (s_X3_allChances : zq_Sp) (s_X5_addFraction : zq_Sp) (Q : zq_Q) (ls : zq_L) (st : List Value) (h : zq_H) : Prop := (zi_push (.int (-1)) (zi_iret Q)) ls st h
theorem kX11_enough_21 {X : zq_X} {d : Nat} (C : zq_C X cX11_enough 3 RX11 d) {d_X5_clear : Nat} {s_X5_clear : zq_Sp} (h_X5_clear : zq_M yX5_clear cX5_clear 1 none 0 d_X5_clear s_X5_clear) (g_X5_clear : d_X5_clear + 1 ≤ d) {d_X3_chanceOf : Nat} {s_X3_chanceOf : zq_Sp} (h_X3_chanceOf : zq_M yX3_chanceOf cX3_chanceOf 9 (some .long) 2 d_X3_chanceOf s_X3_chanceOf) (g_X3_chanceOf : d_X3_chanceOf + 1 ≤ d) {d_X3_allChances : Nat} {s_X3_allChances : zq_Sp} (h_X3_allChances : zq_M yX3_allChances cX3_allChances 4 (some .long) 2 d_X3_allChances s_X3_allChances) (g_X3_allChances : d_X3_allChances + 1 ≤ d) {d_X5_addFraction : Nat} {s_X5_addFraction : zq_Sp} (h_X5_addFraction : zq_M yX5_addFraction cX5_addFraction 12 none 0 d_X5_addFraction s_X5_addFraction) (g_X5_addFraction : d_X5_addFraction + 1 ≤ d) {Q : zq_Q} (hq : zq_R X (some .int) 1 Q) : zq_ok X 3 21 (xX11_enough_21 s_X5_clear s_X3_chanceOf s_X3_allChances s_X5_addFraction Q) := by
  refine zs_iconst C dX11_enough_21 (by decide) ?_
  exact zs_iret C hq dX11_enough_22
def xX11_enough_14 (s_X5_clear : zq_Sp) (s_X3_chanceOf : zq_Sp) (s_X3_allChances : zq_Sp) (s_X5_addFraction : zq_Sp) (Q : zq_Q) (ls : zq_L) (st : List Value) (h : zq_H) : Prop := (zi_iload 2 (zi_push (.int 9999) (zi_if2 (fun x y => x ≤ y) (xX11_enough_23 s_X5_clear s_X3_chanceOf s_X3_allChances s_X5_addFraction Q) (xX11_enough_21 s_X5_clear s_X3_chanceOf s_X3_allChances s_X5_addFraction Q)))) ls st h
theorem kX11_enough_14 {X : zq_X} {d : Nat} (C : zq_C X cX11_enough 3 RX11 d) {d_X5_clear : Nat} {s_X5_clear : zq_Sp} (h_X5_clear : zq_M yX5_clear cX5_clear 1 none 0 d_X5_clear s_X5_clear) (g_X5_clear : d_X5_clear + 1 ≤ d) {d_X3_chanceOf : Nat} {s_X3_chanceOf : zq_Sp} (h_X3_chanceOf : zq_M yX3_chanceOf cX3_chanceOf 9 (some .long) 2 d_X3_chanceOf s_X3_chanceOf) (g_X3_chanceOf : d_X3_chanceOf + 1 ≤ d) {d_X3_allChances : Nat} {s_X3_allChances : zq_Sp} (h_X3_allChances : zq_M yX3_allChances cX3_allChances 4 (some .long) 2 d_X3_allChances s_X3_allChances) (g_X3_allChances : d_X3_allChances + 1 ≤ d) {d_X5_addFraction : Nat} {s_X5_addFraction : zq_Sp} (h_X5_addFraction : zq_M yX5_addFraction cX5_addFraction 12 none 0 d_X5_addFraction s_X5_addFraction) (g_X5_addFraction : d_X5_addFraction + 1 ≤ d) {Q : zq_Q} (hq : zq_R X (some .int) 1 Q) : zq_ok X 3 14 (xX11_enough_14 s_X5_clear s_X3_chanceOf s_X3_allChances s_X5_addFraction Q) := by
  refine zs_iload_n C dX11_enough_14 rfl ?_
  refine zs_sipush C dX11_enough_15 (by decide) ?_
  exact zs_icmp_le C dX11_enough_18 (by decide) (kX11_enough_23 C h_X5_clear g_X5_clear h_X3_chanceOf g_X3_chanceOf h_X3_allChances g_X3_allChances h_X5_addFraction g_X5_addFraction hq) (kX11_enough_21 C h_X5_clear g_X5_clear h_X3_chanceOf g_X3_chanceOf h_X3_allChances g_X3_allChances h_X5_addFraction g_X5_addFraction hq)
def xX11_enough_10 (s_X5_clear : zq_Sp) (s_X3_chanceOf : zq_Sp) (s_X3_allChances : zq_Sp) (s_X5_addFraction : zq_Sp) (Q : zq_Q) (ls : zq_L) (st : List Value) (h : zq_H) : Prop := (zi_iload 2 (zi_if1 (fun x => x < 0) (xX11_enough_21 s_X5_clear s_X3_chanceOf s_X3_allChances s_X5_addFraction Q) (xX11_enough_14 s_X5_clear s_X3_chanceOf s_X3_allChances s_X5_addFraction Q))) ls st h
theorem kX11_enough_10 {X : zq_X} {d : Nat} (C : zq_C X cX11_enough 3 RX11 d) {d_X5_clear : Nat} {s_X5_clear : zq_Sp} (h_X5_clear : zq_M yX5_clear cX5_clear 1 none 0 d_X5_clear s_X5_clear) (g_X5_clear : d_X5_clear + 1 ≤ d) {d_X3_chanceOf : Nat} {s_X3_chanceOf : zq_Sp} (h_X3_chanceOf : zq_M yX3_chanceOf cX3_chanceOf 9 (some .long) 2 d_X3_chanceOf s_X3_chanceOf) (g_X3_chanceOf : d_X3_chanceOf + 1 ≤ d) {d_X3_allChances : Nat} {s_X3_allChances : zq_Sp} (h_X3_allChances : zq_M yX3_allChances cX3_allChances 4 (some .long) 2 d_X3_allChances s_X3_allChances) (g_X3_allChances : d_X3_allChances + 1 ≤ d) {d_X5_addFraction : Nat} {s_X5_addFraction : zq_Sp} (h_X5_addFraction : zq_M yX5_addFraction cX5_addFraction 12 none 0 d_X5_addFraction s_X5_addFraction) (g_X5_addFraction : d_X5_addFraction + 1 ≤ d) {Q : zq_Q} (hq : zq_R X (some .int) 1 Q) : zq_ok X 3 10 (xX11_enough_10 s_X5_clear s_X3_chanceOf s_X3_allChances s_X5_addFraction Q) := by
  refine zs_iload_n C dX11_enough_10 rfl ?_
  exact zs_if_lt C dX11_enough_11 (by decide) (kX11_enough_21 C h_X5_clear g_X5_clear h_X3_chanceOf g_X3_chanceOf h_X3_allChances g_X3_allChances h_X5_addFraction g_X5_addFraction hq) (kX11_enough_14 C h_X5_clear g_X5_clear h_X3_chanceOf g_X3_chanceOf h_X3_allChances g_X3_allChances h_X5_addFraction g_X5_addFraction hq)
def xX11_enough_4 (s_X5_clear : zq_Sp) (s_X3_chanceOf : zq_Sp) (s_X3_allChances : zq_Sp) (s_X5_addFraction : zq_Sp) (Q : zq_Q) (ls : zq_L) (st : List Value) (h : zq_H) : Prop := (zi_iload 1 (zi_push (.int 10) (zi_if2 (fun x y => y < x) (xX11_enough_21 s_X5_clear s_X3_chanceOf s_X3_allChances s_X5_addFraction Q) (xX11_enough_10 s_X5_clear s_X3_chanceOf s_X3_allChances s_X5_addFraction Q)))) ls st h
theorem kX11_enough_4 {X : zq_X} {d : Nat} (C : zq_C X cX11_enough 3 RX11 d) {d_X5_clear : Nat} {s_X5_clear : zq_Sp} (h_X5_clear : zq_M yX5_clear cX5_clear 1 none 0 d_X5_clear s_X5_clear) (g_X5_clear : d_X5_clear + 1 ≤ d) {d_X3_chanceOf : Nat} {s_X3_chanceOf : zq_Sp} (h_X3_chanceOf : zq_M yX3_chanceOf cX3_chanceOf 9 (some .long) 2 d_X3_chanceOf s_X3_chanceOf) (g_X3_chanceOf : d_X3_chanceOf + 1 ≤ d) {d_X3_allChances : Nat} {s_X3_allChances : zq_Sp} (h_X3_allChances : zq_M yX3_allChances cX3_allChances 4 (some .long) 2 d_X3_allChances s_X3_allChances) (g_X3_allChances : d_X3_allChances + 1 ≤ d) {d_X5_addFraction : Nat} {s_X5_addFraction : zq_Sp} (h_X5_addFraction : zq_M yX5_addFraction cX5_addFraction 12 none 0 d_X5_addFraction s_X5_addFraction) (g_X5_addFraction : d_X5_addFraction + 1 ≤ d) {Q : zq_Q} (hq : zq_R X (some .int) 1 Q) : zq_ok X 3 4 (xX11_enough_4 s_X5_clear s_X3_chanceOf s_X3_allChances s_X5_addFraction Q) := by
  refine zs_iload_n C dX11_enough_4 rfl ?_
  refine zs_bipush C dX11_enough_5 (by decide) ?_
  exact zs_icmp_gt C dX11_enough_7 (by decide) (kX11_enough_21 C h_X5_clear g_X5_clear h_X3_chanceOf g_X3_chanceOf h_X3_allChances g_X3_allChances h_X5_addFraction g_X5_addFraction hq) (kX11_enough_10 C h_X5_clear g_X5_clear h_X3_chanceOf g_X3_chanceOf h_X3_allChances g_X3_allChances h_X5_addFraction g_X5_addFraction hq)
def xX11_enough_0 (s_X5_clear : zq_Sp) (s_X3_chanceOf : zq_Sp) (s_X3_allChances : zq_Sp) (s_X5_addFraction : zq_Sp) (Q : zq_Q) (ls : zq_L) (st : List Value) (h : zq_H) : Prop := (zi_iload 1 (zi_if1 (fun x => x < 0) (xX11_enough_21 s_X5_clear s_X3_chanceOf s_X3_allChances s_X5_addFraction Q) (xX11_enough_4 s_X5_clear s_X3_chanceOf s_X3_allChances s_X5_addFraction Q))) ls st h
theorem kX11_enough_0 {X : zq_X} {d : Nat} (C : zq_C X cX11_enough 3 RX11 d) {d_X5_clear : Nat} {s_X5_clear : zq_Sp} (h_X5_clear : zq_M yX5_clear cX5_clear 1 none 0 d_X5_clear s_X5_clear) (g_X5_clear : d_X5_clear + 1 ≤ d) {d_X3_chanceOf : Nat} {s_X3_chanceOf : zq_Sp} (h_X3_chanceOf : zq_M yX3_chanceOf cX3_chanceOf 9 (some .long) 2 d_X3_chanceOf s_X3_chanceOf) (g_X3_chanceOf : d_X3_chanceOf + 1 ≤ d) {d_X3_allChances : Nat} {s_X3_allChances : zq_Sp} (h_X3_allChances : zq_M yX3_allChances cX3_allChances 4 (some .long) 2 d_X3_allChances s_X3_allChances) (g_X3_allChances : d_X3_allChances + 1 ≤ d) {d_X5_addFraction : Nat} {s_X5_addFraction : zq_Sp} (h_X5_addFraction : zq_M yX5_addFraction cX5_addFraction 12 none 0 d_X5_addFraction s_X5_addFraction) (g_X5_addFraction : d_X5_addFraction + 1 ≤ d) {Q : zq_Q} (hq : zq_R X (some .int) 1 Q) : zq_ok X 3 0 (xX11_enough_0 s_X5_clear s_X3_chanceOf s_X3_allChances s_X5_addFraction Q) := by
  refine zs_iload_n C dX11_enough_0 rfl ?_
  exact zs_if_lt C dX11_enough_1 (by decide) (kX11_enough_21 C h_X5_clear g_X5_clear h_X3_chanceOf g_X3_chanceOf h_X3_allChances g_X3_allChances h_X5_addFraction g_X5_addFraction hq) (kX11_enough_4 C h_X5_clear g_X5_clear h_X3_chanceOf g_X3_chanceOf h_X3_allChances g_X3_allChances h_X5_addFraction g_X5_addFraction hq)
theorem mX11_enough {d : Nat} {spec : zq_Sp} {d_X5_clear : Nat} {s_X5_clear : zq_Sp} (h_X5_clear : zq_M yX5_clear cX5_clear 1 none 0 d_X5_clear s_X5_clear) (g_X5_clear : d_X5_clear + 1 ≤ d) {d_X3_chanceOf : Nat} {s_X3_chanceOf : zq_Sp} (h_X3_chanceOf : zq_M yX3_chanceOf cX3_chanceOf 9 (some .long) 2 d_X3_chanceOf s_X3_chanceOf) (g_X3_chanceOf : d_X3_chanceOf + 1 ≤ d) {d_X3_allChances : Nat} {s_X3_allChances : zq_Sp} (h_X3_allChances : zq_M yX3_allChances cX3_allChances 4 (some .long) 2 d_X3_allChances s_X3_allChances) (g_X3_allChances : d_X3_allChances + 1 ≤ d) {d_X5_addFraction : Nat} {s_X5_addFraction : zq_Sp} (h_X5_addFraction : zq_M yX5_addFraction cX5_addFraction 12 none 0 d_X5_addFraction s_X5_addFraction) (g_X5_addFraction : d_X5_addFraction + 1 ≤ d) (v : ∀ args h Q, spec args h Q → (zq_a args).length ≤ 3 ∧ xX11_enough_0 s_X5_clear s_X3_chanceOf s_X3_allChances s_X5_addFraction Q (zq_l0 3 args) [] h) : zq_M yX11_enough cX11_enough 3 (some .int) 1 d spec := by
  refine zq_met (by decide +kernel) (by decide) (fun X Q args h C hq hs => ⟨(v args h Q hs).1, _, ?_, (v args h Q hs).2⟩)
  exact kX11_enough_0 C h_X5_clear g_X5_clear h_X3_chanceOf g_X3_chanceOf h_X3_allChances g_X3_allChances h_X5_addFraction g_X5_addFraction hq
/-! ToOneCrumb.wide(II)I -/
theorem dX11_wide_0 : decode cX11_wide 0 = .ok (.iload_n 1, 1) := by decide +kernel
theorem dX11_wide_1 : decode cX11_wide 1 = .ok (.ifCond .lt 19, 3) := by decide +kernel
theorem dX11_wide_4 : decode cX11_wide 4 = .ok (.iload_n 1, 1) := by decide +kernel
theorem dX11_wide_5 : decode cX11_wide 5 = .ok (.bipush 10, 2) := by decide +kernel
theorem dX11_wide_7 : decode cX11_wide 7 = .ok (.if_icmp .gt 13, 3) := by decide +kernel
theorem dX11_wide_10 : decode cX11_wide 10 = .ok (.iload_n 2, 1) := by decide +kernel
theorem dX11_wide_11 : decode cX11_wide 11 = .ok (.ifCond .lt 9, 3) := by decide +kernel
theorem dX11_wide_14 : decode cX11_wide 14 = .ok (.iload_n 2, 1) := by decide +kernel
theorem dX11_wide_15 : decode cX11_wide 15 = .ok (.bipush 100, 2) := by decide +kernel
theorem dX11_wide_17 : decode cX11_wide 17 = .ok (.if_icmp .le 5, 3) := by decide +kernel
theorem dX11_wide_20 : decode cX11_wide 20 = .ok (.iconst (-1), 1) := by decide +kernel
theorem dX11_wide_21 : decode cX11_wide 21 = .ok (.ireturn, 1) := by decide +kernel
theorem dX11_wide_22 : decode cX11_wide 22 = .ok (.aload_n 0, 1) := by decide +kernel
theorem dX11_wide_23 : decode cX11_wide 23 = .ok (.getfield 26, 3) := by decide +kernel
theorem dX11_wide_26 : decode cX11_wide 26 = .ok (.invokevirtual 145, 3) := by decide +kernel
theorem dX11_wide_29 : decode cX11_wide 29 = .ok (.istore_n 3, 1) := by decide +kernel
theorem dX11_wide_30 : decode cX11_wide 30 = .ok (.aload_n 0, 1) := by decide +kernel
theorem dX11_wide_31 : decode cX11_wide 31 = .ok (.invokevirtual 273, 3) := by decide +kernel
theorem dX11_wide_34 : decode cX11_wide 34 = .ok (.istore 4, 2) := by decide +kernel
theorem dX11_wide_36 : decode cX11_wide 36 = .ok (.iconst 0, 1) := by decide +kernel
theorem dX11_wide_37 : decode cX11_wide 37 = .ok (.istore 5, 2) := by decide +kernel
theorem dX11_wide_39 : decode cX11_wide 39 = .ok (.iload 5, 2) := by decide +kernel
theorem dX11_wide_41 : decode cX11_wide 41 = .ok (.iload 4, 2) := by decide +kernel
theorem dX11_wide_43 : decode cX11_wide 43 = .ok (.if_icmp .gt 57, 3) := by decide +kernel
theorem dX11_wide_46 : decode cX11_wide 46 = .ok (.aload_n 0, 1) := by decide +kernel
theorem dX11_wide_47 : decode cX11_wide 47 = .ok (.getfield 26, 3) := by decide +kernel
theorem dX11_wide_50 : decode cX11_wide 50 = .ok (.iload 5, 2) := by decide +kernel
theorem dX11_wide_52 : decode cX11_wide 52 = .ok (.invokevirtual 350, 3) := by decide +kernel
theorem dX11_wide_55 : decode cX11_wide 55 = .ok (.istore 6, 2) := by decide +kernel
theorem dX11_wide_57 : decode cX11_wide 57 = .ok (.iload 6, 2) := by decide +kernel
theorem dX11_wide_59 : decode cX11_wide 59 = .ok (.iload_n 3, 1) := by decide +kernel
theorem dX11_wide_60 : decode cX11_wide 60 = .ok (.if_icmp .ge 34, 3) := by decide +kernel
theorem dX11_wide_63 : decode cX11_wide 63 = .ok (.aload_n 0, 1) := by decide +kernel
theorem dX11_wide_64 : decode cX11_wide 64 = .ok (.getfield 26, 3) := by decide +kernel
theorem dX11_wide_67 : decode cX11_wide 67 = .ok (.iload_n 1, 1) := by decide +kernel
theorem dX11_wide_68 : decode cX11_wide 68 = .ok (.iload 6, 2) := by decide +kernel
theorem dX11_wide_70 : decode cX11_wide 70 = .ok (.invokevirtual 353, 3) := by decide +kernel
theorem dX11_wide_73 : decode cX11_wide 73 = .ok (.ldc2_w 361, 3) := by decide +kernel
theorem dX11_wide_76 : decode cX11_wide 76 = .ok (.lmul, 1) := by decide +kernel
theorem dX11_wide_77 : decode cX11_wide 77 = .ok (.iload_n 2, 1) := by decide +kernel
theorem dX11_wide_78 : decode cX11_wide 78 = .ok (.i2l, 1) := by decide +kernel
theorem dX11_wide_79 : decode cX11_wide 79 = .ok (.aload_n 0, 1) := by decide +kernel
theorem dX11_wide_80 : decode cX11_wide 80 = .ok (.getfield 26, 3) := by decide +kernel
theorem dX11_wide_83 : decode cX11_wide 83 = .ok (.invokevirtual 357, 3) := by decide +kernel
theorem dX11_wide_86 : decode cX11_wide 86 = .ok (.lmul, 1) := by decide +kernel
theorem dX11_wide_87 : decode cX11_wide 87 = .ok (.lcmp, 1) := by decide +kernel
theorem dX11_wide_88 : decode cX11_wide 88 = .ok (.ifCond .lt 6, 3) := by decide +kernel
theorem dX11_wide_91 : decode cX11_wide 91 = .ok (.iload 6, 2) := by decide +kernel
theorem dX11_wide_93 : decode cX11_wide 93 = .ok (.istore_n 3, 1) := by decide +kernel
theorem dX11_wide_94 : decode cX11_wide 94 = .ok (.iinc 5 1, 3) := by decide +kernel
theorem dX11_wide_97 : decode cX11_wide 97 = .ok (.goto (-58), 3) := by decide +kernel
theorem dX11_wide_100 : decode cX11_wide 100 = .ok (.iload_n 3, 1) := by decide +kernel
theorem dX11_wide_101 : decode cX11_wide 101 = .ok (.ireturn, 1) := by decide +kernel
def xX11_wide_100 (s_X3_allDeserts : zq_Sp) (s_X11_everyone : zq_Sp) (s_X3_desertsOf : zq_Sp) (s_X3_chanceOf : zq_Sp) (s_X3_allChances : zq_Sp) (J39 : zq_P) (Q : zq_Q) (ls : zq_L) (st : List Value) (h : zq_H) : Prop := (zi_iload 3 (zi_iret Q)) ls st h
theorem kX11_wide_100 {X : zq_X} {d : Nat} (C : zq_C X cX11_wide 7 RX11 d) {d_X3_allDeserts : Nat} {s_X3_allDeserts : zq_Sp} (h_X3_allDeserts : zq_M yX3_allDeserts cX3_allDeserts 1 (some .int) 1 d_X3_allDeserts s_X3_allDeserts) (g_X3_allDeserts : d_X3_allDeserts + 1 ≤ d) {d_X11_everyone : Nat} {s_X11_everyone : zq_Sp} (h_X11_everyone : zq_M yX11_everyone cX11_everyone 1 (some .int) 1 d_X11_everyone s_X11_everyone) (g_X11_everyone : d_X11_everyone + 1 ≤ d) {d_X3_desertsOf : Nat} {s_X3_desertsOf : zq_Sp} (h_X3_desertsOf : zq_M yX3_desertsOf cX3_desertsOf 4 (some .int) 1 d_X3_desertsOf s_X3_desertsOf) (g_X3_desertsOf : d_X3_desertsOf + 1 ≤ d) {d_X3_chanceOf : Nat} {s_X3_chanceOf : zq_Sp} (h_X3_chanceOf : zq_M yX3_chanceOf cX3_chanceOf 9 (some .long) 2 d_X3_chanceOf s_X3_chanceOf) (g_X3_chanceOf : d_X3_chanceOf + 1 ≤ d) {d_X3_allChances : Nat} {s_X3_allChances : zq_Sp} (h_X3_allChances : zq_M yX3_allChances cX3_allChances 4 (some .long) 2 d_X3_allChances s_X3_allChances) (g_X3_allChances : d_X3_allChances + 1 ≤ d) {J39 : zq_P} (j39 : zq_ok X 7 39 J39) {Q : zq_Q} (hq : zq_R X (some .int) 1 Q) : zq_ok X 7 100 (xX11_wide_100 s_X3_allDeserts s_X11_everyone s_X3_desertsOf s_X3_chanceOf s_X3_allChances J39 Q) := by
  refine zs_iload_n C dX11_wide_100 rfl ?_
  exact zs_iret C hq dX11_wide_101
def xX11_wide_94 (s_X3_allDeserts : zq_Sp) (s_X11_everyone : zq_Sp) (s_X3_desertsOf : zq_Sp) (s_X3_chanceOf : zq_Sp) (s_X3_allChances : zq_Sp) (J39 : zq_P) (Q : zq_Q) (ls : zq_L) (st : List Value) (h : zq_H) : Prop := (zi_iinc 5 1 (J39)) ls st h
theorem kX11_wide_94 {X : zq_X} {d : Nat} (C : zq_C X cX11_wide 7 RX11 d) {d_X3_allDeserts : Nat} {s_X3_allDeserts : zq_Sp} (h_X3_allDeserts : zq_M yX3_allDeserts cX3_allDeserts 1 (some .int) 1 d_X3_allDeserts s_X3_allDeserts) (g_X3_allDeserts : d_X3_allDeserts + 1 ≤ d) {d_X11_everyone : Nat} {s_X11_everyone : zq_Sp} (h_X11_everyone : zq_M yX11_everyone cX11_everyone 1 (some .int) 1 d_X11_everyone s_X11_everyone) (g_X11_everyone : d_X11_everyone + 1 ≤ d) {d_X3_desertsOf : Nat} {s_X3_desertsOf : zq_Sp} (h_X3_desertsOf : zq_M yX3_desertsOf cX3_desertsOf 4 (some .int) 1 d_X3_desertsOf s_X3_desertsOf) (g_X3_desertsOf : d_X3_desertsOf + 1 ≤ d) {d_X3_chanceOf : Nat} {s_X3_chanceOf : zq_Sp} (h_X3_chanceOf : zq_M yX3_chanceOf cX3_chanceOf 9 (some .long) 2 d_X3_chanceOf s_X3_chanceOf) (g_X3_chanceOf : d_X3_chanceOf + 1 ≤ d) {d_X3_allChances : Nat} {s_X3_allChances : zq_Sp} (h_X3_allChances : zq_M yX3_allChances cX3_allChances 4 (some .long) 2 d_X3_allChances s_X3_allChances) (g_X3_allChances : d_X3_allChances + 1 ≤ d) {J39 : zq_P} (j39 : zq_ok X 7 39 J39) {Q : zq_Q} (hq : zq_R X (some .int) 1 Q) : zq_ok X 7 94 (xX11_wide_94 s_X3_allDeserts s_X11_everyone s_X3_desertsOf s_X3_chanceOf s_X3_allChances J39 Q) := by
  refine zs_iinc C dX11_wide_94 (by decide) (by decide) ?_
  exact zs_goto C dX11_wide_97 (by decide) (j39)
def xX11_wide_91 (s_X3_allDeserts : zq_Sp) (s_X11_everyone : zq_Sp) (s_X3_desertsOf : zq_Sp) (s_X3_chanceOf : zq_Sp) (s_X3_allChances : zq_Sp) (J39 : zq_P) (Q : zq_Q) (ls : zq_L) (st : List Value) (h : zq_H) : Prop := (zi_iload 6 (zi_istore 3 ((xX11_wide_94 s_X3_allDeserts s_X11_everyone s_X3_desertsOf s_X3_chanceOf s_X3_allChances J39 Q)))) ls st h
theorem kX11_wide_91 {X : zq_X} {d : Nat} (C : zq_C X cX11_wide 7 RX11 d) {d_X3_allDeserts : Nat} {s_X3_allDeserts : zq_Sp} (h_X3_allDeserts : zq_M yX3_allDeserts cX3_allDeserts 1 (some .int) 1 d_X3_allDeserts s_X3_allDeserts) (g_X3_allDeserts : d_X3_allDeserts + 1 ≤ d) {d_X11_everyone : Nat} {s_X11_everyone : zq_Sp} (h_X11_everyone : zq_M yX11_everyone cX11_everyone 1 (some .int) 1 d_X11_everyone s_X11_everyone) (g_X11_everyone : d_X11_everyone + 1 ≤ d) {d_X3_desertsOf : Nat} {s_X3_desertsOf : zq_Sp} (h_X3_desertsOf : zq_M yX3_desertsOf cX3_desertsOf 4 (some .int) 1 d_X3_desertsOf s_X3_desertsOf) (g_X3_desertsOf : d_X3_desertsOf + 1 ≤ d) {d_X3_chanceOf : Nat} {s_X3_chanceOf : zq_Sp} (h_X3_chanceOf : zq_M yX3_chanceOf cX3_chanceOf 9 (some .long) 2 d_X3_chanceOf s_X3_chanceOf) (g_X3_chanceOf : d_X3_chanceOf + 1 ≤ d) {d_X3_allChances : Nat} {s_X3_allChances : zq_Sp} (h_X3_allChances : zq_M yX3_allChances cX3_allChances 4 (some .long) 2 d_X3_allChances s_X3_allChances) (g_X3_allChances : d_X3_allChances + 1 ≤ d) {J39 : zq_P} (j39 : zq_ok X 7 39 J39) {Q : zq_Q} (hq : zq_R X (some .int) 1 Q) : zq_ok X 7 91 (xX11_wide_91 s_X3_allDeserts s_X11_everyone s_X3_desertsOf s_X3_chanceOf s_X3_allChances J39 Q) := by
  refine zs_iload C dX11_wide_91 ?_
  refine zs_istore_n C dX11_wide_93 rfl (by decide) ?_
  exact kX11_wide_94 C h_X3_allDeserts g_X3_allDeserts h_X11_everyone g_X11_everyone h_X3_desertsOf g_X3_desertsOf h_X3_chanceOf g_X3_chanceOf h_X3_allChances g_X3_allChances j39 hq
def xX11_wide_63 (s_X3_allDeserts : zq_Sp) (s_X11_everyone : zq_Sp) (s_X3_desertsOf : zq_Sp) (s_X3_chanceOf : zq_Sp) (s_X3_allChances : zq_Sp) (J39 : zq_P) (Q : zq_Q) (ls : zq_L) (st : List Value) (h : zq_H) : Prop := (zi_aload 0 (zi_getR 0 5 (zi_iload 1 (zi_iload 6 (zi_callV 2 5 s_X3_chanceOf (zi_push (.long 100) (zi_l2 (fun x y => x * y) (zi_iload 2 (zi_i2l (zi_aload 0 (zi_getR 0 5 (zi_callV 0 5 s_X3_allChances (zi_l2 (fun x y => x * y) (zi_lcmp (zi_if1 (fun x => x < 0) (xX11_wide_94 s_X3_allDeserts s_X11_everyone s_X3_desertsOf s_X3_chanceOf s_X3_allChances J39 Q) (xX11_wide_91 s_X3_allDeserts s_X11_everyone s_X3_desertsOf s_X3_chanceOf s_X3_allChances J39 Q)))))))))))))))) ls st h
theorem kX11_wide_63 {X : zq_X} {d : Nat} (C : zq_C X cX11_wide 7 RX11 d) {d_X3_allDeserts : Nat} {s_X3_allDeserts : zq_Sp} (h_X3_allDeserts : zq_M yX3_allDeserts cX3_allDeserts 1 (some .int) 1 d_X3_allDeserts s_X3_allDeserts) (g_X3_allDeserts : d_X3_allDeserts + 1 ≤ d) {d_X11_everyone : Nat} {s_X11_everyone : zq_Sp} (h_X11_everyone : zq_M yX11_everyone cX11_everyone 1 (some .int) 1 d_X11_everyone s_X11_everyone) (g_X11_everyone : d_X11_everyone + 1 ≤ d) {d_X3_desertsOf : Nat} {s_X3_desertsOf : zq_Sp} (h_X3_desertsOf : zq_M yX3_desertsOf cX3_desertsOf 4 (some .int) 1 d_X3_desertsOf s_X3_desertsOf) (g_X3_desertsOf : d_X3_desertsOf + 1 ≤ d) {d_X3_chanceOf : Nat} {s_X3_chanceOf : zq_Sp} (h_X3_chanceOf : zq_M yX3_chanceOf cX3_chanceOf 9 (some .long) 2 d_X3_chanceOf s_X3_chanceOf) (g_X3_chanceOf : d_X3_chanceOf + 1 ≤ d) {d_X3_allChances : Nat} {s_X3_allChances : zq_Sp} (h_X3_allChances : zq_M yX3_allChances cX3_allChances 4 (some .long) 2 d_X3_allChances s_X3_allChances) (g_X3_allChances : d_X3_allChances + 1 ≤ d) {J39 : zq_P} (j39 : zq_ok X 7 39 J39) {Q : zq_Q} (hq : zq_R X (some .int) 1 Q) : zq_ok X 7 63 (xX11_wide_63 s_X3_allDeserts s_X11_everyone s_X3_desertsOf s_X3_chanceOf s_X3_allChances J39 Q) := by
  refine zs_aload_n C dX11_wide_63 rfl ?_
  refine zs_getR C zp_0 zF11 (j := 2) ⟨by decide, rfl⟩ zw_317 dX11_wide_64 ?_
  refine zs_iload_n C dX11_wide_67 rfl ?_
  refine zs_iload C dX11_wide_68 ?_
  refine zs_callV C h_X3_chanceOf g_X3_chanceOf zy_X3_chanceOf zp_5 (show vwCl[3]? = some (RX3, TX3, 4) from rfl) zw_962 zw_963 zs9_X3_chanceOf dX11_wide_70 ?_
  refine zs_ldc2 C dX11_wide_73 zw_742 ?_
  refine zs_lmul C dX11_wide_76 ?_
  refine zs_iload_n C dX11_wide_77 rfl ?_
  refine zs_i2l C dX11_wide_78 ?_
  refine zs_aload_n C dX11_wide_79 rfl ?_
  refine zs_getR C zp_0 zF11 (j := 2) ⟨by decide, rfl⟩ zw_317 dX11_wide_80 ?_
  refine zs_callV C h_X3_allChances g_X3_allChances zy_X3_allChances zp_5 (show vwCl[3]? = some (RX3, TX3, 4) from rfl) zw_966 zw_967 zs9_X3_allChances dX11_wide_83 ?_
  refine zs_lmul C dX11_wide_86 ?_
  refine zs_lcmp C dX11_wide_87 ?_
  exact zs_if_lt C dX11_wide_88 (by decide) (kX11_wide_94 C h_X3_allDeserts g_X3_allDeserts h_X11_everyone g_X11_everyone h_X3_desertsOf g_X3_desertsOf h_X3_chanceOf g_X3_chanceOf h_X3_allChances g_X3_allChances j39 hq) (kX11_wide_91 C h_X3_allDeserts g_X3_allDeserts h_X11_everyone g_X11_everyone h_X3_desertsOf g_X3_desertsOf h_X3_chanceOf g_X3_chanceOf h_X3_allChances g_X3_allChances j39 hq)
def xX11_wide_46 (s_X3_allDeserts : zq_Sp) (s_X11_everyone : zq_Sp) (s_X3_desertsOf : zq_Sp) (s_X3_chanceOf : zq_Sp) (s_X3_allChances : zq_Sp) (J39 : zq_P) (Q : zq_Q) (ls : zq_L) (st : List Value) (h : zq_H) : Prop := (zi_aload 0 (zi_getR 0 5 (zi_iload 5 (zi_callV 1 5 s_X3_desertsOf (zi_istore 6 (zi_iload 6 (zi_iload 3 (zi_if2 (fun x y => y ≤ x) (xX11_wide_94 s_X3_allDeserts s_X11_everyone s_X3_desertsOf s_X3_chanceOf s_X3_allChances J39 Q) (xX11_wide_63 s_X3_allDeserts s_X11_everyone s_X3_desertsOf s_X3_chanceOf s_X3_allChances J39 Q))))))))) ls st h
theorem kX11_wide_46 {X : zq_X} {d : Nat} (C : zq_C X cX11_wide 7 RX11 d) {d_X3_allDeserts : Nat} {s_X3_allDeserts : zq_Sp} (h_X3_allDeserts : zq_M yX3_allDeserts cX3_allDeserts 1 (some .int) 1 d_X3_allDeserts s_X3_allDeserts) (g_X3_allDeserts : d_X3_allDeserts + 1 ≤ d) {d_X11_everyone : Nat} {s_X11_everyone : zq_Sp} (h_X11_everyone : zq_M yX11_everyone cX11_everyone 1 (some .int) 1 d_X11_everyone s_X11_everyone) (g_X11_everyone : d_X11_everyone + 1 ≤ d) {d_X3_desertsOf : Nat} {s_X3_desertsOf : zq_Sp} (h_X3_desertsOf : zq_M yX3_desertsOf cX3_desertsOf 4 (some .int) 1 d_X3_desertsOf s_X3_desertsOf) (g_X3_desertsOf : d_X3_desertsOf + 1 ≤ d) {d_X3_chanceOf : Nat} {s_X3_chanceOf : zq_Sp} (h_X3_chanceOf : zq_M yX3_chanceOf cX3_chanceOf 9 (some .long) 2 d_X3_chanceOf s_X3_chanceOf) (g_X3_chanceOf : d_X3_chanceOf + 1 ≤ d) {d_X3_allChances : Nat} {s_X3_allChances : zq_Sp} (h_X3_allChances : zq_M yX3_allChances cX3_allChances 4 (some .long) 2 d_X3_allChances s_X3_allChances) (g_X3_allChances : d_X3_allChances + 1 ≤ d) {J39 : zq_P} (j39 : zq_ok X 7 39 J39) {Q : zq_Q} (hq : zq_R X (some .int) 1 Q) : zq_ok X 7 46 (xX11_wide_46 s_X3_allDeserts s_X11_everyone s_X3_desertsOf s_X3_chanceOf s_X3_allChances J39 Q) := by
  refine zs_aload_n C dX11_wide_46 rfl ?_
  refine zs_getR C zp_0 zF11 (j := 2) ⟨by decide, rfl⟩ zw_317 dX11_wide_47 ?_
  refine zs_iload C dX11_wide_50 ?_
  refine zs_callV C h_X3_desertsOf g_X3_desertsOf zy_X3_desertsOf zp_5 (show vwCl[3]? = some (RX3, TX3, 4) from rfl) zw_957 zw_499 zs9_X3_desertsOf dX11_wide_52 ?_
  refine zs_istore C dX11_wide_55 (by decide) ?_
  refine zs_iload C dX11_wide_57 ?_
  refine zs_iload_n C dX11_wide_59 rfl ?_
  exact zs_icmp_ge C dX11_wide_60 (by decide) (kX11_wide_94 C h_X3_allDeserts g_X3_allDeserts h_X11_everyone g_X11_everyone h_X3_desertsOf g_X3_desertsOf h_X3_chanceOf g_X3_chanceOf h_X3_allChances g_X3_allChances j39 hq) (kX11_wide_63 C h_X3_allDeserts g_X3_allDeserts h_X11_everyone g_X11_everyone h_X3_desertsOf g_X3_desertsOf h_X3_chanceOf g_X3_chanceOf h_X3_allChances g_X3_allChances j39 hq)
def xX11_wide_39 (s_X3_allDeserts : zq_Sp) (s_X11_everyone : zq_Sp) (s_X3_desertsOf : zq_Sp) (s_X3_chanceOf : zq_Sp) (s_X3_allChances : zq_Sp) (J39 : zq_P) (Q : zq_Q) (ls : zq_L) (st : List Value) (h : zq_H) : Prop := (zi_iload 5 (zi_iload 4 (zi_if2 (fun x y => y < x) (xX11_wide_100 s_X3_allDeserts s_X11_everyone s_X3_desertsOf s_X3_chanceOf s_X3_allChances J39 Q) (xX11_wide_46 s_X3_allDeserts s_X11_everyone s_X3_desertsOf s_X3_chanceOf s_X3_allChances J39 Q)))) ls st h
theorem kX11_wide_39 {X : zq_X} {d : Nat} (C : zq_C X cX11_wide 7 RX11 d) {d_X3_allDeserts : Nat} {s_X3_allDeserts : zq_Sp} (h_X3_allDeserts : zq_M yX3_allDeserts cX3_allDeserts 1 (some .int) 1 d_X3_allDeserts s_X3_allDeserts) (g_X3_allDeserts : d_X3_allDeserts + 1 ≤ d) {d_X11_everyone : Nat} {s_X11_everyone : zq_Sp} (h_X11_everyone : zq_M yX11_everyone cX11_everyone 1 (some .int) 1 d_X11_everyone s_X11_everyone) (g_X11_everyone : d_X11_everyone + 1 ≤ d) {d_X3_desertsOf : Nat} {s_X3_desertsOf : zq_Sp} (h_X3_desertsOf : zq_M yX3_desertsOf cX3_desertsOf 4 (some .int) 1 d_X3_desertsOf s_X3_desertsOf) (g_X3_desertsOf : d_X3_desertsOf + 1 ≤ d) {d_X3_chanceOf : Nat} {s_X3_chanceOf : zq_Sp} (h_X3_chanceOf : zq_M yX3_chanceOf cX3_chanceOf 9 (some .long) 2 d_X3_chanceOf s_X3_chanceOf) (g_X3_chanceOf : d_X3_chanceOf + 1 ≤ d) {d_X3_allChances : Nat} {s_X3_allChances : zq_Sp} (h_X3_allChances : zq_M yX3_allChances cX3_allChances 4 (some .long) 2 d_X3_allChances s_X3_allChances) (g_X3_allChances : d_X3_allChances + 1 ≤ d) {J39 : zq_P} (j39 : zq_ok X 7 39 J39) {Q : zq_Q} (hq : zq_R X (some .int) 1 Q) : zq_ok X 7 39 (xX11_wide_39 s_X3_allDeserts s_X11_everyone s_X3_desertsOf s_X3_chanceOf s_X3_allChances J39 Q) := by
  refine zs_iload C dX11_wide_39 ?_
  refine zs_iload C dX11_wide_41 ?_
  exact zs_icmp_gt C dX11_wide_43 (by decide) (kX11_wide_100 C h_X3_allDeserts g_X3_allDeserts h_X11_everyone g_X11_everyone h_X3_desertsOf g_X3_desertsOf h_X3_chanceOf g_X3_chanceOf h_X3_allChances g_X3_allChances j39 hq) (kX11_wide_46 C h_X3_allDeserts g_X3_allDeserts h_X11_everyone g_X11_everyone h_X3_desertsOf g_X3_desertsOf h_X3_chanceOf g_X3_chanceOf h_X3_allChances g_X3_allChances j39 hq)
def xX11_wide_22 (s_X3_allDeserts : zq_Sp) (s_X11_everyone : zq_Sp) (s_X3_desertsOf : zq_Sp) (s_X3_chanceOf : zq_Sp) (s_X3_allChances : zq_Sp) (J39 : zq_P) (Q : zq_Q) (ls : zq_L) (st : List Value) (h : zq_H) : Prop := (zi_aload 0 (zi_getR 0 5 (zi_callV 0 5 s_X3_allDeserts (zi_istore 3 (zi_aload 0 (zi_callV 0 0 s_X11_everyone (zi_istore 4 (zi_push (.int 0) (zi_istore 5 (J39)))))))))) ls st h
theorem kX11_wide_22 {X : zq_X} {d : Nat} (C : zq_C X cX11_wide 7 RX11 d) {d_X3_allDeserts : Nat} {s_X3_allDeserts : zq_Sp} (h_X3_allDeserts : zq_M yX3_allDeserts cX3_allDeserts 1 (some .int) 1 d_X3_allDeserts s_X3_allDeserts) (g_X3_allDeserts : d_X3_allDeserts + 1 ≤ d) {d_X11_everyone : Nat} {s_X11_everyone : zq_Sp} (h_X11_everyone : zq_M yX11_everyone cX11_everyone 1 (some .int) 1 d_X11_everyone s_X11_everyone) (g_X11_everyone : d_X11_everyone + 1 ≤ d) {d_X3_desertsOf : Nat} {s_X3_desertsOf : zq_Sp} (h_X3_desertsOf : zq_M yX3_desertsOf cX3_desertsOf 4 (some .int) 1 d_X3_desertsOf s_X3_desertsOf) (g_X3_desertsOf : d_X3_desertsOf + 1 ≤ d) {d_X3_chanceOf : Nat} {s_X3_chanceOf : zq_Sp} (h_X3_chanceOf : zq_M yX3_chanceOf cX3_chanceOf 9 (some .long) 2 d_X3_chanceOf s_X3_chanceOf) (g_X3_chanceOf : d_X3_chanceOf + 1 ≤ d) {d_X3_allChances : Nat} {s_X3_allChances : zq_Sp} (h_X3_allChances : zq_M yX3_allChances cX3_allChances 4 (some .long) 2 d_X3_allChances s_X3_allChances) (g_X3_allChances : d_X3_allChances + 1 ≤ d) {J39 : zq_P} (j39 : zq_ok X 7 39 J39) {Q : zq_Q} (hq : zq_R X (some .int) 1 Q) : zq_ok X 7 22 (xX11_wide_22 s_X3_allDeserts s_X11_everyone s_X3_desertsOf s_X3_chanceOf s_X3_allChances J39 Q) := by
  refine zs_aload_n C dX11_wide_22 rfl ?_
  refine zs_getR C zp_0 zF11 (j := 2) ⟨by decide, rfl⟩ zw_317 dX11_wide_23 ?_
  refine zs_callV C h_X3_allDeserts g_X3_allDeserts zy_X3_allDeserts zp_5 (show vwCl[3]? = some (RX3, TX3, 4) from rfl) zw_494 zw_495 zs9_X3_allDeserts dX11_wide_26 ?_
  refine zs_istore_n C dX11_wide_29 rfl (by decide) ?_
  refine zs_aload_n C dX11_wide_30 rfl ?_
  refine zs_callV C h_X11_everyone g_X11_everyone zy_X11_everyone zp_0 (show vwCl[11]? = some (RX11, TX11, 16) from rfl) zw_730 zw_732 zs9_X11_everyone dX11_wide_31 ?_
  refine zs_istore C dX11_wide_34 (by decide) ?_
  refine zs_iconst C dX11_wide_36 (by decide) ?_
  refine zs_istore C dX11_wide_37 (by decide) ?_
  exact j39
def xX11_wide_20 (s_X3_allDeserts : zq_Sp) (s_X11_everyone : zq_Sp) (s_X3_desertsOf : zq_Sp) (s_X3_chanceOf : zq_Sp) (s_X3_allChances : zq_Sp) (J39 : zq_P) (Q : zq_Q) (ls : zq_L) (st : List Value) (h : zq_H) : Prop := (zi_push (.int (-1)) (zi_iret Q)) ls st h
theorem kX11_wide_20 {X : zq_X} {d : Nat} (C : zq_C X cX11_wide 7 RX11 d) {d_X3_allDeserts : Nat} {s_X3_allDeserts : zq_Sp} (h_X3_allDeserts : zq_M yX3_allDeserts cX3_allDeserts 1 (some .int) 1 d_X3_allDeserts s_X3_allDeserts) (g_X3_allDeserts : d_X3_allDeserts + 1 ≤ d) {d_X11_everyone : Nat} {s_X11_everyone : zq_Sp} (h_X11_everyone : zq_M yX11_everyone cX11_everyone 1 (some .int) 1 d_X11_everyone s_X11_everyone) (g_X11_everyone : d_X11_everyone + 1 ≤ d) {d_X3_desertsOf : Nat} {s_X3_desertsOf : zq_Sp} (h_X3_desertsOf : zq_M yX3_desertsOf cX3_desertsOf 4 (some .int) 1 d_X3_desertsOf s_X3_desertsOf) (g_X3_desertsOf : d_X3_desertsOf + 1 ≤ d) {d_X3_chanceOf : Nat} {s_X3_chanceOf : zq_Sp} (h_X3_chanceOf : zq_M yX3_chanceOf cX3_chanceOf 9 (some .long) 2 d_X3_chanceOf s_X3_chanceOf) (g_X3_chanceOf : d_X3_chanceOf + 1 ≤ d) {d_X3_allChances : Nat} {s_X3_allChances : zq_Sp} (h_X3_allChances : zq_M yX3_allChances cX3_allChances 4 (some .long) 2 d_X3_allChances s_X3_allChances) (g_X3_allChances : d_X3_allChances + 1 ≤ d) {J39 : zq_P} (j39 : zq_ok X 7 39 J39) {Q : zq_Q} (hq : zq_R X (some .int) 1 Q) : zq_ok X 7 20 (xX11_wide_20 s_X3_allDeserts s_X11_everyone s_X3_desertsOf s_X3_chanceOf s_X3_allChances J39 Q) := by
  refine zs_iconst C dX11_wide_20 (by decide) ?_
  exact zs_iret C hq dX11_wide_21
def xX11_wide_14 (s_X3_allDeserts : zq_Sp) (s_X11_everyone : zq_Sp) (s_X3_desertsOf : zq_Sp) (s_X3_chanceOf : zq_Sp) (s_X3_allChances : zq_Sp) (J39 : zq_P) (Q : zq_Q) (ls : zq_L) (st : List Value) (h : zq_H) : Prop := (zi_iload 2 (zi_push (.int 100) (zi_if2 (fun x y => x ≤ y) (xX11_wide_22 s_X3_allDeserts s_X11_everyone s_X3_desertsOf s_X3_chanceOf s_X3_allChances J39 Q) (xX11_wide_20 s_X3_allDeserts s_X11_everyone s_X3_desertsOf s_X3_chanceOf s_X3_allChances J39 Q)))) ls st h
theorem kX11_wide_14 {X : zq_X} {d : Nat} (C : zq_C X cX11_wide 7 RX11 d) {d_X3_allDeserts : Nat} {s_X3_allDeserts : zq_Sp} (h_X3_allDeserts : zq_M yX3_allDeserts cX3_allDeserts 1 (some .int) 1 d_X3_allDeserts s_X3_allDeserts) (g_X3_allDeserts : d_X3_allDeserts + 1 ≤ d) {d_X11_everyone : Nat} {s_X11_everyone : zq_Sp} (h_X11_everyone : zq_M yX11_everyone cX11_everyone 1 (some .int) 1 d_X11_everyone s_X11_everyone) (g_X11_everyone : d_X11_everyone + 1 ≤ d) {d_X3_desertsOf : Nat} {s_X3_desertsOf : zq_Sp} (h_X3_desertsOf : zq_M yX3_desertsOf cX3_desertsOf 4 (some .int) 1 d_X3_desertsOf s_X3_desertsOf) (g_X3_desertsOf : d_X3_desertsOf + 1 ≤ d) {d_X3_chanceOf : Nat} {s_X3_chanceOf : zq_Sp} (h_X3_chanceOf : zq_M yX3_chanceOf cX3_chanceOf 9 (some .long) 2 d_X3_chanceOf s_X3_chanceOf) (g_X3_chanceOf : d_X3_chanceOf + 1 ≤ d) {d_X3_allChances : Nat} {s_X3_allChances : zq_Sp} (h_X3_allChances : zq_M yX3_allChances cX3_allChances 4 (some .long) 2 d_X3_allChances s_X3_allChances) (g_X3_allChances : d_X3_allChances + 1 ≤ d) {J39 : zq_P} (j39 : zq_ok X 7 39 J39) {Q : zq_Q} (hq : zq_R X (some .int) 1 Q) : zq_ok X 7 14 (xX11_wide_14 s_X3_allDeserts s_X11_everyone s_X3_desertsOf s_X3_chanceOf s_X3_allChances J39 Q) := by
  refine zs_iload_n C dX11_wide_14 rfl ?_
  refine zs_bipush C dX11_wide_15 (by decide) ?_
  exact zs_icmp_le C dX11_wide_17 (by decide) (kX11_wide_22 C h_X3_allDeserts g_X3_allDeserts h_X11_everyone g_X11_everyone h_X3_desertsOf g_X3_desertsOf h_X3_chanceOf g_X3_chanceOf h_X3_allChances g_X3_allChances j39 hq) (kX11_wide_20 C h_X3_allDeserts g_X3_allDeserts h_X11_everyone g_X11_everyone h_X3_desertsOf g_X3_desertsOf h_X3_chanceOf g_X3_chanceOf h_X3_allChances g_X3_allChances j39 hq)
def xX11_wide_10 (s_X3_allDeserts : zq_Sp) (s_X11_everyone : zq_Sp) (s_X3_desertsOf : zq_Sp) (s_X3_chanceOf : zq_Sp) (s_X3_allChances : zq_Sp) (J39 : zq_P) (Q : zq_Q) (ls : zq_L) (st : List Value) (h : zq_H) : Prop := (zi_iload 2 (zi_if1 (fun x => x < 0) (xX11_wide_20 s_X3_allDeserts s_X11_everyone s_X3_desertsOf s_X3_chanceOf s_X3_allChances J39 Q) (xX11_wide_14 s_X3_allDeserts s_X11_everyone s_X3_desertsOf s_X3_chanceOf s_X3_allChances J39 Q))) ls st h
theorem kX11_wide_10 {X : zq_X} {d : Nat} (C : zq_C X cX11_wide 7 RX11 d) {d_X3_allDeserts : Nat} {s_X3_allDeserts : zq_Sp} (h_X3_allDeserts : zq_M yX3_allDeserts cX3_allDeserts 1 (some .int) 1 d_X3_allDeserts s_X3_allDeserts) (g_X3_allDeserts : d_X3_allDeserts + 1 ≤ d) {d_X11_everyone : Nat} {s_X11_everyone : zq_Sp} (h_X11_everyone : zq_M yX11_everyone cX11_everyone 1 (some .int) 1 d_X11_everyone s_X11_everyone) (g_X11_everyone : d_X11_everyone + 1 ≤ d) {d_X3_desertsOf : Nat} {s_X3_desertsOf : zq_Sp} (h_X3_desertsOf : zq_M yX3_desertsOf cX3_desertsOf 4 (some .int) 1 d_X3_desertsOf s_X3_desertsOf) (g_X3_desertsOf : d_X3_desertsOf + 1 ≤ d) {d_X3_chanceOf : Nat} {s_X3_chanceOf : zq_Sp} (h_X3_chanceOf : zq_M yX3_chanceOf cX3_chanceOf 9 (some .long) 2 d_X3_chanceOf s_X3_chanceOf) (g_X3_chanceOf : d_X3_chanceOf + 1 ≤ d) {d_X3_allChances : Nat} {s_X3_allChances : zq_Sp} (h_X3_allChances : zq_M yX3_allChances cX3_allChances 4 (some .long) 2 d_X3_allChances s_X3_allChances) (g_X3_allChances : d_X3_allChances + 1 ≤ d) {J39 : zq_P} (j39 : zq_ok X 7 39 J39) {Q : zq_Q} (hq : zq_R X (some .int) 1 Q) : zq_ok X 7 10 (xX11_wide_10 s_X3_allDeserts s_X11_everyone s_X3_desertsOf s_X3_chanceOf s_X3_allChances J39 Q) := by
  refine zs_iload_n C dX11_wide_10 rfl ?_
  exact zs_if_lt C dX11_wide_11 (by decide) (kX11_wide_20 C h_X3_allDeserts g_X3_allDeserts h_X11_everyone g_X11_everyone h_X3_desertsOf g_X3_desertsOf h_X3_chanceOf g_X3_chanceOf h_X3_allChances g_X3_allChances j39 hq) (kX11_wide_14 C h_X3_allDeserts g_X3_allDeserts h_X11_everyone g_X11_everyone h_X3_desertsOf g_X3_desertsOf h_X3_chanceOf g_X3_chanceOf h_X3_allChances g_X3_allChances j39 hq)
def xX11_wide_4 (s_X3_allDeserts : zq_Sp) (s_X11_everyone : zq_Sp) (s_X3_desertsOf : zq_Sp) (s_X3_chanceOf : zq_Sp) (s_X3_allChances : zq_Sp) (J39 : zq_P) (Q : zq_Q) (ls : zq_L) (st : List Value) (h : zq_H) : Prop := (zi_iload 1 (zi_push (.int 10) (zi_if2 (fun x y => y < x) (xX11_wide_20 s_X3_allDeserts s_X11_everyone s_X3_desertsOf s_X3_chanceOf s_X3_allChances J39 Q) (xX11_wide_10 s_X3_allDeserts s_X11_everyone s_X3_desertsOf s_X3_chanceOf s_X3_allChances J39 Q)))) ls st h
theorem kX11_wide_4 {X : zq_X} {d : Nat} (C : zq_C X cX11_wide 7 RX11 d) {d_X3_allDeserts : Nat} {s_X3_allDeserts : zq_Sp} (h_X3_allDeserts : zq_M yX3_allDeserts cX3_allDeserts 1 (some .int) 1 d_X3_allDeserts s_X3_allDeserts) (g_X3_allDeserts : d_X3_allDeserts + 1 ≤ d) {d_X11_everyone : Nat} {s_X11_everyone : zq_Sp} (h_X11_everyone : zq_M yX11_everyone cX11_everyone 1 (some .int) 1 d_X11_everyone s_X11_everyone) (g_X11_everyone : d_X11_everyone + 1 ≤ d) {d_X3_desertsOf : Nat} {s_X3_desertsOf : zq_Sp} (h_X3_desertsOf : zq_M yX3_desertsOf cX3_desertsOf 4 (some .int) 1 d_X3_desertsOf s_X3_desertsOf) (g_X3_desertsOf : d_X3_desertsOf + 1 ≤ d) {d_X3_chanceOf : Nat} {s_X3_chanceOf : zq_Sp} (h_X3_chanceOf : zq_M yX3_chanceOf cX3_chanceOf 9 (some .long) 2 d_X3_chanceOf s_X3_chanceOf) (g_X3_chanceOf : d_X3_chanceOf + 1 ≤ d) {d_X3_allChances : Nat} {s_X3_allChances : zq_Sp} (h_X3_allChances : zq_M yX3_allChances cX3_allChances 4 (some .long) 2 d_X3_allChances s_X3_allChances) (g_X3_allChances : d_X3_allChances + 1 ≤ d) {J39 : zq_P} (j39 : zq_ok X 7 39 J39) {Q : zq_Q} (hq : zq_R X (some .int) 1 Q) : zq_ok X 7 4 (xX11_wide_4 s_X3_allDeserts s_X11_everyone s_X3_desertsOf s_X3_chanceOf s_X3_allChances J39 Q) := by
  refine zs_iload_n C dX11_wide_4 rfl ?_
  refine zs_bipush C dX11_wide_5 (by decide) ?_
  exact zs_icmp_gt C dX11_wide_7 (by decide) (kX11_wide_20 C h_X3_allDeserts g_X3_allDeserts h_X11_everyone g_X11_everyone h_X3_desertsOf g_X3_desertsOf h_X3_chanceOf g_X3_chanceOf h_X3_allChances g_X3_allChances j39 hq) (kX11_wide_10 C h_X3_allDeserts g_X3_allDeserts h_X11_everyone g_X11_everyone h_X3_desertsOf g_X3_desertsOf h_X3_chanceOf g_X3_chanceOf h_X3_allChances g_X3_allChances j39 hq)
def xX11_wide_0 (s_X3_allDeserts : zq_Sp) (s_X11_everyone : zq_Sp) (s_X3_desertsOf : zq_Sp) (s_X3_chanceOf : zq_Sp) (s_X3_allChances : zq_Sp) (J39 : zq_P) (Q : zq_Q) (ls : zq_L) (st : List Value) (h : zq_H) : Prop := (zi_iload 1 (zi_if1 (fun x => x < 0) (xX11_wide_20 s_X3_allDeserts s_X11_everyone s_X3_desertsOf s_X3_chanceOf s_X3_allChances J39 Q) (xX11_wide_4 s_X3_allDeserts s_X11_everyone s_X3_desertsOf s_X3_chanceOf s_X3_allChances J39 Q))) ls st h
theorem kX11_wide_0 {X : zq_X} {d : Nat} (C : zq_C X cX11_wide 7 RX11 d) {d_X3_allDeserts : Nat} {s_X3_allDeserts : zq_Sp} (h_X3_allDeserts : zq_M yX3_allDeserts cX3_allDeserts 1 (some .int) 1 d_X3_allDeserts s_X3_allDeserts) (g_X3_allDeserts : d_X3_allDeserts + 1 ≤ d) {d_X11_everyone : Nat} {s_X11_everyone : zq_Sp} (h_X11_everyone : zq_M yX11_everyone cX11_everyone 1 (some .int) 1 d_X11_everyone s_X11_everyone) (g_X11_everyone : d_X11_everyone + 1 ≤ d) {d_X3_desertsOf : Nat} {s_X3_desertsOf : zq_Sp} (h_X3_desertsOf : zq_M yX3_desertsOf cX3_desertsOf 4 (some .int) 1 d_X3_desertsOf s_X3_desertsOf) (g_X3_desertsOf : d_X3_desertsOf + 1 ≤ d) {d_X3_chanceOf : Nat} {s_X3_chanceOf : zq_Sp} (h_X3_chanceOf : zq_M yX3_chanceOf cX3_chanceOf 9 (some .long) 2 d_X3_chanceOf s_X3_chanceOf) (g_X3_chanceOf : d_X3_chanceOf + 1 ≤ d) {d_X3_allChances : Nat} {s_X3_allChances : zq_Sp} (h_X3_allChances : zq_M yX3_allChances cX3_allChances 4 (some .long) 2 d_X3_allChances s_X3_allChances) (g_X3_allChances : d_X3_allChances + 1 ≤ d) {J39 : zq_P} (j39 : zq_ok X 7 39 J39) {Q : zq_Q} (hq : zq_R X (some .int) 1 Q) : zq_ok X 7 0 (xX11_wide_0 s_X3_allDeserts s_X11_everyone s_X3_desertsOf s_X3_chanceOf s_X3_allChances J39 Q) := by
  refine zs_iload_n C dX11_wide_0 rfl ?_
  exact zs_if_lt C dX11_wide_1 (by decide) (kX11_wide_20 C h_X3_allDeserts g_X3_allDeserts h_X11_everyone g_X11_everyone h_X3_desertsOf g_X3_desertsOf h_X3_chanceOf g_X3_chanceOf h_X3_allChances g_X3_allChances j39 hq) (kX11_wide_4 C h_X3_allDeserts g_X3_allDeserts h_X11_everyone g_X11_everyone h_X3_desertsOf g_X3_desertsOf h_X3_chanceOf g_X3_chanceOf h_X3_allChances g_X3_allChances j39 hq)
theorem mX11_wide {d : Nat} {spec : zq_Sp} {σ39 : Type} {d_X3_allDeserts : Nat} {s_X3_allDeserts : zq_Sp} (h_X3_allDeserts : zq_M yX3_allDeserts cX3_allDeserts 1 (some .int) 1 d_X3_allDeserts s_X3_allDeserts) (g_X3_allDeserts : d_X3_allDeserts + 1 ≤ d) {d_X11_everyone : Nat} {s_X11_everyone : zq_Sp} (h_X11_everyone : zq_M yX11_everyone cX11_everyone 1 (some .int) 1 d_X11_everyone s_X11_everyone) (g_X11_everyone : d_X11_everyone + 1 ≤ d) {d_X3_desertsOf : Nat} {s_X3_desertsOf : zq_Sp} (h_X3_desertsOf : zq_M yX3_desertsOf cX3_desertsOf 4 (some .int) 1 d_X3_desertsOf s_X3_desertsOf) (g_X3_desertsOf : d_X3_desertsOf + 1 ≤ d) {d_X3_chanceOf : Nat} {s_X3_chanceOf : zq_Sp} (h_X3_chanceOf : zq_M yX3_chanceOf cX3_chanceOf 9 (some .long) 2 d_X3_chanceOf s_X3_chanceOf) (g_X3_chanceOf : d_X3_chanceOf + 1 ≤ d) {d_X3_allChances : Nat} {s_X3_allChances : zq_Sp} (h_X3_allChances : zq_M yX3_allChances cX3_allChances 4 (some .long) 2 d_X3_allChances s_X3_allChances) (g_X3_allChances : d_X3_allChances + 1 ≤ d) (μ39 : σ39 → Nat) (I39 : zq_Q → σ39 → zq_P) (v : ∀ args h Q, spec args h Q → (zq_a args).length ≤ 7 ∧ xX11_wide_0 s_X3_allDeserts s_X11_everyone s_X3_desertsOf s_X3_chanceOf s_X3_allChances (fun ls st h => ∃ b, I39 Q b ls st h) Q (zq_l0 7 args) [] h) (v39 : ∀ Q a ls st h, I39 Q a ls st h → xX11_wide_39 s_X3_allDeserts s_X11_everyone s_X3_desertsOf s_X3_chanceOf s_X3_allChances (fun ls st h => ∃ b, μ39 b < μ39 a ∧ I39 Q b ls st h) Q ls st h) : zq_M yX11_wide cX11_wide 7 (some .int) 1 d spec := by
  refine zq_met (by decide +kernel) (by decide) (fun X Q args h C hq hs => ⟨(v args h Q hs).1, _, ?_, (v args h Q hs).2⟩)
  have hl := zq_loop1 (X := X) (nL := 7) (pc1 := 39) μ39 (I39 Q) (fun J39 => xX11_wide_39 s_X3_allDeserts s_X11_everyone s_X3_desertsOf s_X3_chanceOf s_X3_allChances J39 Q) (fun j39 => kX11_wide_39 C h_X3_allDeserts g_X3_allDeserts h_X11_everyone g_X11_everyone h_X3_desertsOf g_X3_desertsOf h_X3_chanceOf g_X3_chanceOf h_X3_allChances g_X3_allChances j39 hq) (v39 Q)
  exact kX11_wide_0 C h_X3_allDeserts g_X3_allDeserts h_X11_everyone g_X11_everyone h_X3_desertsOf g_X3_desertsOf h_X3_chanceOf g_X3_chanceOf h_X3_allChances g_X3_allChances hl hq
/-! ToOneCrumb.suppers(II)I -/
theorem dX11_suppers_0 : decode cX11_suppers 0 = .ok (.iload_n 2, 1) := by decide +kernel
theorem dX11_suppers_1 : decode cX11_suppers 1 = .ok (.iconst 1, 1) := by decide +kernel
theorem dX11_suppers_2 : decode cX11_suppers 2 = .ok (.if_icmp .lt 19, 3) := by decide +kernel
theorem dX11_suppers_5 : decode cX11_suppers 5 = .ok (.iload_n 2, 1) := by decide +kernel
theorem dX11_suppers_6 : decode cX11_suppers 6 = .ok (.bipush 50, 2) := by decide +kernel
theorem dX11_suppers_8 : decode cX11_suppers 8 = .ok (.if_icmp .gt 13, 3) := by decide +kernel
theorem dX11_suppers_11 : decode cX11_suppers 11 = .ok (.aload_n 0, 1) := by decide +kernel
theorem dX11_suppers_12 : decode cX11_suppers 12 = .ok (.getfield 26, 3) := by decide +kernel
theorem dX11_suppers_15 : decode cX11_suppers 15 = .ok (.getfield 243, 3) := by decide +kernel
theorem dX11_suppers_18 : decode cX11_suppers 18 = .ok (.ifCond .ne 5, 3) := by decide +kernel
theorem dX11_suppers_21 : decode cX11_suppers 21 = .ok (.iconst (-1), 1) := by decide +kernel
theorem dX11_suppers_22 : decode cX11_suppers 22 = .ok (.ireturn, 1) := by decide +kernel
theorem dX11_suppers_23 : decode cX11_suppers 23 = .ok (.iload_n 1, 1) := by decide +kernel
theorem dX11_suppers_24 : decode cX11_suppers 24 = .ok (.istore_n 3, 1) := by decide +kernel
theorem dX11_suppers_25 : decode cX11_suppers 25 = .ok (.aload_n 0, 1) := by decide +kernel
theorem dX11_suppers_26 : decode cX11_suppers 26 = .ok (.getfield 68, 3) := by decide +kernel
theorem dX11_suppers_29 : decode cX11_suppers 29 = .ok (.aload_n 0, 1) := by decide +kernel
theorem dX11_suppers_30 : decode cX11_suppers 30 = .ok (.getfield 33, 3) := by decide +kernel
theorem dX11_suppers_33 : decode cX11_suppers 33 = .ok (.invokevirtual 294, 3) := by decide +kernel
theorem dX11_suppers_36 : decode cX11_suppers 36 = .ok (.iconst 0, 1) := by decide +kernel
theorem dX11_suppers_37 : decode cX11_suppers 37 = .ok (.istore 4, 2) := by decide +kernel
theorem dX11_suppers_39 : decode cX11_suppers 39 = .ok (.iload 4, 2) := by decide +kernel
theorem dX11_suppers_41 : decode cX11_suppers 41 = .ok (.iload_n 2, 1) := by decide +kernel
theorem dX11_suppers_42 : decode cX11_suppers 42 = .ok (.if_icmp .ge 88, 3) := by decide +kernel
theorem dX11_suppers_45 : decode cX11_suppers 45 = .ok (.aload_n 0, 1) := by decide +kernel
theorem dX11_suppers_46 : decode cX11_suppers 46 = .ok (.getfield 68, 3) := by decide +kernel
theorem dX11_suppers_49 : decode cX11_suppers 49 = .ok (.aload_n 0, 1) := by decide +kernel
theorem dX11_suppers_50 : decode cX11_suppers 50 = .ok (.getfield 82, 3) := by decide +kernel
theorem dX11_suppers_53 : decode cX11_suppers 53 = .ok (.getfield 128, 3) := by decide +kernel
theorem dX11_suppers_56 : decode cX11_suppers 56 = .ok (.putfield 363, 3) := by decide +kernel
theorem dX11_suppers_59 : decode cX11_suppers 59 = .ok (.iconst 0, 1) := by decide +kernel
theorem dX11_suppers_60 : decode cX11_suppers 60 = .ok (.istore 5, 2) := by decide +kernel
theorem dX11_suppers_62 : decode cX11_suppers 62 = .ok (.iload 5, 2) := by decide +kernel
theorem dX11_suppers_64 : decode cX11_suppers 64 = .ok (.aload_n 0, 1) := by decide +kernel
theorem dX11_suppers_65 : decode cX11_suppers 65 = .ok (.getfield 82, 3) := by decide +kernel
theorem dX11_suppers_68 : decode cX11_suppers 68 = .ok (.getfield 128, 3) := by decide +kernel
theorem dX11_suppers_71 : decode cX11_suppers 71 = .ok (.if_icmp .ge 41, 3) := by decide +kernel
theorem dX11_suppers_74 : decode cX11_suppers 74 = .ok (.iload_n 3, 1) := by decide +kernel
theorem dX11_suppers_75 : decode cX11_suppers 75 = .ok (.ldc_w 364, 3) := by decide +kernel
theorem dX11_suppers_78 : decode cX11_suppers 78 = .ok (.imul, 1) := by decide +kernel
theorem dX11_suppers_79 : decode cX11_suppers 79 = .ok (.sipush 12345, 3) := by decide +kernel
theorem dX11_suppers_82 : decode cX11_suppers 82 = .ok (.iadd, 1) := by decide +kernel
theorem dX11_suppers_83 : decode cX11_suppers 83 = .ok (.istore_n 3, 1) := by decide +kernel
theorem dX11_suppers_84 : decode cX11_suppers 84 = .ok (.aload_n 0, 1) := by decide +kernel
theorem dX11_suppers_85 : decode cX11_suppers 85 = .ok (.getfield 68, 3) := by decide +kernel
theorem dX11_suppers_88 : decode cX11_suppers 88 = .ok (.getfield 365, 3) := by decide +kernel
theorem dX11_suppers_91 : decode cX11_suppers 91 = .ok (.iload 5, 2) := by decide +kernel
theorem dX11_suppers_93 : decode cX11_suppers 93 = .ok (.iload_n 3, 1) := by decide +kernel
theorem dX11_suppers_94 : decode cX11_suppers 94 = .ok (.bipush 16, 2) := by decide +kernel
theorem dX11_suppers_96 : decode cX11_suppers 96 = .ok (.iushr, 1) := by decide +kernel
theorem dX11_suppers_97 : decode cX11_suppers 97 = .ok (.aload_n 0, 1) := by decide +kernel
theorem dX11_suppers_98 : decode cX11_suppers 98 = .ok (.getfield 26, 3) := by decide +kernel
theorem dX11_suppers_101 : decode cX11_suppers 101 = .ok (.getfield 243, 3) := by decide +kernel
theorem dX11_suppers_104 : decode cX11_suppers 104 = .ok (.irem, 1) := by decide +kernel
theorem dX11_suppers_105 : decode cX11_suppers 105 = .ok (.iastore, 1) := by decide +kernel
theorem dX11_suppers_106 : decode cX11_suppers 106 = .ok (.iinc 5 1, 3) := by decide +kernel
theorem dX11_suppers_109 : decode cX11_suppers 109 = .ok (.goto (-47), 3) := by decide +kernel
theorem dX11_suppers_112 : decode cX11_suppers 112 = .ok (.aload_n 0, 1) := by decide +kernel
theorem dX11_suppers_113 : decode cX11_suppers 113 = .ok (.getfield 68, 3) := by decide +kernel
theorem dX11_suppers_116 : decode cX11_suppers 116 = .ok (.aload_n 0, 1) := by decide +kernel
theorem dX11_suppers_117 : decode cX11_suppers 117 = .ok (.getfield 33, 3) := by decide +kernel
theorem dX11_suppers_120 : decode cX11_suppers 120 = .ok (.invokevirtual 298, 3) := by decide +kernel
theorem dX11_suppers_123 : decode cX11_suppers 123 = .ok (.pop, 1) := by decide +kernel
theorem dX11_suppers_124 : decode cX11_suppers 124 = .ok (.iinc 4 1, 3) := by decide +kernel
theorem dX11_suppers_127 : decode cX11_suppers 127 = .ok (.goto (-88), 3) := by decide +kernel
theorem dX11_suppers_130 : decode cX11_suppers 130 = .ok (.iconst 0, 1) := by decide +kernel
theorem dX11_suppers_131 : decode cX11_suppers 131 = .ok (.istore 4, 2) := by decide +kernel
theorem dX11_suppers_133 : decode cX11_suppers 133 = .ok (.aload_n 0, 1) := by decide +kernel
theorem dX11_suppers_134 : decode cX11_suppers 134 = .ok (.getfield 19, 3) := by decide +kernel
theorem dX11_suppers_137 : decode cX11_suppers 137 = .ok (.invokevirtual 236, 3) := by decide +kernel
theorem dX11_suppers_140 : decode cX11_suppers 140 = .ok (.iconst 0, 1) := by decide +kernel
theorem dX11_suppers_141 : decode cX11_suppers 141 = .ok (.istore 5, 2) := by decide +kernel
theorem dX11_suppers_143 : decode cX11_suppers 143 = .ok (.iload 5, 2) := by decide +kernel
theorem dX11_suppers_145 : decode cX11_suppers 145 = .ok (.aload_n 0, 1) := by decide +kernel
theorem dX11_suppers_146 : decode cX11_suppers 146 = .ok (.getfield 26, 3) := by decide +kernel
theorem dX11_suppers_149 : decode cX11_suppers 149 = .ok (.getfield 243, 3) := by decide +kernel
theorem dX11_suppers_152 : decode cX11_suppers 152 = .ok (.if_icmp .ge 54, 3) := by decide +kernel
theorem dX11_suppers_155 : decode cX11_suppers 155 = .ok (.aload_n 0, 1) := by decide +kernel
theorem dX11_suppers_156 : decode cX11_suppers 156 = .ok (.getfield 19, 3) := by decide +kernel
theorem dX11_suppers_159 : decode cX11_suppers 159 = .ok (.aload_n 0, 1) := by decide +kernel
theorem dX11_suppers_160 : decode cX11_suppers 160 = .ok (.getfield 68, 3) := by decide +kernel
theorem dX11_suppers_163 : decode cX11_suppers 163 = .ok (.getfield 302, 3) := by decide +kernel
theorem dX11_suppers_166 : decode cX11_suppers 166 = .ok (.iload 5, 2) := by decide +kernel
theorem dX11_suppers_168 : decode cX11_suppers 168 = .ok (.iaload, 1) := by decide +kernel
theorem dX11_suppers_169 : decode cX11_suppers 169 = .ok (.i2l, 1) := by decide +kernel
theorem dX11_suppers_170 : decode cX11_suppers 170 = .ok (.invokevirtual 237, 3) := by decide +kernel
theorem dX11_suppers_173 : decode cX11_suppers 173 = .ok (.aload_n 0, 1) := by decide +kernel
theorem dX11_suppers_174 : decode cX11_suppers 174 = .ok (.getfield 68, 3) := by decide +kernel
theorem dX11_suppers_177 : decode cX11_suppers 177 = .ok (.getfield 302, 3) := by decide +kernel
theorem dX11_suppers_180 : decode cX11_suppers 180 = .ok (.iload 5, 2) := by decide +kernel
theorem dX11_suppers_182 : decode cX11_suppers 182 = .ok (.iaload, 1) := by decide +kernel
theorem dX11_suppers_183 : decode cX11_suppers 183 = .ok (.aload_n 0, 1) := by decide +kernel
theorem dX11_suppers_184 : decode cX11_suppers 184 = .ok (.getfield 68, 3) := by decide +kernel
theorem dX11_suppers_187 : decode cX11_suppers 187 = .ok (.getfield 302, 3) := by decide +kernel
theorem dX11_suppers_190 : decode cX11_suppers 190 = .ok (.iload 4, 2) := by decide +kernel
theorem dX11_suppers_192 : decode cX11_suppers 192 = .ok (.iaload, 1) := by decide +kernel
theorem dX11_suppers_193 : decode cX11_suppers 193 = .ok (.if_icmp .le 7, 3) := by decide +kernel
theorem dX11_suppers_196 : decode cX11_suppers 196 = .ok (.iload 5, 2) := by decide +kernel
theorem dX11_suppers_198 : decode cX11_suppers 198 = .ok (.istore 4, 2) := by decide +kernel
theorem dX11_suppers_200 : decode cX11_suppers 200 = .ok (.iinc 5 1, 3) := by decide +kernel
theorem dX11_suppers_203 : decode cX11_suppers 203 = .ok (.goto (-60), 3) := by decide +kernel
theorem dX11_suppers_206 : decode cX11_suppers 206 = .ok (.iload 4, 2) := by decide +kernel
theorem dX11_suppers_208 : decode cX11_suppers 208 = .ok (.ireturn, 1) := by decide +kernel
def xX11_suppers_206 (s_X9_startTaking : zq_Sp) (s_X9_takeAll : zq_Sp) (s_X5_clear : zq_Sp) (s_X5_add : zq_Sp) (J39 : zq_P) (J62 : zq_P) (J143 : zq_P) (Q : zq_Q) (ls : zq_L) (st : List Value) (h : zq_H) : Prop := (zi_iload 4 (zi_iret Q)) ls st h
theorem kX11_suppers_206 {X : zq_X} {d : Nat} (C : zq_C X cX11_suppers 6 RX11 d) {d_X9_startTaking : Nat} {s_X9_startTaking : zq_Sp} (h_X9_startTaking : zq_M yX9_startTaking cX9_startTaking 2 none 0 d_X9_startTaking s_X9_startTaking) (g_X9_startTaking : d_X9_startTaking + 1 ≤ d) {d_X9_takeAll : Nat} {s_X9_takeAll : zq_Sp} (h_X9_takeAll : zq_M yX9_takeAll cX9_takeAll 7 (some .int) 1 d_X9_takeAll s_X9_takeAll) (g_X9_takeAll : d_X9_takeAll + 1 ≤ d) {d_X5_clear : Nat} {s_X5_clear : zq_Sp} (h_X5_clear : zq_M yX5_clear cX5_clear 1 none 0 d_X5_clear s_X5_clear) (g_X5_clear : d_X5_clear + 1 ≤ d) {d_X5_add : Nat} {s_X5_add : zq_Sp} (h_X5_add : zq_M yX5_add cX5_add 3 none 0 d_X5_add s_X5_add) (g_X5_add : d_X5_add + 1 ≤ d) {J39 : zq_P} (j39 : zq_ok X 6 39 J39) {J62 : zq_P} (j62 : zq_ok X 6 62 J62) {J143 : zq_P} (j143 : zq_ok X 6 143 J143) {Q : zq_Q} (hq : zq_R X (some .int) 1 Q) : zq_ok X 6 206 (xX11_suppers_206 s_X9_startTaking s_X9_takeAll s_X5_clear s_X5_add J39 J62 J143 Q) := by
  refine zs_iload C dX11_suppers_206 ?_
  exact zs_iret C hq dX11_suppers_208
def xX11_suppers_200 (s_X9_startTaking : zq_Sp) (s_X9_takeAll : zq_Sp) (s_X5_clear : zq_Sp) (s_X5_add : zq_Sp) (J39 : zq_P) (J62 : zq_P) (J143 : zq_P) (Q : zq_Q) (ls : zq_L) (st : List Value) (h : zq_H) : Prop := (zi_iinc 5 1 (J143)) ls st h
theorem kX11_suppers_200 {X : zq_X} {d : Nat} (C : zq_C X cX11_suppers 6 RX11 d) {d_X9_startTaking : Nat} {s_X9_startTaking : zq_Sp} (h_X9_startTaking : zq_M yX9_startTaking cX9_startTaking 2 none 0 d_X9_startTaking s_X9_startTaking) (g_X9_startTaking : d_X9_startTaking + 1 ≤ d) {d_X9_takeAll : Nat} {s_X9_takeAll : zq_Sp} (h_X9_takeAll : zq_M yX9_takeAll cX9_takeAll 7 (some .int) 1 d_X9_takeAll s_X9_takeAll) (g_X9_takeAll : d_X9_takeAll + 1 ≤ d) {d_X5_clear : Nat} {s_X5_clear : zq_Sp} (h_X5_clear : zq_M yX5_clear cX5_clear 1 none 0 d_X5_clear s_X5_clear) (g_X5_clear : d_X5_clear + 1 ≤ d) {d_X5_add : Nat} {s_X5_add : zq_Sp} (h_X5_add : zq_M yX5_add cX5_add 3 none 0 d_X5_add s_X5_add) (g_X5_add : d_X5_add + 1 ≤ d) {J39 : zq_P} (j39 : zq_ok X 6 39 J39) {J62 : zq_P} (j62 : zq_ok X 6 62 J62) {J143 : zq_P} (j143 : zq_ok X 6 143 J143) {Q : zq_Q} (hq : zq_R X (some .int) 1 Q) : zq_ok X 6 200 (xX11_suppers_200 s_X9_startTaking s_X9_takeAll s_X5_clear s_X5_add J39 J62 J143 Q) := by
  refine zs_iinc C dX11_suppers_200 (by decide) (by decide) ?_
  exact zs_goto C dX11_suppers_203 (by decide) (j143)
def xX11_suppers_196 (s_X9_startTaking : zq_Sp) (s_X9_takeAll : zq_Sp) (s_X5_clear : zq_Sp) (s_X5_add : zq_Sp) (J39 : zq_P) (J62 : zq_P) (J143 : zq_P) (Q : zq_Q) (ls : zq_L) (st : List Value) (h : zq_H) : Prop := (zi_iload 5 (zi_istore 4 ((xX11_suppers_200 s_X9_startTaking s_X9_takeAll s_X5_clear s_X5_add J39 J62 J143 Q)))) ls st h
theorem kX11_suppers_196 {X : zq_X} {d : Nat} (C : zq_C X cX11_suppers 6 RX11 d) {d_X9_startTaking : Nat} {s_X9_startTaking : zq_Sp} (h_X9_startTaking : zq_M yX9_startTaking cX9_startTaking 2 none 0 d_X9_startTaking s_X9_startTaking) (g_X9_startTaking : d_X9_startTaking + 1 ≤ d) {d_X9_takeAll : Nat} {s_X9_takeAll : zq_Sp} (h_X9_takeAll : zq_M yX9_takeAll cX9_takeAll 7 (some .int) 1 d_X9_takeAll s_X9_takeAll) (g_X9_takeAll : d_X9_takeAll + 1 ≤ d) {d_X5_clear : Nat} {s_X5_clear : zq_Sp} (h_X5_clear : zq_M yX5_clear cX5_clear 1 none 0 d_X5_clear s_X5_clear) (g_X5_clear : d_X5_clear + 1 ≤ d) {d_X5_add : Nat} {s_X5_add : zq_Sp} (h_X5_add : zq_M yX5_add cX5_add 3 none 0 d_X5_add s_X5_add) (g_X5_add : d_X5_add + 1 ≤ d) {J39 : zq_P} (j39 : zq_ok X 6 39 J39) {J62 : zq_P} (j62 : zq_ok X 6 62 J62) {J143 : zq_P} (j143 : zq_ok X 6 143 J143) {Q : zq_Q} (hq : zq_R X (some .int) 1 Q) : zq_ok X 6 196 (xX11_suppers_196 s_X9_startTaking s_X9_takeAll s_X5_clear s_X5_add J39 J62 J143 Q) := by
  refine zs_iload C dX11_suppers_196 ?_
  refine zs_istore C dX11_suppers_198 (by decide) ?_
  exact kX11_suppers_200 C h_X9_startTaking g_X9_startTaking h_X9_takeAll g_X9_takeAll h_X5_clear g_X5_clear h_X5_add g_X5_add j39 j62 j143 hq
def xX11_suppers_155 (s_X9_startTaking : zq_Sp) (s_X9_takeAll : zq_Sp) (s_X5_clear : zq_Sp) (s_X5_add : zq_Sp) (J39 : zq_P) (J62 : zq_P) (J143 : zq_P) (Q : zq_Q) (ls : zq_L) (st : List Value) (h : zq_H) : Prop := (zi_aload 0 (zi_getR 0 3 (zi_aload 0 (zi_getR 0 34 (zi_getR 34 37 (zi_iload 5 (zi_aldI 37 6 (zi_i2l (zi_callV 1 3 s_X5_add (zi_aload 0 (zi_getR 0 34 (zi_getR 34 37 (zi_iload 5 (zi_aldI 37 6 (zi_aload 0 (zi_getR 0 34 (zi_getR 34 37 (zi_iload 4 (zi_aldI 37 6 (zi_if2 (fun x y => x ≤ y) (xX11_suppers_200 s_X9_startTaking s_X9_takeAll s_X5_clear s_X5_add J39 J62 J143 Q) (xX11_suppers_196 s_X9_startTaking s_X9_takeAll s_X5_clear s_X5_add J39 J62 J143 Q))))))))))))))))))))) ls st h
theorem kX11_suppers_155 {X : zq_X} {d : Nat} (C : zq_C X cX11_suppers 6 RX11 d) {d_X9_startTaking : Nat} {s_X9_startTaking : zq_Sp} (h_X9_startTaking : zq_M yX9_startTaking cX9_startTaking 2 none 0 d_X9_startTaking s_X9_startTaking) (g_X9_startTaking : d_X9_startTaking + 1 ≤ d) {d_X9_takeAll : Nat} {s_X9_takeAll : zq_Sp} (h_X9_takeAll : zq_M yX9_takeAll cX9_takeAll 7 (some .int) 1 d_X9_takeAll s_X9_takeAll) (g_X9_takeAll : d_X9_takeAll + 1 ≤ d) {d_X5_clear : Nat} {s_X5_clear : zq_Sp} (h_X5_clear : zq_M yX5_clear cX5_clear 1 none 0 d_X5_clear s_X5_clear) (g_X5_clear : d_X5_clear + 1 ≤ d) {d_X5_add : Nat} {s_X5_add : zq_Sp} (h_X5_add : zq_M yX5_add cX5_add 3 none 0 d_X5_add s_X5_add) (g_X5_add : d_X5_add + 1 ≤ d) {J39 : zq_P} (j39 : zq_ok X 6 39 J39) {J62 : zq_P} (j62 : zq_ok X 6 62 J62) {J143 : zq_P} (j143 : zq_ok X 6 143 J143) {Q : zq_Q} (hq : zq_R X (some .int) 1 Q) : zq_ok X 6 155 (xX11_suppers_155 s_X9_startTaking s_X9_takeAll s_X5_clear s_X5_add J39 J62 J143 Q) := by
  refine zs_aload_n C dX11_suppers_155 rfl ?_
  refine zs_getR C zp_0 zF11 (j := 1) ⟨by decide, rfl⟩ zw_316 dX11_suppers_156 ?_
  refine zs_aload_n C dX11_suppers_159 rfl ?_
  refine zs_getR C zp_0 zF11 (j := 8) ⟨by decide, rfl⟩ zw_323 dX11_suppers_160 ?_
  refine zs_getRN C zp_34 zF9 (j := 2) ⟨by decide, rfl⟩ zw_243 dX11_suppers_163 ?_
  refine zs_iload C dX11_suppers_166 ?_
  refine zs_iaload C zp_37 dX11_suppers_168 ?_
  refine zs_i2l C dX11_suppers_169 ?_
  refine zs_callV C h_X5_add g_X5_add zy_X5_add zp_3 (show vwCl[5]? = some (RX5, TX5, 2) from rfl) zw_654 zw_655 zs9_X5_add dX11_suppers_170 ?_
  refine zs_aload_n C dX11_suppers_173 rfl ?_
  refine zs_getR C zp_0 zF11 (j := 8) ⟨by decide, rfl⟩ zw_323 dX11_suppers_174 ?_
  refine zs_getRN C zp_34 zF9 (j := 2) ⟨by decide, rfl⟩ zw_243 dX11_suppers_177 ?_
  refine zs_iload C dX11_suppers_180 ?_
  refine zs_iaload C zp_37 dX11_suppers_182 ?_
  refine zs_aload_n C dX11_suppers_183 rfl ?_
  refine zs_getR C zp_0 zF11 (j := 8) ⟨by decide, rfl⟩ zw_323 dX11_suppers_184 ?_
  refine zs_getRN C zp_34 zF9 (j := 2) ⟨by decide, rfl⟩ zw_243 dX11_suppers_187 ?_
  refine zs_iload C dX11_suppers_190 ?_
  refine zs_iaload C zp_37 dX11_suppers_192 ?_
  exact zs_icmp_le C dX11_suppers_193 (by decide) (kX11_suppers_200 C h_X9_startTaking g_X9_startTaking h_X9_takeAll g_X9_takeAll h_X5_clear g_X5_clear h_X5_add g_X5_add j39 j62 j143 hq) (kX11_suppers_196 C h_X9_startTaking g_X9_startTaking h_X9_takeAll g_X9_takeAll h_X5_clear g_X5_clear h_X5_add g_X5_add j39 j62 j143 hq)
def xX11_suppers_143 (s_X9_startTaking : zq_Sp) (s_X9_takeAll : zq_Sp) (s_X5_clear : zq_Sp) (s_X5_add : zq_Sp) (J39 : zq_P) (J62 : zq_P) (J143 : zq_P) (Q : zq_Q) (ls : zq_L) (st : List Value) (h : zq_H) : Prop := (zi_iload 5 (zi_aload 0 (zi_getR 0 5 (zi_getI 5 3 (zi_if2 (fun x y => y ≤ x) (xX11_suppers_206 s_X9_startTaking s_X9_takeAll s_X5_clear s_X5_add J39 J62 J143 Q) (xX11_suppers_155 s_X9_startTaking s_X9_takeAll s_X5_clear s_X5_add J39 J62 J143 Q)))))) ls st h
theorem kX11_suppers_143 {X : zq_X} {d : Nat} (C : zq_C X cX11_suppers 6 RX11 d) {d_X9_startTaking : Nat} {s_X9_startTaking : zq_Sp} (h_X9_startTaking : zq_M yX9_startTaking cX9_startTaking 2 none 0 d_X9_startTaking s_X9_startTaking) (g_X9_startTaking : d_X9_startTaking + 1 ≤ d) {d_X9_takeAll : Nat} {s_X9_takeAll : zq_Sp} (h_X9_takeAll : zq_M yX9_takeAll cX9_takeAll 7 (some .int) 1 d_X9_takeAll s_X9_takeAll) (g_X9_takeAll : d_X9_takeAll + 1 ≤ d) {d_X5_clear : Nat} {s_X5_clear : zq_Sp} (h_X5_clear : zq_M yX5_clear cX5_clear 1 none 0 d_X5_clear s_X5_clear) (g_X5_clear : d_X5_clear + 1 ≤ d) {d_X5_add : Nat} {s_X5_add : zq_Sp} (h_X5_add : zq_M yX5_add cX5_add 3 none 0 d_X5_add s_X5_add) (g_X5_add : d_X5_add + 1 ≤ d) {J39 : zq_P} (j39 : zq_ok X 6 39 J39) {J62 : zq_P} (j62 : zq_ok X 6 62 J62) {J143 : zq_P} (j143 : zq_ok X 6 143 J143) {Q : zq_Q} (hq : zq_R X (some .int) 1 Q) : zq_ok X 6 143 (xX11_suppers_143 s_X9_startTaking s_X9_takeAll s_X5_clear s_X5_add J39 J62 J143 Q) := by
  refine zs_iload C dX11_suppers_143 ?_
  refine zs_aload_n C dX11_suppers_145 rfl ?_
  refine zs_getR C zp_0 zF11 (j := 2) ⟨by decide, rfl⟩ zw_317 dX11_suppers_146 ?_
  refine zs_getIN C zp_5 zF3 (j := 3) ⟨by decide, rfl⟩ zw_85 dX11_suppers_149 ?_
  exact zs_icmp_ge C dX11_suppers_152 (by decide) (kX11_suppers_206 C h_X9_startTaking g_X9_startTaking h_X9_takeAll g_X9_takeAll h_X5_clear g_X5_clear h_X5_add g_X5_add j39 j62 j143 hq) (kX11_suppers_155 C h_X9_startTaking g_X9_startTaking h_X9_takeAll g_X9_takeAll h_X5_clear g_X5_clear h_X5_add g_X5_add j39 j62 j143 hq)
def xX11_suppers_130 (s_X9_startTaking : zq_Sp) (s_X9_takeAll : zq_Sp) (s_X5_clear : zq_Sp) (s_X5_add : zq_Sp) (J39 : zq_P) (J62 : zq_P) (J143 : zq_P) (Q : zq_Q) (ls : zq_L) (st : List Value) (h : zq_H) : Prop := (zi_push (.int 0) (zi_istore 4 (zi_aload 0 (zi_getR 0 3 (zi_callV 0 3 s_X5_clear (zi_push (.int 0) (zi_istore 5 (J143)))))))) ls st h
theorem kX11_suppers_130 {X : zq_X} {d : Nat} (C : zq_C X cX11_suppers 6 RX11 d) {d_X9_startTaking : Nat} {s_X9_startTaking : zq_Sp} (h_X9_startTaking : zq_M yX9_startTaking cX9_startTaking 2 none 0 d_X9_startTaking s_X9_startTaking) (g_X9_startTaking : d_X9_startTaking + 1 ≤ d) {d_X9_takeAll : Nat} {s_X9_takeAll : zq_Sp} (h_X9_takeAll : zq_M yX9_takeAll cX9_takeAll 7 (some .int) 1 d_X9_takeAll s_X9_takeAll) (g_X9_takeAll : d_X9_takeAll + 1 ≤ d) {d_X5_clear : Nat} {s_X5_clear : zq_Sp} (h_X5_clear : zq_M yX5_clear cX5_clear 1 none 0 d_X5_clear s_X5_clear) (g_X5_clear : d_X5_clear + 1 ≤ d) {d_X5_add : Nat} {s_X5_add : zq_Sp} (h_X5_add : zq_M yX5_add cX5_add 3 none 0 d_X5_add s_X5_add) (g_X5_add : d_X5_add + 1 ≤ d) {J39 : zq_P} (j39 : zq_ok X 6 39 J39) {J62 : zq_P} (j62 : zq_ok X 6 62 J62) {J143 : zq_P} (j143 : zq_ok X 6 143 J143) {Q : zq_Q} (hq : zq_R X (some .int) 1 Q) : zq_ok X 6 130 (xX11_suppers_130 s_X9_startTaking s_X9_takeAll s_X5_clear s_X5_add J39 J62 J143 Q) := by
  refine zs_iconst C dX11_suppers_130 (by decide) ?_
  refine zs_istore C dX11_suppers_131 (by decide) ?_
  refine zs_aload_n C dX11_suppers_133 rfl ?_
  refine zs_getR C zp_0 zF11 (j := 1) ⟨by decide, rfl⟩ zw_316 dX11_suppers_134 ?_
  refine zs_callV C h_X5_clear g_X5_clear zy_X5_clear zp_3 (show vwCl[5]? = some (RX5, TX5, 2) from rfl) zw_650 zw_651 zs9_X5_clear dX11_suppers_137 ?_
  refine zs_iconst C dX11_suppers_140 (by decide) ?_
  refine zs_istore C dX11_suppers_141 (by decide) ?_
  exact j143
def xX11_suppers_112 (s_X9_startTaking : zq_Sp) (s_X9_takeAll : zq_Sp) (s_X5_clear : zq_Sp) (s_X5_add : zq_Sp) (J39 : zq_P) (J62 : zq_P) (J143 : zq_P) (Q : zq_Q) (ls : zq_L) (st : List Value) (h : zq_H) : Prop := (zi_aload 0 (zi_getR 0 34 (zi_aload 0 (zi_getR 0 9 (zi_callV 1 34 s_X9_takeAll (zi_pop (zi_iinc 4 1 (J39)))))))) ls st h
theorem kX11_suppers_112 {X : zq_X} {d : Nat} (C : zq_C X cX11_suppers 6 RX11 d) {d_X9_startTaking : Nat} {s_X9_startTaking : zq_Sp} (h_X9_startTaking : zq_M yX9_startTaking cX9_startTaking 2 none 0 d_X9_startTaking s_X9_startTaking) (g_X9_startTaking : d_X9_startTaking + 1 ≤ d) {d_X9_takeAll : Nat} {s_X9_takeAll : zq_Sp} (h_X9_takeAll : zq_M yX9_takeAll cX9_takeAll 7 (some .int) 1 d_X9_takeAll s_X9_takeAll) (g_X9_takeAll : d_X9_takeAll + 1 ≤ d) {d_X5_clear : Nat} {s_X5_clear : zq_Sp} (h_X5_clear : zq_M yX5_clear cX5_clear 1 none 0 d_X5_clear s_X5_clear) (g_X5_clear : d_X5_clear + 1 ≤ d) {d_X5_add : Nat} {s_X5_add : zq_Sp} (h_X5_add : zq_M yX5_add cX5_add 3 none 0 d_X5_add s_X5_add) (g_X5_add : d_X5_add + 1 ≤ d) {J39 : zq_P} (j39 : zq_ok X 6 39 J39) {J62 : zq_P} (j62 : zq_ok X 6 62 J62) {J143 : zq_P} (j143 : zq_ok X 6 143 J143) {Q : zq_Q} (hq : zq_R X (some .int) 1 Q) : zq_ok X 6 112 (xX11_suppers_112 s_X9_startTaking s_X9_takeAll s_X5_clear s_X5_add J39 J62 J143 Q) := by
  refine zs_aload_n C dX11_suppers_112 rfl ?_
  refine zs_getR C zp_0 zF11 (j := 8) ⟨by decide, rfl⟩ zw_323 dX11_suppers_113 ?_
  refine zs_aload_n C dX11_suppers_116 rfl ?_
  refine zs_getR C zp_0 zF11 (j := 3) ⟨by decide, rfl⟩ zw_318 dX11_suppers_117 ?_
  refine zs_callV C h_X9_takeAll g_X9_takeAll zy_X9_takeAll zp_34 (show vwCl[9]? = some (RX9, TX9, 4) from rfl) zw_857 zw_858 zs9_X9_takeAll dX11_suppers_120 ?_
  refine zs_pop C dX11_suppers_123 ?_
  refine zs_iinc C dX11_suppers_124 (by decide) (by decide) ?_
  exact zs_goto C dX11_suppers_127 (by decide) (j39)
def xX11_suppers_74 (s_X9_startTaking : zq_Sp) (s_X9_takeAll : zq_Sp) (s_X5_clear : zq_Sp) (s_X5_add : zq_Sp) (J39 : zq_P) (J62 : zq_P) (J143 : zq_P) (Q : zq_Q) (ls : zq_L) (st : List Value) (h : zq_H) : Prop := (zi_iload 3 (zi_push (.int 1103515245) (zi_i2 (fun x y => x * y) (zi_push (.int 12345) (zi_i2 (fun x y => x + y) (zi_istore 3 (zi_aload 0 (zi_getR 0 34 (zi_getR 34 35 (zi_iload 5 (zi_iload 3 (zi_push (.int 16) (zi_i2 zf_ushr (zi_aload 0 (zi_getR 0 5 (zi_getI 5 3 (zi_idv zf_rem (zi_astI 35 16 (zi_iinc 5 1 (J62)))))))))))))))))))) ls st h
theorem kX11_suppers_74 {X : zq_X} {d : Nat} (C : zq_C X cX11_suppers 6 RX11 d) {d_X9_startTaking : Nat} {s_X9_startTaking : zq_Sp} (h_X9_startTaking : zq_M yX9_startTaking cX9_startTaking 2 none 0 d_X9_startTaking s_X9_startTaking) (g_X9_startTaking : d_X9_startTaking + 1 ≤ d) {d_X9_takeAll : Nat} {s_X9_takeAll : zq_Sp} (h_X9_takeAll : zq_M yX9_takeAll cX9_takeAll 7 (some .int) 1 d_X9_takeAll s_X9_takeAll) (g_X9_takeAll : d_X9_takeAll + 1 ≤ d) {d_X5_clear : Nat} {s_X5_clear : zq_Sp} (h_X5_clear : zq_M yX5_clear cX5_clear 1 none 0 d_X5_clear s_X5_clear) (g_X5_clear : d_X5_clear + 1 ≤ d) {d_X5_add : Nat} {s_X5_add : zq_Sp} (h_X5_add : zq_M yX5_add cX5_add 3 none 0 d_X5_add s_X5_add) (g_X5_add : d_X5_add + 1 ≤ d) {J39 : zq_P} (j39 : zq_ok X 6 39 J39) {J62 : zq_P} (j62 : zq_ok X 6 62 J62) {J143 : zq_P} (j143 : zq_ok X 6 143 J143) {Q : zq_Q} (hq : zq_R X (some .int) 1 Q) : zq_ok X 6 74 (xX11_suppers_74 s_X9_startTaking s_X9_takeAll s_X5_clear s_X5_add J39 J62 J143 Q) := by
  refine zs_iload_n C dX11_suppers_74 rfl ?_
  refine zs_ldcw C dX11_suppers_75 zw_979 ?_
  refine zs_imul C dX11_suppers_78 ?_
  refine zs_sipush C dX11_suppers_79 (by decide) ?_
  refine zs_iadd C dX11_suppers_82 ?_
  refine zs_istore_n C dX11_suppers_83 rfl (by decide) ?_
  refine zs_aload_n C dX11_suppers_84 rfl ?_
  refine zs_getR C zp_0 zF11 (j := 8) ⟨by decide, rfl⟩ zw_323 dX11_suppers_85 ?_
  refine zs_getRN C zp_34 zF9 (j := 0) ⟨by decide, rfl⟩ zw_239 dX11_suppers_88 ?_
  refine zs_iload C dX11_suppers_91 ?_
  refine zs_iload_n C dX11_suppers_93 rfl ?_
  refine zs_bipush C dX11_suppers_94 (by decide) ?_
  refine zs_iushr C dX11_suppers_96 ?_
  refine zs_aload_n C dX11_suppers_97 rfl ?_
  refine zs_getR C zp_0 zF11 (j := 2) ⟨by decide, rfl⟩ zw_317 dX11_suppers_98 ?_
  refine zs_getIN C zp_5 zF3 (j := 3) ⟨by decide, rfl⟩ zw_85 dX11_suppers_101 ?_
  refine zs_irem C dX11_suppers_104 ?_
  refine zs_iastore C zp_35 dX11_suppers_105 ?_
  refine zs_iinc C dX11_suppers_106 (by decide) (by decide) ?_
  exact zs_goto C dX11_suppers_109 (by decide) (j62)
def xX11_suppers_62 (s_X9_startTaking : zq_Sp) (s_X9_takeAll : zq_Sp) (s_X5_clear : zq_Sp) (s_X5_add : zq_Sp) (J39 : zq_P) (J62 : zq_P) (J143 : zq_P) (Q : zq_Q) (ls : zq_L) (st : List Value) (h : zq_H) : Prop := (zi_iload 5 (zi_aload 0 (zi_getR 0 40 (zi_getI 40 3 (zi_if2 (fun x y => y ≤ x) (xX11_suppers_112 s_X9_startTaking s_X9_takeAll s_X5_clear s_X5_add J39 J62 J143 Q) (xX11_suppers_74 s_X9_startTaking s_X9_takeAll s_X5_clear s_X5_add J39 J62 J143 Q)))))) ls st h
theorem kX11_suppers_62 {X : zq_X} {d : Nat} (C : zq_C X cX11_suppers 6 RX11 d) {d_X9_startTaking : Nat} {s_X9_startTaking : zq_Sp} (h_X9_startTaking : zq_M yX9_startTaking cX9_startTaking 2 none 0 d_X9_startTaking s_X9_startTaking) (g_X9_startTaking : d_X9_startTaking + 1 ≤ d) {d_X9_takeAll : Nat} {s_X9_takeAll : zq_Sp} (h_X9_takeAll : zq_M yX9_takeAll cX9_takeAll 7 (some .int) 1 d_X9_takeAll s_X9_takeAll) (g_X9_takeAll : d_X9_takeAll + 1 ≤ d) {d_X5_clear : Nat} {s_X5_clear : zq_Sp} (h_X5_clear : zq_M yX5_clear cX5_clear 1 none 0 d_X5_clear s_X5_clear) (g_X5_clear : d_X5_clear + 1 ≤ d) {d_X5_add : Nat} {s_X5_add : zq_Sp} (h_X5_add : zq_M yX5_add cX5_add 3 none 0 d_X5_add s_X5_add) (g_X5_add : d_X5_add + 1 ≤ d) {J39 : zq_P} (j39 : zq_ok X 6 39 J39) {J62 : zq_P} (j62 : zq_ok X 6 62 J62) {J143 : zq_P} (j143 : zq_ok X 6 143 J143) {Q : zq_Q} (hq : zq_R X (some .int) 1 Q) : zq_ok X 6 62 (xX11_suppers_62 s_X9_startTaking s_X9_takeAll s_X5_clear s_X5_add J39 J62 J143 Q) := by
  refine zs_iload C dX11_suppers_62 ?_
  refine zs_aload_n C dX11_suppers_64 rfl ?_
  refine zs_getR C zp_0 zF11 (j := 11) ⟨by decide, rfl⟩ zw_326 dX11_suppers_65 ?_
  refine zs_getIN C zp_40 zF2 (j := 3) ⟨by decide, rfl⟩ zw_273 dX11_suppers_68 ?_
  exact zs_icmp_ge C dX11_suppers_71 (by decide) (kX11_suppers_112 C h_X9_startTaking g_X9_startTaking h_X9_takeAll g_X9_takeAll h_X5_clear g_X5_clear h_X5_add g_X5_add j39 j62 j143 hq) (kX11_suppers_74 C h_X9_startTaking g_X9_startTaking h_X9_takeAll g_X9_takeAll h_X5_clear g_X5_clear h_X5_add g_X5_add j39 j62 j143 hq)
def xX11_suppers_45 (s_X9_startTaking : zq_Sp) (s_X9_takeAll : zq_Sp) (s_X5_clear : zq_Sp) (s_X5_add : zq_Sp) (J39 : zq_P) (J62 : zq_P) (J143 : zq_P) (Q : zq_Q) (ls : zq_L) (st : List Value) (h : zq_H) : Prop := (zi_aload 0 (zi_getR 0 34 (zi_aload 0 (zi_getR 0 40 (zi_getI 40 3 (zi_putI 34 3 (zi_push (.int 0) (zi_istore 5 (J62))))))))) ls st h
theorem kX11_suppers_45 {X : zq_X} {d : Nat} (C : zq_C X cX11_suppers 6 RX11 d) {d_X9_startTaking : Nat} {s_X9_startTaking : zq_Sp} (h_X9_startTaking : zq_M yX9_startTaking cX9_startTaking 2 none 0 d_X9_startTaking s_X9_startTaking) (g_X9_startTaking : d_X9_startTaking + 1 ≤ d) {d_X9_takeAll : Nat} {s_X9_takeAll : zq_Sp} (h_X9_takeAll : zq_M yX9_takeAll cX9_takeAll 7 (some .int) 1 d_X9_takeAll s_X9_takeAll) (g_X9_takeAll : d_X9_takeAll + 1 ≤ d) {d_X5_clear : Nat} {s_X5_clear : zq_Sp} (h_X5_clear : zq_M yX5_clear cX5_clear 1 none 0 d_X5_clear s_X5_clear) (g_X5_clear : d_X5_clear + 1 ≤ d) {d_X5_add : Nat} {s_X5_add : zq_Sp} (h_X5_add : zq_M yX5_add cX5_add 3 none 0 d_X5_add s_X5_add) (g_X5_add : d_X5_add + 1 ≤ d) {J39 : zq_P} (j39 : zq_ok X 6 39 J39) {J62 : zq_P} (j62 : zq_ok X 6 62 J62) {J143 : zq_P} (j143 : zq_ok X 6 143 J143) {Q : zq_Q} (hq : zq_R X (some .int) 1 Q) : zq_ok X 6 45 (xX11_suppers_45 s_X9_startTaking s_X9_takeAll s_X5_clear s_X5_add J39 J62 J143 Q) := by
  refine zs_aload_n C dX11_suppers_45 rfl ?_
  refine zs_getR C zp_0 zF11 (j := 8) ⟨by decide, rfl⟩ zw_323 dX11_suppers_46 ?_
  refine zs_aload_n C dX11_suppers_49 rfl ?_
  refine zs_getR C zp_0 zF11 (j := 11) ⟨by decide, rfl⟩ zw_326 dX11_suppers_50 ?_
  refine zs_getIN C zp_40 zF2 (j := 3) ⟨by decide, rfl⟩ zw_273 dX11_suppers_53 ?_
  refine zs_putIN C zp_34 zF9 (j := 3) ⟨by decide, rfl⟩ ⟨rfl, by decide +kernel⟩ zw_245 dX11_suppers_56 ?_
  refine zs_iconst C dX11_suppers_59 (by decide) ?_
  refine zs_istore C dX11_suppers_60 (by decide) ?_
  exact j62
def xX11_suppers_39 (s_X9_startTaking : zq_Sp) (s_X9_takeAll : zq_Sp) (s_X5_clear : zq_Sp) (s_X5_add : zq_Sp) (J39 : zq_P) (J62 : zq_P) (J143 : zq_P) (Q : zq_Q) (ls : zq_L) (st : List Value) (h : zq_H) : Prop := (zi_iload 4 (zi_iload 2 (zi_if2 (fun x y => y ≤ x) (xX11_suppers_130 s_X9_startTaking s_X9_takeAll s_X5_clear s_X5_add J39 J62 J143 Q) (xX11_suppers_45 s_X9_startTaking s_X9_takeAll s_X5_clear s_X5_add J39 J62 J143 Q)))) ls st h
theorem kX11_suppers_39 {X : zq_X} {d : Nat} (C : zq_C X cX11_suppers 6 RX11 d) {d_X9_startTaking : Nat} {s_X9_startTaking : zq_Sp} (h_X9_startTaking : zq_M yX9_startTaking cX9_startTaking 2 none 0 d_X9_startTaking s_X9_startTaking) (g_X9_startTaking : d_X9_startTaking + 1 ≤ d) {d_X9_takeAll : Nat} {s_X9_takeAll : zq_Sp} (h_X9_takeAll : zq_M yX9_takeAll cX9_takeAll 7 (some .int) 1 d_X9_takeAll s_X9_takeAll) (g_X9_takeAll : d_X9_takeAll + 1 ≤ d) {d_X5_clear : Nat} {s_X5_clear : zq_Sp} (h_X5_clear : zq_M yX5_clear cX5_clear 1 none 0 d_X5_clear s_X5_clear) (g_X5_clear : d_X5_clear + 1 ≤ d) {d_X5_add : Nat} {s_X5_add : zq_Sp} (h_X5_add : zq_M yX5_add cX5_add 3 none 0 d_X5_add s_X5_add) (g_X5_add : d_X5_add + 1 ≤ d) {J39 : zq_P} (j39 : zq_ok X 6 39 J39) {J62 : zq_P} (j62 : zq_ok X 6 62 J62) {J143 : zq_P} (j143 : zq_ok X 6 143 J143) {Q : zq_Q} (hq : zq_R X (some .int) 1 Q) : zq_ok X 6 39 (xX11_suppers_39 s_X9_startTaking s_X9_takeAll s_X5_clear s_X5_add J39 J62 J143 Q) := by
  refine zs_iload C dX11_suppers_39 ?_
  refine zs_iload_n C dX11_suppers_41 rfl ?_
  exact zs_icmp_ge C dX11_suppers_42 (by decide) (kX11_suppers_130 C h_X9_startTaking g_X9_startTaking h_X9_takeAll g_X9_takeAll h_X5_clear g_X5_clear h_X5_add g_X5_add j39 j62 j143 hq) (kX11_suppers_45 C h_X9_startTaking g_X9_startTaking h_X9_takeAll g_X9_takeAll h_X5_clear g_X5_clear h_X5_add g_X5_add j39 j62 j143 hq)
def xX11_suppers_23 (s_X9_startTaking : zq_Sp) (s_X9_takeAll : zq_Sp) (s_X5_clear : zq_Sp) (s_X5_add : zq_Sp) (J39 : zq_P) (J62 : zq_P) (J143 : zq_P) (Q : zq_Q) (ls : zq_L) (st : List Value) (h : zq_H) : Prop := (zi_iload 1 (zi_istore 3 (zi_aload 0 (zi_getR 0 34 (zi_aload 0 (zi_getR 0 9 (zi_callV 1 34 s_X9_startTaking (zi_push (.int 0) (zi_istore 4 (J39)))))))))) ls st h
theorem kX11_suppers_23 {X : zq_X} {d : Nat} (C : zq_C X cX11_suppers 6 RX11 d) {d_X9_startTaking : Nat} {s_X9_startTaking : zq_Sp} (h_X9_startTaking : zq_M yX9_startTaking cX9_startTaking 2 none 0 d_X9_startTaking s_X9_startTaking) (g_X9_startTaking : d_X9_startTaking + 1 ≤ d) {d_X9_takeAll : Nat} {s_X9_takeAll : zq_Sp} (h_X9_takeAll : zq_M yX9_takeAll cX9_takeAll 7 (some .int) 1 d_X9_takeAll s_X9_takeAll) (g_X9_takeAll : d_X9_takeAll + 1 ≤ d) {d_X5_clear : Nat} {s_X5_clear : zq_Sp} (h_X5_clear : zq_M yX5_clear cX5_clear 1 none 0 d_X5_clear s_X5_clear) (g_X5_clear : d_X5_clear + 1 ≤ d) {d_X5_add : Nat} {s_X5_add : zq_Sp} (h_X5_add : zq_M yX5_add cX5_add 3 none 0 d_X5_add s_X5_add) (g_X5_add : d_X5_add + 1 ≤ d) {J39 : zq_P} (j39 : zq_ok X 6 39 J39) {J62 : zq_P} (j62 : zq_ok X 6 62 J62) {J143 : zq_P} (j143 : zq_ok X 6 143 J143) {Q : zq_Q} (hq : zq_R X (some .int) 1 Q) : zq_ok X 6 23 (xX11_suppers_23 s_X9_startTaking s_X9_takeAll s_X5_clear s_X5_add J39 J62 J143 Q) := by
  refine zs_iload_n C dX11_suppers_23 rfl ?_
  refine zs_istore_n C dX11_suppers_24 rfl (by decide) ?_
  refine zs_aload_n C dX11_suppers_25 rfl ?_
  refine zs_getR C zp_0 zF11 (j := 8) ⟨by decide, rfl⟩ zw_323 dX11_suppers_26 ?_
  refine zs_aload_n C dX11_suppers_29 rfl ?_
  refine zs_getR C zp_0 zF11 (j := 3) ⟨by decide, rfl⟩ zw_318 dX11_suppers_30 ?_
  refine zs_callV C h_X9_startTaking g_X9_startTaking zy_X9_startTaking zp_34 (show vwCl[9]? = some (RX9, TX9, 4) from rfl) zw_851 zw_852 zs9_X9_startTaking dX11_suppers_33 ?_
  refine zs_iconst C dX11_suppers_36 (by decide) ?_
  refine zs_istore C dX11_suppers_37 (by decide) ?_
  exact j39
def xX11_suppers_21 (s_X9_startTaking : zq_Sp) (s_X9_takeAll : zq_Sp) (s_X5_clear : zq_Sp) (s_X5_add : zq_Sp) (J39 : zq_P) (J62 : zq_P) (J143 : zq_P) (Q : zq_Q) (ls : zq_L) (st : List Value) (h : zq_H) : Prop := (zi_push (.int (-1)) (zi_iret Q)) ls st h
theorem kX11_suppers_21 {X : zq_X} {d : Nat} (C : zq_C X cX11_suppers 6 RX11 d) {d_X9_startTaking : Nat} {s_X9_startTaking : zq_Sp} (h_X9_startTaking : zq_M yX9_startTaking cX9_startTaking 2 none 0 d_X9_startTaking s_X9_startTaking) (g_X9_startTaking : d_X9_startTaking + 1 ≤ d) {d_X9_takeAll : Nat} {s_X9_takeAll : zq_Sp} (h_X9_takeAll : zq_M yX9_takeAll cX9_takeAll 7 (some .int) 1 d_X9_takeAll s_X9_takeAll) (g_X9_takeAll : d_X9_takeAll + 1 ≤ d) {d_X5_clear : Nat} {s_X5_clear : zq_Sp} (h_X5_clear : zq_M yX5_clear cX5_clear 1 none 0 d_X5_clear s_X5_clear) (g_X5_clear : d_X5_clear + 1 ≤ d) {d_X5_add : Nat} {s_X5_add : zq_Sp} (h_X5_add : zq_M yX5_add cX5_add 3 none 0 d_X5_add s_X5_add) (g_X5_add : d_X5_add + 1 ≤ d) {J39 : zq_P} (j39 : zq_ok X 6 39 J39) {J62 : zq_P} (j62 : zq_ok X 6 62 J62) {J143 : zq_P} (j143 : zq_ok X 6 143 J143) {Q : zq_Q} (hq : zq_R X (some .int) 1 Q) : zq_ok X 6 21 (xX11_suppers_21 s_X9_startTaking s_X9_takeAll s_X5_clear s_X5_add J39 J62 J143 Q) := by
  refine zs_iconst C dX11_suppers_21 (by decide) ?_
  exact zs_iret C hq dX11_suppers_22
def xX11_suppers_11 (s_X9_startTaking : zq_Sp) (s_X9_takeAll : zq_Sp) (s_X5_clear : zq_Sp) (s_X5_add : zq_Sp) (J39 : zq_P) (J62 : zq_P) (J143 : zq_P) (Q : zq_Q) (ls : zq_L) (st : List Value) (h : zq_H) : Prop := (zi_aload 0 (zi_getR 0 5 (zi_getI 5 3 (zi_if1 (fun x => x = 0) (xX11_suppers_21 s_X9_startTaking s_X9_takeAll s_X5_clear s_X5_add J39 J62 J143 Q) (xX11_suppers_23 s_X9_startTaking s_X9_takeAll s_X5_clear s_X5_add J39 J62 J143 Q))))) ls st h
theorem kX11_suppers_11 {X : zq_X} {d : Nat} (C : zq_C X cX11_suppers 6 RX11 d) {d_X9_startTaking : Nat} {s_X9_startTaking : zq_Sp} (h_X9_startTaking : zq_M yX9_startTaking cX9_startTaking 2 none 0 d_X9_startTaking s_X9_startTaking) (g_X9_startTaking : d_X9_startTaking + 1 ≤ d) {d_X9_takeAll : Nat} {s_X9_takeAll : zq_Sp} (h_X9_takeAll : zq_M yX9_takeAll cX9_takeAll 7 (some .int) 1 d_X9_takeAll s_X9_takeAll) (g_X9_takeAll : d_X9_takeAll + 1 ≤ d) {d_X5_clear : Nat} {s_X5_clear : zq_Sp} (h_X5_clear : zq_M yX5_clear cX5_clear 1 none 0 d_X5_clear s_X5_clear) (g_X5_clear : d_X5_clear + 1 ≤ d) {d_X5_add : Nat} {s_X5_add : zq_Sp} (h_X5_add : zq_M yX5_add cX5_add 3 none 0 d_X5_add s_X5_add) (g_X5_add : d_X5_add + 1 ≤ d) {J39 : zq_P} (j39 : zq_ok X 6 39 J39) {J62 : zq_P} (j62 : zq_ok X 6 62 J62) {J143 : zq_P} (j143 : zq_ok X 6 143 J143) {Q : zq_Q} (hq : zq_R X (some .int) 1 Q) : zq_ok X 6 11 (xX11_suppers_11 s_X9_startTaking s_X9_takeAll s_X5_clear s_X5_add J39 J62 J143 Q) := by
  refine zs_aload_n C dX11_suppers_11 rfl ?_
  refine zs_getR C zp_0 zF11 (j := 2) ⟨by decide, rfl⟩ zw_317 dX11_suppers_12 ?_
  refine zs_getIN C zp_5 zF3 (j := 3) ⟨by decide, rfl⟩ zw_85 dX11_suppers_15 ?_
  exact zs_if_ne C dX11_suppers_18 (by decide) (kX11_suppers_23 C h_X9_startTaking g_X9_startTaking h_X9_takeAll g_X9_takeAll h_X5_clear g_X5_clear h_X5_add g_X5_add j39 j62 j143 hq) (kX11_suppers_21 C h_X9_startTaking g_X9_startTaking h_X9_takeAll g_X9_takeAll h_X5_clear g_X5_clear h_X5_add g_X5_add j39 j62 j143 hq)
def xX11_suppers_5 (s_X9_startTaking : zq_Sp) (s_X9_takeAll : zq_Sp) (s_X5_clear : zq_Sp) (s_X5_add : zq_Sp) (J39 : zq_P) (J62 : zq_P) (J143 : zq_P) (Q : zq_Q) (ls : zq_L) (st : List Value) (h : zq_H) : Prop := (zi_iload 2 (zi_push (.int 50) (zi_if2 (fun x y => y < x) (xX11_suppers_21 s_X9_startTaking s_X9_takeAll s_X5_clear s_X5_add J39 J62 J143 Q) (xX11_suppers_11 s_X9_startTaking s_X9_takeAll s_X5_clear s_X5_add J39 J62 J143 Q)))) ls st h
theorem kX11_suppers_5 {X : zq_X} {d : Nat} (C : zq_C X cX11_suppers 6 RX11 d) {d_X9_startTaking : Nat} {s_X9_startTaking : zq_Sp} (h_X9_startTaking : zq_M yX9_startTaking cX9_startTaking 2 none 0 d_X9_startTaking s_X9_startTaking) (g_X9_startTaking : d_X9_startTaking + 1 ≤ d) {d_X9_takeAll : Nat} {s_X9_takeAll : zq_Sp} (h_X9_takeAll : zq_M yX9_takeAll cX9_takeAll 7 (some .int) 1 d_X9_takeAll s_X9_takeAll) (g_X9_takeAll : d_X9_takeAll + 1 ≤ d) {d_X5_clear : Nat} {s_X5_clear : zq_Sp} (h_X5_clear : zq_M yX5_clear cX5_clear 1 none 0 d_X5_clear s_X5_clear) (g_X5_clear : d_X5_clear + 1 ≤ d) {d_X5_add : Nat} {s_X5_add : zq_Sp} (h_X5_add : zq_M yX5_add cX5_add 3 none 0 d_X5_add s_X5_add) (g_X5_add : d_X5_add + 1 ≤ d) {J39 : zq_P} (j39 : zq_ok X 6 39 J39) {J62 : zq_P} (j62 : zq_ok X 6 62 J62) {J143 : zq_P} (j143 : zq_ok X 6 143 J143) {Q : zq_Q} (hq : zq_R X (some .int) 1 Q) : zq_ok X 6 5 (xX11_suppers_5 s_X9_startTaking s_X9_takeAll s_X5_clear s_X5_add J39 J62 J143 Q) := by
  refine zs_iload_n C dX11_suppers_5 rfl ?_
  refine zs_bipush C dX11_suppers_6 (by decide) ?_
  exact zs_icmp_gt C dX11_suppers_8 (by decide) (kX11_suppers_21 C h_X9_startTaking g_X9_startTaking h_X9_takeAll g_X9_takeAll h_X5_clear g_X5_clear h_X5_add g_X5_add j39 j62 j143 hq) (kX11_suppers_11 C h_X9_startTaking g_X9_startTaking h_X9_takeAll g_X9_takeAll h_X5_clear g_X5_clear h_X5_add g_X5_add j39 j62 j143 hq)
def xX11_suppers_0 (s_X9_startTaking : zq_Sp) (s_X9_takeAll : zq_Sp) (s_X5_clear : zq_Sp) (s_X5_add : zq_Sp) (J39 : zq_P) (J62 : zq_P) (J143 : zq_P) (Q : zq_Q) (ls : zq_L) (st : List Value) (h : zq_H) : Prop := (zi_iload 2 (zi_push (.int 1) (zi_if2 (fun x y => x < y) (xX11_suppers_21 s_X9_startTaking s_X9_takeAll s_X5_clear s_X5_add J39 J62 J143 Q) (xX11_suppers_5 s_X9_startTaking s_X9_takeAll s_X5_clear s_X5_add J39 J62 J143 Q)))) ls st h
theorem kX11_suppers_0 {X : zq_X} {d : Nat} (C : zq_C X cX11_suppers 6 RX11 d) {d_X9_startTaking : Nat} {s_X9_startTaking : zq_Sp} (h_X9_startTaking : zq_M yX9_startTaking cX9_startTaking 2 none 0 d_X9_startTaking s_X9_startTaking) (g_X9_startTaking : d_X9_startTaking + 1 ≤ d) {d_X9_takeAll : Nat} {s_X9_takeAll : zq_Sp} (h_X9_takeAll : zq_M yX9_takeAll cX9_takeAll 7 (some .int) 1 d_X9_takeAll s_X9_takeAll) (g_X9_takeAll : d_X9_takeAll + 1 ≤ d) {d_X5_clear : Nat} {s_X5_clear : zq_Sp} (h_X5_clear : zq_M yX5_clear cX5_clear 1 none 0 d_X5_clear s_X5_clear) (g_X5_clear : d_X5_clear + 1 ≤ d) {d_X5_add : Nat} {s_X5_add : zq_Sp} (h_X5_add : zq_M yX5_add cX5_add 3 none 0 d_X5_add s_X5_add) (g_X5_add : d_X5_add + 1 ≤ d) {J39 : zq_P} (j39 : zq_ok X 6 39 J39) {J62 : zq_P} (j62 : zq_ok X 6 62 J62) {J143 : zq_P} (j143 : zq_ok X 6 143 J143) {Q : zq_Q} (hq : zq_R X (some .int) 1 Q) : zq_ok X 6 0 (xX11_suppers_0 s_X9_startTaking s_X9_takeAll s_X5_clear s_X5_add J39 J62 J143 Q) := by
  refine zs_iload_n C dX11_suppers_0 rfl ?_
  refine zs_iconst C dX11_suppers_1 (by decide) ?_
  exact zs_icmp_lt C dX11_suppers_2 (by decide) (kX11_suppers_21 C h_X9_startTaking g_X9_startTaking h_X9_takeAll g_X9_takeAll h_X5_clear g_X5_clear h_X5_add g_X5_add j39 j62 j143 hq) (kX11_suppers_5 C h_X9_startTaking g_X9_startTaking h_X9_takeAll g_X9_takeAll h_X5_clear g_X5_clear h_X5_add g_X5_add j39 j62 j143 hq)
theorem mX11_suppers {d : Nat} {spec : zq_Sp} {σ39 : Type} {σ62 : Type} {σ143 : Type} {d_X9_startTaking : Nat} {s_X9_startTaking : zq_Sp} (h_X9_startTaking : zq_M yX9_startTaking cX9_startTaking 2 none 0 d_X9_startTaking s_X9_startTaking) (g_X9_startTaking : d_X9_startTaking + 1 ≤ d) {d_X9_takeAll : Nat} {s_X9_takeAll : zq_Sp} (h_X9_takeAll : zq_M yX9_takeAll cX9_takeAll 7 (some .int) 1 d_X9_takeAll s_X9_takeAll) (g_X9_takeAll : d_X9_takeAll + 1 ≤ d) {d_X5_clear : Nat} {s_X5_clear : zq_Sp} (h_X5_clear : zq_M yX5_clear cX5_clear 1 none 0 d_X5_clear s_X5_clear) (g_X5_clear : d_X5_clear + 1 ≤ d) {d_X5_add : Nat} {s_X5_add : zq_Sp} (h_X5_add : zq_M yX5_add cX5_add 3 none 0 d_X5_add s_X5_add) (g_X5_add : d_X5_add + 1 ≤ d) (μ39 : σ39 → Nat) (I39 : zq_Q → σ39 → zq_P) (μ62 : σ62 → Nat) (I62 : zq_Q → σ62 → zq_P) (μ143 : σ143 → Nat) (I143 : zq_Q → σ143 → zq_P) (v : ∀ args h Q, spec args h Q → (zq_a args).length ≤ 6 ∧ xX11_suppers_0 s_X9_startTaking s_X9_takeAll s_X5_clear s_X5_add (fun ls st h => ∃ b, I39 Q b ls st h) (fun ls st h => ∃ b, I62 Q b ls st h) (fun ls st h => ∃ b, I143 Q b ls st h) Q (zq_l0 6 args) [] h) (v39 : ∀ Q a ls st h, I39 Q a ls st h → xX11_suppers_39 s_X9_startTaking s_X9_takeAll s_X5_clear s_X5_add (fun ls st h => ∃ b, μ39 b < μ39 a ∧ I39 Q b ls st h) (fun ls st h => ∃ b, μ62 b < μ39 a ∧ I62 Q b ls st h) (fun ls st h => ∃ b, μ143 b < μ39 a ∧ I143 Q b ls st h) Q ls st h) (v62 : ∀ Q a ls st h, I62 Q a ls st h → xX11_suppers_62 s_X9_startTaking s_X9_takeAll s_X5_clear s_X5_add (fun ls st h => ∃ b, μ39 b < μ62 a ∧ I39 Q b ls st h) (fun ls st h => ∃ b, μ62 b < μ62 a ∧ I62 Q b ls st h) (fun ls st h => ∃ b, μ143 b < μ62 a ∧ I143 Q b ls st h) Q ls st h) (v143 : ∀ Q a ls st h, I143 Q a ls st h → xX11_suppers_143 s_X9_startTaking s_X9_takeAll s_X5_clear s_X5_add (fun ls st h => ∃ b, μ39 b < μ143 a ∧ I39 Q b ls st h) (fun ls st h => ∃ b, μ62 b < μ143 a ∧ I62 Q b ls st h) (fun ls st h => ∃ b, μ143 b < μ143 a ∧ I143 Q b ls st h) Q ls st h) : zq_M yX11_suppers cX11_suppers 6 (some .int) 1 d spec := by
  refine zq_met (by decide +kernel) (by decide) (fun X Q args h C hq hs => ⟨(v args h Q hs).1, _, ?_, (v args h Q hs).2⟩)
  have hl := zq_loop3 (X := X) (nL := 6) (pc1 := 39) (pc2 := 62) (pc3 := 143) μ39 μ62 μ143 (I39 Q) (I62 Q) (I143 Q) (fun J39 J62 J143 => xX11_suppers_39 s_X9_startTaking s_X9_takeAll s_X5_clear s_X5_add J39 J62 J143 Q) (fun J39 J62 J143 => xX11_suppers_62 s_X9_startTaking s_X9_takeAll s_X5_clear s_X5_add J39 J62 J143 Q) (fun J39 J62 J143 => xX11_suppers_143 s_X9_startTaking s_X9_takeAll s_X5_clear s_X5_add J39 J62 J143 Q) (fun j39 j62 j143 => kX11_suppers_39 C h_X9_startTaking g_X9_startTaking h_X9_takeAll g_X9_takeAll h_X5_clear g_X5_clear h_X5_add g_X5_add j39 j62 j143 hq) (fun j39 j62 j143 => kX11_suppers_62 C h_X9_startTaking g_X9_startTaking h_X9_takeAll g_X9_takeAll h_X5_clear g_X5_clear h_X5_add g_X5_add j39 j62 j143 hq) (fun j39 j62 j143 => kX11_suppers_143 C h_X9_startTaking g_X9_startTaking h_X9_takeAll g_X9_takeAll h_X5_clear g_X5_clear h_X5_add g_X5_add j39 j62 j143 hq) (v39 Q) (v62 Q) (v143 Q)
  exact kX11_suppers_0 C h_X9_startTaking g_X9_startTaking h_X9_takeAll g_X9_takeAll h_X5_clear g_X5_clear h_X5_add g_X5_add hl.1 hl.2.1 hl.2.2 hq
/-! ToOneCrumb.keep(I)Z -/
theorem dX11_keep_0 : decode cX11_keep 0 = .ok (.aload_n 0, 1) := by decide +kernel
theorem dX11_keep_1 : decode cX11_keep 1 = .ok (.getfield 40, 3) := by decide +kernel
theorem dX11_keep_4 : decode cX11_keep 4 = .ok (.iload_n 1, 1) := by decide +kernel
theorem dX11_keep_5 : decode cX11_keep 5 = .ok (.invokevirtual 368, 3) := by decide +kernel
theorem dX11_keep_8 : decode cX11_keep 8 = .ok (.ireturn, 1) := by decide +kernel
def xX11_keep_0 (s_X0_store : zq_Sp) (Q : zq_Q) (ls : zq_L) (st : List Value) (h : zq_H) : Prop := (zi_aload 0 (zi_getR 0 12 (zi_iload 1 (zi_callV 1 12 s_X0_store (zi_zret Q))))) ls st h
theorem kX11_keep_0 {X : zq_X} {d : Nat} (C : zq_C X cX11_keep 2 RX11 d) {d_X0_store : Nat} {s_X0_store : zq_Sp} (h_X0_store : zq_M yX0_store cX0_store 2 (some .boolean) 1 d_X0_store s_X0_store) (g_X0_store : d_X0_store + 1 ≤ d) {Q : zq_Q} (hq : zq_R X (some .boolean) 1 Q) : zq_ok X 2 0 (xX11_keep_0 s_X0_store Q) := by
  refine zs_aload_n C dX11_keep_0 rfl ?_
  refine zs_getR C zp_0 zF11 (j := 4) ⟨by decide, rfl⟩ zw_319 dX11_keep_1 ?_
  refine zs_iload_n C dX11_keep_4 rfl ?_
  refine zs_callV C h_X0_store g_X0_store zy_X0_store zp_12 (show vwCl[0]? = some (RX0, TX0, 5) from rfl) zw_984 zw_985 zs9_X0_store dX11_keep_5 ?_
  exact zs_zret C hq dX11_keep_8
theorem mX11_keep {d : Nat} {spec : zq_Sp} {d_X0_store : Nat} {s_X0_store : zq_Sp} (h_X0_store : zq_M yX0_store cX0_store 2 (some .boolean) 1 d_X0_store s_X0_store) (g_X0_store : d_X0_store + 1 ≤ d) (v : ∀ args h Q, spec args h Q → (zq_a args).length ≤ 2 ∧ xX11_keep_0 s_X0_store Q (zq_l0 2 args) [] h) : zq_M yX11_keep cX11_keep 2 (some .boolean) 1 d spec := by
  refine zq_met (by decide +kernel) (by decide) (fun X Q args h C hq hs => ⟨(v args h Q hs).1, _, ?_, (v args h Q hs).2⟩)
  exact kX11_keep_0 C h_X0_store g_X0_store hq
/-! ToOneCrumb.again(I)Z -/
theorem dX11_again_0 : decode cX11_again 0 = .ok (.aload_n 0, 1) := by decide +kernel
theorem dX11_again_1 : decode cX11_again 1 = .ok (.getfield 40, 3) := by decide +kernel
theorem dX11_again_4 : decode cX11_again 4 = .ok (.iload_n 1, 1) := by decide +kernel
theorem dX11_again_5 : decode cX11_again 5 = .ok (.invokevirtual 371, 3) := by decide +kernel
theorem dX11_again_8 : decode cX11_again 8 = .ok (.ireturn, 1) := by decide +kernel
def xX11_again_0 (s_X0_restore : zq_Sp) (Q : zq_Q) (ls : zq_L) (st : List Value) (h : zq_H) : Prop := (zi_aload 0 (zi_getR 0 12 (zi_iload 1 (zi_callV 1 12 s_X0_restore (zi_zret Q))))) ls st h
theorem kX11_again_0 {X : zq_X} {d : Nat} (C : zq_C X cX11_again 2 RX11 d) {d_X0_restore : Nat} {s_X0_restore : zq_Sp} (h_X0_restore : zq_M yX0_restore cX0_restore 2 (some .boolean) 1 d_X0_restore s_X0_restore) (g_X0_restore : d_X0_restore + 1 ≤ d) {Q : zq_Q} (hq : zq_R X (some .boolean) 1 Q) : zq_ok X 2 0 (xX11_again_0 s_X0_restore Q) := by
  refine zs_aload_n C dX11_again_0 rfl ?_
  refine zs_getR C zp_0 zF11 (j := 4) ⟨by decide, rfl⟩ zw_319 dX11_again_1 ?_
  refine zs_iload_n C dX11_again_4 rfl ?_
  refine zs_callV C h_X0_restore g_X0_restore zy_X0_restore zp_12 (show vwCl[0]? = some (RX0, TX0, 5) from rfl) zw_992 zw_993 zs9_X0_restore dX11_again_5 ?_
  exact zs_zret C hq dX11_again_8
theorem mX11_again {d : Nat} {spec : zq_Sp} {d_X0_restore : Nat} {s_X0_restore : zq_Sp} (h_X0_restore : zq_M yX0_restore cX0_restore 2 (some .boolean) 1 d_X0_restore s_X0_restore) (g_X0_restore : d_X0_restore + 1 ≤ d) (v : ∀ args h Q, spec args h Q → (zq_a args).length ≤ 2 ∧ xX11_again_0 s_X0_restore Q (zq_l0 2 args) [] h) : zq_M yX11_again cX11_again 2 (some .boolean) 1 d spec := by
  refine zq_met (by decide +kernel) (by decide) (fun X Q args h C hq hs => ⟨(v args h Q hs).1, _, ?_, (v args h Q hs).2⟩)
  exact kX11_again_0 C h_X0_restore g_X0_restore hq
/-! ToOneCrumb.count(I)I -/
theorem dX11_count_0 : decode cX11_count 0 = .ok (.iload_n 1, 1) := by decide +kernel
theorem dX11_count_1 : decode cX11_count 1 = .ok (.tableswitch 132 0 9 #[55, 63, 71, 77, 84, 92, 100, 108, 116, 124], 55) := by decide +kernel
theorem dX11_count_56 : decode cX11_count 56 = .ok (.aload_n 0, 1) := by decide +kernel
theorem dX11_count_57 : decode cX11_count 57 = .ok (.getfield 82, 3) := by decide +kernel
theorem dX11_count_60 : decode cX11_count 60 = .ok (.getfield 128, 3) := by decide +kernel
theorem dX11_count_63 : decode cX11_count 63 = .ok (.ireturn, 1) := by decide +kernel
theorem dX11_count_64 : decode cX11_count 64 = .ok (.aload_n 0, 1) := by decide +kernel
theorem dX11_count_65 : decode cX11_count 65 = .ok (.getfield 26, 3) := by decide +kernel
theorem dX11_count_68 : decode cX11_count 68 = .ok (.getfield 243, 3) := by decide +kernel
theorem dX11_count_71 : decode cX11_count 71 = .ok (.ireturn, 1) := by decide +kernel
theorem dX11_count_72 : decode cX11_count 72 = .ok (.aload_n 0, 1) := by decide +kernel
theorem dX11_count_73 : decode cX11_count 73 = .ok (.iconst (-1), 1) := by decide +kernel
theorem dX11_count_74 : decode cX11_count 74 = .ok (.invokevirtual 179, 3) := by decide +kernel
theorem dX11_count_77 : decode cX11_count 77 = .ok (.ireturn, 1) := by decide +kernel
theorem dX11_count_78 : decode cX11_count 78 = .ok (.aload_n 0, 1) := by decide +kernel
theorem dX11_count_79 : decode cX11_count 79 = .ok (.bipush 9, 2) := by decide +kernel
theorem dX11_count_81 : decode cX11_count 81 = .ok (.invokevirtual 179, 3) := by decide +kernel
theorem dX11_count_84 : decode cX11_count 84 = .ok (.ireturn, 1) := by decide +kernel
theorem dX11_count_85 : decode cX11_count 85 = .ok (.aload_n 0, 1) := by decide +kernel
theorem dX11_count_86 : decode cX11_count 86 = .ok (.getfield 82, 3) := by decide +kernel
theorem dX11_count_89 : decode cX11_count 89 = .ok (.invokevirtual 343, 3) := by decide +kernel
theorem dX11_count_92 : decode cX11_count 92 = .ok (.ireturn, 1) := by decide +kernel
theorem dX11_count_93 : decode cX11_count 93 = .ok (.aload_n 0, 1) := by decide +kernel
theorem dX11_count_94 : decode cX11_count 94 = .ok (.getfield 26, 3) := by decide +kernel
theorem dX11_count_97 : decode cX11_count 97 = .ok (.invokevirtual 145, 3) := by decide +kernel
theorem dX11_count_100 : decode cX11_count 100 = .ok (.ireturn, 1) := by decide +kernel
theorem dX11_count_101 : decode cX11_count 101 = .ok (.aload_n 0, 1) := by decide +kernel
theorem dX11_count_102 : decode cX11_count 102 = .ok (.getfield 47, 3) := by decide +kernel
theorem dX11_count_105 : decode cX11_count 105 = .ok (.getfield 121, 3) := by decide +kernel
theorem dX11_count_108 : decode cX11_count 108 = .ok (.ireturn, 1) := by decide +kernel
theorem dX11_count_109 : decode cX11_count 109 = .ok (.aload_n 0, 1) := by decide +kernel
theorem dX11_count_110 : decode cX11_count 110 = .ok (.getfield 40, 3) := by decide +kernel
theorem dX11_count_113 : decode cX11_count 113 = .ok (.getfield 374, 3) := by decide +kernel
theorem dX11_count_116 : decode cX11_count 116 = .ok (.ireturn, 1) := by decide +kernel
theorem dX11_count_117 : decode cX11_count 117 = .ok (.aload_n 0, 1) := by decide +kernel
theorem dX11_count_118 : decode cX11_count 118 = .ok (.getfield 19, 3) := by decide +kernel
theorem dX11_count_121 : decode cX11_count 121 = .ok (.getfield 377, 3) := by decide +kernel
theorem dX11_count_124 : decode cX11_count 124 = .ok (.ireturn, 1) := by decide +kernel
theorem dX11_count_125 : decode cX11_count 125 = .ok (.aload_n 0, 1) := by decide +kernel
theorem dX11_count_126 : decode cX11_count 126 = .ok (.getfield 10, 3) := by decide +kernel
theorem dX11_count_129 : decode cX11_count 129 = .ok (.getfield 378, 3) := by decide +kernel
theorem dX11_count_132 : decode cX11_count 132 = .ok (.ireturn, 1) := by decide +kernel
theorem dX11_count_133 : decode cX11_count 133 = .ok (.bipush (-100), 2) := by decide +kernel
theorem dX11_count_135 : decode cX11_count 135 = .ok (.ireturn, 1) := by decide +kernel
def xX11_count_133 (s_X3_allDeserts : zq_Sp) (s_X2_allCrumbs : zq_Sp) (s_X11_cellsWith : zq_Sp) (Q : zq_Q) (ls : zq_L) (st : List Value) (h : zq_H) : Prop := (zi_push (.int (-100)) (zi_iret Q)) ls st h
theorem kX11_count_133 {X : zq_X} {d : Nat} (C : zq_C X cX11_count 2 RX11 d) {d_X3_allDeserts : Nat} {s_X3_allDeserts : zq_Sp} (h_X3_allDeserts : zq_M yX3_allDeserts cX3_allDeserts 1 (some .int) 1 d_X3_allDeserts s_X3_allDeserts) (g_X3_allDeserts : d_X3_allDeserts + 1 ≤ d) {d_X2_allCrumbs : Nat} {s_X2_allCrumbs : zq_Sp} (h_X2_allCrumbs : zq_M yX2_allCrumbs cX2_allCrumbs 3 (some .int) 1 d_X2_allCrumbs s_X2_allCrumbs) (g_X2_allCrumbs : d_X2_allCrumbs + 1 ≤ d) {d_X11_cellsWith : Nat} {s_X11_cellsWith : zq_Sp} (h_X11_cellsWith : zq_M yX11_cellsWith cX11_cellsWith 4 (some .int) 1 d_X11_cellsWith s_X11_cellsWith) (g_X11_cellsWith : d_X11_cellsWith + 1 ≤ d) {Q : zq_Q} (hq : zq_R X (some .int) 1 Q) : zq_ok X 2 133 (xX11_count_133 s_X3_allDeserts s_X2_allCrumbs s_X11_cellsWith Q) := by
  refine zs_bipush C dX11_count_133 (by decide) ?_
  exact zs_iret C hq dX11_count_135
def xX11_count_125 (s_X3_allDeserts : zq_Sp) (s_X2_allCrumbs : zq_Sp) (s_X11_cellsWith : zq_Sp) (Q : zq_Q) (ls : zq_L) (st : List Value) (h : zq_H) : Prop := (zi_aload 0 (zi_getR 0 1 (zi_getI 1 1 (zi_iret Q)))) ls st h
theorem kX11_count_125 {X : zq_X} {d : Nat} (C : zq_C X cX11_count 2 RX11 d) {d_X3_allDeserts : Nat} {s_X3_allDeserts : zq_Sp} (h_X3_allDeserts : zq_M yX3_allDeserts cX3_allDeserts 1 (some .int) 1 d_X3_allDeserts s_X3_allDeserts) (g_X3_allDeserts : d_X3_allDeserts + 1 ≤ d) {d_X2_allCrumbs : Nat} {s_X2_allCrumbs : zq_Sp} (h_X2_allCrumbs : zq_M yX2_allCrumbs cX2_allCrumbs 3 (some .int) 1 d_X2_allCrumbs s_X2_allCrumbs) (g_X2_allCrumbs : d_X2_allCrumbs + 1 ≤ d) {d_X11_cellsWith : Nat} {s_X11_cellsWith : zq_Sp} (h_X11_cellsWith : zq_M yX11_cellsWith cX11_cellsWith 4 (some .int) 1 d_X11_cellsWith s_X11_cellsWith) (g_X11_cellsWith : d_X11_cellsWith + 1 ≤ d) {Q : zq_Q} (hq : zq_R X (some .int) 1 Q) : zq_ok X 2 125 (xX11_count_125 s_X3_allDeserts s_X2_allCrumbs s_X11_cellsWith Q) := by
  refine zs_aload_n C dX11_count_125 rfl ?_
  refine zs_getR C zp_0 zF11 (j := 0) ⟨by decide, rfl⟩ zw_315 dX11_count_126 ?_
  refine zs_getIN C zp_1 zF8 (j := 1) ⟨by decide, rfl⟩ zw_42 dX11_count_129 ?_
  exact zs_iret C hq dX11_count_132
def xX11_count_117 (s_X3_allDeserts : zq_Sp) (s_X2_allCrumbs : zq_Sp) (s_X11_cellsWith : zq_Sp) (Q : zq_Q) (ls : zq_L) (st : List Value) (h : zq_H) : Prop := (zi_aload 0 (zi_getR 0 3 (zi_getI 3 1 (zi_iret Q)))) ls st h
theorem kX11_count_117 {X : zq_X} {d : Nat} (C : zq_C X cX11_count 2 RX11 d) {d_X3_allDeserts : Nat} {s_X3_allDeserts : zq_Sp} (h_X3_allDeserts : zq_M yX3_allDeserts cX3_allDeserts 1 (some .int) 1 d_X3_allDeserts s_X3_allDeserts) (g_X3_allDeserts : d_X3_allDeserts + 1 ≤ d) {d_X2_allCrumbs : Nat} {s_X2_allCrumbs : zq_Sp} (h_X2_allCrumbs : zq_M yX2_allCrumbs cX2_allCrumbs 3 (some .int) 1 d_X2_allCrumbs s_X2_allCrumbs) (g_X2_allCrumbs : d_X2_allCrumbs + 1 ≤ d) {d_X11_cellsWith : Nat} {s_X11_cellsWith : zq_Sp} (h_X11_cellsWith : zq_M yX11_cellsWith cX11_cellsWith 4 (some .int) 1 d_X11_cellsWith s_X11_cellsWith) (g_X11_cellsWith : d_X11_cellsWith + 1 ≤ d) {Q : zq_Q} (hq : zq_R X (some .int) 1 Q) : zq_ok X 2 117 (xX11_count_117 s_X3_allDeserts s_X2_allCrumbs s_X11_cellsWith Q) := by
  refine zs_aload_n C dX11_count_117 rfl ?_
  refine zs_getR C zp_0 zF11 (j := 1) ⟨by decide, rfl⟩ zw_316 dX11_count_118 ?_
  refine zs_getIN C zp_3 zF5 (j := 1) ⟨by decide, rfl⟩ zw_64 dX11_count_121 ?_
  exact zs_iret C hq dX11_count_124
def xX11_count_109 (s_X3_allDeserts : zq_Sp) (s_X2_allCrumbs : zq_Sp) (s_X11_cellsWith : zq_Sp) (Q : zq_Q) (ls : zq_L) (st : List Value) (h : zq_H) : Prop := (zi_aload 0 (zi_getR 0 12 (zi_getI 12 3 (zi_iret Q)))) ls st h
theorem kX11_count_109 {X : zq_X} {d : Nat} (C : zq_C X cX11_count 2 RX11 d) {d_X3_allDeserts : Nat} {s_X3_allDeserts : zq_Sp} (h_X3_allDeserts : zq_M yX3_allDeserts cX3_allDeserts 1 (some .int) 1 d_X3_allDeserts s_X3_allDeserts) (g_X3_allDeserts : d_X3_allDeserts + 1 ≤ d) {d_X2_allCrumbs : Nat} {s_X2_allCrumbs : zq_Sp} (h_X2_allCrumbs : zq_M yX2_allCrumbs cX2_allCrumbs 3 (some .int) 1 d_X2_allCrumbs s_X2_allCrumbs) (g_X2_allCrumbs : d_X2_allCrumbs + 1 ≤ d) {d_X11_cellsWith : Nat} {s_X11_cellsWith : zq_Sp} (h_X11_cellsWith : zq_M yX11_cellsWith cX11_cellsWith 4 (some .int) 1 d_X11_cellsWith s_X11_cellsWith) (g_X11_cellsWith : d_X11_cellsWith + 1 ≤ d) {Q : zq_Q} (hq : zq_R X (some .int) 1 Q) : zq_ok X 2 109 (xX11_count_109 s_X3_allDeserts s_X2_allCrumbs s_X11_cellsWith Q) := by
  refine zs_aload_n C dX11_count_109 rfl ?_
  refine zs_getR C zp_0 zF11 (j := 4) ⟨by decide, rfl⟩ zw_319 dX11_count_110 ?_
  refine zs_getIN C zp_12 zF0 (j := 3) ⟨by decide, rfl⟩ zw_125 dX11_count_113 ?_
  exact zs_iret C hq dX11_count_116
def xX11_count_101 (s_X3_allDeserts : zq_Sp) (s_X2_allCrumbs : zq_Sp) (s_X11_cellsWith : zq_Sp) (Q : zq_Q) (ls : zq_L) (st : List Value) (h : zq_H) : Prop := (zi_aload 0 (zi_getR 0 15 (zi_getI 15 7 (zi_iret Q)))) ls st h
theorem kX11_count_101 {X : zq_X} {d : Nat} (C : zq_C X cX11_count 2 RX11 d) {d_X3_allDeserts : Nat} {s_X3_allDeserts : zq_Sp} (h_X3_allDeserts : zq_M yX3_allDeserts cX3_allDeserts 1 (some .int) 1 d_X3_allDeserts s_X3_allDeserts) (g_X3_allDeserts : d_X3_allDeserts + 1 ≤ d) {d_X2_allCrumbs : Nat} {s_X2_allCrumbs : zq_Sp} (h_X2_allCrumbs : zq_M yX2_allCrumbs cX2_allCrumbs 3 (some .int) 1 d_X2_allCrumbs s_X2_allCrumbs) (g_X2_allCrumbs : d_X2_allCrumbs + 1 ≤ d) {d_X11_cellsWith : Nat} {s_X11_cellsWith : zq_Sp} (h_X11_cellsWith : zq_M yX11_cellsWith cX11_cellsWith 4 (some .int) 1 d_X11_cellsWith s_X11_cellsWith) (g_X11_cellsWith : d_X11_cellsWith + 1 ≤ d) {Q : zq_Q} (hq : zq_R X (some .int) 1 Q) : zq_ok X 2 101 (xX11_count_101 s_X3_allDeserts s_X2_allCrumbs s_X11_cellsWith Q) := by
  refine zs_aload_n C dX11_count_101 rfl ?_
  refine zs_getR C zp_0 zF11 (j := 5) ⟨by decide, rfl⟩ zw_320 dX11_count_102 ?_
  refine zs_getIN C zp_15 zF1 (j := 7) ⟨by decide, rfl⟩ zw_153 dX11_count_105 ?_
  exact zs_iret C hq dX11_count_108
def xX11_count_93 (s_X3_allDeserts : zq_Sp) (s_X2_allCrumbs : zq_Sp) (s_X11_cellsWith : zq_Sp) (Q : zq_Q) (ls : zq_L) (st : List Value) (h : zq_H) : Prop := (zi_aload 0 (zi_getR 0 5 (zi_callV 0 5 s_X3_allDeserts (zi_iret Q)))) ls st h
theorem kX11_count_93 {X : zq_X} {d : Nat} (C : zq_C X cX11_count 2 RX11 d) {d_X3_allDeserts : Nat} {s_X3_allDeserts : zq_Sp} (h_X3_allDeserts : zq_M yX3_allDeserts cX3_allDeserts 1 (some .int) 1 d_X3_allDeserts s_X3_allDeserts) (g_X3_allDeserts : d_X3_allDeserts + 1 ≤ d) {d_X2_allCrumbs : Nat} {s_X2_allCrumbs : zq_Sp} (h_X2_allCrumbs : zq_M yX2_allCrumbs cX2_allCrumbs 3 (some .int) 1 d_X2_allCrumbs s_X2_allCrumbs) (g_X2_allCrumbs : d_X2_allCrumbs + 1 ≤ d) {d_X11_cellsWith : Nat} {s_X11_cellsWith : zq_Sp} (h_X11_cellsWith : zq_M yX11_cellsWith cX11_cellsWith 4 (some .int) 1 d_X11_cellsWith s_X11_cellsWith) (g_X11_cellsWith : d_X11_cellsWith + 1 ≤ d) {Q : zq_Q} (hq : zq_R X (some .int) 1 Q) : zq_ok X 2 93 (xX11_count_93 s_X3_allDeserts s_X2_allCrumbs s_X11_cellsWith Q) := by
  refine zs_aload_n C dX11_count_93 rfl ?_
  refine zs_getR C zp_0 zF11 (j := 2) ⟨by decide, rfl⟩ zw_317 dX11_count_94 ?_
  refine zs_callV C h_X3_allDeserts g_X3_allDeserts zy_X3_allDeserts zp_5 (show vwCl[3]? = some (RX3, TX3, 4) from rfl) zw_494 zw_495 zs9_X3_allDeserts dX11_count_97 ?_
  exact zs_iret C hq dX11_count_100
def xX11_count_85 (s_X3_allDeserts : zq_Sp) (s_X2_allCrumbs : zq_Sp) (s_X11_cellsWith : zq_Sp) (Q : zq_Q) (ls : zq_L) (st : List Value) (h : zq_H) : Prop := (zi_aload 0 (zi_getR 0 40 (zi_callV 0 40 s_X2_allCrumbs (zi_iret Q)))) ls st h
theorem kX11_count_85 {X : zq_X} {d : Nat} (C : zq_C X cX11_count 2 RX11 d) {d_X3_allDeserts : Nat} {s_X3_allDeserts : zq_Sp} (h_X3_allDeserts : zq_M yX3_allDeserts cX3_allDeserts 1 (some .int) 1 d_X3_allDeserts s_X3_allDeserts) (g_X3_allDeserts : d_X3_allDeserts + 1 ≤ d) {d_X2_allCrumbs : Nat} {s_X2_allCrumbs : zq_Sp} (h_X2_allCrumbs : zq_M yX2_allCrumbs cX2_allCrumbs 3 (some .int) 1 d_X2_allCrumbs s_X2_allCrumbs) (g_X2_allCrumbs : d_X2_allCrumbs + 1 ≤ d) {d_X11_cellsWith : Nat} {s_X11_cellsWith : zq_Sp} (h_X11_cellsWith : zq_M yX11_cellsWith cX11_cellsWith 4 (some .int) 1 d_X11_cellsWith s_X11_cellsWith) (g_X11_cellsWith : d_X11_cellsWith + 1 ≤ d) {Q : zq_Q} (hq : zq_R X (some .int) 1 Q) : zq_ok X 2 85 (xX11_count_85 s_X3_allDeserts s_X2_allCrumbs s_X11_cellsWith Q) := by
  refine zs_aload_n C dX11_count_85 rfl ?_
  refine zs_getR C zp_0 zF11 (j := 11) ⟨by decide, rfl⟩ zw_326 dX11_count_86 ?_
  refine zs_callV C h_X2_allCrumbs g_X2_allCrumbs zy_X2_allCrumbs zp_40 (show vwCl[2]? = some (RX2, TX2, 4) from rfl) zw_945 zw_946 zs9_X2_allCrumbs dX11_count_89 ?_
  exact zs_iret C hq dX11_count_92
def xX11_count_78 (s_X3_allDeserts : zq_Sp) (s_X2_allCrumbs : zq_Sp) (s_X11_cellsWith : zq_Sp) (Q : zq_Q) (ls : zq_L) (st : List Value) (h : zq_H) : Prop := (zi_aload 0 (zi_push (.int 9) (zi_callV 1 0 s_X11_cellsWith (zi_iret Q)))) ls st h
theorem kX11_count_78 {X : zq_X} {d : Nat} (C : zq_C X cX11_count 2 RX11 d) {d_X3_allDeserts : Nat} {s_X3_allDeserts : zq_Sp} (h_X3_allDeserts : zq_M yX3_allDeserts cX3_allDeserts 1 (some .int) 1 d_X3_allDeserts s_X3_allDeserts) (g_X3_allDeserts : d_X3_allDeserts + 1 ≤ d) {d_X2_allCrumbs : Nat} {s_X2_allCrumbs : zq_Sp} (h_X2_allCrumbs : zq_M yX2_allCrumbs cX2_allCrumbs 3 (some .int) 1 d_X2_allCrumbs s_X2_allCrumbs) (g_X2_allCrumbs : d_X2_allCrumbs + 1 ≤ d) {d_X11_cellsWith : Nat} {s_X11_cellsWith : zq_Sp} (h_X11_cellsWith : zq_M yX11_cellsWith cX11_cellsWith 4 (some .int) 1 d_X11_cellsWith s_X11_cellsWith) (g_X11_cellsWith : d_X11_cellsWith + 1 ≤ d) {Q : zq_Q} (hq : zq_R X (some .int) 1 Q) : zq_ok X 2 78 (xX11_count_78 s_X3_allDeserts s_X2_allCrumbs s_X11_cellsWith Q) := by
  refine zs_aload_n C dX11_count_78 rfl ?_
  refine zs_bipush C dX11_count_79 (by decide) ?_
  refine zs_callV C h_X11_cellsWith g_X11_cellsWith zy_X11_cellsWith zp_0 (show vwCl[11]? = some (RX11, TX11, 16) from rfl) zw_658 zw_660 zs9_X11_cellsWith dX11_count_81 ?_
  exact zs_iret C hq dX11_count_84
def xX11_count_72 (s_X3_allDeserts : zq_Sp) (s_X2_allCrumbs : zq_Sp) (s_X11_cellsWith : zq_Sp) (Q : zq_Q) (ls : zq_L) (st : List Value) (h : zq_H) : Prop := (zi_aload 0 (zi_push (.int (-1)) (zi_callV 1 0 s_X11_cellsWith (zi_iret Q)))) ls st h
theorem kX11_count_72 {X : zq_X} {d : Nat} (C : zq_C X cX11_count 2 RX11 d) {d_X3_allDeserts : Nat} {s_X3_allDeserts : zq_Sp} (h_X3_allDeserts : zq_M yX3_allDeserts cX3_allDeserts 1 (some .int) 1 d_X3_allDeserts s_X3_allDeserts) (g_X3_allDeserts : d_X3_allDeserts + 1 ≤ d) {d_X2_allCrumbs : Nat} {s_X2_allCrumbs : zq_Sp} (h_X2_allCrumbs : zq_M yX2_allCrumbs cX2_allCrumbs 3 (some .int) 1 d_X2_allCrumbs s_X2_allCrumbs) (g_X2_allCrumbs : d_X2_allCrumbs + 1 ≤ d) {d_X11_cellsWith : Nat} {s_X11_cellsWith : zq_Sp} (h_X11_cellsWith : zq_M yX11_cellsWith cX11_cellsWith 4 (some .int) 1 d_X11_cellsWith s_X11_cellsWith) (g_X11_cellsWith : d_X11_cellsWith + 1 ≤ d) {Q : zq_Q} (hq : zq_R X (some .int) 1 Q) : zq_ok X 2 72 (xX11_count_72 s_X3_allDeserts s_X2_allCrumbs s_X11_cellsWith Q) := by
  refine zs_aload_n C dX11_count_72 rfl ?_
  refine zs_iconst C dX11_count_73 (by decide) ?_
  refine zs_callV C h_X11_cellsWith g_X11_cellsWith zy_X11_cellsWith zp_0 (show vwCl[11]? = some (RX11, TX11, 16) from rfl) zw_658 zw_660 zs9_X11_cellsWith dX11_count_74 ?_
  exact zs_iret C hq dX11_count_77
def xX11_count_64 (s_X3_allDeserts : zq_Sp) (s_X2_allCrumbs : zq_Sp) (s_X11_cellsWith : zq_Sp) (Q : zq_Q) (ls : zq_L) (st : List Value) (h : zq_H) : Prop := (zi_aload 0 (zi_getR 0 5 (zi_getI 5 3 (zi_iret Q)))) ls st h
theorem kX11_count_64 {X : zq_X} {d : Nat} (C : zq_C X cX11_count 2 RX11 d) {d_X3_allDeserts : Nat} {s_X3_allDeserts : zq_Sp} (h_X3_allDeserts : zq_M yX3_allDeserts cX3_allDeserts 1 (some .int) 1 d_X3_allDeserts s_X3_allDeserts) (g_X3_allDeserts : d_X3_allDeserts + 1 ≤ d) {d_X2_allCrumbs : Nat} {s_X2_allCrumbs : zq_Sp} (h_X2_allCrumbs : zq_M yX2_allCrumbs cX2_allCrumbs 3 (some .int) 1 d_X2_allCrumbs s_X2_allCrumbs) (g_X2_allCrumbs : d_X2_allCrumbs + 1 ≤ d) {d_X11_cellsWith : Nat} {s_X11_cellsWith : zq_Sp} (h_X11_cellsWith : zq_M yX11_cellsWith cX11_cellsWith 4 (some .int) 1 d_X11_cellsWith s_X11_cellsWith) (g_X11_cellsWith : d_X11_cellsWith + 1 ≤ d) {Q : zq_Q} (hq : zq_R X (some .int) 1 Q) : zq_ok X 2 64 (xX11_count_64 s_X3_allDeserts s_X2_allCrumbs s_X11_cellsWith Q) := by
  refine zs_aload_n C dX11_count_64 rfl ?_
  refine zs_getR C zp_0 zF11 (j := 2) ⟨by decide, rfl⟩ zw_317 dX11_count_65 ?_
  refine zs_getIN C zp_5 zF3 (j := 3) ⟨by decide, rfl⟩ zw_85 dX11_count_68 ?_
  exact zs_iret C hq dX11_count_71
def xX11_count_56 (s_X3_allDeserts : zq_Sp) (s_X2_allCrumbs : zq_Sp) (s_X11_cellsWith : zq_Sp) (Q : zq_Q) (ls : zq_L) (st : List Value) (h : zq_H) : Prop := (zi_aload 0 (zi_getR 0 40 (zi_getI 40 3 (zi_iret Q)))) ls st h
theorem kX11_count_56 {X : zq_X} {d : Nat} (C : zq_C X cX11_count 2 RX11 d) {d_X3_allDeserts : Nat} {s_X3_allDeserts : zq_Sp} (h_X3_allDeserts : zq_M yX3_allDeserts cX3_allDeserts 1 (some .int) 1 d_X3_allDeserts s_X3_allDeserts) (g_X3_allDeserts : d_X3_allDeserts + 1 ≤ d) {d_X2_allCrumbs : Nat} {s_X2_allCrumbs : zq_Sp} (h_X2_allCrumbs : zq_M yX2_allCrumbs cX2_allCrumbs 3 (some .int) 1 d_X2_allCrumbs s_X2_allCrumbs) (g_X2_allCrumbs : d_X2_allCrumbs + 1 ≤ d) {d_X11_cellsWith : Nat} {s_X11_cellsWith : zq_Sp} (h_X11_cellsWith : zq_M yX11_cellsWith cX11_cellsWith 4 (some .int) 1 d_X11_cellsWith s_X11_cellsWith) (g_X11_cellsWith : d_X11_cellsWith + 1 ≤ d) {Q : zq_Q} (hq : zq_R X (some .int) 1 Q) : zq_ok X 2 56 (xX11_count_56 s_X3_allDeserts s_X2_allCrumbs s_X11_cellsWith Q) := by
  refine zs_aload_n C dX11_count_56 rfl ?_
  refine zs_getR C zp_0 zF11 (j := 11) ⟨by decide, rfl⟩ zw_326 dX11_count_57 ?_
  refine zs_getIN C zp_40 zF2 (j := 3) ⟨by decide, rfl⟩ zw_273 dX11_count_60 ?_
  exact zs_iret C hq dX11_count_63
def xX11_count_0 (s_X3_allDeserts : zq_Sp) (s_X2_allCrumbs : zq_Sp) (s_X11_cellsWith : zq_Sp) (Q : zq_Q) (ls : zq_L) (st : List Value) (h : zq_H) : Prop := (zi_iload 1 (zi_sw [(0, (xX11_count_56 s_X3_allDeserts s_X2_allCrumbs s_X11_cellsWith Q)), (1, (xX11_count_64 s_X3_allDeserts s_X2_allCrumbs s_X11_cellsWith Q)), (2, (xX11_count_72 s_X3_allDeserts s_X2_allCrumbs s_X11_cellsWith Q)), (3, (xX11_count_78 s_X3_allDeserts s_X2_allCrumbs s_X11_cellsWith Q)), (4, (xX11_count_85 s_X3_allDeserts s_X2_allCrumbs s_X11_cellsWith Q)), (5, (xX11_count_93 s_X3_allDeserts s_X2_allCrumbs s_X11_cellsWith Q)), (6, (xX11_count_101 s_X3_allDeserts s_X2_allCrumbs s_X11_cellsWith Q)), (7, (xX11_count_109 s_X3_allDeserts s_X2_allCrumbs s_X11_cellsWith Q)), (8, (xX11_count_117 s_X3_allDeserts s_X2_allCrumbs s_X11_cellsWith Q)), (9, (xX11_count_125 s_X3_allDeserts s_X2_allCrumbs s_X11_cellsWith Q))] (xX11_count_133 s_X3_allDeserts s_X2_allCrumbs s_X11_cellsWith Q))) ls st h
theorem kX11_count_0 {X : zq_X} {d : Nat} (C : zq_C X cX11_count 2 RX11 d) {d_X3_allDeserts : Nat} {s_X3_allDeserts : zq_Sp} (h_X3_allDeserts : zq_M yX3_allDeserts cX3_allDeserts 1 (some .int) 1 d_X3_allDeserts s_X3_allDeserts) (g_X3_allDeserts : d_X3_allDeserts + 1 ≤ d) {d_X2_allCrumbs : Nat} {s_X2_allCrumbs : zq_Sp} (h_X2_allCrumbs : zq_M yX2_allCrumbs cX2_allCrumbs 3 (some .int) 1 d_X2_allCrumbs s_X2_allCrumbs) (g_X2_allCrumbs : d_X2_allCrumbs + 1 ≤ d) {d_X11_cellsWith : Nat} {s_X11_cellsWith : zq_Sp} (h_X11_cellsWith : zq_M yX11_cellsWith cX11_cellsWith 4 (some .int) 1 d_X11_cellsWith s_X11_cellsWith) (g_X11_cellsWith : d_X11_cellsWith + 1 ≤ d) {Q : zq_Q} (hq : zq_R X (some .int) 1 Q) : zq_ok X 2 0 (xX11_count_0 s_X3_allDeserts s_X2_allCrumbs s_X11_cellsWith Q) := by
  refine zs_iload_n C dX11_count_0 rfl ?_
  exact zs_tsw C dX11_count_1 (by rfl) ⟨⟨by decide, _, _, rfl, by decide, kX11_count_56 C h_X3_allDeserts g_X3_allDeserts h_X2_allCrumbs g_X2_allCrumbs h_X11_cellsWith g_X11_cellsWith hq⟩, ⟨by decide, _, _, rfl, by decide, kX11_count_64 C h_X3_allDeserts g_X3_allDeserts h_X2_allCrumbs g_X2_allCrumbs h_X11_cellsWith g_X11_cellsWith hq⟩, ⟨by decide, _, _, rfl, by decide, kX11_count_72 C h_X3_allDeserts g_X3_allDeserts h_X2_allCrumbs g_X2_allCrumbs h_X11_cellsWith g_X11_cellsWith hq⟩, ⟨by decide, _, _, rfl, by decide, kX11_count_78 C h_X3_allDeserts g_X3_allDeserts h_X2_allCrumbs g_X2_allCrumbs h_X11_cellsWith g_X11_cellsWith hq⟩, ⟨by decide, _, _, rfl, by decide, kX11_count_85 C h_X3_allDeserts g_X3_allDeserts h_X2_allCrumbs g_X2_allCrumbs h_X11_cellsWith g_X11_cellsWith hq⟩, ⟨by decide, _, _, rfl, by decide, kX11_count_93 C h_X3_allDeserts g_X3_allDeserts h_X2_allCrumbs g_X2_allCrumbs h_X11_cellsWith g_X11_cellsWith hq⟩, ⟨by decide, _, _, rfl, by decide, kX11_count_101 C h_X3_allDeserts g_X3_allDeserts h_X2_allCrumbs g_X2_allCrumbs h_X11_cellsWith g_X11_cellsWith hq⟩, ⟨by decide, _, _, rfl, by decide, kX11_count_109 C h_X3_allDeserts g_X3_allDeserts h_X2_allCrumbs g_X2_allCrumbs h_X11_cellsWith g_X11_cellsWith hq⟩, ⟨by decide, _, _, rfl, by decide, kX11_count_117 C h_X3_allDeserts g_X3_allDeserts h_X2_allCrumbs g_X2_allCrumbs h_X11_cellsWith g_X11_cellsWith hq⟩, ⟨by decide, _, _, rfl, by decide, kX11_count_125 C h_X3_allDeserts g_X3_allDeserts h_X2_allCrumbs g_X2_allCrumbs h_X11_cellsWith g_X11_cellsWith hq⟩, trivial⟩ (by decide) (kX11_count_133 C h_X3_allDeserts g_X3_allDeserts h_X2_allCrumbs g_X2_allCrumbs h_X11_cellsWith g_X11_cellsWith hq)
theorem mX11_count {d : Nat} {spec : zq_Sp} {d_X3_allDeserts : Nat} {s_X3_allDeserts : zq_Sp} (h_X3_allDeserts : zq_M yX3_allDeserts cX3_allDeserts 1 (some .int) 1 d_X3_allDeserts s_X3_allDeserts) (g_X3_allDeserts : d_X3_allDeserts + 1 ≤ d) {d_X2_allCrumbs : Nat} {s_X2_allCrumbs : zq_Sp} (h_X2_allCrumbs : zq_M yX2_allCrumbs cX2_allCrumbs 3 (some .int) 1 d_X2_allCrumbs s_X2_allCrumbs) (g_X2_allCrumbs : d_X2_allCrumbs + 1 ≤ d) {d_X11_cellsWith : Nat} {s_X11_cellsWith : zq_Sp} (h_X11_cellsWith : zq_M yX11_cellsWith cX11_cellsWith 4 (some .int) 1 d_X11_cellsWith s_X11_cellsWith) (g_X11_cellsWith : d_X11_cellsWith + 1 ≤ d) (v : ∀ args h Q, spec args h Q → (zq_a args).length ≤ 2 ∧ xX11_count_0 s_X3_allDeserts s_X2_allCrumbs s_X11_cellsWith Q (zq_l0 2 args) [] h) : zq_M yX11_count cX11_count 2 (some .int) 1 d spec := by
  refine zq_met (by decide +kernel) (by decide) (fun X Q args h C hq hs => ⟨(v args h Q hs).1, _, ?_, (v args h Q hs).2⟩)
  exact kX11_count_0 C h_X3_allDeserts g_X3_allDeserts h_X2_allCrumbs g_X2_allCrumbs h_X11_cellsWith g_X11_cellsWith hq
/-! ToOneCrumb.row(I)J -/
theorem dX11_row_0 : decode cX11_row 0 = .ok (.iload_n 1, 1) := by decide +kernel
theorem dX11_row_1 : decode cX11_row 1 = .ok (.ifCond .lt 14, 3) := by decide +kernel
theorem dX11_row_4 : decode cX11_row 4 = .ok (.iload_n 1, 1) := by decide +kernel
theorem dX11_row_5 : decode cX11_row 5 = .ok (.aload_n 0, 1) := by decide +kernel
theorem dX11_row_6 : decode cX11_row 6 = .ok (.getfield 19, 3) := by decide +kernel
theorem dX11_row_9 : decode cX11_row 9 = .ok (.getfield 377, 3) := by decide +kernel
theorem dX11_row_12 : decode cX11_row 12 = .ok (.if_icmp .lt 14, 3) := by decide +kernel
theorem dX11_row_15 : decode cX11_row 15 = .ok (.new 152, 3) := by decide +kernel
theorem dX11_row_18 : decode cX11_row 18 = .ok (.dup, 1) := by decide +kernel
theorem dX11_row_19 : decode cX11_row 19 = .ok (.ldc_w 379, 3) := by decide +kernel
theorem dX11_row_22 : decode cX11_row 22 = .ok (.invokespecial 156, 3) := by decide +kernel
theorem dX11_row_25 : decode cX11_row 25 = .ok (.athrow, 1) := by decide +kernel
theorem dX11_row_26 : decode cX11_row 26 = .ok (.aload_n 0, 1) := by decide +kernel
theorem dX11_row_27 : decode cX11_row 27 = .ok (.getfield 19, 3) := by decide +kernel
theorem dX11_row_30 : decode cX11_row 30 = .ok (.getfield 381, 3) := by decide +kernel
theorem dX11_row_33 : decode cX11_row 33 = .ok (.iload_n 1, 1) := by decide +kernel
theorem dX11_row_34 : decode cX11_row 34 = .ok (.laload, 1) := by decide +kernel
theorem dX11_row_35 : decode cX11_row 35 = .ok (.lreturn, 1) := by decide +kernel
def xX11_row_26 (J15 : zq_P) (Q : zq_Q) (ls : zq_L) (st : List Value) (h : zq_H) : Prop := (zi_aload 0 (zi_getR 0 3 (zi_getR 3 4 (zi_iload 1 (zi_aldL 4 16 (zi_lret Q)))))) ls st h
theorem kX11_row_26 {X : zq_X} {d : Nat} (C : zq_C X cX11_row 2 RX11 d) {J15 : zq_P} (j15 : zq_ok X 2 15 J15) {Q : zq_Q} (hq : zq_R X (some .long) 2 Q) : zq_ok X 2 26 (xX11_row_26 J15 Q) := by
  refine zs_aload_n C dX11_row_26 rfl ?_
  refine zs_getR C zp_0 zF11 (j := 1) ⟨by decide, rfl⟩ zw_316 dX11_row_27 ?_
  refine zs_getRN C zp_3 zF5 (j := 0) ⟨by decide, rfl⟩ zw_62 dX11_row_30 ?_
  refine zs_iload_n C dX11_row_33 rfl ?_
  refine zs_laload C zp_4 dX11_row_34 ?_
  exact zs_lret C hq dX11_row_35
def xX11_row_15 (J15 : zq_P) (Q : zq_Q) (ls : zq_L) (st : List Value) (h : zq_H) : Prop := (J15) ls st h
theorem kX11_row_15 {X : zq_X} {d : Nat} (C : zq_C X cX11_row 2 RX11 d) {J15 : zq_P} (j15 : zq_ok X 2 15 J15) {Q : zq_Q} (hq : zq_R X (some .long) 2 Q) : zq_ok X 2 15 (xX11_row_15 J15 Q) := by
  exact j15
def xX11_row_4 (J15 : zq_P) (Q : zq_Q) (ls : zq_L) (st : List Value) (h : zq_H) : Prop := (zi_iload 1 (zi_aload 0 (zi_getR 0 3 (zi_getI 3 1 (zi_if2 (fun x y => x < y) (xX11_row_26 J15 Q) (xX11_row_15 J15 Q)))))) ls st h
theorem kX11_row_4 {X : zq_X} {d : Nat} (C : zq_C X cX11_row 2 RX11 d) {J15 : zq_P} (j15 : zq_ok X 2 15 J15) {Q : zq_Q} (hq : zq_R X (some .long) 2 Q) : zq_ok X 2 4 (xX11_row_4 J15 Q) := by
  refine zs_iload_n C dX11_row_4 rfl ?_
  refine zs_aload_n C dX11_row_5 rfl ?_
  refine zs_getR C zp_0 zF11 (j := 1) ⟨by decide, rfl⟩ zw_316 dX11_row_6 ?_
  refine zs_getIN C zp_3 zF5 (j := 1) ⟨by decide, rfl⟩ zw_64 dX11_row_9 ?_
  exact zs_icmp_lt C dX11_row_12 (by decide) (kX11_row_26 C j15 hq) (kX11_row_15 C j15 hq)
def xX11_row_0 (J15 : zq_P) (Q : zq_Q) (ls : zq_L) (st : List Value) (h : zq_H) : Prop := (zi_iload 1 (zi_if1 (fun x => x < 0) (xX11_row_15 J15 Q) (xX11_row_4 J15 Q))) ls st h
theorem kX11_row_0 {X : zq_X} {d : Nat} (C : zq_C X cX11_row 2 RX11 d) {J15 : zq_P} (j15 : zq_ok X 2 15 J15) {Q : zq_Q} (hq : zq_R X (some .long) 2 Q) : zq_ok X 2 0 (xX11_row_0 J15 Q) := by
  refine zs_iload_n C dX11_row_0 rfl ?_
  exact zs_if_lt C dX11_row_1 (by decide) (kX11_row_15 C j15 hq) (kX11_row_4 C j15 hq)
/-! ToOneCrumb.isCell(I)Z -/
theorem dX11_isCell_0 : decode cX11_isCell 0 = .ok (.iload_n 1, 1) := by decide +kernel
theorem dX11_isCell_1 : decode cX11_isCell 1 = .ok (.ifCond .lt 18, 3) := by decide +kernel
theorem dX11_isCell_4 : decode cX11_isCell 4 = .ok (.iload_n 1, 1) := by decide +kernel
theorem dX11_isCell_5 : decode cX11_isCell 5 = .ok (.aload_n 0, 1) := by decide +kernel
theorem dX11_isCell_6 : decode cX11_isCell 6 = .ok (.getfield 82, 3) := by decide +kernel
theorem dX11_isCell_9 : decode cX11_isCell 9 = .ok (.getfield 128, 3) := by decide +kernel
theorem dX11_isCell_12 : decode cX11_isCell 12 = .ok (.if_icmp .ge 7, 3) := by decide +kernel
theorem dX11_isCell_15 : decode cX11_isCell 15 = .ok (.iconst 1, 1) := by decide +kernel
theorem dX11_isCell_16 : decode cX11_isCell 16 = .ok (.goto 4, 3) := by decide +kernel
theorem dX11_isCell_19 : decode cX11_isCell 19 = .ok (.iconst 0, 1) := by decide +kernel
theorem dX11_isCell_20 : decode cX11_isCell 20 = .ok (.ireturn, 1) := by decide +kernel
def xX11_isCell_20 (Q : zq_Q) (ls : zq_L) (st : List Value) (h : zq_H) : Prop := (zi_zret Q) ls st h
theorem kX11_isCell_20 {X : zq_X} {d : Nat} (C : zq_C X cX11_isCell 2 RX11 d) {Q : zq_Q} (hq : zq_R X (some .boolean) 1 Q) : zq_ok X 2 20 (xX11_isCell_20 Q) := by
  exact zs_zret C hq dX11_isCell_20
def xX11_isCell_19 (Q : zq_Q) (ls : zq_L) (st : List Value) (h : zq_H) : Prop := (zi_push (.int 0) ((xX11_isCell_20 Q))) ls st h
theorem kX11_isCell_19 {X : zq_X} {d : Nat} (C : zq_C X cX11_isCell 2 RX11 d) {Q : zq_Q} (hq : zq_R X (some .boolean) 1 Q) : zq_ok X 2 19 (xX11_isCell_19 Q) := by
  refine zs_iconst C dX11_isCell_19 (by decide) ?_
  exact kX11_isCell_20 C hq
def xX11_isCell_15 (Q : zq_Q) (ls : zq_L) (st : List Value) (h : zq_H) : Prop := (zi_push (.int 1) ((xX11_isCell_20 Q))) ls st h
theorem kX11_isCell_15 {X : zq_X} {d : Nat} (C : zq_C X cX11_isCell 2 RX11 d) {Q : zq_Q} (hq : zq_R X (some .boolean) 1 Q) : zq_ok X 2 15 (xX11_isCell_15 Q) := by
  refine zs_iconst C dX11_isCell_15 (by decide) ?_
  exact zs_goto C dX11_isCell_16 (by decide) (kX11_isCell_20 C hq)
def xX11_isCell_4 (Q : zq_Q) (ls : zq_L) (st : List Value) (h : zq_H) : Prop := (zi_iload 1 (zi_aload 0 (zi_getR 0 40 (zi_getI 40 3 (zi_if2 (fun x y => y ≤ x) (xX11_isCell_19 Q) (xX11_isCell_15 Q)))))) ls st h
theorem kX11_isCell_4 {X : zq_X} {d : Nat} (C : zq_C X cX11_isCell 2 RX11 d) {Q : zq_Q} (hq : zq_R X (some .boolean) 1 Q) : zq_ok X 2 4 (xX11_isCell_4 Q) := by
  refine zs_iload_n C dX11_isCell_4 rfl ?_
  refine zs_aload_n C dX11_isCell_5 rfl ?_
  refine zs_getR C zp_0 zF11 (j := 11) ⟨by decide, rfl⟩ zw_326 dX11_isCell_6 ?_
  refine zs_getIN C zp_40 zF2 (j := 3) ⟨by decide, rfl⟩ zw_273 dX11_isCell_9 ?_
  exact zs_icmp_ge C dX11_isCell_12 (by decide) (kX11_isCell_19 C hq) (kX11_isCell_15 C hq)
def xX11_isCell_0 (Q : zq_Q) (ls : zq_L) (st : List Value) (h : zq_H) : Prop := (zi_iload 1 (zi_if1 (fun x => x < 0) (xX11_isCell_19 Q) (xX11_isCell_4 Q))) ls st h
theorem kX11_isCell_0 {X : zq_X} {d : Nat} (C : zq_C X cX11_isCell 2 RX11 d) {Q : zq_Q} (hq : zq_R X (some .boolean) 1 Q) : zq_ok X 2 0 (xX11_isCell_0 Q) := by
  refine zs_iload_n C dX11_isCell_0 rfl ?_
  exact zs_if_lt C dX11_isCell_1 (by decide) (kX11_isCell_19 C hq) (kX11_isCell_4 C hq)
theorem mX11_isCell {d : Nat} {spec : zq_Sp} (v : ∀ args h Q, spec args h Q → (zq_a args).length ≤ 2 ∧ xX11_isCell_0 Q (zq_l0 2 args) [] h) : zq_M yX11_isCell cX11_isCell 2 (some .boolean) 1 d spec := by
  refine zq_met (by decide +kernel) (by decide) (fun X Q args h C hq hs => ⟨(v args h Q hs).1, _, ?_, (v args h Q hs).2⟩)
  exact kX11_isCell_0 C hq
/-! ToOneCrumb.isGuest(I)Z -/
theorem dX11_isGuest_0 : decode cX11_isGuest 0 = .ok (.iload_n 1, 1) := by decide +kernel
theorem dX11_isGuest_1 : decode cX11_isGuest 1 = .ok (.ifCond .lt 18, 3) := by decide +kernel
theorem dX11_isGuest_4 : decode cX11_isGuest 4 = .ok (.iload_n 1, 1) := by decide +kernel
theorem dX11_isGuest_5 : decode cX11_isGuest 5 = .ok (.aload_n 0, 1) := by decide +kernel
theorem dX11_isGuest_6 : decode cX11_isGuest 6 = .ok (.getfield 26, 3) := by decide +kernel
theorem dX11_isGuest_9 : decode cX11_isGuest 9 = .ok (.getfield 243, 3) := by decide +kernel
theorem dX11_isGuest_12 : decode cX11_isGuest 12 = .ok (.if_icmp .ge 7, 3) := by decide +kernel
theorem dX11_isGuest_15 : decode cX11_isGuest 15 = .ok (.iconst 1, 1) := by decide +kernel
theorem dX11_isGuest_16 : decode cX11_isGuest 16 = .ok (.goto 4, 3) := by decide +kernel
theorem dX11_isGuest_19 : decode cX11_isGuest 19 = .ok (.iconst 0, 1) := by decide +kernel
theorem dX11_isGuest_20 : decode cX11_isGuest 20 = .ok (.ireturn, 1) := by decide +kernel
def xX11_isGuest_20 (Q : zq_Q) (ls : zq_L) (st : List Value) (h : zq_H) : Prop := (zi_zret Q) ls st h
theorem kX11_isGuest_20 {X : zq_X} {d : Nat} (C : zq_C X cX11_isGuest 2 RX11 d) {Q : zq_Q} (hq : zq_R X (some .boolean) 1 Q) : zq_ok X 2 20 (xX11_isGuest_20 Q) := by
  exact zs_zret C hq dX11_isGuest_20
def xX11_isGuest_19 (Q : zq_Q) (ls : zq_L) (st : List Value) (h : zq_H) : Prop := (zi_push (.int 0) ((xX11_isGuest_20 Q))) ls st h
theorem kX11_isGuest_19 {X : zq_X} {d : Nat} (C : zq_C X cX11_isGuest 2 RX11 d) {Q : zq_Q} (hq : zq_R X (some .boolean) 1 Q) : zq_ok X 2 19 (xX11_isGuest_19 Q) := by
  refine zs_iconst C dX11_isGuest_19 (by decide) ?_
  exact kX11_isGuest_20 C hq
def xX11_isGuest_15 (Q : zq_Q) (ls : zq_L) (st : List Value) (h : zq_H) : Prop := (zi_push (.int 1) ((xX11_isGuest_20 Q))) ls st h
theorem kX11_isGuest_15 {X : zq_X} {d : Nat} (C : zq_C X cX11_isGuest 2 RX11 d) {Q : zq_Q} (hq : zq_R X (some .boolean) 1 Q) : zq_ok X 2 15 (xX11_isGuest_15 Q) := by
  refine zs_iconst C dX11_isGuest_15 (by decide) ?_
  exact zs_goto C dX11_isGuest_16 (by decide) (kX11_isGuest_20 C hq)
def xX11_isGuest_4 (Q : zq_Q) (ls : zq_L) (st : List Value) (h : zq_H) : Prop := (zi_iload 1 (zi_aload 0 (zi_getR 0 5 (zi_getI 5 3 (zi_if2 (fun x y => y ≤ x) (xX11_isGuest_19 Q) (xX11_isGuest_15 Q)))))) ls st h
theorem kX11_isGuest_4 {X : zq_X} {d : Nat} (C : zq_C X cX11_isGuest 2 RX11 d) {Q : zq_Q} (hq : zq_R X (some .boolean) 1 Q) : zq_ok X 2 4 (xX11_isGuest_4 Q) := by
  refine zs_iload_n C dX11_isGuest_4 rfl ?_
  refine zs_aload_n C dX11_isGuest_5 rfl ?_
  refine zs_getR C zp_0 zF11 (j := 2) ⟨by decide, rfl⟩ zw_317 dX11_isGuest_6 ?_
  refine zs_getIN C zp_5 zF3 (j := 3) ⟨by decide, rfl⟩ zw_85 dX11_isGuest_9 ?_
  exact zs_icmp_ge C dX11_isGuest_12 (by decide) (kX11_isGuest_19 C hq) (kX11_isGuest_15 C hq)
def xX11_isGuest_0 (Q : zq_Q) (ls : zq_L) (st : List Value) (h : zq_H) : Prop := (zi_iload 1 (zi_if1 (fun x => x < 0) (xX11_isGuest_19 Q) (xX11_isGuest_4 Q))) ls st h
theorem kX11_isGuest_0 {X : zq_X} {d : Nat} (C : zq_C X cX11_isGuest 2 RX11 d) {Q : zq_Q} (hq : zq_R X (some .boolean) 1 Q) : zq_ok X 2 0 (xX11_isGuest_0 Q) := by
  refine zs_iload_n C dX11_isGuest_0 rfl ?_
  exact zs_if_lt C dX11_isGuest_1 (by decide) (kX11_isGuest_19 C hq) (kX11_isGuest_4 C hq)
theorem mX11_isGuest {d : Nat} {spec : zq_Sp} (v : ∀ args h Q, spec args h Q → (zq_a args).length ≤ 2 ∧ xX11_isGuest_0 Q (zq_l0 2 args) [] h) : zq_M yX11_isGuest cX11_isGuest 2 (some .boolean) 1 d spec := by
  refine zq_met (by decide +kernel) (by decide) (fun X Q args h C hq hs => ⟨(v args h Q hs).1, _, ?_, (v args h Q hs).2⟩)
  exact kX11_isGuest_0 C hq
/-! ToOneCrumb.everyone()I -/
theorem dX11_everyone_0 : decode cX11_everyone 0 = .ok (.iconst 1, 1) := by decide +kernel
theorem dX11_everyone_1 : decode cX11_everyone 1 = .ok (.aload_n 0, 1) := by decide +kernel
theorem dX11_everyone_2 : decode cX11_everyone 2 = .ok (.getfield 26, 3) := by decide +kernel
theorem dX11_everyone_5 : decode cX11_everyone 5 = .ok (.getfield 243, 3) := by decide +kernel
theorem dX11_everyone_8 : decode cX11_everyone 8 = .ok (.ishl, 1) := by decide +kernel
theorem dX11_everyone_9 : decode cX11_everyone 9 = .ok (.iconst 1, 1) := by decide +kernel
theorem dX11_everyone_10 : decode cX11_everyone 10 = .ok (.isub, 1) := by decide +kernel
theorem dX11_everyone_11 : decode cX11_everyone 11 = .ok (.ireturn, 1) := by decide +kernel
def xX11_everyone_0 (Q : zq_Q) (ls : zq_L) (st : List Value) (h : zq_H) : Prop := (zi_push (.int 1) (zi_aload 0 (zi_getR 0 5 (zi_getI 5 3 (zi_i2 zf_shl (zi_push (.int 1) (zi_i2 (fun x y => x - y) (zi_iret Q)))))))) ls st h
theorem kX11_everyone_0 {X : zq_X} {d : Nat} (C : zq_C X cX11_everyone 1 RX11 d) {Q : zq_Q} (hq : zq_R X (some .int) 1 Q) : zq_ok X 1 0 (xX11_everyone_0 Q) := by
  refine zs_iconst C dX11_everyone_0 (by decide) ?_
  refine zs_aload_n C dX11_everyone_1 rfl ?_
  refine zs_getR C zp_0 zF11 (j := 2) ⟨by decide, rfl⟩ zw_317 dX11_everyone_2 ?_
  refine zs_getIN C zp_5 zF3 (j := 3) ⟨by decide, rfl⟩ zw_85 dX11_everyone_5 ?_
  refine zs_ishl C dX11_everyone_8 ?_
  refine zs_iconst C dX11_everyone_9 (by decide) ?_
  refine zs_isub C dX11_everyone_10 ?_
  exact zs_iret C hq dX11_everyone_11
theorem mX11_everyone {d : Nat} {spec : zq_Sp} (v : ∀ args h Q, spec args h Q → (zq_a args).length ≤ 1 ∧ xX11_everyone_0 Q (zq_l0 1 args) [] h) : zq_M yX11_everyone cX11_everyone 1 (some .int) 1 d spec := by
  refine zq_met (by decide +kernel) (by decide) (fun X Q args h C hq hs => ⟨(v args h Q hs).1, _, ?_, (v args h Q hs).2⟩)
  exact kX11_everyone_0 C hq
/-! ToOneCrumb.areGuests(I)Z -/
theorem dX11_areGuests_0 : decode cX11_areGuests 0 = .ok (.iload_n 1, 1) := by decide +kernel
theorem dX11_areGuests_1 : decode cX11_areGuests 1 = .ok (.ifCond .lt 15, 3) := by decide +kernel
theorem dX11_areGuests_4 : decode cX11_areGuests 4 = .ok (.iload_n 1, 1) := by decide +kernel
theorem dX11_areGuests_5 : decode cX11_areGuests 5 = .ok (.aload_n 0, 1) := by decide +kernel
theorem dX11_areGuests_6 : decode cX11_areGuests 6 = .ok (.invokevirtual 273, 3) := by decide +kernel
theorem dX11_areGuests_9 : decode cX11_areGuests 9 = .ok (.if_icmp .gt 7, 3) := by decide +kernel
theorem dX11_areGuests_12 : decode cX11_areGuests 12 = .ok (.iconst 1, 1) := by decide +kernel
theorem dX11_areGuests_13 : decode cX11_areGuests 13 = .ok (.goto 4, 3) := by decide +kernel
theorem dX11_areGuests_16 : decode cX11_areGuests 16 = .ok (.iconst 0, 1) := by decide +kernel
theorem dX11_areGuests_17 : decode cX11_areGuests 17 = .ok (.ireturn, 1) := by decide +kernel
def xX11_areGuests_17 (s_X11_everyone : zq_Sp) (Q : zq_Q) (ls : zq_L) (st : List Value) (h : zq_H) : Prop := (zi_zret Q) ls st h
theorem kX11_areGuests_17 {X : zq_X} {d : Nat} (C : zq_C X cX11_areGuests 2 RX11 d) {d_X11_everyone : Nat} {s_X11_everyone : zq_Sp} (h_X11_everyone : zq_M yX11_everyone cX11_everyone 1 (some .int) 1 d_X11_everyone s_X11_everyone) (g_X11_everyone : d_X11_everyone + 1 ≤ d) {Q : zq_Q} (hq : zq_R X (some .boolean) 1 Q) : zq_ok X 2 17 (xX11_areGuests_17 s_X11_everyone Q) := by
  exact zs_zret C hq dX11_areGuests_17
def xX11_areGuests_16 (s_X11_everyone : zq_Sp) (Q : zq_Q) (ls : zq_L) (st : List Value) (h : zq_H) : Prop := (zi_push (.int 0) ((xX11_areGuests_17 s_X11_everyone Q))) ls st h
theorem kX11_areGuests_16 {X : zq_X} {d : Nat} (C : zq_C X cX11_areGuests 2 RX11 d) {d_X11_everyone : Nat} {s_X11_everyone : zq_Sp} (h_X11_everyone : zq_M yX11_everyone cX11_everyone 1 (some .int) 1 d_X11_everyone s_X11_everyone) (g_X11_everyone : d_X11_everyone + 1 ≤ d) {Q : zq_Q} (hq : zq_R X (some .boolean) 1 Q) : zq_ok X 2 16 (xX11_areGuests_16 s_X11_everyone Q) := by
  refine zs_iconst C dX11_areGuests_16 (by decide) ?_
  exact kX11_areGuests_17 C h_X11_everyone g_X11_everyone hq
def xX11_areGuests_12 (s_X11_everyone : zq_Sp) (Q : zq_Q) (ls : zq_L) (st : List Value) (h : zq_H) : Prop := (zi_push (.int 1) ((xX11_areGuests_17 s_X11_everyone Q))) ls st h
theorem kX11_areGuests_12 {X : zq_X} {d : Nat} (C : zq_C X cX11_areGuests 2 RX11 d) {d_X11_everyone : Nat} {s_X11_everyone : zq_Sp} (h_X11_everyone : zq_M yX11_everyone cX11_everyone 1 (some .int) 1 d_X11_everyone s_X11_everyone) (g_X11_everyone : d_X11_everyone + 1 ≤ d) {Q : zq_Q} (hq : zq_R X (some .boolean) 1 Q) : zq_ok X 2 12 (xX11_areGuests_12 s_X11_everyone Q) := by
  refine zs_iconst C dX11_areGuests_12 (by decide) ?_
  exact zs_goto C dX11_areGuests_13 (by decide) (kX11_areGuests_17 C h_X11_everyone g_X11_everyone hq)
def xX11_areGuests_4 (s_X11_everyone : zq_Sp) (Q : zq_Q) (ls : zq_L) (st : List Value) (h : zq_H) : Prop := (zi_iload 1 (zi_aload 0 (zi_callV 0 0 s_X11_everyone (zi_if2 (fun x y => y < x) (xX11_areGuests_16 s_X11_everyone Q) (xX11_areGuests_12 s_X11_everyone Q))))) ls st h
theorem kX11_areGuests_4 {X : zq_X} {d : Nat} (C : zq_C X cX11_areGuests 2 RX11 d) {d_X11_everyone : Nat} {s_X11_everyone : zq_Sp} (h_X11_everyone : zq_M yX11_everyone cX11_everyone 1 (some .int) 1 d_X11_everyone s_X11_everyone) (g_X11_everyone : d_X11_everyone + 1 ≤ d) {Q : zq_Q} (hq : zq_R X (some .boolean) 1 Q) : zq_ok X 2 4 (xX11_areGuests_4 s_X11_everyone Q) := by
  refine zs_iload_n C dX11_areGuests_4 rfl ?_
  refine zs_aload_n C dX11_areGuests_5 rfl ?_
  refine zs_callV C h_X11_everyone g_X11_everyone zy_X11_everyone zp_0 (show vwCl[11]? = some (RX11, TX11, 16) from rfl) zw_730 zw_732 zs9_X11_everyone dX11_areGuests_6 ?_
  exact zs_icmp_gt C dX11_areGuests_9 (by decide) (kX11_areGuests_16 C h_X11_everyone g_X11_everyone hq) (kX11_areGuests_12 C h_X11_everyone g_X11_everyone hq)
def xX11_areGuests_0 (s_X11_everyone : zq_Sp) (Q : zq_Q) (ls : zq_L) (st : List Value) (h : zq_H) : Prop := (zi_iload 1 (zi_if1 (fun x => x < 0) (xX11_areGuests_16 s_X11_everyone Q) (xX11_areGuests_4 s_X11_everyone Q))) ls st h
theorem kX11_areGuests_0 {X : zq_X} {d : Nat} (C : zq_C X cX11_areGuests 2 RX11 d) {d_X11_everyone : Nat} {s_X11_everyone : zq_Sp} (h_X11_everyone : zq_M yX11_everyone cX11_everyone 1 (some .int) 1 d_X11_everyone s_X11_everyone) (g_X11_everyone : d_X11_everyone + 1 ≤ d) {Q : zq_Q} (hq : zq_R X (some .boolean) 1 Q) : zq_ok X 2 0 (xX11_areGuests_0 s_X11_everyone Q) := by
  refine zs_iload_n C dX11_areGuests_0 rfl ?_
  exact zs_if_lt C dX11_areGuests_1 (by decide) (kX11_areGuests_16 C h_X11_everyone g_X11_everyone hq) (kX11_areGuests_4 C h_X11_everyone g_X11_everyone hq)
theorem mX11_areGuests {d : Nat} {spec : zq_Sp} {d_X11_everyone : Nat} {s_X11_everyone : zq_Sp} (h_X11_everyone : zq_M yX11_everyone cX11_everyone 1 (some .int) 1 d_X11_everyone s_X11_everyone) (g_X11_everyone : d_X11_everyone + 1 ≤ d) (v : ∀ args h Q, spec args h Q → (zq_a args).length ≤ 2 ∧ xX11_areGuests_0 s_X11_everyone Q (zq_l0 2 args) [] h) : zq_M yX11_areGuests cX11_areGuests 2 (some .boolean) 1 d spec := by
  refine zq_met (by decide +kernel) (by decide) (fun X Q args h C hq hs => ⟨(v args h Q hs).1, _, ?_, (v args h Q hs).2⟩)
  exact kX11_areGuests_0 C h_X11_everyone g_X11_everyone hq
/-! ToOneCrumb.renewWorths()V -/
theorem dX11_renewWorths_0 : decode cX11_renewWorths 0 = .ok (.aload_n 0, 1) := by decide +kernel
theorem dX11_renewWorths_1 : decode cX11_renewWorths 1 = .ok (.getfield 33, 3) := by decide +kernel
theorem dX11_renewWorths_4 : decode cX11_renewWorths 4 = .ok (.aload_n 0, 1) := by decide +kernel
theorem dX11_renewWorths_5 : decode cX11_renewWorths 5 = .ok (.getfield 92, 3) := by decide +kernel
theorem dX11_renewWorths_8 : decode cX11_renewWorths 8 = .ok (.aload_n 0, 1) := by decide +kernel
theorem dX11_renewWorths_9 : decode cX11_renewWorths 9 = .ok (.getfield 82, 3) := by decide +kernel
theorem dX11_renewWorths_12 : decode cX11_renewWorths 12 = .ok (.aload_n 0, 1) := by decide +kernel
theorem dX11_renewWorths_13 : decode cX11_renewWorths 13 = .ok (.getfield 26, 3) := by decide +kernel
theorem dX11_renewWorths_16 : decode cX11_renewWorths 16 = .ok (.invokevirtual 385, 3) := by decide +kernel
theorem dX11_renewWorths_19 : decode cX11_renewWorths 19 = .ok (.return_, 1) := by decide +kernel
def xX11_renewWorths_0 (s_X10_renew : zq_Sp) (Q : zq_Q) (ls : zq_L) (st : List Value) (h : zq_H) : Prop := (zi_aload 0 (zi_getR 0 9 (zi_aload 0 (zi_getR 0 48 (zi_aload 0 (zi_getR 0 40 (zi_aload 0 (zi_getR 0 5 (zi_callV 3 9 s_X10_renew (zi_vret Q)))))))))) ls st h
theorem kX11_renewWorths_0 {X : zq_X} {d : Nat} (C : zq_C X cX11_renewWorths 1 RX11 d) {d_X10_renew : Nat} {s_X10_renew : zq_Sp} (h_X10_renew : zq_M yX10_renew cX10_renew 8 none 0 d_X10_renew s_X10_renew) (g_X10_renew : d_X10_renew + 1 ≤ d) {Q : zq_Q} (hq : zq_R X none 0 Q) : zq_ok X 1 0 (xX11_renewWorths_0 s_X10_renew Q) := by
  refine zs_aload_n C dX11_renewWorths_0 rfl ?_
  refine zs_getR C zp_0 zF11 (j := 3) ⟨by decide, rfl⟩ zw_318 dX11_renewWorths_1 ?_
  refine zs_aload_n C dX11_renewWorths_4 rfl ?_
  refine zs_getR C zp_0 zF11 (j := 13) ⟨by decide, rfl⟩ zw_328 dX11_renewWorths_5 ?_
  refine zs_aload_n C dX11_renewWorths_8 rfl ?_
  refine zs_getR C zp_0 zF11 (j := 11) ⟨by decide, rfl⟩ zw_326 dX11_renewWorths_9 ?_
  refine zs_aload_n C dX11_renewWorths_12 rfl ?_
  refine zs_getR C zp_0 zF11 (j := 2) ⟨by decide, rfl⟩ zw_317 dX11_renewWorths_13 ?_
  refine zs_callV C h_X10_renew g_X10_renew zy_X10_renew zp_9 (show vwCl[10]? = some (RX10, TX10, 3) from rfl) zw_431 zw_432 zs9_X10_renew dX11_renewWorths_16 ?_
  exact zs_vret C hq dX11_renewWorths_19
theorem mX11_renewWorths {d : Nat} {spec : zq_Sp} {d_X10_renew : Nat} {s_X10_renew : zq_Sp} (h_X10_renew : zq_M yX10_renew cX10_renew 8 none 0 d_X10_renew s_X10_renew) (g_X10_renew : d_X10_renew + 1 ≤ d) (v : ∀ args h Q, spec args h Q → (zq_a args).length ≤ 1 ∧ xX11_renewWorths_0 s_X10_renew Q (zq_l0 1 args) [] h) : zq_M yX11_renewWorths cX11_renewWorths 1 none 0 d spec := by
  refine zq_met (by decide +kernel) (by decide) (fun X Q args h C hq hs => ⟨(v args h Q hs).1, _, ?_, (v args h Q hs).2⟩)
  exact kX11_renewWorths_0 C h_X10_renew g_X10_renew hq
/-! ToOneCrumb.sheetEntry(II)I -/
theorem dX11_sheetEntry_0 : decode cX11_sheetEntry 0 = .ok (.iload_n 0, 1) := by decide +kernel
theorem dX11_sheetEntry_1 : decode cX11_sheetEntry 1 = .ok (.ifCond .ne 8, 3) := by decide +kernel
theorem dX11_sheetEntry_4 : decode cX11_sheetEntry 4 = .ok (.iload_n 1, 1) := by decide +kernel
theorem dX11_sheetEntry_5 : decode cX11_sheetEntry 5 = .ok (.i2b, 1) := by decide +kernel
theorem dX11_sheetEntry_6 : decode cX11_sheetEntry 6 = .ok (.goto 14, 3) := by decide +kernel
theorem dX11_sheetEntry_9 : decode cX11_sheetEntry 9 = .ok (.iload_n 0, 1) := by decide +kernel
theorem dX11_sheetEntry_10 : decode cX11_sheetEntry 10 = .ok (.iconst 1, 1) := by decide +kernel
theorem dX11_sheetEntry_11 : decode cX11_sheetEntry 11 = .ok (.if_icmp .ne 8, 3) := by decide +kernel
theorem dX11_sheetEntry_14 : decode cX11_sheetEntry 14 = .ok (.iload_n 1, 1) := by decide +kernel
theorem dX11_sheetEntry_15 : decode cX11_sheetEntry 15 = .ok (.i2s, 1) := by decide +kernel
theorem dX11_sheetEntry_16 : decode cX11_sheetEntry 16 = .ok (.goto 4, 3) := by decide +kernel
theorem dX11_sheetEntry_19 : decode cX11_sheetEntry 19 = .ok (.iload_n 1, 1) := by decide +kernel
theorem dX11_sheetEntry_20 : decode cX11_sheetEntry 20 = .ok (.istore_n 2, 1) := by decide +kernel
theorem dX11_sheetEntry_21 : decode cX11_sheetEntry 21 = .ok (.iconst 0, 1) := by decide +kernel
theorem dX11_sheetEntry_22 : decode cX11_sheetEntry 22 = .ok (.bipush 9, 2) := by decide +kernel
theorem dX11_sheetEntry_24 : decode cX11_sheetEntry 24 = .ok (.iload_n 2, 1) := by decide +kernel
theorem dX11_sheetEntry_25 : decode cX11_sheetEntry 25 = .ok (.invokestatic 337, 3) := by decide +kernel
theorem dX11_sheetEntry_28 : decode cX11_sheetEntry 28 = .ok (.invokestatic 340, 3) := by decide +kernel
theorem dX11_sheetEntry_31 : decode cX11_sheetEntry 31 = .ok (.ireturn, 1) := by decide +kernel
def xX11_sheetEntry_20 (Q : zq_Q) (ls : zq_L) (st : List Value) (h : zq_H) : Prop := (zi_istore 2 (zi_push (.int 0) (zi_push (.int 9) (zi_iload 2 (zi_m2 zf_min (zi_m2 zf_max (zi_iret Q))))))) ls st h
theorem kX11_sheetEntry_20 {X : zq_X} {d : Nat} (C : zq_C X cX11_sheetEntry 3 RX11 d) (hd1 : 1 ≤ d) {Q : zq_Q} (hq : zq_R X (some .int) 1 Q) : zq_ok X 3 20 (xX11_sheetEntry_20 Q) := by
  refine zs_istore_n C dX11_sheetEntry_20 rfl (by decide) ?_
  refine zs_iconst C dX11_sheetEntry_21 (by decide) ?_
  refine zs_bipush C dX11_sheetEntry_22 (by decide) ?_
  refine zs_iload_n C dX11_sheetEntry_24 rfl ?_
  refine zs_mmin C hd1 zw_573 zw_393 zw_14 zw_394 dX11_sheetEntry_25 ?_
  refine zs_mmax C hd1 zw_574 zw_454 zw_14 zw_455 dX11_sheetEntry_28 ?_
  exact zs_iret C hq dX11_sheetEntry_31
def xX11_sheetEntry_19 (Q : zq_Q) (ls : zq_L) (st : List Value) (h : zq_H) : Prop := (zi_iload 1 ((xX11_sheetEntry_20 Q))) ls st h
theorem kX11_sheetEntry_19 {X : zq_X} {d : Nat} (C : zq_C X cX11_sheetEntry 3 RX11 d) (hd1 : 1 ≤ d) {Q : zq_Q} (hq : zq_R X (some .int) 1 Q) : zq_ok X 3 19 (xX11_sheetEntry_19 Q) := by
  refine zs_iload_n C dX11_sheetEntry_19 rfl ?_
  exact kX11_sheetEntry_20 C hd1 hq
def xX11_sheetEntry_14 (Q : zq_Q) (ls : zq_L) (st : List Value) (h : zq_H) : Prop := (zi_iload 1 (zi_i1 (fun x => x.toInt16.toInt32) ((xX11_sheetEntry_20 Q)))) ls st h
theorem kX11_sheetEntry_14 {X : zq_X} {d : Nat} (C : zq_C X cX11_sheetEntry 3 RX11 d) (hd1 : 1 ≤ d) {Q : zq_Q} (hq : zq_R X (some .int) 1 Q) : zq_ok X 3 14 (xX11_sheetEntry_14 Q) := by
  refine zs_iload_n C dX11_sheetEntry_14 rfl ?_
  refine zs_i2s C dX11_sheetEntry_15 ?_
  exact zs_goto C dX11_sheetEntry_16 (by decide) (kX11_sheetEntry_20 C hd1 hq)
def xX11_sheetEntry_9 (Q : zq_Q) (ls : zq_L) (st : List Value) (h : zq_H) : Prop := (zi_iload 0 (zi_push (.int 1) (zi_if2 (fun x y => x = y) (xX11_sheetEntry_14 Q) (xX11_sheetEntry_19 Q)))) ls st h
theorem kX11_sheetEntry_9 {X : zq_X} {d : Nat} (C : zq_C X cX11_sheetEntry 3 RX11 d) (hd1 : 1 ≤ d) {Q : zq_Q} (hq : zq_R X (some .int) 1 Q) : zq_ok X 3 9 (xX11_sheetEntry_9 Q) := by
  refine zs_iload_n C dX11_sheetEntry_9 rfl ?_
  refine zs_iconst C dX11_sheetEntry_10 (by decide) ?_
  exact zs_icmp_ne C dX11_sheetEntry_11 (by decide) (kX11_sheetEntry_19 C hd1 hq) (kX11_sheetEntry_14 C hd1 hq)
def xX11_sheetEntry_4 (Q : zq_Q) (ls : zq_L) (st : List Value) (h : zq_H) : Prop := (zi_iload 1 (zi_i1 (fun x => x.toInt8.toInt32) ((xX11_sheetEntry_20 Q)))) ls st h
theorem kX11_sheetEntry_4 {X : zq_X} {d : Nat} (C : zq_C X cX11_sheetEntry 3 RX11 d) (hd1 : 1 ≤ d) {Q : zq_Q} (hq : zq_R X (some .int) 1 Q) : zq_ok X 3 4 (xX11_sheetEntry_4 Q) := by
  refine zs_iload_n C dX11_sheetEntry_4 rfl ?_
  refine zs_i2b C dX11_sheetEntry_5 ?_
  exact zs_goto C dX11_sheetEntry_6 (by decide) (kX11_sheetEntry_20 C hd1 hq)
def xX11_sheetEntry_0 (Q : zq_Q) (ls : zq_L) (st : List Value) (h : zq_H) : Prop := (zi_iload 0 (zi_if1 (fun x => x = 0) (xX11_sheetEntry_4 Q) (xX11_sheetEntry_9 Q))) ls st h
theorem kX11_sheetEntry_0 {X : zq_X} {d : Nat} (C : zq_C X cX11_sheetEntry 3 RX11 d) (hd1 : 1 ≤ d) {Q : zq_Q} (hq : zq_R X (some .int) 1 Q) : zq_ok X 3 0 (xX11_sheetEntry_0 Q) := by
  refine zs_iload_n C dX11_sheetEntry_0 rfl ?_
  exact zs_if_ne C dX11_sheetEntry_1 (by decide) (kX11_sheetEntry_9 C hd1 hq) (kX11_sheetEntry_4 C hd1 hq)
theorem mX11_sheetEntry {d : Nat} {spec : zq_Sp} (hd1 : 1 ≤ d) (v : ∀ args h Q, spec args h Q → (zq_a args).length ≤ 3 ∧ xX11_sheetEntry_0 Q (zq_l0 3 args) [] h) : zq_M yX11_sheetEntry cX11_sheetEntry 3 (some .int) 1 d spec := by
  refine zq_met (by decide +kernel) (by decide) (fun X Q args h C hq hs => ⟨(v args h Q hs).1, _, ?_, (v args h Q hs).2⟩)
  exact kX11_sheetEntry_0 C hd1 hq
/-! ToOneCrumb.cellsWith(I)I -/
theorem dX11_cellsWith_0 : decode cX11_cellsWith 0 = .ok (.iconst 0, 1) := by decide +kernel
theorem dX11_cellsWith_1 : decode cX11_cellsWith 1 = .ok (.istore_n 2, 1) := by decide +kernel
theorem dX11_cellsWith_2 : decode cX11_cellsWith 2 = .ok (.iconst 0, 1) := by decide +kernel
theorem dX11_cellsWith_3 : decode cX11_cellsWith 3 = .ok (.istore_n 3, 1) := by decide +kernel
theorem dX11_cellsWith_4 : decode cX11_cellsWith 4 = .ok (.iload_n 3, 1) := by decide +kernel
theorem dX11_cellsWith_5 : decode cX11_cellsWith 5 = .ok (.aload_n 0, 1) := by decide +kernel
theorem dX11_cellsWith_6 : decode cX11_cellsWith 6 = .ok (.getfield 82, 3) := by decide +kernel
theorem dX11_cellsWith_9 : decode cX11_cellsWith 9 = .ok (.getfield 128, 3) := by decide +kernel
theorem dX11_cellsWith_12 : decode cX11_cellsWith 12 = .ok (.if_icmp .ge 24, 3) := by decide +kernel
theorem dX11_cellsWith_15 : decode cX11_cellsWith 15 = .ok (.aload_n 0, 1) := by decide +kernel
theorem dX11_cellsWith_16 : decode cX11_cellsWith 16 = .ok (.getfield 40, 3) := by decide +kernel
theorem dX11_cellsWith_19 : decode cX11_cellsWith 19 = .ok (.iload_n 3, 1) := by decide +kernel
theorem dX11_cellsWith_20 : decode cX11_cellsWith 20 = .ok (.invokevirtual 168, 3) := by decide +kernel
theorem dX11_cellsWith_23 : decode cX11_cellsWith 23 = .ok (.iload_n 1, 1) := by decide +kernel
theorem dX11_cellsWith_24 : decode cX11_cellsWith 24 = .ok (.if_icmp .ne 6, 3) := by decide +kernel
theorem dX11_cellsWith_27 : decode cX11_cellsWith 27 = .ok (.iinc 2 1, 3) := by decide +kernel
theorem dX11_cellsWith_30 : decode cX11_cellsWith 30 = .ok (.iinc 3 1, 3) := by decide +kernel
theorem dX11_cellsWith_33 : decode cX11_cellsWith 33 = .ok (.goto (-29), 3) := by decide +kernel
theorem dX11_cellsWith_36 : decode cX11_cellsWith 36 = .ok (.iload_n 2, 1) := by decide +kernel
theorem dX11_cellsWith_37 : decode cX11_cellsWith 37 = .ok (.ireturn, 1) := by decide +kernel
def xX11_cellsWith_36 (s_X0_holderOf : zq_Sp) (J4 : zq_P) (Q : zq_Q) (ls : zq_L) (st : List Value) (h : zq_H) : Prop := (zi_iload 2 (zi_iret Q)) ls st h
theorem kX11_cellsWith_36 {X : zq_X} {d : Nat} (C : zq_C X cX11_cellsWith 4 RX11 d) {d_X0_holderOf : Nat} {s_X0_holderOf : zq_Sp} (h_X0_holderOf : zq_M yX0_holderOf cX0_holderOf 2 (some .int) 1 d_X0_holderOf s_X0_holderOf) (g_X0_holderOf : d_X0_holderOf + 1 ≤ d) {J4 : zq_P} (j4 : zq_ok X 4 4 J4) {Q : zq_Q} (hq : zq_R X (some .int) 1 Q) : zq_ok X 4 36 (xX11_cellsWith_36 s_X0_holderOf J4 Q) := by
  refine zs_iload_n C dX11_cellsWith_36 rfl ?_
  exact zs_iret C hq dX11_cellsWith_37
def xX11_cellsWith_30 (s_X0_holderOf : zq_Sp) (J4 : zq_P) (Q : zq_Q) (ls : zq_L) (st : List Value) (h : zq_H) : Prop := (zi_iinc 3 1 (J4)) ls st h
theorem kX11_cellsWith_30 {X : zq_X} {d : Nat} (C : zq_C X cX11_cellsWith 4 RX11 d) {d_X0_holderOf : Nat} {s_X0_holderOf : zq_Sp} (h_X0_holderOf : zq_M yX0_holderOf cX0_holderOf 2 (some .int) 1 d_X0_holderOf s_X0_holderOf) (g_X0_holderOf : d_X0_holderOf + 1 ≤ d) {J4 : zq_P} (j4 : zq_ok X 4 4 J4) {Q : zq_Q} (hq : zq_R X (some .int) 1 Q) : zq_ok X 4 30 (xX11_cellsWith_30 s_X0_holderOf J4 Q) := by
  refine zs_iinc C dX11_cellsWith_30 (by decide) (by decide) ?_
  exact zs_goto C dX11_cellsWith_33 (by decide) (j4)
def xX11_cellsWith_27 (s_X0_holderOf : zq_Sp) (J4 : zq_P) (Q : zq_Q) (ls : zq_L) (st : List Value) (h : zq_H) : Prop := (zi_iinc 2 1 ((xX11_cellsWith_30 s_X0_holderOf J4 Q))) ls st h
theorem kX11_cellsWith_27 {X : zq_X} {d : Nat} (C : zq_C X cX11_cellsWith 4 RX11 d) {d_X0_holderOf : Nat} {s_X0_holderOf : zq_Sp} (h_X0_holderOf : zq_M yX0_holderOf cX0_holderOf 2 (some .int) 1 d_X0_holderOf s_X0_holderOf) (g_X0_holderOf : d_X0_holderOf + 1 ≤ d) {J4 : zq_P} (j4 : zq_ok X 4 4 J4) {Q : zq_Q} (hq : zq_R X (some .int) 1 Q) : zq_ok X 4 27 (xX11_cellsWith_27 s_X0_holderOf J4 Q) := by
  refine zs_iinc C dX11_cellsWith_27 (by decide) (by decide) ?_
  exact kX11_cellsWith_30 C h_X0_holderOf g_X0_holderOf j4 hq
def xX11_cellsWith_15 (s_X0_holderOf : zq_Sp) (J4 : zq_P) (Q : zq_Q) (ls : zq_L) (st : List Value) (h : zq_H) : Prop := (zi_aload 0 (zi_getR 0 12 (zi_iload 3 (zi_callV 1 12 s_X0_holderOf (zi_iload 1 (zi_if2 (fun x y => x = y) (xX11_cellsWith_27 s_X0_holderOf J4 Q) (xX11_cellsWith_30 s_X0_holderOf J4 Q))))))) ls st h
theorem kX11_cellsWith_15 {X : zq_X} {d : Nat} (C : zq_C X cX11_cellsWith 4 RX11 d) {d_X0_holderOf : Nat} {s_X0_holderOf : zq_Sp} (h_X0_holderOf : zq_M yX0_holderOf cX0_holderOf 2 (some .int) 1 d_X0_holderOf s_X0_holderOf) (g_X0_holderOf : d_X0_holderOf + 1 ≤ d) {J4 : zq_P} (j4 : zq_ok X 4 4 J4) {Q : zq_Q} (hq : zq_R X (some .int) 1 Q) : zq_ok X 4 15 (xX11_cellsWith_15 s_X0_holderOf J4 Q) := by
  refine zs_aload_n C dX11_cellsWith_15 rfl ?_
  refine zs_getR C zp_0 zF11 (j := 4) ⟨by decide, rfl⟩ zw_319 dX11_cellsWith_16 ?_
  refine zs_iload_n C dX11_cellsWith_19 rfl ?_
  refine zs_callV C h_X0_holderOf g_X0_holderOf zy_X0_holderOf zp_12 (show vwCl[0]? = some (RX0, TX0, 5) from rfl) zw_587 zw_588 zs9_X0_holderOf dX11_cellsWith_20 ?_
  refine zs_iload_n C dX11_cellsWith_23 rfl ?_
  exact zs_icmp_ne C dX11_cellsWith_24 (by decide) (kX11_cellsWith_30 C h_X0_holderOf g_X0_holderOf j4 hq) (kX11_cellsWith_27 C h_X0_holderOf g_X0_holderOf j4 hq)
def xX11_cellsWith_4 (s_X0_holderOf : zq_Sp) (J4 : zq_P) (Q : zq_Q) (ls : zq_L) (st : List Value) (h : zq_H) : Prop := (zi_iload 3 (zi_aload 0 (zi_getR 0 40 (zi_getI 40 3 (zi_if2 (fun x y => y ≤ x) (xX11_cellsWith_36 s_X0_holderOf J4 Q) (xX11_cellsWith_15 s_X0_holderOf J4 Q)))))) ls st h
theorem kX11_cellsWith_4 {X : zq_X} {d : Nat} (C : zq_C X cX11_cellsWith 4 RX11 d) {d_X0_holderOf : Nat} {s_X0_holderOf : zq_Sp} (h_X0_holderOf : zq_M yX0_holderOf cX0_holderOf 2 (some .int) 1 d_X0_holderOf s_X0_holderOf) (g_X0_holderOf : d_X0_holderOf + 1 ≤ d) {J4 : zq_P} (j4 : zq_ok X 4 4 J4) {Q : zq_Q} (hq : zq_R X (some .int) 1 Q) : zq_ok X 4 4 (xX11_cellsWith_4 s_X0_holderOf J4 Q) := by
  refine zs_iload_n C dX11_cellsWith_4 rfl ?_
  refine zs_aload_n C dX11_cellsWith_5 rfl ?_
  refine zs_getR C zp_0 zF11 (j := 11) ⟨by decide, rfl⟩ zw_326 dX11_cellsWith_6 ?_
  refine zs_getIN C zp_40 zF2 (j := 3) ⟨by decide, rfl⟩ zw_273 dX11_cellsWith_9 ?_
  exact zs_icmp_ge C dX11_cellsWith_12 (by decide) (kX11_cellsWith_36 C h_X0_holderOf g_X0_holderOf j4 hq) (kX11_cellsWith_15 C h_X0_holderOf g_X0_holderOf j4 hq)
def xX11_cellsWith_0 (s_X0_holderOf : zq_Sp) (J4 : zq_P) (Q : zq_Q) (ls : zq_L) (st : List Value) (h : zq_H) : Prop := (zi_push (.int 0) (zi_istore 2 (zi_push (.int 0) (zi_istore 3 (J4))))) ls st h
theorem kX11_cellsWith_0 {X : zq_X} {d : Nat} (C : zq_C X cX11_cellsWith 4 RX11 d) {d_X0_holderOf : Nat} {s_X0_holderOf : zq_Sp} (h_X0_holderOf : zq_M yX0_holderOf cX0_holderOf 2 (some .int) 1 d_X0_holderOf s_X0_holderOf) (g_X0_holderOf : d_X0_holderOf + 1 ≤ d) {J4 : zq_P} (j4 : zq_ok X 4 4 J4) {Q : zq_Q} (hq : zq_R X (some .int) 1 Q) : zq_ok X 4 0 (xX11_cellsWith_0 s_X0_holderOf J4 Q) := by
  refine zs_iconst C dX11_cellsWith_0 (by decide) ?_
  refine zs_istore_n C dX11_cellsWith_1 rfl (by decide) ?_
  refine zs_iconst C dX11_cellsWith_2 (by decide) ?_
  refine zs_istore_n C dX11_cellsWith_3 rfl (by decide) ?_
  exact j4
theorem mX11_cellsWith {d : Nat} {spec : zq_Sp} {σ4 : Type} {d_X0_holderOf : Nat} {s_X0_holderOf : zq_Sp} (h_X0_holderOf : zq_M yX0_holderOf cX0_holderOf 2 (some .int) 1 d_X0_holderOf s_X0_holderOf) (g_X0_holderOf : d_X0_holderOf + 1 ≤ d) (μ4 : σ4 → Nat) (I4 : zq_Q → σ4 → zq_P) (v : ∀ args h Q, spec args h Q → (zq_a args).length ≤ 4 ∧ xX11_cellsWith_0 s_X0_holderOf (fun ls st h => ∃ b, I4 Q b ls st h) Q (zq_l0 4 args) [] h) (v4 : ∀ Q a ls st h, I4 Q a ls st h → xX11_cellsWith_4 s_X0_holderOf (fun ls st h => ∃ b, μ4 b < μ4 a ∧ I4 Q b ls st h) Q ls st h) : zq_M yX11_cellsWith cX11_cellsWith 4 (some .int) 1 d spec := by
  refine zq_met (by decide +kernel) (by decide) (fun X Q args h C hq hs => ⟨(v args h Q hs).1, _, ?_, (v args h Q hs).2⟩)
  have hl := zq_loop1 (X := X) (nL := 4) (pc1 := 4) μ4 (I4 Q) (fun J4 => xX11_cellsWith_4 s_X0_holderOf J4 Q) (fun j4 => kX11_cellsWith_4 C h_X0_holderOf g_X0_holderOf j4 hq) (v4 Q)
  exact kX11_cellsWith_0 C h_X0_holderOf g_X0_holderOf hl hq
/-! ToOneCrumb.worthHeld(II)I -/
theorem dX11_worthHeld_0 : decode cX11_worthHeld 0 = .ok (.iconst 0, 1) := by decide +kernel
theorem dX11_worthHeld_1 : decode cX11_worthHeld 1 = .ok (.istore_n 3, 1) := by decide +kernel
theorem dX11_worthHeld_2 : decode cX11_worthHeld 2 = .ok (.iconst 0, 1) := by decide +kernel
theorem dX11_worthHeld_3 : decode cX11_worthHeld 3 = .ok (.istore 4, 2) := by decide +kernel
theorem dX11_worthHeld_5 : decode cX11_worthHeld 5 = .ok (.iload 4, 2) := by decide +kernel
theorem dX11_worthHeld_7 : decode cX11_worthHeld 7 = .ok (.aload_n 0, 1) := by decide +kernel
theorem dX11_worthHeld_8 : decode cX11_worthHeld 8 = .ok (.getfield 82, 3) := by decide +kernel
theorem dX11_worthHeld_11 : decode cX11_worthHeld 11 = .ok (.getfield 128, 3) := by decide +kernel
theorem dX11_worthHeld_14 : decode cX11_worthHeld 14 = .ok (.if_icmp .ge 35, 3) := by decide +kernel
theorem dX11_worthHeld_17 : decode cX11_worthHeld 17 = .ok (.aload_n 0, 1) := by decide +kernel
theorem dX11_worthHeld_18 : decode cX11_worthHeld 18 = .ok (.getfield 40, 3) := by decide +kernel
theorem dX11_worthHeld_21 : decode cX11_worthHeld 21 = .ok (.iload 4, 2) := by decide +kernel
theorem dX11_worthHeld_23 : decode cX11_worthHeld 23 = .ok (.invokevirtual 168, 3) := by decide +kernel
theorem dX11_worthHeld_26 : decode cX11_worthHeld 26 = .ok (.iload_n 2, 1) := by decide +kernel
theorem dX11_worthHeld_27 : decode cX11_worthHeld 27 = .ok (.if_icmp .ne 16, 3) := by decide +kernel
theorem dX11_worthHeld_30 : decode cX11_worthHeld 30 = .ok (.iload_n 3, 1) := by decide +kernel
theorem dX11_worthHeld_31 : decode cX11_worthHeld 31 = .ok (.aload_n 0, 1) := by decide +kernel
theorem dX11_worthHeld_32 : decode cX11_worthHeld 32 = .ok (.getfield 33, 3) := by decide +kernel
theorem dX11_worthHeld_35 : decode cX11_worthHeld 35 = .ok (.iload_n 1, 1) := by decide +kernel
theorem dX11_worthHeld_36 : decode cX11_worthHeld 36 = .ok (.iload 4, 2) := by decide +kernel
theorem dX11_worthHeld_38 : decode cX11_worthHeld 38 = .ok (.invokevirtual 195, 3) := by decide +kernel
theorem dX11_worthHeld_41 : decode cX11_worthHeld 41 = .ok (.iadd, 1) := by decide +kernel
theorem dX11_worthHeld_42 : decode cX11_worthHeld 42 = .ok (.istore_n 3, 1) := by decide +kernel
theorem dX11_worthHeld_43 : decode cX11_worthHeld 43 = .ok (.iinc 4 1, 3) := by decide +kernel
theorem dX11_worthHeld_46 : decode cX11_worthHeld 46 = .ok (.goto (-41), 3) := by decide +kernel
theorem dX11_worthHeld_49 : decode cX11_worthHeld 49 = .ok (.iload_n 3, 1) := by decide +kernel
theorem dX11_worthHeld_50 : decode cX11_worthHeld 50 = .ok (.ireturn, 1) := by decide +kernel
def xX11_worthHeld_49 (s_X0_holderOf : zq_Sp) (s_X10_of : zq_Sp) (J5 : zq_P) (Q : zq_Q) (ls : zq_L) (st : List Value) (h : zq_H) : Prop := (zi_iload 3 (zi_iret Q)) ls st h
theorem kX11_worthHeld_49 {X : zq_X} {d : Nat} (C : zq_C X cX11_worthHeld 5 RX11 d) {d_X0_holderOf : Nat} {s_X0_holderOf : zq_Sp} (h_X0_holderOf : zq_M yX0_holderOf cX0_holderOf 2 (some .int) 1 d_X0_holderOf s_X0_holderOf) (g_X0_holderOf : d_X0_holderOf + 1 ≤ d) {d_X10_of : Nat} {s_X10_of : zq_Sp} (h_X10_of : zq_M yX10_of cX10_of 3 (some .int) 1 d_X10_of s_X10_of) (g_X10_of : d_X10_of + 1 ≤ d) {J5 : zq_P} (j5 : zq_ok X 5 5 J5) {Q : zq_Q} (hq : zq_R X (some .int) 1 Q) : zq_ok X 5 49 (xX11_worthHeld_49 s_X0_holderOf s_X10_of J5 Q) := by
  refine zs_iload_n C dX11_worthHeld_49 rfl ?_
  exact zs_iret C hq dX11_worthHeld_50
def xX11_worthHeld_43 (s_X0_holderOf : zq_Sp) (s_X10_of : zq_Sp) (J5 : zq_P) (Q : zq_Q) (ls : zq_L) (st : List Value) (h : zq_H) : Prop := (zi_iinc 4 1 (J5)) ls st h
theorem kX11_worthHeld_43 {X : zq_X} {d : Nat} (C : zq_C X cX11_worthHeld 5 RX11 d) {d_X0_holderOf : Nat} {s_X0_holderOf : zq_Sp} (h_X0_holderOf : zq_M yX0_holderOf cX0_holderOf 2 (some .int) 1 d_X0_holderOf s_X0_holderOf) (g_X0_holderOf : d_X0_holderOf + 1 ≤ d) {d_X10_of : Nat} {s_X10_of : zq_Sp} (h_X10_of : zq_M yX10_of cX10_of 3 (some .int) 1 d_X10_of s_X10_of) (g_X10_of : d_X10_of + 1 ≤ d) {J5 : zq_P} (j5 : zq_ok X 5 5 J5) {Q : zq_Q} (hq : zq_R X (some .int) 1 Q) : zq_ok X 5 43 (xX11_worthHeld_43 s_X0_holderOf s_X10_of J5 Q) := by
  refine zs_iinc C dX11_worthHeld_43 (by decide) (by decide) ?_
  exact zs_goto C dX11_worthHeld_46 (by decide) (j5)
def xX11_worthHeld_30 (s_X0_holderOf : zq_Sp) (s_X10_of : zq_Sp) (J5 : zq_P) (Q : zq_Q) (ls : zq_L) (st : List Value) (h : zq_H) : Prop := (zi_iload 3 (zi_aload 0 (zi_getR 0 9 (zi_iload 1 (zi_iload 4 (zi_callV 2 9 s_X10_of (zi_i2 (fun x y => x + y) (zi_istore 3 ((xX11_worthHeld_43 s_X0_holderOf s_X10_of J5 Q)))))))))) ls st h
theorem kX11_worthHeld_30 {X : zq_X} {d : Nat} (C : zq_C X cX11_worthHeld 5 RX11 d) {d_X0_holderOf : Nat} {s_X0_holderOf : zq_Sp} (h_X0_holderOf : zq_M yX0_holderOf cX0_holderOf 2 (some .int) 1 d_X0_holderOf s_X0_holderOf) (g_X0_holderOf : d_X0_holderOf + 1 ≤ d) {d_X10_of : Nat} {s_X10_of : zq_Sp} (h_X10_of : zq_M yX10_of cX10_of 3 (some .int) 1 d_X10_of s_X10_of) (g_X10_of : d_X10_of + 1 ≤ d) {J5 : zq_P} (j5 : zq_ok X 5 5 J5) {Q : zq_Q} (hq : zq_R X (some .int) 1 Q) : zq_ok X 5 30 (xX11_worthHeld_30 s_X0_holderOf s_X10_of J5 Q) := by
  refine zs_iload_n C dX11_worthHeld_30 rfl ?_
  refine zs_aload_n C dX11_worthHeld_31 rfl ?_
  refine zs_getR C zp_0 zF11 (j := 3) ⟨by decide, rfl⟩ zw_318 dX11_worthHeld_32 ?_
  refine zs_iload_n C dX11_worthHeld_35 rfl ?_
  refine zs_iload C dX11_worthHeld_36 ?_
  refine zs_callV C h_X10_of g_X10_of zy_X10_of zp_9 (show vwCl[10]? = some (RX10, TX10, 3) from rfl) zw_554 zw_555 zs9_X10_of dX11_worthHeld_38 ?_
  refine zs_iadd C dX11_worthHeld_41 ?_
  refine zs_istore_n C dX11_worthHeld_42 rfl (by decide) ?_
  exact kX11_worthHeld_43 C h_X0_holderOf g_X0_holderOf h_X10_of g_X10_of j5 hq
def xX11_worthHeld_17 (s_X0_holderOf : zq_Sp) (s_X10_of : zq_Sp) (J5 : zq_P) (Q : zq_Q) (ls : zq_L) (st : List Value) (h : zq_H) : Prop := (zi_aload 0 (zi_getR 0 12 (zi_iload 4 (zi_callV 1 12 s_X0_holderOf (zi_iload 2 (zi_if2 (fun x y => x = y) (xX11_worthHeld_30 s_X0_holderOf s_X10_of J5 Q) (xX11_worthHeld_43 s_X0_holderOf s_X10_of J5 Q))))))) ls st h
theorem kX11_worthHeld_17 {X : zq_X} {d : Nat} (C : zq_C X cX11_worthHeld 5 RX11 d) {d_X0_holderOf : Nat} {s_X0_holderOf : zq_Sp} (h_X0_holderOf : zq_M yX0_holderOf cX0_holderOf 2 (some .int) 1 d_X0_holderOf s_X0_holderOf) (g_X0_holderOf : d_X0_holderOf + 1 ≤ d) {d_X10_of : Nat} {s_X10_of : zq_Sp} (h_X10_of : zq_M yX10_of cX10_of 3 (some .int) 1 d_X10_of s_X10_of) (g_X10_of : d_X10_of + 1 ≤ d) {J5 : zq_P} (j5 : zq_ok X 5 5 J5) {Q : zq_Q} (hq : zq_R X (some .int) 1 Q) : zq_ok X 5 17 (xX11_worthHeld_17 s_X0_holderOf s_X10_of J5 Q) := by
  refine zs_aload_n C dX11_worthHeld_17 rfl ?_
  refine zs_getR C zp_0 zF11 (j := 4) ⟨by decide, rfl⟩ zw_319 dX11_worthHeld_18 ?_
  refine zs_iload C dX11_worthHeld_21 ?_
  refine zs_callV C h_X0_holderOf g_X0_holderOf zy_X0_holderOf zp_12 (show vwCl[0]? = some (RX0, TX0, 5) from rfl) zw_587 zw_588 zs9_X0_holderOf dX11_worthHeld_23 ?_
  refine zs_iload_n C dX11_worthHeld_26 rfl ?_
  exact zs_icmp_ne C dX11_worthHeld_27 (by decide) (kX11_worthHeld_43 C h_X0_holderOf g_X0_holderOf h_X10_of g_X10_of j5 hq) (kX11_worthHeld_30 C h_X0_holderOf g_X0_holderOf h_X10_of g_X10_of j5 hq)
def xX11_worthHeld_5 (s_X0_holderOf : zq_Sp) (s_X10_of : zq_Sp) (J5 : zq_P) (Q : zq_Q) (ls : zq_L) (st : List Value) (h : zq_H) : Prop := (zi_iload 4 (zi_aload 0 (zi_getR 0 40 (zi_getI 40 3 (zi_if2 (fun x y => y ≤ x) (xX11_worthHeld_49 s_X0_holderOf s_X10_of J5 Q) (xX11_worthHeld_17 s_X0_holderOf s_X10_of J5 Q)))))) ls st h
theorem kX11_worthHeld_5 {X : zq_X} {d : Nat} (C : zq_C X cX11_worthHeld 5 RX11 d) {d_X0_holderOf : Nat} {s_X0_holderOf : zq_Sp} (h_X0_holderOf : zq_M yX0_holderOf cX0_holderOf 2 (some .int) 1 d_X0_holderOf s_X0_holderOf) (g_X0_holderOf : d_X0_holderOf + 1 ≤ d) {d_X10_of : Nat} {s_X10_of : zq_Sp} (h_X10_of : zq_M yX10_of cX10_of 3 (some .int) 1 d_X10_of s_X10_of) (g_X10_of : d_X10_of + 1 ≤ d) {J5 : zq_P} (j5 : zq_ok X 5 5 J5) {Q : zq_Q} (hq : zq_R X (some .int) 1 Q) : zq_ok X 5 5 (xX11_worthHeld_5 s_X0_holderOf s_X10_of J5 Q) := by
  refine zs_iload C dX11_worthHeld_5 ?_
  refine zs_aload_n C dX11_worthHeld_7 rfl ?_
  refine zs_getR C zp_0 zF11 (j := 11) ⟨by decide, rfl⟩ zw_326 dX11_worthHeld_8 ?_
  refine zs_getIN C zp_40 zF2 (j := 3) ⟨by decide, rfl⟩ zw_273 dX11_worthHeld_11 ?_
  exact zs_icmp_ge C dX11_worthHeld_14 (by decide) (kX11_worthHeld_49 C h_X0_holderOf g_X0_holderOf h_X10_of g_X10_of j5 hq) (kX11_worthHeld_17 C h_X0_holderOf g_X0_holderOf h_X10_of g_X10_of j5 hq)
def xX11_worthHeld_0 (s_X0_holderOf : zq_Sp) (s_X10_of : zq_Sp) (J5 : zq_P) (Q : zq_Q) (ls : zq_L) (st : List Value) (h : zq_H) : Prop := (zi_push (.int 0) (zi_istore 3 (zi_push (.int 0) (zi_istore 4 (J5))))) ls st h
theorem kX11_worthHeld_0 {X : zq_X} {d : Nat} (C : zq_C X cX11_worthHeld 5 RX11 d) {d_X0_holderOf : Nat} {s_X0_holderOf : zq_Sp} (h_X0_holderOf : zq_M yX0_holderOf cX0_holderOf 2 (some .int) 1 d_X0_holderOf s_X0_holderOf) (g_X0_holderOf : d_X0_holderOf + 1 ≤ d) {d_X10_of : Nat} {s_X10_of : zq_Sp} (h_X10_of : zq_M yX10_of cX10_of 3 (some .int) 1 d_X10_of s_X10_of) (g_X10_of : d_X10_of + 1 ≤ d) {J5 : zq_P} (j5 : zq_ok X 5 5 J5) {Q : zq_Q} (hq : zq_R X (some .int) 1 Q) : zq_ok X 5 0 (xX11_worthHeld_0 s_X0_holderOf s_X10_of J5 Q) := by
  refine zs_iconst C dX11_worthHeld_0 (by decide) ?_
  refine zs_istore_n C dX11_worthHeld_1 rfl (by decide) ?_
  refine zs_iconst C dX11_worthHeld_2 (by decide) ?_
  refine zs_istore C dX11_worthHeld_3 (by decide) ?_
  exact j5
theorem mX11_worthHeld {d : Nat} {spec : zq_Sp} {σ5 : Type} {d_X0_holderOf : Nat} {s_X0_holderOf : zq_Sp} (h_X0_holderOf : zq_M yX0_holderOf cX0_holderOf 2 (some .int) 1 d_X0_holderOf s_X0_holderOf) (g_X0_holderOf : d_X0_holderOf + 1 ≤ d) {d_X10_of : Nat} {s_X10_of : zq_Sp} (h_X10_of : zq_M yX10_of cX10_of 3 (some .int) 1 d_X10_of s_X10_of) (g_X10_of : d_X10_of + 1 ≤ d) (μ5 : σ5 → Nat) (I5 : zq_Q → σ5 → zq_P) (v : ∀ args h Q, spec args h Q → (zq_a args).length ≤ 5 ∧ xX11_worthHeld_0 s_X0_holderOf s_X10_of (fun ls st h => ∃ b, I5 Q b ls st h) Q (zq_l0 5 args) [] h) (v5 : ∀ Q a ls st h, I5 Q a ls st h → xX11_worthHeld_5 s_X0_holderOf s_X10_of (fun ls st h => ∃ b, μ5 b < μ5 a ∧ I5 Q b ls st h) Q ls st h) : zq_M yX11_worthHeld cX11_worthHeld 5 (some .int) 1 d spec := by
  refine zq_met (by decide +kernel) (by decide) (fun X Q args h C hq hs => ⟨(v args h Q hs).1, _, ?_, (v args h Q hs).2⟩)
  have hl := zq_loop1 (X := X) (nL := 5) (pc1 := 5) μ5 (I5 Q) (fun J5 => xX11_worthHeld_5 s_X0_holderOf s_X10_of J5 Q) (fun j5 => kX11_worthHeld_5 C h_X0_holderOf g_X0_holderOf h_X10_of g_X10_of j5 hq) (v5 Q)
  exact kX11_worthHeld_0 C h_X0_holderOf g_X0_holderOf h_X10_of g_X10_of hl hq
/-! ToOneCrumb.hasDue(I)Z -/
theorem dX11_hasDue_0 : decode cX11_hasDue 0 = .ok (.aload_n 0, 1) := by decide +kernel
theorem dX11_hasDue_1 : decode cX11_hasDue 1 = .ok (.iload_n 1, 1) := by decide +kernel
theorem dX11_hasDue_2 : decode cX11_hasDue 2 = .ok (.iload_n 1, 1) := by decide +kernel
theorem dX11_hasDue_3 : decode cX11_hasDue 3 = .ok (.invokevirtual 182, 3) := by decide +kernel
theorem dX11_hasDue_6 : decode cX11_hasDue 6 = .ok (.i2l, 1) := by decide +kernel
theorem dX11_hasDue_7 : decode cX11_hasDue 7 = .ok (.aload_n 0, 1) := by decide +kernel
theorem dX11_hasDue_8 : decode cX11_hasDue 8 = .ok (.getfield 26, 3) := by decide +kernel
theorem dX11_hasDue_11 : decode cX11_hasDue 11 = .ok (.invokevirtual 145, 3) := by decide +kernel
theorem dX11_hasDue_14 : decode cX11_hasDue 14 = .ok (.i2l, 1) := by decide +kernel
theorem dX11_hasDue_15 : decode cX11_hasDue 15 = .ok (.lmul, 1) := by decide +kernel
theorem dX11_hasDue_16 : decode cX11_hasDue 16 = .ok (.lstore_n 2, 1) := by decide +kernel
theorem dX11_hasDue_17 : decode cX11_hasDue 17 = .ok (.lload_n 2, 1) := by decide +kernel
theorem dX11_hasDue_18 : decode cX11_hasDue 18 = .ok (.aload_n 0, 1) := by decide +kernel
theorem dX11_hasDue_19 : decode cX11_hasDue 19 = .ok (.getfield 26, 3) := by decide +kernel
theorem dX11_hasDue_22 : decode cX11_hasDue 22 = .ok (.getfield 176, 3) := by decide +kernel
theorem dX11_hasDue_25 : decode cX11_hasDue 25 = .ok (.iload_n 1, 1) := by decide +kernel
theorem dX11_hasDue_26 : decode cX11_hasDue 26 = .ok (.iaload, 1) := by decide +kernel
theorem dX11_hasDue_27 : decode cX11_hasDue 27 = .ok (.i2l, 1) := by decide +kernel
theorem dX11_hasDue_28 : decode cX11_hasDue 28 = .ok (.aload_n 0, 1) := by decide +kernel
theorem dX11_hasDue_29 : decode cX11_hasDue 29 = .ok (.getfield 33, 3) := by decide +kernel
theorem dX11_hasDue_32 : decode cX11_hasDue 32 = .ok (.iload_n 1, 1) := by decide +kernel
theorem dX11_hasDue_33 : decode cX11_hasDue 33 = .ok (.invokevirtual 186, 3) := by decide +kernel
theorem dX11_hasDue_36 : decode cX11_hasDue 36 = .ok (.i2l, 1) := by decide +kernel
theorem dX11_hasDue_37 : decode cX11_hasDue 37 = .ok (.lmul, 1) := by decide +kernel
theorem dX11_hasDue_38 : decode cX11_hasDue 38 = .ok (.lcmp, 1) := by decide +kernel
theorem dX11_hasDue_39 : decode cX11_hasDue 39 = .ok (.ifCond .lt 7, 3) := by decide +kernel
theorem dX11_hasDue_42 : decode cX11_hasDue 42 = .ok (.iconst 1, 1) := by decide +kernel
theorem dX11_hasDue_43 : decode cX11_hasDue 43 = .ok (.goto 4, 3) := by decide +kernel
theorem dX11_hasDue_46 : decode cX11_hasDue 46 = .ok (.iconst 0, 1) := by decide +kernel
theorem dX11_hasDue_47 : decode cX11_hasDue 47 = .ok (.ireturn, 1) := by decide +kernel
def xX11_hasDue_47 (s_X11_worthHeld : zq_Sp) (s_X3_allDeserts : zq_Sp) (s_X10_whole : zq_Sp) (Q : zq_Q) (ls : zq_L) (st : List Value) (h : zq_H) : Prop := (zi_zret Q) ls st h
theorem kX11_hasDue_47 {X : zq_X} {d : Nat} (C : zq_C X cX11_hasDue 4 RX11 d) {d_X11_worthHeld : Nat} {s_X11_worthHeld : zq_Sp} (h_X11_worthHeld : zq_M yX11_worthHeld cX11_worthHeld 5 (some .int) 1 d_X11_worthHeld s_X11_worthHeld) (g_X11_worthHeld : d_X11_worthHeld + 1 ≤ d) {d_X3_allDeserts : Nat} {s_X3_allDeserts : zq_Sp} (h_X3_allDeserts : zq_M yX3_allDeserts cX3_allDeserts 1 (some .int) 1 d_X3_allDeserts s_X3_allDeserts) (g_X3_allDeserts : d_X3_allDeserts + 1 ≤ d) {d_X10_whole : Nat} {s_X10_whole : zq_Sp} (h_X10_whole : zq_M yX10_whole cX10_whole 2 (some .int) 1 d_X10_whole s_X10_whole) (g_X10_whole : d_X10_whole + 1 ≤ d) {Q : zq_Q} (hq : zq_R X (some .boolean) 1 Q) : zq_ok X 4 47 (xX11_hasDue_47 s_X11_worthHeld s_X3_allDeserts s_X10_whole Q) := by
  exact zs_zret C hq dX11_hasDue_47
def xX11_hasDue_46 (s_X11_worthHeld : zq_Sp) (s_X3_allDeserts : zq_Sp) (s_X10_whole : zq_Sp) (Q : zq_Q) (ls : zq_L) (st : List Value) (h : zq_H) : Prop := (zi_push (.int 0) ((xX11_hasDue_47 s_X11_worthHeld s_X3_allDeserts s_X10_whole Q))) ls st h
theorem kX11_hasDue_46 {X : zq_X} {d : Nat} (C : zq_C X cX11_hasDue 4 RX11 d) {d_X11_worthHeld : Nat} {s_X11_worthHeld : zq_Sp} (h_X11_worthHeld : zq_M yX11_worthHeld cX11_worthHeld 5 (some .int) 1 d_X11_worthHeld s_X11_worthHeld) (g_X11_worthHeld : d_X11_worthHeld + 1 ≤ d) {d_X3_allDeserts : Nat} {s_X3_allDeserts : zq_Sp} (h_X3_allDeserts : zq_M yX3_allDeserts cX3_allDeserts 1 (some .int) 1 d_X3_allDeserts s_X3_allDeserts) (g_X3_allDeserts : d_X3_allDeserts + 1 ≤ d) {d_X10_whole : Nat} {s_X10_whole : zq_Sp} (h_X10_whole : zq_M yX10_whole cX10_whole 2 (some .int) 1 d_X10_whole s_X10_whole) (g_X10_whole : d_X10_whole + 1 ≤ d) {Q : zq_Q} (hq : zq_R X (some .boolean) 1 Q) : zq_ok X 4 46 (xX11_hasDue_46 s_X11_worthHeld s_X3_allDeserts s_X10_whole Q) := by
  refine zs_iconst C dX11_hasDue_46 (by decide) ?_
  exact kX11_hasDue_47 C h_X11_worthHeld g_X11_worthHeld h_X3_allDeserts g_X3_allDeserts h_X10_whole g_X10_whole hq
def xX11_hasDue_42 (s_X11_worthHeld : zq_Sp) (s_X3_allDeserts : zq_Sp) (s_X10_whole : zq_Sp) (Q : zq_Q) (ls : zq_L) (st : List Value) (h : zq_H) : Prop := (zi_push (.int 1) ((xX11_hasDue_47 s_X11_worthHeld s_X3_allDeserts s_X10_whole Q))) ls st h
theorem kX11_hasDue_42 {X : zq_X} {d : Nat} (C : zq_C X cX11_hasDue 4 RX11 d) {d_X11_worthHeld : Nat} {s_X11_worthHeld : zq_Sp} (h_X11_worthHeld : zq_M yX11_worthHeld cX11_worthHeld 5 (some .int) 1 d_X11_worthHeld s_X11_worthHeld) (g_X11_worthHeld : d_X11_worthHeld + 1 ≤ d) {d_X3_allDeserts : Nat} {s_X3_allDeserts : zq_Sp} (h_X3_allDeserts : zq_M yX3_allDeserts cX3_allDeserts 1 (some .int) 1 d_X3_allDeserts s_X3_allDeserts) (g_X3_allDeserts : d_X3_allDeserts + 1 ≤ d) {d_X10_whole : Nat} {s_X10_whole : zq_Sp} (h_X10_whole : zq_M yX10_whole cX10_whole 2 (some .int) 1 d_X10_whole s_X10_whole) (g_X10_whole : d_X10_whole + 1 ≤ d) {Q : zq_Q} (hq : zq_R X (some .boolean) 1 Q) : zq_ok X 4 42 (xX11_hasDue_42 s_X11_worthHeld s_X3_allDeserts s_X10_whole Q) := by
  refine zs_iconst C dX11_hasDue_42 (by decide) ?_
  exact zs_goto C dX11_hasDue_43 (by decide) (kX11_hasDue_47 C h_X11_worthHeld g_X11_worthHeld h_X3_allDeserts g_X3_allDeserts h_X10_whole g_X10_whole hq)
def xX11_hasDue_0 (s_X11_worthHeld : zq_Sp) (s_X3_allDeserts : zq_Sp) (s_X10_whole : zq_Sp) (Q : zq_Q) (ls : zq_L) (st : List Value) (h : zq_H) : Prop := (zi_aload 0 (zi_iload 1 (zi_iload 1 (zi_callV 2 0 s_X11_worthHeld (zi_i2l (zi_aload 0 (zi_getR 0 5 (zi_callV 0 5 s_X3_allDeserts (zi_i2l (zi_l2 (fun x y => x * y) (zi_lstore 2 (zi_lload 2 (zi_aload 0 (zi_getR 0 5 (zi_getR 5 7 (zi_iload 1 (zi_aldI 7 6 (zi_i2l (zi_aload 0 (zi_getR 0 9 (zi_iload 1 (zi_callV 1 9 s_X10_whole (zi_i2l (zi_l2 (fun x y => x * y) (zi_lcmp (zi_if1 (fun x => x < 0) (xX11_hasDue_46 s_X11_worthHeld s_X3_allDeserts s_X10_whole Q) (xX11_hasDue_42 s_X11_worthHeld s_X3_allDeserts s_X10_whole Q))))))))))))))))))))))))))) ls st h
theorem kX11_hasDue_0 {X : zq_X} {d : Nat} (C : zq_C X cX11_hasDue 4 RX11 d) {d_X11_worthHeld : Nat} {s_X11_worthHeld : zq_Sp} (h_X11_worthHeld : zq_M yX11_worthHeld cX11_worthHeld 5 (some .int) 1 d_X11_worthHeld s_X11_worthHeld) (g_X11_worthHeld : d_X11_worthHeld + 1 ≤ d) {d_X3_allDeserts : Nat} {s_X3_allDeserts : zq_Sp} (h_X3_allDeserts : zq_M yX3_allDeserts cX3_allDeserts 1 (some .int) 1 d_X3_allDeserts s_X3_allDeserts) (g_X3_allDeserts : d_X3_allDeserts + 1 ≤ d) {d_X10_whole : Nat} {s_X10_whole : zq_Sp} (h_X10_whole : zq_M yX10_whole cX10_whole 2 (some .int) 1 d_X10_whole s_X10_whole) (g_X10_whole : d_X10_whole + 1 ≤ d) {Q : zq_Q} (hq : zq_R X (some .boolean) 1 Q) : zq_ok X 4 0 (xX11_hasDue_0 s_X11_worthHeld s_X3_allDeserts s_X10_whole Q) := by
  refine zs_aload_n C dX11_hasDue_0 rfl ?_
  refine zs_iload_n C dX11_hasDue_1 rfl ?_
  refine zs_iload_n C dX11_hasDue_2 rfl ?_
  refine zs_callV C h_X11_worthHeld g_X11_worthHeld zy_X11_worthHeld zp_0 (show vwCl[11]? = some (RX11, TX11, 16) from rfl) zw_674 zw_676 zs9_X11_worthHeld dX11_hasDue_3 ?_
  refine zs_i2l C dX11_hasDue_6 ?_
  refine zs_aload_n C dX11_hasDue_7 rfl ?_
  refine zs_getR C zp_0 zF11 (j := 2) ⟨by decide, rfl⟩ zw_317 dX11_hasDue_8 ?_
  refine zs_callV C h_X3_allDeserts g_X3_allDeserts zy_X3_allDeserts zp_5 (show vwCl[3]? = some (RX3, TX3, 4) from rfl) zw_494 zw_495 zs9_X3_allDeserts dX11_hasDue_11 ?_
  refine zs_i2l C dX11_hasDue_14 ?_
  refine zs_lmul C dX11_hasDue_15 ?_
  refine zs_lstore_n C dX11_hasDue_16 rfl (by decide) ?_
  refine zs_lload_n C dX11_hasDue_17 rfl ?_
  refine zs_aload_n C dX11_hasDue_18 rfl ?_
  refine zs_getR C zp_0 zF11 (j := 2) ⟨by decide, rfl⟩ zw_317 dX11_hasDue_19 ?_
  refine zs_getRN C zp_5 zF3 (j := 1) ⟨by decide, rfl⟩ zw_81 dX11_hasDue_22 ?_
  refine zs_iload_n C dX11_hasDue_25 rfl ?_
  refine zs_iaload C zp_7 dX11_hasDue_26 ?_
  refine zs_i2l C dX11_hasDue_27 ?_
  refine zs_aload_n C dX11_hasDue_28 rfl ?_
  refine zs_getR C zp_0 zF11 (j := 3) ⟨by decide, rfl⟩ zw_318 dX11_hasDue_29 ?_
  refine zs_iload_n C dX11_hasDue_32 rfl ?_
  refine zs_callV C h_X10_whole g_X10_whole zy_X10_whole zp_9 (show vwCl[10]? = some (RX10, TX10, 3) from rfl) zw_690 zw_691 zs9_X10_whole dX11_hasDue_33 ?_
  refine zs_i2l C dX11_hasDue_36 ?_
  refine zs_lmul C dX11_hasDue_37 ?_
  refine zs_lcmp C dX11_hasDue_38 ?_
  exact zs_if_lt C dX11_hasDue_39 (by decide) (kX11_hasDue_46 C h_X11_worthHeld g_X11_worthHeld h_X3_allDeserts g_X3_allDeserts h_X10_whole g_X10_whole hq) (kX11_hasDue_42 C h_X11_worthHeld g_X11_worthHeld h_X3_allDeserts g_X3_allDeserts h_X10_whole g_X10_whole hq)
theorem mX11_hasDue {d : Nat} {spec : zq_Sp} {d_X11_worthHeld : Nat} {s_X11_worthHeld : zq_Sp} (h_X11_worthHeld : zq_M yX11_worthHeld cX11_worthHeld 5 (some .int) 1 d_X11_worthHeld s_X11_worthHeld) (g_X11_worthHeld : d_X11_worthHeld + 1 ≤ d) {d_X3_allDeserts : Nat} {s_X3_allDeserts : zq_Sp} (h_X3_allDeserts : zq_M yX3_allDeserts cX3_allDeserts 1 (some .int) 1 d_X3_allDeserts s_X3_allDeserts) (g_X3_allDeserts : d_X3_allDeserts + 1 ≤ d) {d_X10_whole : Nat} {s_X10_whole : zq_Sp} (h_X10_whole : zq_M yX10_whole cX10_whole 2 (some .int) 1 d_X10_whole s_X10_whole) (g_X10_whole : d_X10_whole + 1 ≤ d) (v : ∀ args h Q, spec args h Q → (zq_a args).length ≤ 4 ∧ xX11_hasDue_0 s_X11_worthHeld s_X3_allDeserts s_X10_whole Q (zq_l0 4 args) [] h) : zq_M yX11_hasDue cX11_hasDue 4 (some .boolean) 1 d spec := by
  refine zq_met (by decide +kernel) (by decide) (fun X Q args h C hq hs => ⟨(v args h Q hs).1, _, ?_, (v args h Q hs).2⟩)
  exact kX11_hasDue_0 C h_X11_worthHeld g_X11_worthHeld h_X3_allDeserts g_X3_allDeserts h_X10_whole g_X10_whole hq
/-! ToOneCrumb.remembered(JI)I -/
theorem dX11_remembered_0 : decode cX11_remembered 0 = .ok (.iload_n 3, 1) := by decide +kernel
theorem dX11_remembered_1 : decode cX11_remembered 1 = .ok (.ifCond .lt 11, 3) := by decide +kernel
theorem dX11_remembered_4 : decode cX11_remembered 4 = .ok (.aload_n 0, 1) := by decide +kernel
theorem dX11_remembered_5 : decode cX11_remembered 5 = .ok (.getfield 40, 3) := by decide +kernel
theorem dX11_remembered_8 : decode cX11_remembered 8 = .ok (.lload_n 1, 1) := by decide +kernel
theorem dX11_remembered_9 : decode cX11_remembered 9 = .ok (.invokevirtual 232, 3) := by decide +kernel
theorem dX11_remembered_12 : decode cX11_remembered 12 = .ok (.iload_n 3, 1) := by decide +kernel
theorem dX11_remembered_13 : decode cX11_remembered 13 = .ok (.ireturn, 1) := by decide +kernel
def xX11_remembered_12 (s_X0_remember : zq_Sp) (Q : zq_Q) (ls : zq_L) (st : List Value) (h : zq_H) : Prop := (zi_iload 3 (zi_iret Q)) ls st h
theorem kX11_remembered_12 {X : zq_X} {d : Nat} (C : zq_C X cX11_remembered 4 RX11 d) {d_X0_remember : Nat} {s_X0_remember : zq_Sp} (h_X0_remember : zq_M yX0_remember cX0_remember 3 none 0 d_X0_remember s_X0_remember) (g_X0_remember : d_X0_remember + 1 ≤ d) {Q : zq_Q} (hq : zq_R X (some .int) 1 Q) : zq_ok X 4 12 (xX11_remembered_12 s_X0_remember Q) := by
  refine zs_iload_n C dX11_remembered_12 rfl ?_
  exact zs_iret C hq dX11_remembered_13
def xX11_remembered_4 (s_X0_remember : zq_Sp) (Q : zq_Q) (ls : zq_L) (st : List Value) (h : zq_H) : Prop := (zi_aload 0 (zi_getR 0 12 (zi_lload 1 (zi_callV 1 12 s_X0_remember ((xX11_remembered_12 s_X0_remember Q)))))) ls st h
theorem kX11_remembered_4 {X : zq_X} {d : Nat} (C : zq_C X cX11_remembered 4 RX11 d) {d_X0_remember : Nat} {s_X0_remember : zq_Sp} (h_X0_remember : zq_M yX0_remember cX0_remember 3 none 0 d_X0_remember s_X0_remember) (g_X0_remember : d_X0_remember + 1 ≤ d) {Q : zq_Q} (hq : zq_R X (some .int) 1 Q) : zq_ok X 4 4 (xX11_remembered_4 s_X0_remember Q) := by
  refine zs_aload_n C dX11_remembered_4 rfl ?_
  refine zs_getR C zp_0 zF11 (j := 4) ⟨by decide, rfl⟩ zw_319 dX11_remembered_5 ?_
  refine zs_lload_n C dX11_remembered_8 rfl ?_
  refine zs_callV C h_X0_remember g_X0_remember zy_X0_remember zp_12 (show vwCl[0]? = some (RX0, TX0, 5) from rfl) zw_605 zw_606 zs9_X0_remember dX11_remembered_9 ?_
  exact kX11_remembered_12 C h_X0_remember g_X0_remember hq
def xX11_remembered_0 (s_X0_remember : zq_Sp) (Q : zq_Q) (ls : zq_L) (st : List Value) (h : zq_H) : Prop := (zi_iload 3 (zi_if1 (fun x => x < 0) (xX11_remembered_12 s_X0_remember Q) (xX11_remembered_4 s_X0_remember Q))) ls st h
theorem kX11_remembered_0 {X : zq_X} {d : Nat} (C : zq_C X cX11_remembered 4 RX11 d) {d_X0_remember : Nat} {s_X0_remember : zq_Sp} (h_X0_remember : zq_M yX0_remember cX0_remember 3 none 0 d_X0_remember s_X0_remember) (g_X0_remember : d_X0_remember + 1 ≤ d) {Q : zq_Q} (hq : zq_R X (some .int) 1 Q) : zq_ok X 4 0 (xX11_remembered_0 s_X0_remember Q) := by
  refine zs_iload_n C dX11_remembered_0 rfl ?_
  exact zs_if_lt C dX11_remembered_1 (by decide) (kX11_remembered_12 C h_X0_remember g_X0_remember hq) (kX11_remembered_4 C h_X0_remember g_X0_remember hq)
theorem mX11_remembered {d : Nat} {spec : zq_Sp} {d_X0_remember : Nat} {s_X0_remember : zq_Sp} (h_X0_remember : zq_M yX0_remember cX0_remember 3 none 0 d_X0_remember s_X0_remember) (g_X0_remember : d_X0_remember + 1 ≤ d) (v : ∀ args h Q, spec args h Q → (zq_a args).length ≤ 4 ∧ xX11_remembered_0 s_X0_remember Q (zq_l0 4 args) [] h) : zq_M yX11_remembered cX11_remembered 4 (some .int) 1 d spec := by
  refine zq_met (by decide +kernel) (by decide) (fun X Q args h C hq hs => ⟨(v args h Q hs).1, _, ?_, (v args h Q hs).2⟩)
  exact kX11_remembered_0 C h_X0_remember g_X0_remember hq
/-! ToOneCrumb.isSlice(II)Z -/
theorem dX11_isSlice_0 : decode cX11_isSlice 0 = .ok (.aload_n 0, 1) := by decide +kernel
theorem dX11_isSlice_1 : decode cX11_isSlice 1 = .ok (.iload_n 1, 1) := by decide +kernel
theorem dX11_isSlice_2 : decode cX11_isSlice 2 = .ok (.invokevirtual 149, 3) := by decide +kernel
theorem dX11_isSlice_5 : decode cX11_isSlice 5 = .ok (.ifCond .eq 20, 3) := by decide +kernel
theorem dX11_isSlice_8 : decode cX11_isSlice 8 = .ok (.aload_n 0, 1) := by decide +kernel
theorem dX11_isSlice_9 : decode cX11_isSlice 9 = .ok (.iload_n 2, 1) := by decide +kernel
theorem dX11_isSlice_10 : decode cX11_isSlice 10 = .ok (.invokevirtual 149, 3) := by decide +kernel
theorem dX11_isSlice_13 : decode cX11_isSlice 13 = .ok (.ifCond .eq 12, 3) := by decide +kernel
theorem dX11_isSlice_16 : decode cX11_isSlice 16 = .ok (.iload_n 1, 1) := by decide +kernel
theorem dX11_isSlice_17 : decode cX11_isSlice 17 = .ok (.iload_n 2, 1) := by decide +kernel
theorem dX11_isSlice_18 : decode cX11_isSlice 18 = .ok (.if_icmp .gt 7, 3) := by decide +kernel
theorem dX11_isSlice_21 : decode cX11_isSlice 21 = .ok (.iconst 1, 1) := by decide +kernel
theorem dX11_isSlice_22 : decode cX11_isSlice 22 = .ok (.goto 4, 3) := by decide +kernel
theorem dX11_isSlice_25 : decode cX11_isSlice 25 = .ok (.iconst 0, 1) := by decide +kernel
theorem dX11_isSlice_26 : decode cX11_isSlice 26 = .ok (.ireturn, 1) := by decide +kernel
def xX11_isSlice_26 (s_X11_isCell : zq_Sp) (Q : zq_Q) (ls : zq_L) (st : List Value) (h : zq_H) : Prop := (zi_zret Q) ls st h
theorem kX11_isSlice_26 {X : zq_X} {d : Nat} (C : zq_C X cX11_isSlice 3 RX11 d) {d_X11_isCell : Nat} {s_X11_isCell : zq_Sp} (h_X11_isCell : zq_M yX11_isCell cX11_isCell 2 (some .boolean) 1 d_X11_isCell s_X11_isCell) (g_X11_isCell : d_X11_isCell + 1 ≤ d) {Q : zq_Q} (hq : zq_R X (some .boolean) 1 Q) : zq_ok X 3 26 (xX11_isSlice_26 s_X11_isCell Q) := by
  exact zs_zret C hq dX11_isSlice_26
def xX11_isSlice_25 (s_X11_isCell : zq_Sp) (Q : zq_Q) (ls : zq_L) (st : List Value) (h : zq_H) : Prop := (zi_push (.int 0) ((xX11_isSlice_26 s_X11_isCell Q))) ls st h
theorem kX11_isSlice_25 {X : zq_X} {d : Nat} (C : zq_C X cX11_isSlice 3 RX11 d) {d_X11_isCell : Nat} {s_X11_isCell : zq_Sp} (h_X11_isCell : zq_M yX11_isCell cX11_isCell 2 (some .boolean) 1 d_X11_isCell s_X11_isCell) (g_X11_isCell : d_X11_isCell + 1 ≤ d) {Q : zq_Q} (hq : zq_R X (some .boolean) 1 Q) : zq_ok X 3 25 (xX11_isSlice_25 s_X11_isCell Q) := by
  refine zs_iconst C dX11_isSlice_25 (by decide) ?_
  exact kX11_isSlice_26 C h_X11_isCell g_X11_isCell hq
def xX11_isSlice_21 (s_X11_isCell : zq_Sp) (Q : zq_Q) (ls : zq_L) (st : List Value) (h : zq_H) : Prop := (zi_push (.int 1) ((xX11_isSlice_26 s_X11_isCell Q))) ls st h
theorem kX11_isSlice_21 {X : zq_X} {d : Nat} (C : zq_C X cX11_isSlice 3 RX11 d) {d_X11_isCell : Nat} {s_X11_isCell : zq_Sp} (h_X11_isCell : zq_M yX11_isCell cX11_isCell 2 (some .boolean) 1 d_X11_isCell s_X11_isCell) (g_X11_isCell : d_X11_isCell + 1 ≤ d) {Q : zq_Q} (hq : zq_R X (some .boolean) 1 Q) : zq_ok X 3 21 (xX11_isSlice_21 s_X11_isCell Q) := by
  refine zs_iconst C dX11_isSlice_21 (by decide) ?_
  exact zs_goto C dX11_isSlice_22 (by decide) (kX11_isSlice_26 C h_X11_isCell g_X11_isCell hq)
def xX11_isSlice_16 (s_X11_isCell : zq_Sp) (Q : zq_Q) (ls : zq_L) (st : List Value) (h : zq_H) : Prop := (zi_iload 1 (zi_iload 2 (zi_if2 (fun x y => y < x) (xX11_isSlice_25 s_X11_isCell Q) (xX11_isSlice_21 s_X11_isCell Q)))) ls st h
theorem kX11_isSlice_16 {X : zq_X} {d : Nat} (C : zq_C X cX11_isSlice 3 RX11 d) {d_X11_isCell : Nat} {s_X11_isCell : zq_Sp} (h_X11_isCell : zq_M yX11_isCell cX11_isCell 2 (some .boolean) 1 d_X11_isCell s_X11_isCell) (g_X11_isCell : d_X11_isCell + 1 ≤ d) {Q : zq_Q} (hq : zq_R X (some .boolean) 1 Q) : zq_ok X 3 16 (xX11_isSlice_16 s_X11_isCell Q) := by
  refine zs_iload_n C dX11_isSlice_16 rfl ?_
  refine zs_iload_n C dX11_isSlice_17 rfl ?_
  exact zs_icmp_gt C dX11_isSlice_18 (by decide) (kX11_isSlice_25 C h_X11_isCell g_X11_isCell hq) (kX11_isSlice_21 C h_X11_isCell g_X11_isCell hq)
def xX11_isSlice_8 (s_X11_isCell : zq_Sp) (Q : zq_Q) (ls : zq_L) (st : List Value) (h : zq_H) : Prop := (zi_aload 0 (zi_iload 2 (zi_callV 1 0 s_X11_isCell (zi_if1 (fun x => x = 0) (xX11_isSlice_25 s_X11_isCell Q) (xX11_isSlice_16 s_X11_isCell Q))))) ls st h
theorem kX11_isSlice_8 {X : zq_X} {d : Nat} (C : zq_C X cX11_isSlice 3 RX11 d) {d_X11_isCell : Nat} {s_X11_isCell : zq_Sp} (h_X11_isCell : zq_M yX11_isCell cX11_isCell 2 (some .boolean) 1 d_X11_isCell s_X11_isCell) (g_X11_isCell : d_X11_isCell + 1 ≤ d) {Q : zq_Q} (hq : zq_R X (some .boolean) 1 Q) : zq_ok X 3 8 (xX11_isSlice_8 s_X11_isCell Q) := by
  refine zs_aload_n C dX11_isSlice_8 rfl ?_
  refine zs_iload_n C dX11_isSlice_9 rfl ?_
  refine zs_callV C h_X11_isCell g_X11_isCell zy_X11_isCell zp_0 (show vwCl[11]? = some (RX11, TX11, 16) from rfl) zw_550 zw_552 zs9_X11_isCell dX11_isSlice_10 ?_
  exact zs_if_eq C dX11_isSlice_13 (by decide) (kX11_isSlice_25 C h_X11_isCell g_X11_isCell hq) (kX11_isSlice_16 C h_X11_isCell g_X11_isCell hq)
def xX11_isSlice_0 (s_X11_isCell : zq_Sp) (Q : zq_Q) (ls : zq_L) (st : List Value) (h : zq_H) : Prop := (zi_aload 0 (zi_iload 1 (zi_callV 1 0 s_X11_isCell (zi_if1 (fun x => x = 0) (xX11_isSlice_25 s_X11_isCell Q) (xX11_isSlice_8 s_X11_isCell Q))))) ls st h
theorem kX11_isSlice_0 {X : zq_X} {d : Nat} (C : zq_C X cX11_isSlice 3 RX11 d) {d_X11_isCell : Nat} {s_X11_isCell : zq_Sp} (h_X11_isCell : zq_M yX11_isCell cX11_isCell 2 (some .boolean) 1 d_X11_isCell s_X11_isCell) (g_X11_isCell : d_X11_isCell + 1 ≤ d) {Q : zq_Q} (hq : zq_R X (some .boolean) 1 Q) : zq_ok X 3 0 (xX11_isSlice_0 s_X11_isCell Q) := by
  refine zs_aload_n C dX11_isSlice_0 rfl ?_
  refine zs_iload_n C dX11_isSlice_1 rfl ?_
  refine zs_callV C h_X11_isCell g_X11_isCell zy_X11_isCell zp_0 (show vwCl[11]? = some (RX11, TX11, 16) from rfl) zw_550 zw_552 zs9_X11_isCell dX11_isSlice_2 ?_
  exact zs_if_eq C dX11_isSlice_5 (by decide) (kX11_isSlice_25 C h_X11_isCell g_X11_isCell hq) (kX11_isSlice_8 C h_X11_isCell g_X11_isCell hq)
theorem mX11_isSlice {d : Nat} {spec : zq_Sp} {d_X11_isCell : Nat} {s_X11_isCell : zq_Sp} (h_X11_isCell : zq_M yX11_isCell cX11_isCell 2 (some .boolean) 1 d_X11_isCell s_X11_isCell) (g_X11_isCell : d_X11_isCell + 1 ≤ d) (v : ∀ args h Q, spec args h Q → (zq_a args).length ≤ 3 ∧ xX11_isSlice_0 s_X11_isCell Q (zq_l0 3 args) [] h) : zq_M yX11_isSlice cX11_isSlice 3 (some .boolean) 1 d spec := by
  refine zq_met (by decide +kernel) (by decide) (fun X Q args h C hq hs => ⟨(v args h Q hs).1, _, ?_, (v args h Q hs).2⟩)
  exact kX11_isSlice_0 C h_X11_isCell g_X11_isCell hq
/-! ToOneCrumb.giveSlice(III)I -/
theorem dX11_giveSlice_0 : decode cX11_giveSlice 0 = .ok (.aload_n 0, 1) := by decide +kernel
theorem dX11_giveSlice_1 : decode cX11_giveSlice 1 = .ok (.iload_n 1, 1) := by decide +kernel
theorem dX11_giveSlice_2 : decode cX11_giveSlice 2 = .ok (.invokevirtual 171, 3) := by decide +kernel
theorem dX11_giveSlice_5 : decode cX11_giveSlice 5 = .ok (.ifCond .eq 12, 3) := by decide +kernel
theorem dX11_giveSlice_8 : decode cX11_giveSlice 8 = .ok (.aload_n 0, 1) := by decide +kernel
theorem dX11_giveSlice_9 : decode cX11_giveSlice 9 = .ok (.iload_n 2, 1) := by decide +kernel
theorem dX11_giveSlice_10 : decode cX11_giveSlice 10 = .ok (.iload_n 3, 1) := by decide +kernel
theorem dX11_giveSlice_11 : decode cX11_giveSlice 11 = .ok (.invokevirtual 389, 3) := by decide +kernel
theorem dX11_giveSlice_14 : decode cX11_giveSlice 14 = .ok (.ifCond .ne 5, 3) := by decide +kernel
theorem dX11_giveSlice_17 : decode cX11_giveSlice 17 = .ok (.iconst (-1), 1) := by decide +kernel
theorem dX11_giveSlice_18 : decode cX11_giveSlice 18 = .ok (.ireturn, 1) := by decide +kernel
theorem dX11_giveSlice_19 : decode cX11_giveSlice 19 = .ok (.iload_n 2, 1) := by decide +kernel
theorem dX11_giveSlice_20 : decode cX11_giveSlice 20 = .ok (.istore 4, 2) := by decide +kernel
theorem dX11_giveSlice_22 : decode cX11_giveSlice 22 = .ok (.iload 4, 2) := by decide +kernel
theorem dX11_giveSlice_24 : decode cX11_giveSlice 24 = .ok (.iload_n 3, 1) := by decide +kernel
theorem dX11_giveSlice_25 : decode cX11_giveSlice 25 = .ok (.if_icmp .gt 25, 3) := by decide +kernel
theorem dX11_giveSlice_28 : decode cX11_giveSlice 28 = .ok (.aload_n 0, 1) := by decide +kernel
theorem dX11_giveSlice_29 : decode cX11_giveSlice 29 = .ok (.getfield 40, 3) := by decide +kernel
theorem dX11_giveSlice_32 : decode cX11_giveSlice 32 = .ok (.iload 4, 2) := by decide +kernel
theorem dX11_giveSlice_34 : decode cX11_giveSlice 34 = .ok (.invokevirtual 168, 3) := by decide +kernel
theorem dX11_giveSlice_37 : decode cX11_giveSlice 37 = .ok (.iconst (-1), 1) := by decide +kernel
theorem dX11_giveSlice_38 : decode cX11_giveSlice 38 = .ok (.if_icmp .eq 6, 3) := by decide +kernel
theorem dX11_giveSlice_41 : decode cX11_giveSlice 41 = .ok (.bipush (-2), 2) := by decide +kernel
theorem dX11_giveSlice_43 : decode cX11_giveSlice 43 = .ok (.ireturn, 1) := by decide +kernel
theorem dX11_giveSlice_44 : decode cX11_giveSlice 44 = .ok (.iinc 4 1, 3) := by decide +kernel
theorem dX11_giveSlice_47 : decode cX11_giveSlice 47 = .ok (.goto (-25), 3) := by decide +kernel
theorem dX11_giveSlice_50 : decode cX11_giveSlice 50 = .ok (.iload_n 2, 1) := by decide +kernel
theorem dX11_giveSlice_51 : decode cX11_giveSlice 51 = .ok (.istore 4, 2) := by decide +kernel
theorem dX11_giveSlice_53 : decode cX11_giveSlice 53 = .ok (.iload 4, 2) := by decide +kernel
theorem dX11_giveSlice_55 : decode cX11_giveSlice 55 = .ok (.iload_n 3, 1) := by decide +kernel
theorem dX11_giveSlice_56 : decode cX11_giveSlice 56 = .ok (.if_icmp .gt 19, 3) := by decide +kernel
theorem dX11_giveSlice_59 : decode cX11_giveSlice 59 = .ok (.aload_n 0, 1) := by decide +kernel
theorem dX11_giveSlice_60 : decode cX11_giveSlice 60 = .ok (.getfield 40, 3) := by decide +kernel
theorem dX11_giveSlice_63 : decode cX11_giveSlice 63 = .ok (.iload 4, 2) := by decide +kernel
theorem dX11_giveSlice_65 : decode cX11_giveSlice 65 = .ok (.iload_n 1, 1) := by decide +kernel
theorem dX11_giveSlice_66 : decode cX11_giveSlice 66 = .ok (.invokevirtual 392, 3) := by decide +kernel
theorem dX11_giveSlice_69 : decode cX11_giveSlice 69 = .ok (.iinc 4 1, 3) := by decide +kernel
theorem dX11_giveSlice_72 : decode cX11_giveSlice 72 = .ok (.goto (-19), 3) := by decide +kernel
theorem dX11_giveSlice_75 : decode cX11_giveSlice 75 = .ok (.aload_n 0, 1) := by decide +kernel
theorem dX11_giveSlice_76 : decode cX11_giveSlice 76 = .ok (.getfield 33, 3) := by decide +kernel
theorem dX11_giveSlice_79 : decode cX11_giveSlice 79 = .ok (.iload_n 1, 1) := by decide +kernel
theorem dX11_giveSlice_80 : decode cX11_giveSlice 80 = .ok (.iload_n 2, 1) := by decide +kernel
theorem dX11_giveSlice_81 : decode cX11_giveSlice 81 = .ok (.iload_n 3, 1) := by decide +kernel
theorem dX11_giveSlice_82 : decode cX11_giveSlice 82 = .ok (.iconst 1, 1) := by decide +kernel
theorem dX11_giveSlice_83 : decode cX11_giveSlice 83 = .ok (.iadd, 1) := by decide +kernel
theorem dX11_giveSlice_84 : decode cX11_giveSlice 84 = .ok (.invokevirtual 276, 3) := by decide +kernel
theorem dX11_giveSlice_87 : decode cX11_giveSlice 87 = .ok (.ireturn, 1) := by decide +kernel
def xX11_giveSlice_75 (s_X11_isGuest : zq_Sp) (s_X11_isSlice : zq_Sp) (s_X0_holderOf : zq_Sp) (s_X0_put : zq_Sp) (s_X10_between : zq_Sp) (J22 : zq_P) (J53 : zq_P) (Q : zq_Q) (ls : zq_L) (st : List Value) (h : zq_H) : Prop := (zi_aload 0 (zi_getR 0 9 (zi_iload 1 (zi_iload 2 (zi_iload 3 (zi_push (.int 1) (zi_i2 (fun x y => x + y) (zi_callV 3 9 s_X10_between (zi_iret Q))))))))) ls st h
theorem kX11_giveSlice_75 {X : zq_X} {d : Nat} (C : zq_C X cX11_giveSlice 5 RX11 d) {d_X11_isGuest : Nat} {s_X11_isGuest : zq_Sp} (h_X11_isGuest : zq_M yX11_isGuest cX11_isGuest 2 (some .boolean) 1 d_X11_isGuest s_X11_isGuest) (g_X11_isGuest : d_X11_isGuest + 1 ≤ d) {d_X11_isSlice : Nat} {s_X11_isSlice : zq_Sp} (h_X11_isSlice : zq_M yX11_isSlice cX11_isSlice 3 (some .boolean) 1 d_X11_isSlice s_X11_isSlice) (g_X11_isSlice : d_X11_isSlice + 1 ≤ d) {d_X0_holderOf : Nat} {s_X0_holderOf : zq_Sp} (h_X0_holderOf : zq_M yX0_holderOf cX0_holderOf 2 (some .int) 1 d_X0_holderOf s_X0_holderOf) (g_X0_holderOf : d_X0_holderOf + 1 ≤ d) {d_X0_put : Nat} {s_X0_put : zq_Sp} (h_X0_put : zq_M yX0_put cX0_put 5 none 0 d_X0_put s_X0_put) (g_X0_put : d_X0_put + 1 ≤ d) {d_X10_between : Nat} {s_X10_between : zq_Sp} (h_X10_between : zq_M yX10_between cX10_between 4 (some .int) 1 d_X10_between s_X10_between) (g_X10_between : d_X10_between + 1 ≤ d) {J22 : zq_P} (j22 : zq_ok X 5 22 J22) {J53 : zq_P} (j53 : zq_ok X 5 53 J53) {Q : zq_Q} (hq : zq_R X (some .int) 1 Q) : zq_ok X 5 75 (xX11_giveSlice_75 s_X11_isGuest s_X11_isSlice s_X0_holderOf s_X0_put s_X10_between J22 J53 Q) := by
  refine zs_aload_n C dX11_giveSlice_75 rfl ?_
  refine zs_getR C zp_0 zF11 (j := 3) ⟨by decide, rfl⟩ zw_318 dX11_giveSlice_76 ?_
  refine zs_iload_n C dX11_giveSlice_79 rfl ?_
  refine zs_iload_n C dX11_giveSlice_80 rfl ?_
  refine zs_iload_n C dX11_giveSlice_81 rfl ?_
  refine zs_iconst C dX11_giveSlice_82 (by decide) ?_
  refine zs_iadd C dX11_giveSlice_83 ?_
  refine zs_callV C h_X10_between g_X10_between zy_X10_between zp_9 (show vwCl[10]? = some (RX10, TX10, 3) from rfl) zw_597 zw_598 zs9_X10_between dX11_giveSlice_84 ?_
  exact zs_iret C hq dX11_giveSlice_87
def xX11_giveSlice_59 (s_X11_isGuest : zq_Sp) (s_X11_isSlice : zq_Sp) (s_X0_holderOf : zq_Sp) (s_X0_put : zq_Sp) (s_X10_between : zq_Sp) (J22 : zq_P) (J53 : zq_P) (Q : zq_Q) (ls : zq_L) (st : List Value) (h : zq_H) : Prop := (zi_aload 0 (zi_getR 0 12 (zi_iload 4 (zi_iload 1 (zi_callV 2 12 s_X0_put (zi_iinc 4 1 (J53))))))) ls st h
theorem kX11_giveSlice_59 {X : zq_X} {d : Nat} (C : zq_C X cX11_giveSlice 5 RX11 d) {d_X11_isGuest : Nat} {s_X11_isGuest : zq_Sp} (h_X11_isGuest : zq_M yX11_isGuest cX11_isGuest 2 (some .boolean) 1 d_X11_isGuest s_X11_isGuest) (g_X11_isGuest : d_X11_isGuest + 1 ≤ d) {d_X11_isSlice : Nat} {s_X11_isSlice : zq_Sp} (h_X11_isSlice : zq_M yX11_isSlice cX11_isSlice 3 (some .boolean) 1 d_X11_isSlice s_X11_isSlice) (g_X11_isSlice : d_X11_isSlice + 1 ≤ d) {d_X0_holderOf : Nat} {s_X0_holderOf : zq_Sp} (h_X0_holderOf : zq_M yX0_holderOf cX0_holderOf 2 (some .int) 1 d_X0_holderOf s_X0_holderOf) (g_X0_holderOf : d_X0_holderOf + 1 ≤ d) {d_X0_put : Nat} {s_X0_put : zq_Sp} (h_X0_put : zq_M yX0_put cX0_put 5 none 0 d_X0_put s_X0_put) (g_X0_put : d_X0_put + 1 ≤ d) {d_X10_between : Nat} {s_X10_between : zq_Sp} (h_X10_between : zq_M yX10_between cX10_between 4 (some .int) 1 d_X10_between s_X10_between) (g_X10_between : d_X10_between + 1 ≤ d) {J22 : zq_P} (j22 : zq_ok X 5 22 J22) {J53 : zq_P} (j53 : zq_ok X 5 53 J53) {Q : zq_Q} (hq : zq_R X (some .int) 1 Q) : zq_ok X 5 59 (xX11_giveSlice_59 s_X11_isGuest s_X11_isSlice s_X0_holderOf s_X0_put s_X10_between J22 J53 Q) := by
  refine zs_aload_n C dX11_giveSlice_59 rfl ?_
  refine zs_getR C zp_0 zF11 (j := 4) ⟨by decide, rfl⟩ zw_319 dX11_giveSlice_60 ?_
  refine zs_iload C dX11_giveSlice_63 ?_
  refine zs_iload_n C dX11_giveSlice_65 rfl ?_
  refine zs_callV C h_X0_put g_X0_put zy_X0_put zp_12 (show vwCl[0]? = some (RX0, TX0, 5) from rfl) zw_592 zw_593 zs9_X0_put dX11_giveSlice_66 ?_
  refine zs_iinc C dX11_giveSlice_69 (by decide) (by decide) ?_
  exact zs_goto C dX11_giveSlice_72 (by decide) (j53)
def xX11_giveSlice_53 (s_X11_isGuest : zq_Sp) (s_X11_isSlice : zq_Sp) (s_X0_holderOf : zq_Sp) (s_X0_put : zq_Sp) (s_X10_between : zq_Sp) (J22 : zq_P) (J53 : zq_P) (Q : zq_Q) (ls : zq_L) (st : List Value) (h : zq_H) : Prop := (zi_iload 4 (zi_iload 3 (zi_if2 (fun x y => y < x) (xX11_giveSlice_75 s_X11_isGuest s_X11_isSlice s_X0_holderOf s_X0_put s_X10_between J22 J53 Q) (xX11_giveSlice_59 s_X11_isGuest s_X11_isSlice s_X0_holderOf s_X0_put s_X10_between J22 J53 Q)))) ls st h
theorem kX11_giveSlice_53 {X : zq_X} {d : Nat} (C : zq_C X cX11_giveSlice 5 RX11 d) {d_X11_isGuest : Nat} {s_X11_isGuest : zq_Sp} (h_X11_isGuest : zq_M yX11_isGuest cX11_isGuest 2 (some .boolean) 1 d_X11_isGuest s_X11_isGuest) (g_X11_isGuest : d_X11_isGuest + 1 ≤ d) {d_X11_isSlice : Nat} {s_X11_isSlice : zq_Sp} (h_X11_isSlice : zq_M yX11_isSlice cX11_isSlice 3 (some .boolean) 1 d_X11_isSlice s_X11_isSlice) (g_X11_isSlice : d_X11_isSlice + 1 ≤ d) {d_X0_holderOf : Nat} {s_X0_holderOf : zq_Sp} (h_X0_holderOf : zq_M yX0_holderOf cX0_holderOf 2 (some .int) 1 d_X0_holderOf s_X0_holderOf) (g_X0_holderOf : d_X0_holderOf + 1 ≤ d) {d_X0_put : Nat} {s_X0_put : zq_Sp} (h_X0_put : zq_M yX0_put cX0_put 5 none 0 d_X0_put s_X0_put) (g_X0_put : d_X0_put + 1 ≤ d) {d_X10_between : Nat} {s_X10_between : zq_Sp} (h_X10_between : zq_M yX10_between cX10_between 4 (some .int) 1 d_X10_between s_X10_between) (g_X10_between : d_X10_between + 1 ≤ d) {J22 : zq_P} (j22 : zq_ok X 5 22 J22) {J53 : zq_P} (j53 : zq_ok X 5 53 J53) {Q : zq_Q} (hq : zq_R X (some .int) 1 Q) : zq_ok X 5 53 (xX11_giveSlice_53 s_X11_isGuest s_X11_isSlice s_X0_holderOf s_X0_put s_X10_between J22 J53 Q) := by
  refine zs_iload C dX11_giveSlice_53 ?_
  refine zs_iload_n C dX11_giveSlice_55 rfl ?_
  exact zs_icmp_gt C dX11_giveSlice_56 (by decide) (kX11_giveSlice_75 C h_X11_isGuest g_X11_isGuest h_X11_isSlice g_X11_isSlice h_X0_holderOf g_X0_holderOf h_X0_put g_X0_put h_X10_between g_X10_between j22 j53 hq) (kX11_giveSlice_59 C h_X11_isGuest g_X11_isGuest h_X11_isSlice g_X11_isSlice h_X0_holderOf g_X0_holderOf h_X0_put g_X0_put h_X10_between g_X10_between j22 j53 hq)
def xX11_giveSlice_50 (s_X11_isGuest : zq_Sp) (s_X11_isSlice : zq_Sp) (s_X0_holderOf : zq_Sp) (s_X0_put : zq_Sp) (s_X10_between : zq_Sp) (J22 : zq_P) (J53 : zq_P) (Q : zq_Q) (ls : zq_L) (st : List Value) (h : zq_H) : Prop := (zi_iload 2 (zi_istore 4 (J53))) ls st h
theorem kX11_giveSlice_50 {X : zq_X} {d : Nat} (C : zq_C X cX11_giveSlice 5 RX11 d) {d_X11_isGuest : Nat} {s_X11_isGuest : zq_Sp} (h_X11_isGuest : zq_M yX11_isGuest cX11_isGuest 2 (some .boolean) 1 d_X11_isGuest s_X11_isGuest) (g_X11_isGuest : d_X11_isGuest + 1 ≤ d) {d_X11_isSlice : Nat} {s_X11_isSlice : zq_Sp} (h_X11_isSlice : zq_M yX11_isSlice cX11_isSlice 3 (some .boolean) 1 d_X11_isSlice s_X11_isSlice) (g_X11_isSlice : d_X11_isSlice + 1 ≤ d) {d_X0_holderOf : Nat} {s_X0_holderOf : zq_Sp} (h_X0_holderOf : zq_M yX0_holderOf cX0_holderOf 2 (some .int) 1 d_X0_holderOf s_X0_holderOf) (g_X0_holderOf : d_X0_holderOf + 1 ≤ d) {d_X0_put : Nat} {s_X0_put : zq_Sp} (h_X0_put : zq_M yX0_put cX0_put 5 none 0 d_X0_put s_X0_put) (g_X0_put : d_X0_put + 1 ≤ d) {d_X10_between : Nat} {s_X10_between : zq_Sp} (h_X10_between : zq_M yX10_between cX10_between 4 (some .int) 1 d_X10_between s_X10_between) (g_X10_between : d_X10_between + 1 ≤ d) {J22 : zq_P} (j22 : zq_ok X 5 22 J22) {J53 : zq_P} (j53 : zq_ok X 5 53 J53) {Q : zq_Q} (hq : zq_R X (some .int) 1 Q) : zq_ok X 5 50 (xX11_giveSlice_50 s_X11_isGuest s_X11_isSlice s_X0_holderOf s_X0_put s_X10_between J22 J53 Q) := by
  refine zs_iload_n C dX11_giveSlice_50 rfl ?_
  refine zs_istore C dX11_giveSlice_51 (by decide) ?_
  exact j53
def xX11_giveSlice_44 (s_X11_isGuest : zq_Sp) (s_X11_isSlice : zq_Sp) (s_X0_holderOf : zq_Sp) (s_X0_put : zq_Sp) (s_X10_between : zq_Sp) (J22 : zq_P) (J53 : zq_P) (Q : zq_Q) (ls : zq_L) (st : List Value) (h : zq_H) : Prop := (zi_iinc 4 1 (J22)) ls st h
theorem kX11_giveSlice_44 {X : zq_X} {d : Nat} (C : zq_C X cX11_giveSlice 5 RX11 d) {d_X11_isGuest : Nat} {s_X11_isGuest : zq_Sp} (h_X11_isGuest : zq_M yX11_isGuest cX11_isGuest 2 (some .boolean) 1 d_X11_isGuest s_X11_isGuest) (g_X11_isGuest : d_X11_isGuest + 1 ≤ d) {d_X11_isSlice : Nat} {s_X11_isSlice : zq_Sp} (h_X11_isSlice : zq_M yX11_isSlice cX11_isSlice 3 (some .boolean) 1 d_X11_isSlice s_X11_isSlice) (g_X11_isSlice : d_X11_isSlice + 1 ≤ d) {d_X0_holderOf : Nat} {s_X0_holderOf : zq_Sp} (h_X0_holderOf : zq_M yX0_holderOf cX0_holderOf 2 (some .int) 1 d_X0_holderOf s_X0_holderOf) (g_X0_holderOf : d_X0_holderOf + 1 ≤ d) {d_X0_put : Nat} {s_X0_put : zq_Sp} (h_X0_put : zq_M yX0_put cX0_put 5 none 0 d_X0_put s_X0_put) (g_X0_put : d_X0_put + 1 ≤ d) {d_X10_between : Nat} {s_X10_between : zq_Sp} (h_X10_between : zq_M yX10_between cX10_between 4 (some .int) 1 d_X10_between s_X10_between) (g_X10_between : d_X10_between + 1 ≤ d) {J22 : zq_P} (j22 : zq_ok X 5 22 J22) {J53 : zq_P} (j53 : zq_ok X 5 53 J53) {Q : zq_Q} (hq : zq_R X (some .int) 1 Q) : zq_ok X 5 44 (xX11_giveSlice_44 s_X11_isGuest s_X11_isSlice s_X0_holderOf s_X0_put s_X10_between J22 J53 Q) := by
  refine zs_iinc C dX11_giveSlice_44 (by decide) (by decide) ?_
  exact zs_goto C dX11_giveSlice_47 (by decide) (j22)
def xX11_giveSlice_41 (s_X11_isGuest : zq_Sp) (s_X11_isSlice : zq_Sp) (s_X0_holderOf : zq_Sp) (s_X0_put : zq_Sp) (s_X10_between : zq_Sp) (J22 : zq_P) (J53 : zq_P) (Q : zq_Q) (ls : zq_L) (st : List Value) (h : zq_H) : Prop := (zi_push (.int (-2)) (zi_iret Q)) ls st h
theorem kX11_giveSlice_41 {X : zq_X} {d : Nat} (C : zq_C X cX11_giveSlice 5 RX11 d) {d_X11_isGuest : Nat} {s_X11_isGuest : zq_Sp} (h_X11_isGuest : zq_M yX11_isGuest cX11_isGuest 2 (some .boolean) 1 d_X11_isGuest s_X11_isGuest) (g_X11_isGuest : d_X11_isGuest + 1 ≤ d) {d_X11_isSlice : Nat} {s_X11_isSlice : zq_Sp} (h_X11_isSlice : zq_M yX11_isSlice cX11_isSlice 3 (some .boolean) 1 d_X11_isSlice s_X11_isSlice) (g_X11_isSlice : d_X11_isSlice + 1 ≤ d) {d_X0_holderOf : Nat} {s_X0_holderOf : zq_Sp} (h_X0_holderOf : zq_M yX0_holderOf cX0_holderOf 2 (some .int) 1 d_X0_holderOf s_X0_holderOf) (g_X0_holderOf : d_X0_holderOf + 1 ≤ d) {d_X0_put : Nat} {s_X0_put : zq_Sp} (h_X0_put : zq_M yX0_put cX0_put 5 none 0 d_X0_put s_X0_put) (g_X0_put : d_X0_put + 1 ≤ d) {d_X10_between : Nat} {s_X10_between : zq_Sp} (h_X10_between : zq_M yX10_between cX10_between 4 (some .int) 1 d_X10_between s_X10_between) (g_X10_between : d_X10_between + 1 ≤ d) {J22 : zq_P} (j22 : zq_ok X 5 22 J22) {J53 : zq_P} (j53 : zq_ok X 5 53 J53) {Q : zq_Q} (hq : zq_R X (some .int) 1 Q) : zq_ok X 5 41 (xX11_giveSlice_41 s_X11_isGuest s_X11_isSlice s_X0_holderOf s_X0_put s_X10_between J22 J53 Q) := by
  refine zs_bipush C dX11_giveSlice_41 (by decide) ?_
  exact zs_iret C hq dX11_giveSlice_43
def xX11_giveSlice_28 (s_X11_isGuest : zq_Sp) (s_X11_isSlice : zq_Sp) (s_X0_holderOf : zq_Sp) (s_X0_put : zq_Sp) (s_X10_between : zq_Sp) (J22 : zq_P) (J53 : zq_P) (Q : zq_Q) (ls : zq_L) (st : List Value) (h : zq_H) : Prop := (zi_aload 0 (zi_getR 0 12 (zi_iload 4 (zi_callV 1 12 s_X0_holderOf (zi_push (.int (-1)) (zi_if2 (fun x y => x = y) (xX11_giveSlice_44 s_X11_isGuest s_X11_isSlice s_X0_holderOf s_X0_put s_X10_between J22 J53 Q) (xX11_giveSlice_41 s_X11_isGuest s_X11_isSlice s_X0_holderOf s_X0_put s_X10_between J22 J53 Q))))))) ls st h
theorem kX11_giveSlice_28 {X : zq_X} {d : Nat} (C : zq_C X cX11_giveSlice 5 RX11 d) {d_X11_isGuest : Nat} {s_X11_isGuest : zq_Sp} (h_X11_isGuest : zq_M yX11_isGuest cX11_isGuest 2 (some .boolean) 1 d_X11_isGuest s_X11_isGuest) (g_X11_isGuest : d_X11_isGuest + 1 ≤ d) {d_X11_isSlice : Nat} {s_X11_isSlice : zq_Sp} (h_X11_isSlice : zq_M yX11_isSlice cX11_isSlice 3 (some .boolean) 1 d_X11_isSlice s_X11_isSlice) (g_X11_isSlice : d_X11_isSlice + 1 ≤ d) {d_X0_holderOf : Nat} {s_X0_holderOf : zq_Sp} (h_X0_holderOf : zq_M yX0_holderOf cX0_holderOf 2 (some .int) 1 d_X0_holderOf s_X0_holderOf) (g_X0_holderOf : d_X0_holderOf + 1 ≤ d) {d_X0_put : Nat} {s_X0_put : zq_Sp} (h_X0_put : zq_M yX0_put cX0_put 5 none 0 d_X0_put s_X0_put) (g_X0_put : d_X0_put + 1 ≤ d) {d_X10_between : Nat} {s_X10_between : zq_Sp} (h_X10_between : zq_M yX10_between cX10_between 4 (some .int) 1 d_X10_between s_X10_between) (g_X10_between : d_X10_between + 1 ≤ d) {J22 : zq_P} (j22 : zq_ok X 5 22 J22) {J53 : zq_P} (j53 : zq_ok X 5 53 J53) {Q : zq_Q} (hq : zq_R X (some .int) 1 Q) : zq_ok X 5 28 (xX11_giveSlice_28 s_X11_isGuest s_X11_isSlice s_X0_holderOf s_X0_put s_X10_between J22 J53 Q) := by
  refine zs_aload_n C dX11_giveSlice_28 rfl ?_
  refine zs_getR C zp_0 zF11 (j := 4) ⟨by decide, rfl⟩ zw_319 dX11_giveSlice_29 ?_
  refine zs_iload C dX11_giveSlice_32 ?_
  refine zs_callV C h_X0_holderOf g_X0_holderOf zy_X0_holderOf zp_12 (show vwCl[0]? = some (RX0, TX0, 5) from rfl) zw_587 zw_588 zs9_X0_holderOf dX11_giveSlice_34 ?_
  refine zs_iconst C dX11_giveSlice_37 (by decide) ?_
  exact zs_icmp_eq C dX11_giveSlice_38 (by decide) (kX11_giveSlice_44 C h_X11_isGuest g_X11_isGuest h_X11_isSlice g_X11_isSlice h_X0_holderOf g_X0_holderOf h_X0_put g_X0_put h_X10_between g_X10_between j22 j53 hq) (kX11_giveSlice_41 C h_X11_isGuest g_X11_isGuest h_X11_isSlice g_X11_isSlice h_X0_holderOf g_X0_holderOf h_X0_put g_X0_put h_X10_between g_X10_between j22 j53 hq)
def xX11_giveSlice_22 (s_X11_isGuest : zq_Sp) (s_X11_isSlice : zq_Sp) (s_X0_holderOf : zq_Sp) (s_X0_put : zq_Sp) (s_X10_between : zq_Sp) (J22 : zq_P) (J53 : zq_P) (Q : zq_Q) (ls : zq_L) (st : List Value) (h : zq_H) : Prop := (zi_iload 4 (zi_iload 3 (zi_if2 (fun x y => y < x) (xX11_giveSlice_50 s_X11_isGuest s_X11_isSlice s_X0_holderOf s_X0_put s_X10_between J22 J53 Q) (xX11_giveSlice_28 s_X11_isGuest s_X11_isSlice s_X0_holderOf s_X0_put s_X10_between J22 J53 Q)))) ls st h
theorem kX11_giveSlice_22 {X : zq_X} {d : Nat} (C : zq_C X cX11_giveSlice 5 RX11 d) {d_X11_isGuest : Nat} {s_X11_isGuest : zq_Sp} (h_X11_isGuest : zq_M yX11_isGuest cX11_isGuest 2 (some .boolean) 1 d_X11_isGuest s_X11_isGuest) (g_X11_isGuest : d_X11_isGuest + 1 ≤ d) {d_X11_isSlice : Nat} {s_X11_isSlice : zq_Sp} (h_X11_isSlice : zq_M yX11_isSlice cX11_isSlice 3 (some .boolean) 1 d_X11_isSlice s_X11_isSlice) (g_X11_isSlice : d_X11_isSlice + 1 ≤ d) {d_X0_holderOf : Nat} {s_X0_holderOf : zq_Sp} (h_X0_holderOf : zq_M yX0_holderOf cX0_holderOf 2 (some .int) 1 d_X0_holderOf s_X0_holderOf) (g_X0_holderOf : d_X0_holderOf + 1 ≤ d) {d_X0_put : Nat} {s_X0_put : zq_Sp} (h_X0_put : zq_M yX0_put cX0_put 5 none 0 d_X0_put s_X0_put) (g_X0_put : d_X0_put + 1 ≤ d) {d_X10_between : Nat} {s_X10_between : zq_Sp} (h_X10_between : zq_M yX10_between cX10_between 4 (some .int) 1 d_X10_between s_X10_between) (g_X10_between : d_X10_between + 1 ≤ d) {J22 : zq_P} (j22 : zq_ok X 5 22 J22) {J53 : zq_P} (j53 : zq_ok X 5 53 J53) {Q : zq_Q} (hq : zq_R X (some .int) 1 Q) : zq_ok X 5 22 (xX11_giveSlice_22 s_X11_isGuest s_X11_isSlice s_X0_holderOf s_X0_put s_X10_between J22 J53 Q) := by
  refine zs_iload C dX11_giveSlice_22 ?_
  refine zs_iload_n C dX11_giveSlice_24 rfl ?_
  exact zs_icmp_gt C dX11_giveSlice_25 (by decide) (kX11_giveSlice_50 C h_X11_isGuest g_X11_isGuest h_X11_isSlice g_X11_isSlice h_X0_holderOf g_X0_holderOf h_X0_put g_X0_put h_X10_between g_X10_between j22 j53 hq) (kX11_giveSlice_28 C h_X11_isGuest g_X11_isGuest h_X11_isSlice g_X11_isSlice h_X0_holderOf g_X0_holderOf h_X0_put g_X0_put h_X10_between g_X10_between j22 j53 hq)
def xX11_giveSlice_19 (s_X11_isGuest : zq_Sp) (s_X11_isSlice : zq_Sp) (s_X0_holderOf : zq_Sp) (s_X0_put : zq_Sp) (s_X10_between : zq_Sp) (J22 : zq_P) (J53 : zq_P) (Q : zq_Q) (ls : zq_L) (st : List Value) (h : zq_H) : Prop := (zi_iload 2 (zi_istore 4 (J22))) ls st h
theorem kX11_giveSlice_19 {X : zq_X} {d : Nat} (C : zq_C X cX11_giveSlice 5 RX11 d) {d_X11_isGuest : Nat} {s_X11_isGuest : zq_Sp} (h_X11_isGuest : zq_M yX11_isGuest cX11_isGuest 2 (some .boolean) 1 d_X11_isGuest s_X11_isGuest) (g_X11_isGuest : d_X11_isGuest + 1 ≤ d) {d_X11_isSlice : Nat} {s_X11_isSlice : zq_Sp} (h_X11_isSlice : zq_M yX11_isSlice cX11_isSlice 3 (some .boolean) 1 d_X11_isSlice s_X11_isSlice) (g_X11_isSlice : d_X11_isSlice + 1 ≤ d) {d_X0_holderOf : Nat} {s_X0_holderOf : zq_Sp} (h_X0_holderOf : zq_M yX0_holderOf cX0_holderOf 2 (some .int) 1 d_X0_holderOf s_X0_holderOf) (g_X0_holderOf : d_X0_holderOf + 1 ≤ d) {d_X0_put : Nat} {s_X0_put : zq_Sp} (h_X0_put : zq_M yX0_put cX0_put 5 none 0 d_X0_put s_X0_put) (g_X0_put : d_X0_put + 1 ≤ d) {d_X10_between : Nat} {s_X10_between : zq_Sp} (h_X10_between : zq_M yX10_between cX10_between 4 (some .int) 1 d_X10_between s_X10_between) (g_X10_between : d_X10_between + 1 ≤ d) {J22 : zq_P} (j22 : zq_ok X 5 22 J22) {J53 : zq_P} (j53 : zq_ok X 5 53 J53) {Q : zq_Q} (hq : zq_R X (some .int) 1 Q) : zq_ok X 5 19 (xX11_giveSlice_19 s_X11_isGuest s_X11_isSlice s_X0_holderOf s_X0_put s_X10_between J22 J53 Q) := by
  refine zs_iload_n C dX11_giveSlice_19 rfl ?_
  refine zs_istore C dX11_giveSlice_20 (by decide) ?_
  exact j22
def xX11_giveSlice_17 (s_X11_isGuest : zq_Sp) (s_X11_isSlice : zq_Sp) (s_X0_holderOf : zq_Sp) (s_X0_put : zq_Sp) (s_X10_between : zq_Sp) (J22 : zq_P) (J53 : zq_P) (Q : zq_Q) (ls : zq_L) (st : List Value) (h : zq_H) : Prop := (zi_push (.int (-1)) (zi_iret Q)) ls st h
theorem kX11_giveSlice_17 {X : zq_X} {d : Nat} (C : zq_C X cX11_giveSlice 5 RX11 d) {d_X11_isGuest : Nat} {s_X11_isGuest : zq_Sp} (h_X11_isGuest : zq_M yX11_isGuest cX11_isGuest 2 (some .boolean) 1 d_X11_isGuest s_X11_isGuest) (g_X11_isGuest : d_X11_isGuest + 1 ≤ d) {d_X11_isSlice : Nat} {s_X11_isSlice : zq_Sp} (h_X11_isSlice : zq_M yX11_isSlice cX11_isSlice 3 (some .boolean) 1 d_X11_isSlice s_X11_isSlice) (g_X11_isSlice : d_X11_isSlice + 1 ≤ d) {d_X0_holderOf : Nat} {s_X0_holderOf : zq_Sp} (h_X0_holderOf : zq_M yX0_holderOf cX0_holderOf 2 (some .int) 1 d_X0_holderOf s_X0_holderOf) (g_X0_holderOf : d_X0_holderOf + 1 ≤ d) {d_X0_put : Nat} {s_X0_put : zq_Sp} (h_X0_put : zq_M yX0_put cX0_put 5 none 0 d_X0_put s_X0_put) (g_X0_put : d_X0_put + 1 ≤ d) {d_X10_between : Nat} {s_X10_between : zq_Sp} (h_X10_between : zq_M yX10_between cX10_between 4 (some .int) 1 d_X10_between s_X10_between) (g_X10_between : d_X10_between + 1 ≤ d) {J22 : zq_P} (j22 : zq_ok X 5 22 J22) {J53 : zq_P} (j53 : zq_ok X 5 53 J53) {Q : zq_Q} (hq : zq_R X (some .int) 1 Q) : zq_ok X 5 17 (xX11_giveSlice_17 s_X11_isGuest s_X11_isSlice s_X0_holderOf s_X0_put s_X10_between J22 J53 Q) := by
  refine zs_iconst C dX11_giveSlice_17 (by decide) ?_
  exact zs_iret C hq dX11_giveSlice_18
def xX11_giveSlice_8 (s_X11_isGuest : zq_Sp) (s_X11_isSlice : zq_Sp) (s_X0_holderOf : zq_Sp) (s_X0_put : zq_Sp) (s_X10_between : zq_Sp) (J22 : zq_P) (J53 : zq_P) (Q : zq_Q) (ls : zq_L) (st : List Value) (h : zq_H) : Prop := (zi_aload 0 (zi_iload 2 (zi_iload 3 (zi_callV 2 0 s_X11_isSlice (zi_if1 (fun x => x = 0) (xX11_giveSlice_17 s_X11_isGuest s_X11_isSlice s_X0_holderOf s_X0_put s_X10_between J22 J53 Q) (xX11_giveSlice_19 s_X11_isGuest s_X11_isSlice s_X0_holderOf s_X0_put s_X10_between J22 J53 Q)))))) ls st h
theorem kX11_giveSlice_8 {X : zq_X} {d : Nat} (C : zq_C X cX11_giveSlice 5 RX11 d) {d_X11_isGuest : Nat} {s_X11_isGuest : zq_Sp} (h_X11_isGuest : zq_M yX11_isGuest cX11_isGuest 2 (some .boolean) 1 d_X11_isGuest s_X11_isGuest) (g_X11_isGuest : d_X11_isGuest + 1 ≤ d) {d_X11_isSlice : Nat} {s_X11_isSlice : zq_Sp} (h_X11_isSlice : zq_M yX11_isSlice cX11_isSlice 3 (some .boolean) 1 d_X11_isSlice s_X11_isSlice) (g_X11_isSlice : d_X11_isSlice + 1 ≤ d) {d_X0_holderOf : Nat} {s_X0_holderOf : zq_Sp} (h_X0_holderOf : zq_M yX0_holderOf cX0_holderOf 2 (some .int) 1 d_X0_holderOf s_X0_holderOf) (g_X0_holderOf : d_X0_holderOf + 1 ≤ d) {d_X0_put : Nat} {s_X0_put : zq_Sp} (h_X0_put : zq_M yX0_put cX0_put 5 none 0 d_X0_put s_X0_put) (g_X0_put : d_X0_put + 1 ≤ d) {d_X10_between : Nat} {s_X10_between : zq_Sp} (h_X10_between : zq_M yX10_between cX10_between 4 (some .int) 1 d_X10_between s_X10_between) (g_X10_between : d_X10_between + 1 ≤ d) {J22 : zq_P} (j22 : zq_ok X 5 22 J22) {J53 : zq_P} (j53 : zq_ok X 5 53 J53) {Q : zq_Q} (hq : zq_R X (some .int) 1 Q) : zq_ok X 5 8 (xX11_giveSlice_8 s_X11_isGuest s_X11_isSlice s_X0_holderOf s_X0_put s_X10_between J22 J53 Q) := by
  refine zs_aload_n C dX11_giveSlice_8 rfl ?_
  refine zs_iload_n C dX11_giveSlice_9 rfl ?_
  refine zs_iload_n C dX11_giveSlice_10 rfl ?_
  refine zs_callV C h_X11_isSlice g_X11_isSlice zy_X11_isSlice zp_0 (show vwCl[11]? = some (RX11, TX11, 16) from rfl) zw_583 zw_585 zs9_X11_isSlice dX11_giveSlice_11 ?_
  exact zs_if_ne C dX11_giveSlice_14 (by decide) (kX11_giveSlice_19 C h_X11_isGuest g_X11_isGuest h_X11_isSlice g_X11_isSlice h_X0_holderOf g_X0_holderOf h_X0_put g_X0_put h_X10_between g_X10_between j22 j53 hq) (kX11_giveSlice_17 C h_X11_isGuest g_X11_isGuest h_X11_isSlice g_X11_isSlice h_X0_holderOf g_X0_holderOf h_X0_put g_X0_put h_X10_between g_X10_between j22 j53 hq)
def xX11_giveSlice_0 (s_X11_isGuest : zq_Sp) (s_X11_isSlice : zq_Sp) (s_X0_holderOf : zq_Sp) (s_X0_put : zq_Sp) (s_X10_between : zq_Sp) (J22 : zq_P) (J53 : zq_P) (Q : zq_Q) (ls : zq_L) (st : List Value) (h : zq_H) : Prop := (zi_aload 0 (zi_iload 1 (zi_callV 1 0 s_X11_isGuest (zi_if1 (fun x => x = 0) (xX11_giveSlice_17 s_X11_isGuest s_X11_isSlice s_X0_holderOf s_X0_put s_X10_between J22 J53 Q) (xX11_giveSlice_8 s_X11_isGuest s_X11_isSlice s_X0_holderOf s_X0_put s_X10_between J22 J53 Q))))) ls st h
theorem kX11_giveSlice_0 {X : zq_X} {d : Nat} (C : zq_C X cX11_giveSlice 5 RX11 d) {d_X11_isGuest : Nat} {s_X11_isGuest : zq_Sp} (h_X11_isGuest : zq_M yX11_isGuest cX11_isGuest 2 (some .boolean) 1 d_X11_isGuest s_X11_isGuest) (g_X11_isGuest : d_X11_isGuest + 1 ≤ d) {d_X11_isSlice : Nat} {s_X11_isSlice : zq_Sp} (h_X11_isSlice : zq_M yX11_isSlice cX11_isSlice 3 (some .boolean) 1 d_X11_isSlice s_X11_isSlice) (g_X11_isSlice : d_X11_isSlice + 1 ≤ d) {d_X0_holderOf : Nat} {s_X0_holderOf : zq_Sp} (h_X0_holderOf : zq_M yX0_holderOf cX0_holderOf 2 (some .int) 1 d_X0_holderOf s_X0_holderOf) (g_X0_holderOf : d_X0_holderOf + 1 ≤ d) {d_X0_put : Nat} {s_X0_put : zq_Sp} (h_X0_put : zq_M yX0_put cX0_put 5 none 0 d_X0_put s_X0_put) (g_X0_put : d_X0_put + 1 ≤ d) {d_X10_between : Nat} {s_X10_between : zq_Sp} (h_X10_between : zq_M yX10_between cX10_between 4 (some .int) 1 d_X10_between s_X10_between) (g_X10_between : d_X10_between + 1 ≤ d) {J22 : zq_P} (j22 : zq_ok X 5 22 J22) {J53 : zq_P} (j53 : zq_ok X 5 53 J53) {Q : zq_Q} (hq : zq_R X (some .int) 1 Q) : zq_ok X 5 0 (xX11_giveSlice_0 s_X11_isGuest s_X11_isSlice s_X0_holderOf s_X0_put s_X10_between J22 J53 Q) := by
  refine zs_aload_n C dX11_giveSlice_0 rfl ?_
  refine zs_iload_n C dX11_giveSlice_1 rfl ?_
  refine zs_callV C h_X11_isGuest g_X11_isGuest zy_X11_isGuest zp_0 (show vwCl[11]? = some (RX11, TX11, 16) from rfl) zw_546 zw_548 zs9_X11_isGuest dX11_giveSlice_2 ?_
  exact zs_if_eq C dX11_giveSlice_5 (by decide) (kX11_giveSlice_17 C h_X11_isGuest g_X11_isGuest h_X11_isSlice g_X11_isSlice h_X0_holderOf g_X0_holderOf h_X0_put g_X0_put h_X10_between g_X10_between j22 j53 hq) (kX11_giveSlice_8 C h_X11_isGuest g_X11_isGuest h_X11_isSlice g_X11_isSlice h_X0_holderOf g_X0_holderOf h_X0_put g_X0_put h_X10_between g_X10_between j22 j53 hq)
theorem mX11_giveSlice {d : Nat} {spec : zq_Sp} {σ22 : Type} {σ53 : Type} {d_X11_isGuest : Nat} {s_X11_isGuest : zq_Sp} (h_X11_isGuest : zq_M yX11_isGuest cX11_isGuest 2 (some .boolean) 1 d_X11_isGuest s_X11_isGuest) (g_X11_isGuest : d_X11_isGuest + 1 ≤ d) {d_X11_isSlice : Nat} {s_X11_isSlice : zq_Sp} (h_X11_isSlice : zq_M yX11_isSlice cX11_isSlice 3 (some .boolean) 1 d_X11_isSlice s_X11_isSlice) (g_X11_isSlice : d_X11_isSlice + 1 ≤ d) {d_X0_holderOf : Nat} {s_X0_holderOf : zq_Sp} (h_X0_holderOf : zq_M yX0_holderOf cX0_holderOf 2 (some .int) 1 d_X0_holderOf s_X0_holderOf) (g_X0_holderOf : d_X0_holderOf + 1 ≤ d) {d_X0_put : Nat} {s_X0_put : zq_Sp} (h_X0_put : zq_M yX0_put cX0_put 5 none 0 d_X0_put s_X0_put) (g_X0_put : d_X0_put + 1 ≤ d) {d_X10_between : Nat} {s_X10_between : zq_Sp} (h_X10_between : zq_M yX10_between cX10_between 4 (some .int) 1 d_X10_between s_X10_between) (g_X10_between : d_X10_between + 1 ≤ d) (μ22 : σ22 → Nat) (I22 : zq_Q → σ22 → zq_P) (μ53 : σ53 → Nat) (I53 : zq_Q → σ53 → zq_P) (v : ∀ args h Q, spec args h Q → (zq_a args).length ≤ 5 ∧ xX11_giveSlice_0 s_X11_isGuest s_X11_isSlice s_X0_holderOf s_X0_put s_X10_between (fun ls st h => ∃ b, I22 Q b ls st h) (fun ls st h => ∃ b, I53 Q b ls st h) Q (zq_l0 5 args) [] h) (v22 : ∀ Q a ls st h, I22 Q a ls st h → xX11_giveSlice_22 s_X11_isGuest s_X11_isSlice s_X0_holderOf s_X0_put s_X10_between (fun ls st h => ∃ b, μ22 b < μ22 a ∧ I22 Q b ls st h) (fun ls st h => ∃ b, μ53 b < μ22 a ∧ I53 Q b ls st h) Q ls st h) (v53 : ∀ Q a ls st h, I53 Q a ls st h → xX11_giveSlice_53 s_X11_isGuest s_X11_isSlice s_X0_holderOf s_X0_put s_X10_between (fun ls st h => ∃ b, μ22 b < μ53 a ∧ I22 Q b ls st h) (fun ls st h => ∃ b, μ53 b < μ53 a ∧ I53 Q b ls st h) Q ls st h) : zq_M yX11_giveSlice cX11_giveSlice 5 (some .int) 1 d spec := by
  refine zq_met (by decide +kernel) (by decide) (fun X Q args h C hq hs => ⟨(v args h Q hs).1, _, ?_, (v args h Q hs).2⟩)
  have hl := zq_loop2 (X := X) (nL := 5) (pc1 := 22) (pc2 := 53) μ22 μ53 (I22 Q) (I53 Q) (fun J22 J53 => xX11_giveSlice_22 s_X11_isGuest s_X11_isSlice s_X0_holderOf s_X0_put s_X10_between J22 J53 Q) (fun J22 J53 => xX11_giveSlice_53 s_X11_isGuest s_X11_isSlice s_X0_holderOf s_X0_put s_X10_between J22 J53 Q) (fun j22 j53 => kX11_giveSlice_22 C h_X11_isGuest g_X11_isGuest h_X11_isSlice g_X11_isSlice h_X0_holderOf g_X0_holderOf h_X0_put g_X0_put h_X10_between g_X10_between j22 j53 hq) (fun j22 j53 => kX11_giveSlice_53 C h_X11_isGuest g_X11_isGuest h_X11_isSlice g_X11_isSlice h_X0_holderOf g_X0_holderOf h_X0_put g_X0_put h_X10_between g_X10_between j22 j53 hq) (v22 Q) (v53 Q)
  exact kX11_giveSlice_0 C h_X11_isGuest g_X11_isGuest h_X11_isSlice g_X11_isSlice h_X0_holderOf g_X0_holderOf h_X0_put g_X0_put h_X10_between g_X10_between hl.1 hl.2 hq
/-! ToOneCrumb.takeBack(II)I -/
theorem dX11_takeBack_0 : decode cX11_takeBack 0 = .ok (.aload_n 0, 1) := by decide +kernel
theorem dX11_takeBack_1 : decode cX11_takeBack 1 = .ok (.iload_n 1, 1) := by decide +kernel
theorem dX11_takeBack_2 : decode cX11_takeBack 2 = .ok (.iload_n 2, 1) := by decide +kernel
theorem dX11_takeBack_3 : decode cX11_takeBack 3 = .ok (.invokevirtual 389, 3) := by decide +kernel
theorem dX11_takeBack_6 : decode cX11_takeBack 6 = .ok (.ifCond .ne 5, 3) := by decide +kernel
theorem dX11_takeBack_9 : decode cX11_takeBack 9 = .ok (.iconst (-1), 1) := by decide +kernel
theorem dX11_takeBack_10 : decode cX11_takeBack 10 = .ok (.ireturn, 1) := by decide +kernel
theorem dX11_takeBack_11 : decode cX11_takeBack 11 = .ok (.iconst 0, 1) := by decide +kernel
theorem dX11_takeBack_12 : decode cX11_takeBack 12 = .ok (.istore_n 3, 1) := by decide +kernel
theorem dX11_takeBack_13 : decode cX11_takeBack 13 = .ok (.iload_n 1, 1) := by decide +kernel
theorem dX11_takeBack_14 : decode cX11_takeBack 14 = .ok (.istore 4, 2) := by decide +kernel
theorem dX11_takeBack_16 : decode cX11_takeBack 16 = .ok (.iload 4, 2) := by decide +kernel
theorem dX11_takeBack_18 : decode cX11_takeBack 18 = .ok (.iload_n 2, 1) := by decide +kernel
theorem dX11_takeBack_19 : decode cX11_takeBack 19 = .ok (.if_icmp .gt 46, 3) := by decide +kernel
theorem dX11_takeBack_22 : decode cX11_takeBack 22 = .ok (.aload_n 0, 1) := by decide +kernel
theorem dX11_takeBack_23 : decode cX11_takeBack 23 = .ok (.getfield 40, 3) := by decide +kernel
theorem dX11_takeBack_26 : decode cX11_takeBack 26 = .ok (.iload 4, 2) := by decide +kernel
theorem dX11_takeBack_28 : decode cX11_takeBack 28 = .ok (.invokevirtual 168, 3) := by decide +kernel
theorem dX11_takeBack_31 : decode cX11_takeBack 31 = .ok (.istore 5, 2) := by decide +kernel
theorem dX11_takeBack_33 : decode cX11_takeBack 33 = .ok (.iload 5, 2) := by decide +kernel
theorem dX11_takeBack_35 : decode cX11_takeBack 35 = .ok (.iconst (-1), 1) := by decide +kernel
theorem dX11_takeBack_36 : decode cX11_takeBack 36 = .ok (.if_icmp .eq 23, 3) := by decide +kernel
theorem dX11_takeBack_39 : decode cX11_takeBack 39 = .ok (.iload 5, 2) := by decide +kernel
theorem dX11_takeBack_41 : decode cX11_takeBack 41 = .ok (.bipush 9, 2) := by decide +kernel
theorem dX11_takeBack_43 : decode cX11_takeBack 43 = .ok (.if_icmp .eq 16, 3) := by decide +kernel
theorem dX11_takeBack_46 : decode cX11_takeBack 46 = .ok (.aload_n 0, 1) := by decide +kernel
theorem dX11_takeBack_47 : decode cX11_takeBack 47 = .ok (.getfield 40, 3) := by decide +kernel
theorem dX11_takeBack_50 : decode cX11_takeBack 50 = .ok (.iload 4, 2) := by decide +kernel
theorem dX11_takeBack_52 : decode cX11_takeBack 52 = .ok (.iconst (-1), 1) := by decide +kernel
theorem dX11_takeBack_53 : decode cX11_takeBack 53 = .ok (.invokevirtual 392, 3) := by decide +kernel
theorem dX11_takeBack_56 : decode cX11_takeBack 56 = .ok (.iinc 3 1, 3) := by decide +kernel
theorem dX11_takeBack_59 : decode cX11_takeBack 59 = .ok (.iinc 4 1, 3) := by decide +kernel
theorem dX11_takeBack_62 : decode cX11_takeBack 62 = .ok (.goto (-46), 3) := by decide +kernel
theorem dX11_takeBack_65 : decode cX11_takeBack 65 = .ok (.iload_n 3, 1) := by decide +kernel
theorem dX11_takeBack_66 : decode cX11_takeBack 66 = .ok (.ireturn, 1) := by decide +kernel
def xX11_takeBack_65 (s_X11_isSlice : zq_Sp) (s_X0_holderOf : zq_Sp) (s_X0_put : zq_Sp) (J16 : zq_P) (Q : zq_Q) (ls : zq_L) (st : List Value) (h : zq_H) : Prop := (zi_iload 3 (zi_iret Q)) ls st h
theorem kX11_takeBack_65 {X : zq_X} {d : Nat} (C : zq_C X cX11_takeBack 6 RX11 d) {d_X11_isSlice : Nat} {s_X11_isSlice : zq_Sp} (h_X11_isSlice : zq_M yX11_isSlice cX11_isSlice 3 (some .boolean) 1 d_X11_isSlice s_X11_isSlice) (g_X11_isSlice : d_X11_isSlice + 1 ≤ d) {d_X0_holderOf : Nat} {s_X0_holderOf : zq_Sp} (h_X0_holderOf : zq_M yX0_holderOf cX0_holderOf 2 (some .int) 1 d_X0_holderOf s_X0_holderOf) (g_X0_holderOf : d_X0_holderOf + 1 ≤ d) {d_X0_put : Nat} {s_X0_put : zq_Sp} (h_X0_put : zq_M yX0_put cX0_put 5 none 0 d_X0_put s_X0_put) (g_X0_put : d_X0_put + 1 ≤ d) {J16 : zq_P} (j16 : zq_ok X 6 16 J16) {Q : zq_Q} (hq : zq_R X (some .int) 1 Q) : zq_ok X 6 65 (xX11_takeBack_65 s_X11_isSlice s_X0_holderOf s_X0_put J16 Q) := by
  refine zs_iload_n C dX11_takeBack_65 rfl ?_
  exact zs_iret C hq dX11_takeBack_66
def xX11_takeBack_59 (s_X11_isSlice : zq_Sp) (s_X0_holderOf : zq_Sp) (s_X0_put : zq_Sp) (J16 : zq_P) (Q : zq_Q) (ls : zq_L) (st : List Value) (h : zq_H) : Prop := (zi_iinc 4 1 (J16)) ls st h
theorem kX11_takeBack_59 {X : zq_X} {d : Nat} (C : zq_C X cX11_takeBack 6 RX11 d) {d_X11_isSlice : Nat} {s_X11_isSlice : zq_Sp} (h_X11_isSlice : zq_M yX11_isSlice cX11_isSlice 3 (some .boolean) 1 d_X11_isSlice s_X11_isSlice) (g_X11_isSlice : d_X11_isSlice + 1 ≤ d) {d_X0_holderOf : Nat} {s_X0_holderOf : zq_Sp} (h_X0_holderOf : zq_M yX0_holderOf cX0_holderOf 2 (some .int) 1 d_X0_holderOf s_X0_holderOf) (g_X0_holderOf : d_X0_holderOf + 1 ≤ d) {d_X0_put : Nat} {s_X0_put : zq_Sp} (h_X0_put : zq_M yX0_put cX0_put 5 none 0 d_X0_put s_X0_put) (g_X0_put : d_X0_put + 1 ≤ d) {J16 : zq_P} (j16 : zq_ok X 6 16 J16) {Q : zq_Q} (hq : zq_R X (some .int) 1 Q) : zq_ok X 6 59 (xX11_takeBack_59 s_X11_isSlice s_X0_holderOf s_X0_put J16 Q) := by
  refine zs_iinc C dX11_takeBack_59 (by decide) (by decide) ?_
  exact zs_goto C dX11_takeBack_62 (by decide) (j16)
def xX11_takeBack_46 (s_X11_isSlice : zq_Sp) (s_X0_holderOf : zq_Sp) (s_X0_put : zq_Sp) (J16 : zq_P) (Q : zq_Q) (ls : zq_L) (st : List Value) (h : zq_H) : Prop := (zi_aload 0 (zi_getR 0 12 (zi_iload 4 (zi_push (.int (-1)) (zi_callV 2 12 s_X0_put (zi_iinc 3 1 ((xX11_takeBack_59 s_X11_isSlice s_X0_holderOf s_X0_put J16 Q)))))))) ls st h
theorem kX11_takeBack_46 {X : zq_X} {d : Nat} (C : zq_C X cX11_takeBack 6 RX11 d) {d_X11_isSlice : Nat} {s_X11_isSlice : zq_Sp} (h_X11_isSlice : zq_M yX11_isSlice cX11_isSlice 3 (some .boolean) 1 d_X11_isSlice s_X11_isSlice) (g_X11_isSlice : d_X11_isSlice + 1 ≤ d) {d_X0_holderOf : Nat} {s_X0_holderOf : zq_Sp} (h_X0_holderOf : zq_M yX0_holderOf cX0_holderOf 2 (some .int) 1 d_X0_holderOf s_X0_holderOf) (g_X0_holderOf : d_X0_holderOf + 1 ≤ d) {d_X0_put : Nat} {s_X0_put : zq_Sp} (h_X0_put : zq_M yX0_put cX0_put 5 none 0 d_X0_put s_X0_put) (g_X0_put : d_X0_put + 1 ≤ d) {J16 : zq_P} (j16 : zq_ok X 6 16 J16) {Q : zq_Q} (hq : zq_R X (some .int) 1 Q) : zq_ok X 6 46 (xX11_takeBack_46 s_X11_isSlice s_X0_holderOf s_X0_put J16 Q) := by
  refine zs_aload_n C dX11_takeBack_46 rfl ?_
  refine zs_getR C zp_0 zF11 (j := 4) ⟨by decide, rfl⟩ zw_319 dX11_takeBack_47 ?_
  refine zs_iload C dX11_takeBack_50 ?_
  refine zs_iconst C dX11_takeBack_52 (by decide) ?_
  refine zs_callV C h_X0_put g_X0_put zy_X0_put zp_12 (show vwCl[0]? = some (RX0, TX0, 5) from rfl) zw_592 zw_593 zs9_X0_put dX11_takeBack_53 ?_
  refine zs_iinc C dX11_takeBack_56 (by decide) (by decide) ?_
  exact kX11_takeBack_59 C h_X11_isSlice g_X11_isSlice h_X0_holderOf g_X0_holderOf h_X0_put g_X0_put j16 hq
def xX11_takeBack_39 (s_X11_isSlice : zq_Sp) (s_X0_holderOf : zq_Sp) (s_X0_put : zq_Sp) (J16 : zq_P) (Q : zq_Q) (ls : zq_L) (st : List Value) (h : zq_H) : Prop := (zi_iload 5 (zi_push (.int 9) (zi_if2 (fun x y => x = y) (xX11_takeBack_59 s_X11_isSlice s_X0_holderOf s_X0_put J16 Q) (xX11_takeBack_46 s_X11_isSlice s_X0_holderOf s_X0_put J16 Q)))) ls st h
theorem kX11_takeBack_39 {X : zq_X} {d : Nat} (C : zq_C X cX11_takeBack 6 RX11 d) {d_X11_isSlice : Nat} {s_X11_isSlice : zq_Sp} (h_X11_isSlice : zq_M yX11_isSlice cX11_isSlice 3 (some .boolean) 1 d_X11_isSlice s_X11_isSlice) (g_X11_isSlice : d_X11_isSlice + 1 ≤ d) {d_X0_holderOf : Nat} {s_X0_holderOf : zq_Sp} (h_X0_holderOf : zq_M yX0_holderOf cX0_holderOf 2 (some .int) 1 d_X0_holderOf s_X0_holderOf) (g_X0_holderOf : d_X0_holderOf + 1 ≤ d) {d_X0_put : Nat} {s_X0_put : zq_Sp} (h_X0_put : zq_M yX0_put cX0_put 5 none 0 d_X0_put s_X0_put) (g_X0_put : d_X0_put + 1 ≤ d) {J16 : zq_P} (j16 : zq_ok X 6 16 J16) {Q : zq_Q} (hq : zq_R X (some .int) 1 Q) : zq_ok X 6 39 (xX11_takeBack_39 s_X11_isSlice s_X0_holderOf s_X0_put J16 Q) := by
  refine zs_iload C dX11_takeBack_39 ?_
  refine zs_bipush C dX11_takeBack_41 (by decide) ?_
  exact zs_icmp_eq C dX11_takeBack_43 (by decide) (kX11_takeBack_59 C h_X11_isSlice g_X11_isSlice h_X0_holderOf g_X0_holderOf h_X0_put g_X0_put j16 hq) (kX11_takeBack_46 C h_X11_isSlice g_X11_isSlice h_X0_holderOf g_X0_holderOf h_X0_put g_X0_put j16 hq)
def xX11_takeBack_22 (s_X11_isSlice : zq_Sp) (s_X0_holderOf : zq_Sp) (s_X0_put : zq_Sp) (J16 : zq_P) (Q : zq_Q) (ls : zq_L) (st : List Value) (h : zq_H) : Prop := (zi_aload 0 (zi_getR 0 12 (zi_iload 4 (zi_callV 1 12 s_X0_holderOf (zi_istore 5 (zi_iload 5 (zi_push (.int (-1)) (zi_if2 (fun x y => x = y) (xX11_takeBack_59 s_X11_isSlice s_X0_holderOf s_X0_put J16 Q) (xX11_takeBack_39 s_X11_isSlice s_X0_holderOf s_X0_put J16 Q))))))))) ls st h
theorem kX11_takeBack_22 {X : zq_X} {d : Nat} (C : zq_C X cX11_takeBack 6 RX11 d) {d_X11_isSlice : Nat} {s_X11_isSlice : zq_Sp} (h_X11_isSlice : zq_M yX11_isSlice cX11_isSlice 3 (some .boolean) 1 d_X11_isSlice s_X11_isSlice) (g_X11_isSlice : d_X11_isSlice + 1 ≤ d) {d_X0_holderOf : Nat} {s_X0_holderOf : zq_Sp} (h_X0_holderOf : zq_M yX0_holderOf cX0_holderOf 2 (some .int) 1 d_X0_holderOf s_X0_holderOf) (g_X0_holderOf : d_X0_holderOf + 1 ≤ d) {d_X0_put : Nat} {s_X0_put : zq_Sp} (h_X0_put : zq_M yX0_put cX0_put 5 none 0 d_X0_put s_X0_put) (g_X0_put : d_X0_put + 1 ≤ d) {J16 : zq_P} (j16 : zq_ok X 6 16 J16) {Q : zq_Q} (hq : zq_R X (some .int) 1 Q) : zq_ok X 6 22 (xX11_takeBack_22 s_X11_isSlice s_X0_holderOf s_X0_put J16 Q) := by
  refine zs_aload_n C dX11_takeBack_22 rfl ?_
  refine zs_getR C zp_0 zF11 (j := 4) ⟨by decide, rfl⟩ zw_319 dX11_takeBack_23 ?_
  refine zs_iload C dX11_takeBack_26 ?_
  refine zs_callV C h_X0_holderOf g_X0_holderOf zy_X0_holderOf zp_12 (show vwCl[0]? = some (RX0, TX0, 5) from rfl) zw_587 zw_588 zs9_X0_holderOf dX11_takeBack_28 ?_
  refine zs_istore C dX11_takeBack_31 (by decide) ?_
  refine zs_iload C dX11_takeBack_33 ?_
  refine zs_iconst C dX11_takeBack_35 (by decide) ?_
  exact zs_icmp_eq C dX11_takeBack_36 (by decide) (kX11_takeBack_59 C h_X11_isSlice g_X11_isSlice h_X0_holderOf g_X0_holderOf h_X0_put g_X0_put j16 hq) (kX11_takeBack_39 C h_X11_isSlice g_X11_isSlice h_X0_holderOf g_X0_holderOf h_X0_put g_X0_put j16 hq)
def xX11_takeBack_16 (s_X11_isSlice : zq_Sp) (s_X0_holderOf : zq_Sp) (s_X0_put : zq_Sp) (J16 : zq_P) (Q : zq_Q) (ls : zq_L) (st : List Value) (h : zq_H) : Prop := (zi_iload 4 (zi_iload 2 (zi_if2 (fun x y => y < x) (xX11_takeBack_65 s_X11_isSlice s_X0_holderOf s_X0_put J16 Q) (xX11_takeBack_22 s_X11_isSlice s_X0_holderOf s_X0_put J16 Q)))) ls st h
theorem kX11_takeBack_16 {X : zq_X} {d : Nat} (C : zq_C X cX11_takeBack 6 RX11 d) {d_X11_isSlice : Nat} {s_X11_isSlice : zq_Sp} (h_X11_isSlice : zq_M yX11_isSlice cX11_isSlice 3 (some .boolean) 1 d_X11_isSlice s_X11_isSlice) (g_X11_isSlice : d_X11_isSlice + 1 ≤ d) {d_X0_holderOf : Nat} {s_X0_holderOf : zq_Sp} (h_X0_holderOf : zq_M yX0_holderOf cX0_holderOf 2 (some .int) 1 d_X0_holderOf s_X0_holderOf) (g_X0_holderOf : d_X0_holderOf + 1 ≤ d) {d_X0_put : Nat} {s_X0_put : zq_Sp} (h_X0_put : zq_M yX0_put cX0_put 5 none 0 d_X0_put s_X0_put) (g_X0_put : d_X0_put + 1 ≤ d) {J16 : zq_P} (j16 : zq_ok X 6 16 J16) {Q : zq_Q} (hq : zq_R X (some .int) 1 Q) : zq_ok X 6 16 (xX11_takeBack_16 s_X11_isSlice s_X0_holderOf s_X0_put J16 Q) := by
  refine zs_iload C dX11_takeBack_16 ?_
  refine zs_iload_n C dX11_takeBack_18 rfl ?_
  exact zs_icmp_gt C dX11_takeBack_19 (by decide) (kX11_takeBack_65 C h_X11_isSlice g_X11_isSlice h_X0_holderOf g_X0_holderOf h_X0_put g_X0_put j16 hq) (kX11_takeBack_22 C h_X11_isSlice g_X11_isSlice h_X0_holderOf g_X0_holderOf h_X0_put g_X0_put j16 hq)
def xX11_takeBack_11 (s_X11_isSlice : zq_Sp) (s_X0_holderOf : zq_Sp) (s_X0_put : zq_Sp) (J16 : zq_P) (Q : zq_Q) (ls : zq_L) (st : List Value) (h : zq_H) : Prop := (zi_push (.int 0) (zi_istore 3 (zi_iload 1 (zi_istore 4 (J16))))) ls st h
theorem kX11_takeBack_11 {X : zq_X} {d : Nat} (C : zq_C X cX11_takeBack 6 RX11 d) {d_X11_isSlice : Nat} {s_X11_isSlice : zq_Sp} (h_X11_isSlice : zq_M yX11_isSlice cX11_isSlice 3 (some .boolean) 1 d_X11_isSlice s_X11_isSlice) (g_X11_isSlice : d_X11_isSlice + 1 ≤ d) {d_X0_holderOf : Nat} {s_X0_holderOf : zq_Sp} (h_X0_holderOf : zq_M yX0_holderOf cX0_holderOf 2 (some .int) 1 d_X0_holderOf s_X0_holderOf) (g_X0_holderOf : d_X0_holderOf + 1 ≤ d) {d_X0_put : Nat} {s_X0_put : zq_Sp} (h_X0_put : zq_M yX0_put cX0_put 5 none 0 d_X0_put s_X0_put) (g_X0_put : d_X0_put + 1 ≤ d) {J16 : zq_P} (j16 : zq_ok X 6 16 J16) {Q : zq_Q} (hq : zq_R X (some .int) 1 Q) : zq_ok X 6 11 (xX11_takeBack_11 s_X11_isSlice s_X0_holderOf s_X0_put J16 Q) := by
  refine zs_iconst C dX11_takeBack_11 (by decide) ?_
  refine zs_istore_n C dX11_takeBack_12 rfl (by decide) ?_
  refine zs_iload_n C dX11_takeBack_13 rfl ?_
  refine zs_istore C dX11_takeBack_14 (by decide) ?_
  exact j16
def xX11_takeBack_9 (s_X11_isSlice : zq_Sp) (s_X0_holderOf : zq_Sp) (s_X0_put : zq_Sp) (J16 : zq_P) (Q : zq_Q) (ls : zq_L) (st : List Value) (h : zq_H) : Prop := (zi_push (.int (-1)) (zi_iret Q)) ls st h
theorem kX11_takeBack_9 {X : zq_X} {d : Nat} (C : zq_C X cX11_takeBack 6 RX11 d) {d_X11_isSlice : Nat} {s_X11_isSlice : zq_Sp} (h_X11_isSlice : zq_M yX11_isSlice cX11_isSlice 3 (some .boolean) 1 d_X11_isSlice s_X11_isSlice) (g_X11_isSlice : d_X11_isSlice + 1 ≤ d) {d_X0_holderOf : Nat} {s_X0_holderOf : zq_Sp} (h_X0_holderOf : zq_M yX0_holderOf cX0_holderOf 2 (some .int) 1 d_X0_holderOf s_X0_holderOf) (g_X0_holderOf : d_X0_holderOf + 1 ≤ d) {d_X0_put : Nat} {s_X0_put : zq_Sp} (h_X0_put : zq_M yX0_put cX0_put 5 none 0 d_X0_put s_X0_put) (g_X0_put : d_X0_put + 1 ≤ d) {J16 : zq_P} (j16 : zq_ok X 6 16 J16) {Q : zq_Q} (hq : zq_R X (some .int) 1 Q) : zq_ok X 6 9 (xX11_takeBack_9 s_X11_isSlice s_X0_holderOf s_X0_put J16 Q) := by
  refine zs_iconst C dX11_takeBack_9 (by decide) ?_
  exact zs_iret C hq dX11_takeBack_10
def xX11_takeBack_0 (s_X11_isSlice : zq_Sp) (s_X0_holderOf : zq_Sp) (s_X0_put : zq_Sp) (J16 : zq_P) (Q : zq_Q) (ls : zq_L) (st : List Value) (h : zq_H) : Prop := (zi_aload 0 (zi_iload 1 (zi_iload 2 (zi_callV 2 0 s_X11_isSlice (zi_if1 (fun x => x = 0) (xX11_takeBack_9 s_X11_isSlice s_X0_holderOf s_X0_put J16 Q) (xX11_takeBack_11 s_X11_isSlice s_X0_holderOf s_X0_put J16 Q)))))) ls st h
theorem kX11_takeBack_0 {X : zq_X} {d : Nat} (C : zq_C X cX11_takeBack 6 RX11 d) {d_X11_isSlice : Nat} {s_X11_isSlice : zq_Sp} (h_X11_isSlice : zq_M yX11_isSlice cX11_isSlice 3 (some .boolean) 1 d_X11_isSlice s_X11_isSlice) (g_X11_isSlice : d_X11_isSlice + 1 ≤ d) {d_X0_holderOf : Nat} {s_X0_holderOf : zq_Sp} (h_X0_holderOf : zq_M yX0_holderOf cX0_holderOf 2 (some .int) 1 d_X0_holderOf s_X0_holderOf) (g_X0_holderOf : d_X0_holderOf + 1 ≤ d) {d_X0_put : Nat} {s_X0_put : zq_Sp} (h_X0_put : zq_M yX0_put cX0_put 5 none 0 d_X0_put s_X0_put) (g_X0_put : d_X0_put + 1 ≤ d) {J16 : zq_P} (j16 : zq_ok X 6 16 J16) {Q : zq_Q} (hq : zq_R X (some .int) 1 Q) : zq_ok X 6 0 (xX11_takeBack_0 s_X11_isSlice s_X0_holderOf s_X0_put J16 Q) := by
  refine zs_aload_n C dX11_takeBack_0 rfl ?_
  refine zs_iload_n C dX11_takeBack_1 rfl ?_
  refine zs_iload_n C dX11_takeBack_2 rfl ?_
  refine zs_callV C h_X11_isSlice g_X11_isSlice zy_X11_isSlice zp_0 (show vwCl[11]? = some (RX11, TX11, 16) from rfl) zw_583 zw_585 zs9_X11_isSlice dX11_takeBack_3 ?_
  exact zs_if_ne C dX11_takeBack_6 (by decide) (kX11_takeBack_11 C h_X11_isSlice g_X11_isSlice h_X0_holderOf g_X0_holderOf h_X0_put g_X0_put j16 hq) (kX11_takeBack_9 C h_X11_isSlice g_X11_isSlice h_X0_holderOf g_X0_holderOf h_X0_put g_X0_put j16 hq)
theorem mX11_takeBack {d : Nat} {spec : zq_Sp} {σ16 : Type} {d_X11_isSlice : Nat} {s_X11_isSlice : zq_Sp} (h_X11_isSlice : zq_M yX11_isSlice cX11_isSlice 3 (some .boolean) 1 d_X11_isSlice s_X11_isSlice) (g_X11_isSlice : d_X11_isSlice + 1 ≤ d) {d_X0_holderOf : Nat} {s_X0_holderOf : zq_Sp} (h_X0_holderOf : zq_M yX0_holderOf cX0_holderOf 2 (some .int) 1 d_X0_holderOf s_X0_holderOf) (g_X0_holderOf : d_X0_holderOf + 1 ≤ d) {d_X0_put : Nat} {s_X0_put : zq_Sp} (h_X0_put : zq_M yX0_put cX0_put 5 none 0 d_X0_put s_X0_put) (g_X0_put : d_X0_put + 1 ≤ d) (μ16 : σ16 → Nat) (I16 : zq_Q → σ16 → zq_P) (v : ∀ args h Q, spec args h Q → (zq_a args).length ≤ 6 ∧ xX11_takeBack_0 s_X11_isSlice s_X0_holderOf s_X0_put (fun ls st h => ∃ b, I16 Q b ls st h) Q (zq_l0 6 args) [] h) (v16 : ∀ Q a ls st h, I16 Q a ls st h → xX11_takeBack_16 s_X11_isSlice s_X0_holderOf s_X0_put (fun ls st h => ∃ b, μ16 b < μ16 a ∧ I16 Q b ls st h) Q ls st h) : zq_M yX11_takeBack cX11_takeBack 6 (some .int) 1 d spec := by
  refine zq_met (by decide +kernel) (by decide) (fun X Q args h C hq hs => ⟨(v args h Q hs).1, _, ?_, (v args h Q hs).2⟩)
  have hl := zq_loop1 (X := X) (nL := 6) (pc1 := 16) μ16 (I16 Q) (fun J16 => xX11_takeBack_16 s_X11_isSlice s_X0_holderOf s_X0_put J16 Q) (fun j16 => kX11_takeBack_16 C h_X11_isSlice g_X11_isSlice h_X0_holderOf g_X0_holderOf h_X0_put g_X0_put j16 hq) (v16 Q)
  exact kX11_takeBack_0 C h_X11_isSlice g_X11_isSlice h_X0_holderOf g_X0_holderOf h_X0_put g_X0_put hl hq
/-! ToOneCrumb.feedMouse(I)I -/
theorem dX11_feedMouse_0 : decode cX11_feedMouse 0 = .ok (.aload_n 0, 1) := by decide +kernel
theorem dX11_feedMouse_1 : decode cX11_feedMouse 1 = .ok (.iload_n 1, 1) := by decide +kernel
theorem dX11_feedMouse_2 : decode cX11_feedMouse 2 = .ok (.invokevirtual 149, 3) := by decide +kernel
theorem dX11_feedMouse_5 : decode cX11_feedMouse 5 = .ok (.ifCond .ne 5, 3) := by decide +kernel
theorem dX11_feedMouse_8 : decode cX11_feedMouse 8 = .ok (.iconst (-1), 1) := by decide +kernel
theorem dX11_feedMouse_9 : decode cX11_feedMouse 9 = .ok (.ireturn, 1) := by decide +kernel
theorem dX11_feedMouse_10 : decode cX11_feedMouse 10 = .ok (.aload_n 0, 1) := by decide +kernel
theorem dX11_feedMouse_11 : decode cX11_feedMouse 11 = .ok (.getfield 40, 3) := by decide +kernel
theorem dX11_feedMouse_14 : decode cX11_feedMouse 14 = .ok (.iload_n 1, 1) := by decide +kernel
theorem dX11_feedMouse_15 : decode cX11_feedMouse 15 = .ok (.invokevirtual 168, 3) := by decide +kernel
theorem dX11_feedMouse_18 : decode cX11_feedMouse 18 = .ok (.iconst (-1), 1) := by decide +kernel
theorem dX11_feedMouse_19 : decode cX11_feedMouse 19 = .ok (.if_icmp .eq 6, 3) := by decide +kernel
theorem dX11_feedMouse_22 : decode cX11_feedMouse 22 = .ok (.bipush (-2), 2) := by decide +kernel
theorem dX11_feedMouse_24 : decode cX11_feedMouse 24 = .ok (.ireturn, 1) := by decide +kernel
theorem dX11_feedMouse_25 : decode cX11_feedMouse 25 = .ok (.aload_n 0, 1) := by decide +kernel
theorem dX11_feedMouse_26 : decode cX11_feedMouse 26 = .ok (.getfield 40, 3) := by decide +kernel
theorem dX11_feedMouse_29 : decode cX11_feedMouse 29 = .ok (.iload_n 1, 1) := by decide +kernel
theorem dX11_feedMouse_30 : decode cX11_feedMouse 30 = .ok (.bipush 9, 2) := by decide +kernel
theorem dX11_feedMouse_32 : decode cX11_feedMouse 32 = .ok (.invokevirtual 392, 3) := by decide +kernel
theorem dX11_feedMouse_35 : decode cX11_feedMouse 35 = .ok (.aload_n 0, 1) := by decide +kernel
theorem dX11_feedMouse_36 : decode cX11_feedMouse 36 = .ok (.getfield 82, 3) := by decide +kernel
theorem dX11_feedMouse_39 : decode cX11_feedMouse 39 = .ok (.getfield 159, 3) := by decide +kernel
theorem dX11_feedMouse_42 : decode cX11_feedMouse 42 = .ok (.iload_n 1, 1) := by decide +kernel
theorem dX11_feedMouse_43 : decode cX11_feedMouse 43 = .ok (.iaload, 1) := by decide +kernel
theorem dX11_feedMouse_44 : decode cX11_feedMouse 44 = .ok (.ireturn, 1) := by decide +kernel
def xX11_feedMouse_25 (s_X11_isCell : zq_Sp) (s_X0_holderOf : zq_Sp) (s_X0_put : zq_Sp) (Q : zq_Q) (ls : zq_L) (st : List Value) (h : zq_H) : Prop := (zi_aload 0 (zi_getR 0 12 (zi_iload 1 (zi_push (.int 9) (zi_callV 2 12 s_X0_put (zi_aload 0 (zi_getR 0 40 (zi_getR 40 41 (zi_iload 1 (zi_aldI 41 16 (zi_iret Q))))))))))) ls st h
theorem kX11_feedMouse_25 {X : zq_X} {d : Nat} (C : zq_C X cX11_feedMouse 2 RX11 d) {d_X11_isCell : Nat} {s_X11_isCell : zq_Sp} (h_X11_isCell : zq_M yX11_isCell cX11_isCell 2 (some .boolean) 1 d_X11_isCell s_X11_isCell) (g_X11_isCell : d_X11_isCell + 1 ≤ d) {d_X0_holderOf : Nat} {s_X0_holderOf : zq_Sp} (h_X0_holderOf : zq_M yX0_holderOf cX0_holderOf 2 (some .int) 1 d_X0_holderOf s_X0_holderOf) (g_X0_holderOf : d_X0_holderOf + 1 ≤ d) {d_X0_put : Nat} {s_X0_put : zq_Sp} (h_X0_put : zq_M yX0_put cX0_put 5 none 0 d_X0_put s_X0_put) (g_X0_put : d_X0_put + 1 ≤ d) {Q : zq_Q} (hq : zq_R X (some .int) 1 Q) : zq_ok X 2 25 (xX11_feedMouse_25 s_X11_isCell s_X0_holderOf s_X0_put Q) := by
  refine zs_aload_n C dX11_feedMouse_25 rfl ?_
  refine zs_getR C zp_0 zF11 (j := 4) ⟨by decide, rfl⟩ zw_319 dX11_feedMouse_26 ?_
  refine zs_iload_n C dX11_feedMouse_29 rfl ?_
  refine zs_bipush C dX11_feedMouse_30 (by decide) ?_
  refine zs_callV C h_X0_put g_X0_put zy_X0_put zp_12 (show vwCl[0]? = some (RX0, TX0, 5) from rfl) zw_592 zw_593 zs9_X0_put dX11_feedMouse_32 ?_
  refine zs_aload_n C dX11_feedMouse_35 rfl ?_
  refine zs_getR C zp_0 zF11 (j := 11) ⟨by decide, rfl⟩ zw_326 dX11_feedMouse_36 ?_
  refine zs_getRN C zp_40 zF2 (j := 0) ⟨by decide, rfl⟩ zw_262 dX11_feedMouse_39 ?_
  refine zs_iload_n C dX11_feedMouse_42 rfl ?_
  refine zs_iaload C zp_41 dX11_feedMouse_43 ?_
  exact zs_iret C hq dX11_feedMouse_44
def xX11_feedMouse_22 (s_X11_isCell : zq_Sp) (s_X0_holderOf : zq_Sp) (s_X0_put : zq_Sp) (Q : zq_Q) (ls : zq_L) (st : List Value) (h : zq_H) : Prop := (zi_push (.int (-2)) (zi_iret Q)) ls st h
theorem kX11_feedMouse_22 {X : zq_X} {d : Nat} (C : zq_C X cX11_feedMouse 2 RX11 d) {d_X11_isCell : Nat} {s_X11_isCell : zq_Sp} (h_X11_isCell : zq_M yX11_isCell cX11_isCell 2 (some .boolean) 1 d_X11_isCell s_X11_isCell) (g_X11_isCell : d_X11_isCell + 1 ≤ d) {d_X0_holderOf : Nat} {s_X0_holderOf : zq_Sp} (h_X0_holderOf : zq_M yX0_holderOf cX0_holderOf 2 (some .int) 1 d_X0_holderOf s_X0_holderOf) (g_X0_holderOf : d_X0_holderOf + 1 ≤ d) {d_X0_put : Nat} {s_X0_put : zq_Sp} (h_X0_put : zq_M yX0_put cX0_put 5 none 0 d_X0_put s_X0_put) (g_X0_put : d_X0_put + 1 ≤ d) {Q : zq_Q} (hq : zq_R X (some .int) 1 Q) : zq_ok X 2 22 (xX11_feedMouse_22 s_X11_isCell s_X0_holderOf s_X0_put Q) := by
  refine zs_bipush C dX11_feedMouse_22 (by decide) ?_
  exact zs_iret C hq dX11_feedMouse_24
def xX11_feedMouse_10 (s_X11_isCell : zq_Sp) (s_X0_holderOf : zq_Sp) (s_X0_put : zq_Sp) (Q : zq_Q) (ls : zq_L) (st : List Value) (h : zq_H) : Prop := (zi_aload 0 (zi_getR 0 12 (zi_iload 1 (zi_callV 1 12 s_X0_holderOf (zi_push (.int (-1)) (zi_if2 (fun x y => x = y) (xX11_feedMouse_25 s_X11_isCell s_X0_holderOf s_X0_put Q) (xX11_feedMouse_22 s_X11_isCell s_X0_holderOf s_X0_put Q))))))) ls st h
theorem kX11_feedMouse_10 {X : zq_X} {d : Nat} (C : zq_C X cX11_feedMouse 2 RX11 d) {d_X11_isCell : Nat} {s_X11_isCell : zq_Sp} (h_X11_isCell : zq_M yX11_isCell cX11_isCell 2 (some .boolean) 1 d_X11_isCell s_X11_isCell) (g_X11_isCell : d_X11_isCell + 1 ≤ d) {d_X0_holderOf : Nat} {s_X0_holderOf : zq_Sp} (h_X0_holderOf : zq_M yX0_holderOf cX0_holderOf 2 (some .int) 1 d_X0_holderOf s_X0_holderOf) (g_X0_holderOf : d_X0_holderOf + 1 ≤ d) {d_X0_put : Nat} {s_X0_put : zq_Sp} (h_X0_put : zq_M yX0_put cX0_put 5 none 0 d_X0_put s_X0_put) (g_X0_put : d_X0_put + 1 ≤ d) {Q : zq_Q} (hq : zq_R X (some .int) 1 Q) : zq_ok X 2 10 (xX11_feedMouse_10 s_X11_isCell s_X0_holderOf s_X0_put Q) := by
  refine zs_aload_n C dX11_feedMouse_10 rfl ?_
  refine zs_getR C zp_0 zF11 (j := 4) ⟨by decide, rfl⟩ zw_319 dX11_feedMouse_11 ?_
  refine zs_iload_n C dX11_feedMouse_14 rfl ?_
  refine zs_callV C h_X0_holderOf g_X0_holderOf zy_X0_holderOf zp_12 (show vwCl[0]? = some (RX0, TX0, 5) from rfl) zw_587 zw_588 zs9_X0_holderOf dX11_feedMouse_15 ?_
  refine zs_iconst C dX11_feedMouse_18 (by decide) ?_
  exact zs_icmp_eq C dX11_feedMouse_19 (by decide) (kX11_feedMouse_25 C h_X11_isCell g_X11_isCell h_X0_holderOf g_X0_holderOf h_X0_put g_X0_put hq) (kX11_feedMouse_22 C h_X11_isCell g_X11_isCell h_X0_holderOf g_X0_holderOf h_X0_put g_X0_put hq)
def xX11_feedMouse_8 (s_X11_isCell : zq_Sp) (s_X0_holderOf : zq_Sp) (s_X0_put : zq_Sp) (Q : zq_Q) (ls : zq_L) (st : List Value) (h : zq_H) : Prop := (zi_push (.int (-1)) (zi_iret Q)) ls st h
theorem kX11_feedMouse_8 {X : zq_X} {d : Nat} (C : zq_C X cX11_feedMouse 2 RX11 d) {d_X11_isCell : Nat} {s_X11_isCell : zq_Sp} (h_X11_isCell : zq_M yX11_isCell cX11_isCell 2 (some .boolean) 1 d_X11_isCell s_X11_isCell) (g_X11_isCell : d_X11_isCell + 1 ≤ d) {d_X0_holderOf : Nat} {s_X0_holderOf : zq_Sp} (h_X0_holderOf : zq_M yX0_holderOf cX0_holderOf 2 (some .int) 1 d_X0_holderOf s_X0_holderOf) (g_X0_holderOf : d_X0_holderOf + 1 ≤ d) {d_X0_put : Nat} {s_X0_put : zq_Sp} (h_X0_put : zq_M yX0_put cX0_put 5 none 0 d_X0_put s_X0_put) (g_X0_put : d_X0_put + 1 ≤ d) {Q : zq_Q} (hq : zq_R X (some .int) 1 Q) : zq_ok X 2 8 (xX11_feedMouse_8 s_X11_isCell s_X0_holderOf s_X0_put Q) := by
  refine zs_iconst C dX11_feedMouse_8 (by decide) ?_
  exact zs_iret C hq dX11_feedMouse_9
def xX11_feedMouse_0 (s_X11_isCell : zq_Sp) (s_X0_holderOf : zq_Sp) (s_X0_put : zq_Sp) (Q : zq_Q) (ls : zq_L) (st : List Value) (h : zq_H) : Prop := (zi_aload 0 (zi_iload 1 (zi_callV 1 0 s_X11_isCell (zi_if1 (fun x => x = 0) (xX11_feedMouse_8 s_X11_isCell s_X0_holderOf s_X0_put Q) (xX11_feedMouse_10 s_X11_isCell s_X0_holderOf s_X0_put Q))))) ls st h
theorem kX11_feedMouse_0 {X : zq_X} {d : Nat} (C : zq_C X cX11_feedMouse 2 RX11 d) {d_X11_isCell : Nat} {s_X11_isCell : zq_Sp} (h_X11_isCell : zq_M yX11_isCell cX11_isCell 2 (some .boolean) 1 d_X11_isCell s_X11_isCell) (g_X11_isCell : d_X11_isCell + 1 ≤ d) {d_X0_holderOf : Nat} {s_X0_holderOf : zq_Sp} (h_X0_holderOf : zq_M yX0_holderOf cX0_holderOf 2 (some .int) 1 d_X0_holderOf s_X0_holderOf) (g_X0_holderOf : d_X0_holderOf + 1 ≤ d) {d_X0_put : Nat} {s_X0_put : zq_Sp} (h_X0_put : zq_M yX0_put cX0_put 5 none 0 d_X0_put s_X0_put) (g_X0_put : d_X0_put + 1 ≤ d) {Q : zq_Q} (hq : zq_R X (some .int) 1 Q) : zq_ok X 2 0 (xX11_feedMouse_0 s_X11_isCell s_X0_holderOf s_X0_put Q) := by
  refine zs_aload_n C dX11_feedMouse_0 rfl ?_
  refine zs_iload_n C dX11_feedMouse_1 rfl ?_
  refine zs_callV C h_X11_isCell g_X11_isCell zy_X11_isCell zp_0 (show vwCl[11]? = some (RX11, TX11, 16) from rfl) zw_550 zw_552 zs9_X11_isCell dX11_feedMouse_2 ?_
  exact zs_if_ne C dX11_feedMouse_5 (by decide) (kX11_feedMouse_10 C h_X11_isCell g_X11_isCell h_X0_holderOf g_X0_holderOf h_X0_put g_X0_put hq) (kX11_feedMouse_8 C h_X11_isCell g_X11_isCell h_X0_holderOf g_X0_holderOf h_X0_put g_X0_put hq)
theorem mX11_feedMouse {d : Nat} {spec : zq_Sp} {d_X11_isCell : Nat} {s_X11_isCell : zq_Sp} (h_X11_isCell : zq_M yX11_isCell cX11_isCell 2 (some .boolean) 1 d_X11_isCell s_X11_isCell) (g_X11_isCell : d_X11_isCell + 1 ≤ d) {d_X0_holderOf : Nat} {s_X0_holderOf : zq_Sp} (h_X0_holderOf : zq_M yX0_holderOf cX0_holderOf 2 (some .int) 1 d_X0_holderOf s_X0_holderOf) (g_X0_holderOf : d_X0_holderOf + 1 ≤ d) {d_X0_put : Nat} {s_X0_put : zq_Sp} (h_X0_put : zq_M yX0_put cX0_put 5 none 0 d_X0_put s_X0_put) (g_X0_put : d_X0_put + 1 ≤ d) (v : ∀ args h Q, spec args h Q → (zq_a args).length ≤ 2 ∧ xX11_feedMouse_0 s_X11_isCell s_X0_holderOf s_X0_put Q (zq_l0 2 args) [] h) : zq_M yX11_feedMouse cX11_feedMouse 2 (some .int) 1 d spec := by
  refine zq_met (by decide +kernel) (by decide) (fun X Q args h C hq hs => ⟨(v args h Q hs).1, _, ?_, (v args h Q hs).2⟩)
  exact kX11_feedMouse_0 C h_X11_isCell g_X11_isCell h_X0_holderOf g_X0_holderOf h_X0_put g_X0_put hq
/-! ToOneCrumb.readActs()Z -/
theorem dX11_readActs_0 : decode cX11_readActs 0 = .ok (.aload_n 0, 1) := by decide +kernel
theorem dX11_readActs_1 : decode cX11_readActs 1 = .ok (.iconst 0, 1) := by decide +kernel
theorem dX11_readActs_2 : decode cX11_readActs 2 = .ok (.putfield 226, 3) := by decide +kernel
theorem dX11_readActs_5 : decode cX11_readActs 5 = .ok (.aload_n 0, 1) := by decide +kernel
theorem dX11_readActs_6 : decode cX11_readActs 6 = .ok (.getfield 10, 3) := by decide +kernel
theorem dX11_readActs_9 : decode cX11_readActs 9 = .ok (.bipush 60, 2) := by decide +kernel
theorem dX11_readActs_11 : decode cX11_readActs 11 = .ok (.invokevirtual 396, 3) := by decide +kernel
theorem dX11_readActs_14 : decode cX11_readActs 14 = .ok (.aload_n 0, 1) := by decide +kernel
theorem dX11_readActs_15 : decode cX11_readActs 15 = .ok (.getfield 10, 3) := by decide +kernel
theorem dX11_readActs_18 : decode cX11_readActs 18 = .ok (.invokevirtual 397, 3) := by decide +kernel
theorem dX11_readActs_21 : decode cX11_readActs 21 = .ok (.ifCond .eq 5, 3) := by decide +kernel
theorem dX11_readActs_24 : decode cX11_readActs 24 = .ok (.iconst 1, 1) := by decide +kernel
theorem dX11_readActs_25 : decode cX11_readActs 25 = .ok (.ireturn, 1) := by decide +kernel
theorem dX11_readActs_26 : decode cX11_readActs 26 = .ok (.aload_n 0, 1) := by decide +kernel
theorem dX11_readActs_27 : decode cX11_readActs 27 = .ok (.getfield 226, 3) := by decide +kernel
theorem dX11_readActs_30 : decode cX11_readActs 30 = .ok (.bipush 20, 2) := by decide +kernel
theorem dX11_readActs_32 : decode cX11_readActs 32 = .ok (.if_icmp .ge 48, 3) := by decide +kernel
theorem dX11_readActs_35 : decode cX11_readActs 35 = .ok (.aload_n 0, 1) := by decide +kernel
theorem dX11_readActs_36 : decode cX11_readActs 36 = .ok (.aload_n 0, 1) := by decide +kernel
theorem dX11_readActs_37 : decode cX11_readActs 37 = .ok (.getfield 226, 3) := by decide +kernel
theorem dX11_readActs_40 : decode cX11_readActs 40 = .ok (.iconst 4, 1) := by decide +kernel
theorem dX11_readActs_41 : decode cX11_readActs 41 = .ok (.imul, 1) := by decide +kernel
theorem dX11_readActs_42 : decode cX11_readActs 42 = .ok (.invokevirtual 400, 3) := by decide +kernel
theorem dX11_readActs_45 : decode cX11_readActs 45 = .ok (.ifCond .ne 5, 3) := by decide +kernel
theorem dX11_readActs_48 : decode cX11_readActs 48 = .ok (.iconst 0, 1) := by decide +kernel
theorem dX11_readActs_49 : decode cX11_readActs 49 = .ok (.ireturn, 1) := by decide +kernel
theorem dX11_readActs_50 : decode cX11_readActs 50 = .ok (.aload_n 0, 1) := by decide +kernel
theorem dX11_readActs_51 : decode cX11_readActs 51 = .ok (.dup, 1) := by decide +kernel
theorem dX11_readActs_52 : decode cX11_readActs 52 = .ok (.getfield 226, 3) := by decide +kernel
theorem dX11_readActs_55 : decode cX11_readActs 55 = .ok (.iconst 1, 1) := by decide +kernel
theorem dX11_readActs_56 : decode cX11_readActs 56 = .ok (.iadd, 1) := by decide +kernel
theorem dX11_readActs_57 : decode cX11_readActs 57 = .ok (.putfield 226, 3) := by decide +kernel
theorem dX11_readActs_60 : decode cX11_readActs 60 = .ok (.aload_n 0, 1) := by decide +kernel
theorem dX11_readActs_61 : decode cX11_readActs 61 = .ok (.getfield 10, 3) := by decide +kernel
theorem dX11_readActs_64 : decode cX11_readActs 64 = .ok (.bipush 59, 2) := by decide +kernel
theorem dX11_readActs_66 : decode cX11_readActs 66 = .ok (.invokevirtual 403, 3) := by decide +kernel
theorem dX11_readActs_69 : decode cX11_readActs 69 = .ok (.ifCond .ne (-43), 3) := by decide +kernel
theorem dX11_readActs_72 : decode cX11_readActs 72 = .ok (.aload_n 0, 1) := by decide +kernel
theorem dX11_readActs_73 : decode cX11_readActs 73 = .ok (.getfield 10, 3) := by decide +kernel
theorem dX11_readActs_76 : decode cX11_readActs 76 = .ok (.invokevirtual 397, 3) := by decide +kernel
theorem dX11_readActs_79 : decode cX11_readActs 79 = .ok (.ireturn, 1) := by decide +kernel
theorem dX11_readActs_80 : decode cX11_readActs 80 = .ok (.iconst 0, 1) := by decide +kernel
theorem dX11_readActs_81 : decode cX11_readActs 81 = .ok (.ireturn, 1) := by decide +kernel
def xX11_readActs_80 (s_X8_start : zq_Sp) (s_X8_isFinished : zq_Sp) (s_X11_readAct : zq_Sp) (s_X8_skip : zq_Sp) (J26 : zq_P) (Q : zq_Q) (ls : zq_L) (st : List Value) (h : zq_H) : Prop := (zi_push (.int 0) (zi_zret Q)) ls st h
theorem kX11_readActs_80 {X : zq_X} {d : Nat} (C : zq_C X cX11_readActs 1 RX11 d) {d_X8_start : Nat} {s_X8_start : zq_Sp} (h_X8_start : zq_M yX8_start cX8_start 2 none 0 d_X8_start s_X8_start) (g_X8_start : d_X8_start + 1 ≤ d) {d_X8_isFinished : Nat} {s_X8_isFinished : zq_Sp} (h_X8_isFinished : zq_M yX8_isFinished cX8_isFinished 1 (some .boolean) 1 d_X8_isFinished s_X8_isFinished) (g_X8_isFinished : d_X8_isFinished + 1 ≤ d) {d_X11_readAct : Nat} {s_X11_readAct : zq_Sp} (h_X11_readAct : zq_M yX11_readAct cX11_readAct 6 (some .boolean) 1 d_X11_readAct s_X11_readAct) (g_X11_readAct : d_X11_readAct + 1 ≤ d) {d_X8_skip : Nat} {s_X8_skip : zq_Sp} (h_X8_skip : zq_M yX8_skip cX8_skip 2 (some .boolean) 1 d_X8_skip s_X8_skip) (g_X8_skip : d_X8_skip + 1 ≤ d) {J26 : zq_P} (j26 : zq_ok X 1 26 J26) {Q : zq_Q} (hq : zq_R X (some .boolean) 1 Q) : zq_ok X 1 80 (xX11_readActs_80 s_X8_start s_X8_isFinished s_X11_readAct s_X8_skip J26 Q) := by
  refine zs_iconst C dX11_readActs_80 (by decide) ?_
  exact zs_zret C hq dX11_readActs_81
def xX11_readActs_72 (s_X8_start : zq_Sp) (s_X8_isFinished : zq_Sp) (s_X11_readAct : zq_Sp) (s_X8_skip : zq_Sp) (J26 : zq_P) (Q : zq_Q) (ls : zq_L) (st : List Value) (h : zq_H) : Prop := (zi_aload 0 (zi_getR 0 1 (zi_callV 0 1 s_X8_isFinished (zi_zret Q)))) ls st h
theorem kX11_readActs_72 {X : zq_X} {d : Nat} (C : zq_C X cX11_readActs 1 RX11 d) {d_X8_start : Nat} {s_X8_start : zq_Sp} (h_X8_start : zq_M yX8_start cX8_start 2 none 0 d_X8_start s_X8_start) (g_X8_start : d_X8_start + 1 ≤ d) {d_X8_isFinished : Nat} {s_X8_isFinished : zq_Sp} (h_X8_isFinished : zq_M yX8_isFinished cX8_isFinished 1 (some .boolean) 1 d_X8_isFinished s_X8_isFinished) (g_X8_isFinished : d_X8_isFinished + 1 ≤ d) {d_X11_readAct : Nat} {s_X11_readAct : zq_Sp} (h_X11_readAct : zq_M yX11_readAct cX11_readAct 6 (some .boolean) 1 d_X11_readAct s_X11_readAct) (g_X11_readAct : d_X11_readAct + 1 ≤ d) {d_X8_skip : Nat} {s_X8_skip : zq_Sp} (h_X8_skip : zq_M yX8_skip cX8_skip 2 (some .boolean) 1 d_X8_skip s_X8_skip) (g_X8_skip : d_X8_skip + 1 ≤ d) {J26 : zq_P} (j26 : zq_ok X 1 26 J26) {Q : zq_Q} (hq : zq_R X (some .boolean) 1 Q) : zq_ok X 1 72 (xX11_readActs_72 s_X8_start s_X8_isFinished s_X11_readAct s_X8_skip J26 Q) := by
  refine zs_aload_n C dX11_readActs_72 rfl ?_
  refine zs_getR C zp_0 zF11 (j := 0) ⟨by decide, rfl⟩ zw_315 dX11_readActs_73 ?_
  refine zs_callV C h_X8_isFinished g_X8_isFinished zy_X8_isFinished zp_1 (show vwCl[8]? = some (RX8, TX8, 4) from rfl) zw_637 zw_396 zs9_X8_isFinished dX11_readActs_76 ?_
  exact zs_zret C hq dX11_readActs_79
def xX11_readActs_50 (s_X8_start : zq_Sp) (s_X8_isFinished : zq_Sp) (s_X11_readAct : zq_Sp) (s_X8_skip : zq_Sp) (J26 : zq_P) (Q : zq_Q) (ls : zq_L) (st : List Value) (h : zq_H) : Prop := (zi_aload 0 (zi_dup (zi_getI 0 15 (zi_push (.int 1) (zi_i2 (fun x y => x + y) (zi_putI 0 15 (zi_aload 0 (zi_getR 0 1 (zi_push (.int 59) (zi_callV 1 1 s_X8_skip (zi_if1 (fun x => x = 0) (xX11_readActs_72 s_X8_start s_X8_isFinished s_X11_readAct s_X8_skip J26 Q) J26))))))))))) ls st h
theorem kX11_readActs_50 {X : zq_X} {d : Nat} (C : zq_C X cX11_readActs 1 RX11 d) {d_X8_start : Nat} {s_X8_start : zq_Sp} (h_X8_start : zq_M yX8_start cX8_start 2 none 0 d_X8_start s_X8_start) (g_X8_start : d_X8_start + 1 ≤ d) {d_X8_isFinished : Nat} {s_X8_isFinished : zq_Sp} (h_X8_isFinished : zq_M yX8_isFinished cX8_isFinished 1 (some .boolean) 1 d_X8_isFinished s_X8_isFinished) (g_X8_isFinished : d_X8_isFinished + 1 ≤ d) {d_X11_readAct : Nat} {s_X11_readAct : zq_Sp} (h_X11_readAct : zq_M yX11_readAct cX11_readAct 6 (some .boolean) 1 d_X11_readAct s_X11_readAct) (g_X11_readAct : d_X11_readAct + 1 ≤ d) {d_X8_skip : Nat} {s_X8_skip : zq_Sp} (h_X8_skip : zq_M yX8_skip cX8_skip 2 (some .boolean) 1 d_X8_skip s_X8_skip) (g_X8_skip : d_X8_skip + 1 ≤ d) {J26 : zq_P} (j26 : zq_ok X 1 26 J26) {Q : zq_Q} (hq : zq_R X (some .boolean) 1 Q) : zq_ok X 1 50 (xX11_readActs_50 s_X8_start s_X8_isFinished s_X11_readAct s_X8_skip J26 Q) := by
  refine zs_aload_n C dX11_readActs_50 rfl ?_
  refine zs_dup C dX11_readActs_51 ?_
  refine zs_getI C zp_0 zF11 (j := 15) ⟨by decide, rfl⟩ zw_330 dX11_readActs_52 ?_
  refine zs_iconst C dX11_readActs_55 (by decide) ?_
  refine zs_iadd C dX11_readActs_56 ?_
  refine zs_putI C zp_0 zF11 (j := 15) ⟨by decide, rfl⟩ ⟨rfl, by decide +kernel⟩ zw_330 dX11_readActs_57 ?_
  refine zs_aload_n C dX11_readActs_60 rfl ?_
  refine zs_getR C zp_0 zF11 (j := 0) ⟨by decide, rfl⟩ zw_315 dX11_readActs_61 ?_
  refine zs_bipush C dX11_readActs_64 (by decide) ?_
  refine zs_callV C h_X8_skip g_X8_skip zy_X8_skip zp_1 (show vwCl[8]? = some (RX8, TX8, 4) from rfl) zw_643 zw_412 zs9_X8_skip dX11_readActs_66 ?_
  exact zs_if_ne C dX11_readActs_69 (by decide) (j26) (kX11_readActs_72 C h_X8_start g_X8_start h_X8_isFinished g_X8_isFinished h_X11_readAct g_X11_readAct h_X8_skip g_X8_skip j26 hq)
def xX11_readActs_48 (s_X8_start : zq_Sp) (s_X8_isFinished : zq_Sp) (s_X11_readAct : zq_Sp) (s_X8_skip : zq_Sp) (J26 : zq_P) (Q : zq_Q) (ls : zq_L) (st : List Value) (h : zq_H) : Prop := (zi_push (.int 0) (zi_zret Q)) ls st h
theorem kX11_readActs_48 {X : zq_X} {d : Nat} (C : zq_C X cX11_readActs 1 RX11 d) {d_X8_start : Nat} {s_X8_start : zq_Sp} (h_X8_start : zq_M yX8_start cX8_start 2 none 0 d_X8_start s_X8_start) (g_X8_start : d_X8_start + 1 ≤ d) {d_X8_isFinished : Nat} {s_X8_isFinished : zq_Sp} (h_X8_isFinished : zq_M yX8_isFinished cX8_isFinished 1 (some .boolean) 1 d_X8_isFinished s_X8_isFinished) (g_X8_isFinished : d_X8_isFinished + 1 ≤ d) {d_X11_readAct : Nat} {s_X11_readAct : zq_Sp} (h_X11_readAct : zq_M yX11_readAct cX11_readAct 6 (some .boolean) 1 d_X11_readAct s_X11_readAct) (g_X11_readAct : d_X11_readAct + 1 ≤ d) {d_X8_skip : Nat} {s_X8_skip : zq_Sp} (h_X8_skip : zq_M yX8_skip cX8_skip 2 (some .boolean) 1 d_X8_skip s_X8_skip) (g_X8_skip : d_X8_skip + 1 ≤ d) {J26 : zq_P} (j26 : zq_ok X 1 26 J26) {Q : zq_Q} (hq : zq_R X (some .boolean) 1 Q) : zq_ok X 1 48 (xX11_readActs_48 s_X8_start s_X8_isFinished s_X11_readAct s_X8_skip J26 Q) := by
  refine zs_iconst C dX11_readActs_48 (by decide) ?_
  exact zs_zret C hq dX11_readActs_49
def xX11_readActs_35 (s_X8_start : zq_Sp) (s_X8_isFinished : zq_Sp) (s_X11_readAct : zq_Sp) (s_X8_skip : zq_Sp) (J26 : zq_P) (Q : zq_Q) (ls : zq_L) (st : List Value) (h : zq_H) : Prop := (zi_aload 0 (zi_aload 0 (zi_getI 0 15 (zi_push (.int 4) (zi_i2 (fun x y => x * y) (zi_callV 1 0 s_X11_readAct (zi_if1 (fun x => x = 0) (xX11_readActs_48 s_X8_start s_X8_isFinished s_X11_readAct s_X8_skip J26 Q) (xX11_readActs_50 s_X8_start s_X8_isFinished s_X11_readAct s_X8_skip J26 Q)))))))) ls st h
theorem kX11_readActs_35 {X : zq_X} {d : Nat} (C : zq_C X cX11_readActs 1 RX11 d) {d_X8_start : Nat} {s_X8_start : zq_Sp} (h_X8_start : zq_M yX8_start cX8_start 2 none 0 d_X8_start s_X8_start) (g_X8_start : d_X8_start + 1 ≤ d) {d_X8_isFinished : Nat} {s_X8_isFinished : zq_Sp} (h_X8_isFinished : zq_M yX8_isFinished cX8_isFinished 1 (some .boolean) 1 d_X8_isFinished s_X8_isFinished) (g_X8_isFinished : d_X8_isFinished + 1 ≤ d) {d_X11_readAct : Nat} {s_X11_readAct : zq_Sp} (h_X11_readAct : zq_M yX11_readAct cX11_readAct 6 (some .boolean) 1 d_X11_readAct s_X11_readAct) (g_X11_readAct : d_X11_readAct + 1 ≤ d) {d_X8_skip : Nat} {s_X8_skip : zq_Sp} (h_X8_skip : zq_M yX8_skip cX8_skip 2 (some .boolean) 1 d_X8_skip s_X8_skip) (g_X8_skip : d_X8_skip + 1 ≤ d) {J26 : zq_P} (j26 : zq_ok X 1 26 J26) {Q : zq_Q} (hq : zq_R X (some .boolean) 1 Q) : zq_ok X 1 35 (xX11_readActs_35 s_X8_start s_X8_isFinished s_X11_readAct s_X8_skip J26 Q) := by
  refine zs_aload_n C dX11_readActs_35 rfl ?_
  refine zs_aload_n C dX11_readActs_36 rfl ?_
  refine zs_getI C zp_0 zF11 (j := 15) ⟨by decide, rfl⟩ zw_330 dX11_readActs_37 ?_
  refine zs_iconst C dX11_readActs_40 (by decide) ?_
  refine zs_imul C dX11_readActs_41 ?_
  refine zs_callV C h_X11_readAct g_X11_readAct zy_X11_readAct zp_0 (show vwCl[11]? = some (RX11, TX11, 16) from rfl) zw_638 zw_640 zs9_X11_readAct dX11_readActs_42 ?_
  exact zs_if_ne C dX11_readActs_45 (by decide) (kX11_readActs_50 C h_X8_start g_X8_start h_X8_isFinished g_X8_isFinished h_X11_readAct g_X11_readAct h_X8_skip g_X8_skip j26 hq) (kX11_readActs_48 C h_X8_start g_X8_start h_X8_isFinished g_X8_isFinished h_X11_readAct g_X11_readAct h_X8_skip g_X8_skip j26 hq)
def xX11_readActs_26 (s_X8_start : zq_Sp) (s_X8_isFinished : zq_Sp) (s_X11_readAct : zq_Sp) (s_X8_skip : zq_Sp) (J26 : zq_P) (Q : zq_Q) (ls : zq_L) (st : List Value) (h : zq_H) : Prop := (zi_aload 0 (zi_getI 0 15 (zi_push (.int 20) (zi_if2 (fun x y => y ≤ x) (xX11_readActs_80 s_X8_start s_X8_isFinished s_X11_readAct s_X8_skip J26 Q) (xX11_readActs_35 s_X8_start s_X8_isFinished s_X11_readAct s_X8_skip J26 Q))))) ls st h
theorem kX11_readActs_26 {X : zq_X} {d : Nat} (C : zq_C X cX11_readActs 1 RX11 d) {d_X8_start : Nat} {s_X8_start : zq_Sp} (h_X8_start : zq_M yX8_start cX8_start 2 none 0 d_X8_start s_X8_start) (g_X8_start : d_X8_start + 1 ≤ d) {d_X8_isFinished : Nat} {s_X8_isFinished : zq_Sp} (h_X8_isFinished : zq_M yX8_isFinished cX8_isFinished 1 (some .boolean) 1 d_X8_isFinished s_X8_isFinished) (g_X8_isFinished : d_X8_isFinished + 1 ≤ d) {d_X11_readAct : Nat} {s_X11_readAct : zq_Sp} (h_X11_readAct : zq_M yX11_readAct cX11_readAct 6 (some .boolean) 1 d_X11_readAct s_X11_readAct) (g_X11_readAct : d_X11_readAct + 1 ≤ d) {d_X8_skip : Nat} {s_X8_skip : zq_Sp} (h_X8_skip : zq_M yX8_skip cX8_skip 2 (some .boolean) 1 d_X8_skip s_X8_skip) (g_X8_skip : d_X8_skip + 1 ≤ d) {J26 : zq_P} (j26 : zq_ok X 1 26 J26) {Q : zq_Q} (hq : zq_R X (some .boolean) 1 Q) : zq_ok X 1 26 (xX11_readActs_26 s_X8_start s_X8_isFinished s_X11_readAct s_X8_skip J26 Q) := by
  refine zs_aload_n C dX11_readActs_26 rfl ?_
  refine zs_getI C zp_0 zF11 (j := 15) ⟨by decide, rfl⟩ zw_330 dX11_readActs_27 ?_
  refine zs_bipush C dX11_readActs_30 (by decide) ?_
  exact zs_icmp_ge C dX11_readActs_32 (by decide) (kX11_readActs_80 C h_X8_start g_X8_start h_X8_isFinished g_X8_isFinished h_X11_readAct g_X11_readAct h_X8_skip g_X8_skip j26 hq) (kX11_readActs_35 C h_X8_start g_X8_start h_X8_isFinished g_X8_isFinished h_X11_readAct g_X11_readAct h_X8_skip g_X8_skip j26 hq)
def xX11_readActs_24 (s_X8_start : zq_Sp) (s_X8_isFinished : zq_Sp) (s_X11_readAct : zq_Sp) (s_X8_skip : zq_Sp) (J26 : zq_P) (Q : zq_Q) (ls : zq_L) (st : List Value) (h : zq_H) : Prop := (zi_push (.int 1) (zi_zret Q)) ls st h
theorem kX11_readActs_24 {X : zq_X} {d : Nat} (C : zq_C X cX11_readActs 1 RX11 d) {d_X8_start : Nat} {s_X8_start : zq_Sp} (h_X8_start : zq_M yX8_start cX8_start 2 none 0 d_X8_start s_X8_start) (g_X8_start : d_X8_start + 1 ≤ d) {d_X8_isFinished : Nat} {s_X8_isFinished : zq_Sp} (h_X8_isFinished : zq_M yX8_isFinished cX8_isFinished 1 (some .boolean) 1 d_X8_isFinished s_X8_isFinished) (g_X8_isFinished : d_X8_isFinished + 1 ≤ d) {d_X11_readAct : Nat} {s_X11_readAct : zq_Sp} (h_X11_readAct : zq_M yX11_readAct cX11_readAct 6 (some .boolean) 1 d_X11_readAct s_X11_readAct) (g_X11_readAct : d_X11_readAct + 1 ≤ d) {d_X8_skip : Nat} {s_X8_skip : zq_Sp} (h_X8_skip : zq_M yX8_skip cX8_skip 2 (some .boolean) 1 d_X8_skip s_X8_skip) (g_X8_skip : d_X8_skip + 1 ≤ d) {J26 : zq_P} (j26 : zq_ok X 1 26 J26) {Q : zq_Q} (hq : zq_R X (some .boolean) 1 Q) : zq_ok X 1 24 (xX11_readActs_24 s_X8_start s_X8_isFinished s_X11_readAct s_X8_skip J26 Q) := by
  refine zs_iconst C dX11_readActs_24 (by decide) ?_
  exact zs_zret C hq dX11_readActs_25
def xX11_readActs_0 (s_X8_start : zq_Sp) (s_X8_isFinished : zq_Sp) (s_X11_readAct : zq_Sp) (s_X8_skip : zq_Sp) (J26 : zq_P) (Q : zq_Q) (ls : zq_L) (st : List Value) (h : zq_H) : Prop := (zi_aload 0 (zi_push (.int 0) (zi_putI 0 15 (zi_aload 0 (zi_getR 0 1 (zi_push (.int 60) (zi_callV 1 1 s_X8_start (zi_aload 0 (zi_getR 0 1 (zi_callV 0 1 s_X8_isFinished (zi_if1 (fun x => x = 0) J26 (xX11_readActs_24 s_X8_start s_X8_isFinished s_X11_readAct s_X8_skip J26 Q)))))))))))) ls st h
theorem kX11_readActs_0 {X : zq_X} {d : Nat} (C : zq_C X cX11_readActs 1 RX11 d) {d_X8_start : Nat} {s_X8_start : zq_Sp} (h_X8_start : zq_M yX8_start cX8_start 2 none 0 d_X8_start s_X8_start) (g_X8_start : d_X8_start + 1 ≤ d) {d_X8_isFinished : Nat} {s_X8_isFinished : zq_Sp} (h_X8_isFinished : zq_M yX8_isFinished cX8_isFinished 1 (some .boolean) 1 d_X8_isFinished s_X8_isFinished) (g_X8_isFinished : d_X8_isFinished + 1 ≤ d) {d_X11_readAct : Nat} {s_X11_readAct : zq_Sp} (h_X11_readAct : zq_M yX11_readAct cX11_readAct 6 (some .boolean) 1 d_X11_readAct s_X11_readAct) (g_X11_readAct : d_X11_readAct + 1 ≤ d) {d_X8_skip : Nat} {s_X8_skip : zq_Sp} (h_X8_skip : zq_M yX8_skip cX8_skip 2 (some .boolean) 1 d_X8_skip s_X8_skip) (g_X8_skip : d_X8_skip + 1 ≤ d) {J26 : zq_P} (j26 : zq_ok X 1 26 J26) {Q : zq_Q} (hq : zq_R X (some .boolean) 1 Q) : zq_ok X 1 0 (xX11_readActs_0 s_X8_start s_X8_isFinished s_X11_readAct s_X8_skip J26 Q) := by
  refine zs_aload_n C dX11_readActs_0 rfl ?_
  refine zs_iconst C dX11_readActs_1 (by decide) ?_
  refine zs_putI C zp_0 zF11 (j := 15) ⟨by decide, rfl⟩ ⟨rfl, by decide +kernel⟩ zw_330 dX11_readActs_2 ?_
  refine zs_aload_n C dX11_readActs_5 rfl ?_
  refine zs_getR C zp_0 zF11 (j := 0) ⟨by decide, rfl⟩ zw_315 dX11_readActs_6 ?_
  refine zs_bipush C dX11_readActs_9 (by decide) ?_
  refine zs_callV C h_X8_start g_X8_start zy_X8_start zp_1 (show vwCl[8]? = some (RX8, TX8, 4) from rfl) zw_636 zw_389 zs9_X8_start dX11_readActs_11 ?_
  refine zs_aload_n C dX11_readActs_14 rfl ?_
  refine zs_getR C zp_0 zF11 (j := 0) ⟨by decide, rfl⟩ zw_315 dX11_readActs_15 ?_
  refine zs_callV C h_X8_isFinished g_X8_isFinished zy_X8_isFinished zp_1 (show vwCl[8]? = some (RX8, TX8, 4) from rfl) zw_637 zw_396 zs9_X8_isFinished dX11_readActs_18 ?_
  exact zs_if_eq C dX11_readActs_21 (by decide) (j26) (kX11_readActs_24 C h_X8_start g_X8_start h_X8_isFinished g_X8_isFinished h_X11_readAct g_X11_readAct h_X8_skip g_X8_skip j26 hq)
theorem mX11_readActs {d : Nat} {spec : zq_Sp} {σ26 : Type} {d_X8_start : Nat} {s_X8_start : zq_Sp} (h_X8_start : zq_M yX8_start cX8_start 2 none 0 d_X8_start s_X8_start) (g_X8_start : d_X8_start + 1 ≤ d) {d_X8_isFinished : Nat} {s_X8_isFinished : zq_Sp} (h_X8_isFinished : zq_M yX8_isFinished cX8_isFinished 1 (some .boolean) 1 d_X8_isFinished s_X8_isFinished) (g_X8_isFinished : d_X8_isFinished + 1 ≤ d) {d_X11_readAct : Nat} {s_X11_readAct : zq_Sp} (h_X11_readAct : zq_M yX11_readAct cX11_readAct 6 (some .boolean) 1 d_X11_readAct s_X11_readAct) (g_X11_readAct : d_X11_readAct + 1 ≤ d) {d_X8_skip : Nat} {s_X8_skip : zq_Sp} (h_X8_skip : zq_M yX8_skip cX8_skip 2 (some .boolean) 1 d_X8_skip s_X8_skip) (g_X8_skip : d_X8_skip + 1 ≤ d) (μ26 : σ26 → Nat) (I26 : zq_Q → σ26 → zq_P) (v : ∀ args h Q, spec args h Q → (zq_a args).length ≤ 1 ∧ xX11_readActs_0 s_X8_start s_X8_isFinished s_X11_readAct s_X8_skip (fun ls st h => ∃ b, I26 Q b ls st h) Q (zq_l0 1 args) [] h) (v26 : ∀ Q a ls st h, I26 Q a ls st h → xX11_readActs_26 s_X8_start s_X8_isFinished s_X11_readAct s_X8_skip (fun ls st h => ∃ b, μ26 b < μ26 a ∧ I26 Q b ls st h) Q ls st h) : zq_M yX11_readActs cX11_readActs 1 (some .boolean) 1 d spec := by
  refine zq_met (by decide +kernel) (by decide) (fun X Q args h C hq hs => ⟨(v args h Q hs).1, _, ?_, (v args h Q hs).2⟩)
  have hl := zq_loop1 (X := X) (nL := 1) (pc1 := 26) μ26 (I26 Q) (fun J26 => xX11_readActs_26 s_X8_start s_X8_isFinished s_X11_readAct s_X8_skip J26 Q) (fun j26 => kX11_readActs_26 C h_X8_start g_X8_start h_X8_isFinished g_X8_isFinished h_X11_readAct g_X11_readAct h_X8_skip g_X8_skip j26 hq) (v26 Q)
  exact kX11_readActs_0 C h_X8_start g_X8_start h_X8_isFinished g_X8_isFinished h_X11_readAct g_X11_readAct h_X8_skip g_X8_skip hl hq
/-! ToOneCrumb.readAct(I)Z -/
theorem dX11_readAct_0 : decode cX11_readAct 0 = .ok (.aload_n 0, 1) := by decide +kernel
theorem dX11_readAct_1 : decode cX11_readAct 1 = .ok (.getfield 10, 3) := by decide +kernel
theorem dX11_readAct_4 : decode cX11_readAct 4 = .ok (.invokevirtual 406, 3) := by decide +kernel
theorem dX11_readAct_7 : decode cX11_readAct 7 = .ok (.istore_n 2, 1) := by decide +kernel
theorem dX11_readAct_8 : decode cX11_readAct 8 = .ok (.iload_n 2, 1) := by decide +kernel
theorem dX11_readAct_9 : decode cX11_readAct 9 = .ok (.bipush 103, 2) := by decide +kernel
theorem dX11_readAct_11 : decode cX11_readAct 11 = .ok (.if_icmp .eq 17, 3) := by decide +kernel
theorem dX11_readAct_14 : decode cX11_readAct 14 = .ok (.iload_n 2, 1) := by decide +kernel
theorem dX11_readAct_15 : decode cX11_readAct 15 = .ok (.bipush 98, 2) := by decide +kernel
theorem dX11_readAct_17 : decode cX11_readAct 17 = .ok (.if_icmp .eq 11, 3) := by decide +kernel
theorem dX11_readAct_20 : decode cX11_readAct 20 = .ok (.iload_n 2, 1) := by decide +kernel
theorem dX11_readAct_21 : decode cX11_readAct 21 = .ok (.bipush 109, 2) := by decide +kernel
theorem dX11_readAct_23 : decode cX11_readAct 23 = .ok (.if_icmp .eq 5, 3) := by decide +kernel
theorem dX11_readAct_26 : decode cX11_readAct 26 = .ok (.iconst 0, 1) := by decide +kernel
theorem dX11_readAct_27 : decode cX11_readAct 27 = .ok (.ireturn, 1) := by decide +kernel
theorem dX11_readAct_28 : decode cX11_readAct 28 = .ok (.aload_n 0, 1) := by decide +kernel
theorem dX11_readAct_29 : decode cX11_readAct 29 = .ok (.getfield 10, 3) := by decide +kernel
theorem dX11_readAct_32 : decode cX11_readAct 32 = .ok (.iload_n 2, 1) := by decide +kernel
theorem dX11_readAct_33 : decode cX11_readAct 33 = .ok (.invokevirtual 403, 3) := by decide +kernel
theorem dX11_readAct_36 : decode cX11_readAct 36 = .ok (.pop, 1) := by decide +kernel
theorem dX11_readAct_37 : decode cX11_readAct 37 = .ok (.iload_n 2, 1) := by decide +kernel
theorem dX11_readAct_38 : decode cX11_readAct 38 = .ok (.bipush 103, 2) := by decide +kernel
theorem dX11_readAct_40 : decode cX11_readAct 40 = .ok (.if_icmp .ne 15, 3) := by decide +kernel
theorem dX11_readAct_43 : decode cX11_readAct 43 = .ok (.aload_n 0, 1) := by decide +kernel
theorem dX11_readAct_44 : decode cX11_readAct 44 = .ok (.getfield 10, 3) := by decide +kernel
theorem dX11_readAct_47 : decode cX11_readAct 47 = .ok (.bipush 6, 2) := by decide +kernel
theorem dX11_readAct_49 : decode cX11_readAct 49 = .ok (.invokevirtual 409, 3) := by decide +kernel
theorem dX11_readAct_52 : decode cX11_readAct 52 = .ok (.goto 4, 3) := by decide +kernel
theorem dX11_readAct_55 : decode cX11_readAct 55 = .ok (.iconst 0, 1) := by decide +kernel
theorem dX11_readAct_56 : decode cX11_readAct 56 = .ok (.istore_n 3, 1) := by decide +kernel
theorem dX11_readAct_57 : decode cX11_readAct 57 = .ok (.iload_n 3, 1) := by decide +kernel
theorem dX11_readAct_58 : decode cX11_readAct 58 = .ok (.ifCond .ge 7, 3) := by decide +kernel
theorem dX11_readAct_61 : decode cX11_readAct 61 = .ok (.iconst (-1), 1) := by decide +kernel
theorem dX11_readAct_62 : decode cX11_readAct 62 = .ok (.goto 11, 3) := by decide +kernel
theorem dX11_readAct_65 : decode cX11_readAct 65 = .ok (.aload_n 0, 1) := by decide +kernel
theorem dX11_readAct_66 : decode cX11_readAct 66 = .ok (.getfield 10, 3) := by decide +kernel
theorem dX11_readAct_69 : decode cX11_readAct 69 = .ok (.iconst 2, 1) := by decide +kernel
theorem dX11_readAct_70 : decode cX11_readAct 70 = .ok (.invokevirtual 412, 3) := by decide +kernel
theorem dX11_readAct_73 : decode cX11_readAct 73 = .ok (.istore 4, 2) := by decide +kernel
theorem dX11_readAct_75 : decode cX11_readAct 75 = .ok (.iload 4, 2) := by decide +kernel
theorem dX11_readAct_77 : decode cX11_readAct 77 = .ok (.ifCond .ge 5, 3) := by decide +kernel
theorem dX11_readAct_80 : decode cX11_readAct 80 = .ok (.iconst 0, 1) := by decide +kernel
theorem dX11_readAct_81 : decode cX11_readAct 81 = .ok (.ireturn, 1) := by decide +kernel
theorem dX11_readAct_82 : decode cX11_readAct 82 = .ok (.iload_n 2, 1) := by decide +kernel
theorem dX11_readAct_83 : decode cX11_readAct 83 = .ok (.bipush 109, 2) := by decide +kernel
theorem dX11_readAct_85 : decode cX11_readAct 85 = .ok (.if_icmp .ne 8, 3) := by decide +kernel
theorem dX11_readAct_88 : decode cX11_readAct 88 = .ok (.iload 4, 2) := by decide +kernel
theorem dX11_readAct_90 : decode cX11_readAct 90 = .ok (.goto 27, 3) := by decide +kernel
theorem dX11_readAct_93 : decode cX11_readAct 93 = .ok (.aload_n 0, 1) := by decide +kernel
theorem dX11_readAct_94 : decode cX11_readAct 94 = .ok (.getfield 10, 3) := by decide +kernel
theorem dX11_readAct_97 : decode cX11_readAct 97 = .ok (.bipush 45, 2) := by decide +kernel
theorem dX11_readAct_99 : decode cX11_readAct 99 = .ok (.invokevirtual 403, 3) := by decide +kernel
theorem dX11_readAct_102 : decode cX11_readAct 102 = .ok (.ifCond .eq 14, 3) := by decide +kernel
theorem dX11_readAct_105 : decode cX11_readAct 105 = .ok (.aload_n 0, 1) := by decide +kernel
theorem dX11_readAct_106 : decode cX11_readAct 106 = .ok (.getfield 10, 3) := by decide +kernel
theorem dX11_readAct_109 : decode cX11_readAct 109 = .ok (.iconst 2, 1) := by decide +kernel
theorem dX11_readAct_110 : decode cX11_readAct 110 = .ok (.invokevirtual 412, 3) := by decide +kernel
theorem dX11_readAct_113 : decode cX11_readAct 113 = .ok (.goto 4, 3) := by decide +kernel
theorem dX11_readAct_116 : decode cX11_readAct 116 = .ok (.iconst (-1), 1) := by decide +kernel
theorem dX11_readAct_117 : decode cX11_readAct 117 = .ok (.istore 5, 2) := by decide +kernel
theorem dX11_readAct_119 : decode cX11_readAct 119 = .ok (.aload_n 0, 1) := by decide +kernel
theorem dX11_readAct_120 : decode cX11_readAct 120 = .ok (.getfield 72, 3) := by decide +kernel
theorem dX11_readAct_123 : decode cX11_readAct 123 = .ok (.iload_n 1, 1) := by decide +kernel
theorem dX11_readAct_124 : decode cX11_readAct 124 = .ok (.iload_n 2, 1) := by decide +kernel
theorem dX11_readAct_125 : decode cX11_readAct 125 = .ok (.iastore, 1) := by decide +kernel
theorem dX11_readAct_126 : decode cX11_readAct 126 = .ok (.aload_n 0, 1) := by decide +kernel
theorem dX11_readAct_127 : decode cX11_readAct 127 = .ok (.getfield 72, 3) := by decide +kernel
theorem dX11_readAct_130 : decode cX11_readAct 130 = .ok (.iload_n 1, 1) := by decide +kernel
theorem dX11_readAct_131 : decode cX11_readAct 131 = .ok (.iconst 1, 1) := by decide +kernel
theorem dX11_readAct_132 : decode cX11_readAct 132 = .ok (.iadd, 1) := by decide +kernel
theorem dX11_readAct_133 : decode cX11_readAct 133 = .ok (.iload_n 3, 1) := by decide +kernel
theorem dX11_readAct_134 : decode cX11_readAct 134 = .ok (.iastore, 1) := by decide +kernel
theorem dX11_readAct_135 : decode cX11_readAct 135 = .ok (.aload_n 0, 1) := by decide +kernel
theorem dX11_readAct_136 : decode cX11_readAct 136 = .ok (.getfield 72, 3) := by decide +kernel
theorem dX11_readAct_139 : decode cX11_readAct 139 = .ok (.iload_n 1, 1) := by decide +kernel
theorem dX11_readAct_140 : decode cX11_readAct 140 = .ok (.iconst 2, 1) := by decide +kernel
theorem dX11_readAct_141 : decode cX11_readAct 141 = .ok (.iadd, 1) := by decide +kernel
theorem dX11_readAct_142 : decode cX11_readAct 142 = .ok (.iload 4, 2) := by decide +kernel
theorem dX11_readAct_144 : decode cX11_readAct 144 = .ok (.iastore, 1) := by decide +kernel
theorem dX11_readAct_145 : decode cX11_readAct 145 = .ok (.aload_n 0, 1) := by decide +kernel
theorem dX11_readAct_146 : decode cX11_readAct 146 = .ok (.getfield 72, 3) := by decide +kernel
theorem dX11_readAct_149 : decode cX11_readAct 149 = .ok (.iload_n 1, 1) := by decide +kernel
theorem dX11_readAct_150 : decode cX11_readAct 150 = .ok (.iconst 3, 1) := by decide +kernel
theorem dX11_readAct_151 : decode cX11_readAct 151 = .ok (.iadd, 1) := by decide +kernel
theorem dX11_readAct_152 : decode cX11_readAct 152 = .ok (.iload 5, 2) := by decide +kernel
theorem dX11_readAct_154 : decode cX11_readAct 154 = .ok (.iastore, 1) := by decide +kernel
theorem dX11_readAct_155 : decode cX11_readAct 155 = .ok (.iload 5, 2) := by decide +kernel
theorem dX11_readAct_157 : decode cX11_readAct 157 = .ok (.ifCond .lt 7, 3) := by decide +kernel
theorem dX11_readAct_160 : decode cX11_readAct 160 = .ok (.iconst 1, 1) := by decide +kernel
theorem dX11_readAct_161 : decode cX11_readAct 161 = .ok (.goto 4, 3) := by decide +kernel
theorem dX11_readAct_164 : decode cX11_readAct 164 = .ok (.iconst 0, 1) := by decide +kernel
theorem dX11_readAct_165 : decode cX11_readAct 165 = .ok (.ireturn, 1) := by decide +kernel
def xX11_readAct_165 (s_X8_next : zq_Sp) (s_X8_skip : zq_Sp) (s_X8_takeLetter : zq_Sp) (s_X8_takeNumber : zq_Sp) (Q : zq_Q) (ls : zq_L) (st : List Value) (h : zq_H) : Prop := (zi_zret Q) ls st h
theorem kX11_readAct_165 {X : zq_X} {d : Nat} (C : zq_C X cX11_readAct 6 RX11 d) {d_X8_next : Nat} {s_X8_next : zq_Sp} (h_X8_next : zq_M yX8_next cX8_next 1 (some .int) 1 d_X8_next s_X8_next) (g_X8_next : d_X8_next + 1 ≤ d) {d_X8_skip : Nat} {s_X8_skip : zq_Sp} (h_X8_skip : zq_M yX8_skip cX8_skip 2 (some .boolean) 1 d_X8_skip s_X8_skip) (g_X8_skip : d_X8_skip + 1 ≤ d) {d_X8_takeLetter : Nat} {s_X8_takeLetter : zq_Sp} (h_X8_takeLetter : zq_M yX8_takeLetter cX8_takeLetter 3 (some .int) 1 d_X8_takeLetter s_X8_takeLetter) (g_X8_takeLetter : d_X8_takeLetter + 1 ≤ d) {d_X8_takeNumber : Nat} {s_X8_takeNumber : zq_Sp} (h_X8_takeNumber : zq_M yX8_takeNumber cX8_takeNumber 5 (some .int) 1 d_X8_takeNumber s_X8_takeNumber) (g_X8_takeNumber : d_X8_takeNumber + 1 ≤ d) {Q : zq_Q} (hq : zq_R X (some .boolean) 1 Q) : zq_ok X 6 165 (xX11_readAct_165 s_X8_next s_X8_skip s_X8_takeLetter s_X8_takeNumber Q) := by
  exact zs_zret C hq dX11_readAct_165
def xX11_readAct_164 (s_X8_next : zq_Sp) (s_X8_skip : zq_Sp) (s_X8_takeLetter : zq_Sp) (s_X8_takeNumber : zq_Sp) (Q : zq_Q) (ls : zq_L) (st : List Value) (h : zq_H) : Prop := (zi_push (.int 0) ((xX11_readAct_165 s_X8_next s_X8_skip s_X8_takeLetter s_X8_takeNumber Q))) ls st h
theorem kX11_readAct_164 {X : zq_X} {d : Nat} (C : zq_C X cX11_readAct 6 RX11 d) {d_X8_next : Nat} {s_X8_next : zq_Sp} (h_X8_next : zq_M yX8_next cX8_next 1 (some .int) 1 d_X8_next s_X8_next) (g_X8_next : d_X8_next + 1 ≤ d) {d_X8_skip : Nat} {s_X8_skip : zq_Sp} (h_X8_skip : zq_M yX8_skip cX8_skip 2 (some .boolean) 1 d_X8_skip s_X8_skip) (g_X8_skip : d_X8_skip + 1 ≤ d) {d_X8_takeLetter : Nat} {s_X8_takeLetter : zq_Sp} (h_X8_takeLetter : zq_M yX8_takeLetter cX8_takeLetter 3 (some .int) 1 d_X8_takeLetter s_X8_takeLetter) (g_X8_takeLetter : d_X8_takeLetter + 1 ≤ d) {d_X8_takeNumber : Nat} {s_X8_takeNumber : zq_Sp} (h_X8_takeNumber : zq_M yX8_takeNumber cX8_takeNumber 5 (some .int) 1 d_X8_takeNumber s_X8_takeNumber) (g_X8_takeNumber : d_X8_takeNumber + 1 ≤ d) {Q : zq_Q} (hq : zq_R X (some .boolean) 1 Q) : zq_ok X 6 164 (xX11_readAct_164 s_X8_next s_X8_skip s_X8_takeLetter s_X8_takeNumber Q) := by
  refine zs_iconst C dX11_readAct_164 (by decide) ?_
  exact kX11_readAct_165 C h_X8_next g_X8_next h_X8_skip g_X8_skip h_X8_takeLetter g_X8_takeLetter h_X8_takeNumber g_X8_takeNumber hq
def xX11_readAct_160 (s_X8_next : zq_Sp) (s_X8_skip : zq_Sp) (s_X8_takeLetter : zq_Sp) (s_X8_takeNumber : zq_Sp) (Q : zq_Q) (ls : zq_L) (st : List Value) (h : zq_H) : Prop := (zi_push (.int 1) ((xX11_readAct_165 s_X8_next s_X8_skip s_X8_takeLetter s_X8_takeNumber Q))) ls st h
theorem kX11_readAct_160 {X : zq_X} {d : Nat} (C : zq_C X cX11_readAct 6 RX11 d) {d_X8_next : Nat} {s_X8_next : zq_Sp} (h_X8_next : zq_M yX8_next cX8_next 1 (some .int) 1 d_X8_next s_X8_next) (g_X8_next : d_X8_next + 1 ≤ d) {d_X8_skip : Nat} {s_X8_skip : zq_Sp} (h_X8_skip : zq_M yX8_skip cX8_skip 2 (some .boolean) 1 d_X8_skip s_X8_skip) (g_X8_skip : d_X8_skip + 1 ≤ d) {d_X8_takeLetter : Nat} {s_X8_takeLetter : zq_Sp} (h_X8_takeLetter : zq_M yX8_takeLetter cX8_takeLetter 3 (some .int) 1 d_X8_takeLetter s_X8_takeLetter) (g_X8_takeLetter : d_X8_takeLetter + 1 ≤ d) {d_X8_takeNumber : Nat} {s_X8_takeNumber : zq_Sp} (h_X8_takeNumber : zq_M yX8_takeNumber cX8_takeNumber 5 (some .int) 1 d_X8_takeNumber s_X8_takeNumber) (g_X8_takeNumber : d_X8_takeNumber + 1 ≤ d) {Q : zq_Q} (hq : zq_R X (some .boolean) 1 Q) : zq_ok X 6 160 (xX11_readAct_160 s_X8_next s_X8_skip s_X8_takeLetter s_X8_takeNumber Q) := by
  refine zs_iconst C dX11_readAct_160 (by decide) ?_
  exact zs_goto C dX11_readAct_161 (by decide) (kX11_readAct_165 C h_X8_next g_X8_next h_X8_skip g_X8_skip h_X8_takeLetter g_X8_takeLetter h_X8_takeNumber g_X8_takeNumber hq)
def xX11_readAct_117 (s_X8_next : zq_Sp) (s_X8_skip : zq_Sp) (s_X8_takeLetter : zq_Sp) (s_X8_takeNumber : zq_Sp) (Q : zq_Q) (ls : zq_L) (st : List Value) (h : zq_H) : Prop := (zi_istore 5 (zi_aload 0 (zi_getR 0 38 (zi_iload 1 (zi_iload 2 (zi_astI 38 80 (zi_aload 0 (zi_getR 0 38 (zi_iload 1 (zi_push (.int 1) (zi_i2 (fun x y => x + y) (zi_iload 3 (zi_astI 38 80 (zi_aload 0 (zi_getR 0 38 (zi_iload 1 (zi_push (.int 2) (zi_i2 (fun x y => x + y) (zi_iload 4 (zi_astI 38 80 (zi_aload 0 (zi_getR 0 38 (zi_iload 1 (zi_push (.int 3) (zi_i2 (fun x y => x + y) (zi_iload 5 (zi_astI 38 80 (zi_iload 5 (zi_if1 (fun x => x < 0) (xX11_readAct_164 s_X8_next s_X8_skip s_X8_takeLetter s_X8_takeNumber Q) (xX11_readAct_160 s_X8_next s_X8_skip s_X8_takeLetter s_X8_takeNumber Q)))))))))))))))))))))))))))))) ls st h
theorem kX11_readAct_117 {X : zq_X} {d : Nat} (C : zq_C X cX11_readAct 6 RX11 d) {d_X8_next : Nat} {s_X8_next : zq_Sp} (h_X8_next : zq_M yX8_next cX8_next 1 (some .int) 1 d_X8_next s_X8_next) (g_X8_next : d_X8_next + 1 ≤ d) {d_X8_skip : Nat} {s_X8_skip : zq_Sp} (h_X8_skip : zq_M yX8_skip cX8_skip 2 (some .boolean) 1 d_X8_skip s_X8_skip) (g_X8_skip : d_X8_skip + 1 ≤ d) {d_X8_takeLetter : Nat} {s_X8_takeLetter : zq_Sp} (h_X8_takeLetter : zq_M yX8_takeLetter cX8_takeLetter 3 (some .int) 1 d_X8_takeLetter s_X8_takeLetter) (g_X8_takeLetter : d_X8_takeLetter + 1 ≤ d) {d_X8_takeNumber : Nat} {s_X8_takeNumber : zq_Sp} (h_X8_takeNumber : zq_M yX8_takeNumber cX8_takeNumber 5 (some .int) 1 d_X8_takeNumber s_X8_takeNumber) (g_X8_takeNumber : d_X8_takeNumber + 1 ≤ d) {Q : zq_Q} (hq : zq_R X (some .boolean) 1 Q) : zq_ok X 6 117 (xX11_readAct_117 s_X8_next s_X8_skip s_X8_takeLetter s_X8_takeNumber Q) := by
  refine zs_istore C dX11_readAct_117 (by decide) ?_
  refine zs_aload_n C dX11_readAct_119 rfl ?_
  refine zs_getR C zp_0 zF11 (j := 9) ⟨by decide, rfl⟩ zw_324 dX11_readAct_120 ?_
  refine zs_iload_n C dX11_readAct_123 rfl ?_
  refine zs_iload_n C dX11_readAct_124 rfl ?_
  refine zs_iastore C zp_38 dX11_readAct_125 ?_
  refine zs_aload_n C dX11_readAct_126 rfl ?_
  refine zs_getR C zp_0 zF11 (j := 9) ⟨by decide, rfl⟩ zw_324 dX11_readAct_127 ?_
  refine zs_iload_n C dX11_readAct_130 rfl ?_
  refine zs_iconst C dX11_readAct_131 (by decide) ?_
  refine zs_iadd C dX11_readAct_132 ?_
  refine zs_iload_n C dX11_readAct_133 rfl ?_
  refine zs_iastore C zp_38 dX11_readAct_134 ?_
  refine zs_aload_n C dX11_readAct_135 rfl ?_
  refine zs_getR C zp_0 zF11 (j := 9) ⟨by decide, rfl⟩ zw_324 dX11_readAct_136 ?_
  refine zs_iload_n C dX11_readAct_139 rfl ?_
  refine zs_iconst C dX11_readAct_140 (by decide) ?_
  refine zs_iadd C dX11_readAct_141 ?_
  refine zs_iload C dX11_readAct_142 ?_
  refine zs_iastore C zp_38 dX11_readAct_144 ?_
  refine zs_aload_n C dX11_readAct_145 rfl ?_
  refine zs_getR C zp_0 zF11 (j := 9) ⟨by decide, rfl⟩ zw_324 dX11_readAct_146 ?_
  refine zs_iload_n C dX11_readAct_149 rfl ?_
  refine zs_iconst C dX11_readAct_150 (by decide) ?_
  refine zs_iadd C dX11_readAct_151 ?_
  refine zs_iload C dX11_readAct_152 ?_
  refine zs_iastore C zp_38 dX11_readAct_154 ?_
  refine zs_iload C dX11_readAct_155 ?_
  exact zs_if_lt C dX11_readAct_157 (by decide) (kX11_readAct_164 C h_X8_next g_X8_next h_X8_skip g_X8_skip h_X8_takeLetter g_X8_takeLetter h_X8_takeNumber g_X8_takeNumber hq) (kX11_readAct_160 C h_X8_next g_X8_next h_X8_skip g_X8_skip h_X8_takeLetter g_X8_takeLetter h_X8_takeNumber g_X8_takeNumber hq)
def xX11_readAct_116 (s_X8_next : zq_Sp) (s_X8_skip : zq_Sp) (s_X8_takeLetter : zq_Sp) (s_X8_takeNumber : zq_Sp) (Q : zq_Q) (ls : zq_L) (st : List Value) (h : zq_H) : Prop := (zi_push (.int (-1)) ((xX11_readAct_117 s_X8_next s_X8_skip s_X8_takeLetter s_X8_takeNumber Q))) ls st h
theorem kX11_readAct_116 {X : zq_X} {d : Nat} (C : zq_C X cX11_readAct 6 RX11 d) {d_X8_next : Nat} {s_X8_next : zq_Sp} (h_X8_next : zq_M yX8_next cX8_next 1 (some .int) 1 d_X8_next s_X8_next) (g_X8_next : d_X8_next + 1 ≤ d) {d_X8_skip : Nat} {s_X8_skip : zq_Sp} (h_X8_skip : zq_M yX8_skip cX8_skip 2 (some .boolean) 1 d_X8_skip s_X8_skip) (g_X8_skip : d_X8_skip + 1 ≤ d) {d_X8_takeLetter : Nat} {s_X8_takeLetter : zq_Sp} (h_X8_takeLetter : zq_M yX8_takeLetter cX8_takeLetter 3 (some .int) 1 d_X8_takeLetter s_X8_takeLetter) (g_X8_takeLetter : d_X8_takeLetter + 1 ≤ d) {d_X8_takeNumber : Nat} {s_X8_takeNumber : zq_Sp} (h_X8_takeNumber : zq_M yX8_takeNumber cX8_takeNumber 5 (some .int) 1 d_X8_takeNumber s_X8_takeNumber) (g_X8_takeNumber : d_X8_takeNumber + 1 ≤ d) {Q : zq_Q} (hq : zq_R X (some .boolean) 1 Q) : zq_ok X 6 116 (xX11_readAct_116 s_X8_next s_X8_skip s_X8_takeLetter s_X8_takeNumber Q) := by
  refine zs_iconst C dX11_readAct_116 (by decide) ?_
  exact kX11_readAct_117 C h_X8_next g_X8_next h_X8_skip g_X8_skip h_X8_takeLetter g_X8_takeLetter h_X8_takeNumber g_X8_takeNumber hq
def xX11_readAct_105 (s_X8_next : zq_Sp) (s_X8_skip : zq_Sp) (s_X8_takeLetter : zq_Sp) (s_X8_takeNumber : zq_Sp) (Q : zq_Q) (ls : zq_L) (st : List Value) (h : zq_H) : Prop := (zi_aload 0 (zi_getR 0 1 (zi_push (.int 2) (zi_callV 1 1 s_X8_takeNumber ((xX11_readAct_117 s_X8_next s_X8_skip s_X8_takeLetter s_X8_takeNumber Q)))))) ls st h
theorem kX11_readAct_105 {X : zq_X} {d : Nat} (C : zq_C X cX11_readAct 6 RX11 d) {d_X8_next : Nat} {s_X8_next : zq_Sp} (h_X8_next : zq_M yX8_next cX8_next 1 (some .int) 1 d_X8_next s_X8_next) (g_X8_next : d_X8_next + 1 ≤ d) {d_X8_skip : Nat} {s_X8_skip : zq_Sp} (h_X8_skip : zq_M yX8_skip cX8_skip 2 (some .boolean) 1 d_X8_skip s_X8_skip) (g_X8_skip : d_X8_skip + 1 ≤ d) {d_X8_takeLetter : Nat} {s_X8_takeLetter : zq_Sp} (h_X8_takeLetter : zq_M yX8_takeLetter cX8_takeLetter 3 (some .int) 1 d_X8_takeLetter s_X8_takeLetter) (g_X8_takeLetter : d_X8_takeLetter + 1 ≤ d) {d_X8_takeNumber : Nat} {s_X8_takeNumber : zq_Sp} (h_X8_takeNumber : zq_M yX8_takeNumber cX8_takeNumber 5 (some .int) 1 d_X8_takeNumber s_X8_takeNumber) (g_X8_takeNumber : d_X8_takeNumber + 1 ≤ d) {Q : zq_Q} (hq : zq_R X (some .boolean) 1 Q) : zq_ok X 6 105 (xX11_readAct_105 s_X8_next s_X8_skip s_X8_takeLetter s_X8_takeNumber Q) := by
  refine zs_aload_n C dX11_readAct_105 rfl ?_
  refine zs_getR C zp_0 zF11 (j := 0) ⟨by decide, rfl⟩ zw_315 dX11_readAct_106 ?_
  refine zs_iconst C dX11_readAct_109 (by decide) ?_
  refine zs_callV C h_X8_takeNumber g_X8_takeNumber zy_X8_takeNumber zp_1 (show vwCl[8]? = some (RX8, TX8, 4) from rfl) zw_645 zw_518 zs9_X8_takeNumber dX11_readAct_110 ?_
  exact zs_goto C dX11_readAct_113 (by decide) (kX11_readAct_117 C h_X8_next g_X8_next h_X8_skip g_X8_skip h_X8_takeLetter g_X8_takeLetter h_X8_takeNumber g_X8_takeNumber hq)
def xX11_readAct_93 (s_X8_next : zq_Sp) (s_X8_skip : zq_Sp) (s_X8_takeLetter : zq_Sp) (s_X8_takeNumber : zq_Sp) (Q : zq_Q) (ls : zq_L) (st : List Value) (h : zq_H) : Prop := (zi_aload 0 (zi_getR 0 1 (zi_push (.int 45) (zi_callV 1 1 s_X8_skip (zi_if1 (fun x => x = 0) (xX11_readAct_116 s_X8_next s_X8_skip s_X8_takeLetter s_X8_takeNumber Q) (xX11_readAct_105 s_X8_next s_X8_skip s_X8_takeLetter s_X8_takeNumber Q)))))) ls st h
theorem kX11_readAct_93 {X : zq_X} {d : Nat} (C : zq_C X cX11_readAct 6 RX11 d) {d_X8_next : Nat} {s_X8_next : zq_Sp} (h_X8_next : zq_M yX8_next cX8_next 1 (some .int) 1 d_X8_next s_X8_next) (g_X8_next : d_X8_next + 1 ≤ d) {d_X8_skip : Nat} {s_X8_skip : zq_Sp} (h_X8_skip : zq_M yX8_skip cX8_skip 2 (some .boolean) 1 d_X8_skip s_X8_skip) (g_X8_skip : d_X8_skip + 1 ≤ d) {d_X8_takeLetter : Nat} {s_X8_takeLetter : zq_Sp} (h_X8_takeLetter : zq_M yX8_takeLetter cX8_takeLetter 3 (some .int) 1 d_X8_takeLetter s_X8_takeLetter) (g_X8_takeLetter : d_X8_takeLetter + 1 ≤ d) {d_X8_takeNumber : Nat} {s_X8_takeNumber : zq_Sp} (h_X8_takeNumber : zq_M yX8_takeNumber cX8_takeNumber 5 (some .int) 1 d_X8_takeNumber s_X8_takeNumber) (g_X8_takeNumber : d_X8_takeNumber + 1 ≤ d) {Q : zq_Q} (hq : zq_R X (some .boolean) 1 Q) : zq_ok X 6 93 (xX11_readAct_93 s_X8_next s_X8_skip s_X8_takeLetter s_X8_takeNumber Q) := by
  refine zs_aload_n C dX11_readAct_93 rfl ?_
  refine zs_getR C zp_0 zF11 (j := 0) ⟨by decide, rfl⟩ zw_315 dX11_readAct_94 ?_
  refine zs_bipush C dX11_readAct_97 (by decide) ?_
  refine zs_callV C h_X8_skip g_X8_skip zy_X8_skip zp_1 (show vwCl[8]? = some (RX8, TX8, 4) from rfl) zw_643 zw_412 zs9_X8_skip dX11_readAct_99 ?_
  exact zs_if_eq C dX11_readAct_102 (by decide) (kX11_readAct_116 C h_X8_next g_X8_next h_X8_skip g_X8_skip h_X8_takeLetter g_X8_takeLetter h_X8_takeNumber g_X8_takeNumber hq) (kX11_readAct_105 C h_X8_next g_X8_next h_X8_skip g_X8_skip h_X8_takeLetter g_X8_takeLetter h_X8_takeNumber g_X8_takeNumber hq)
def xX11_readAct_88 (s_X8_next : zq_Sp) (s_X8_skip : zq_Sp) (s_X8_takeLetter : zq_Sp) (s_X8_takeNumber : zq_Sp) (Q : zq_Q) (ls : zq_L) (st : List Value) (h : zq_H) : Prop := (zi_iload 4 ((xX11_readAct_117 s_X8_next s_X8_skip s_X8_takeLetter s_X8_takeNumber Q))) ls st h
theorem kX11_readAct_88 {X : zq_X} {d : Nat} (C : zq_C X cX11_readAct 6 RX11 d) {d_X8_next : Nat} {s_X8_next : zq_Sp} (h_X8_next : zq_M yX8_next cX8_next 1 (some .int) 1 d_X8_next s_X8_next) (g_X8_next : d_X8_next + 1 ≤ d) {d_X8_skip : Nat} {s_X8_skip : zq_Sp} (h_X8_skip : zq_M yX8_skip cX8_skip 2 (some .boolean) 1 d_X8_skip s_X8_skip) (g_X8_skip : d_X8_skip + 1 ≤ d) {d_X8_takeLetter : Nat} {s_X8_takeLetter : zq_Sp} (h_X8_takeLetter : zq_M yX8_takeLetter cX8_takeLetter 3 (some .int) 1 d_X8_takeLetter s_X8_takeLetter) (g_X8_takeLetter : d_X8_takeLetter + 1 ≤ d) {d_X8_takeNumber : Nat} {s_X8_takeNumber : zq_Sp} (h_X8_takeNumber : zq_M yX8_takeNumber cX8_takeNumber 5 (some .int) 1 d_X8_takeNumber s_X8_takeNumber) (g_X8_takeNumber : d_X8_takeNumber + 1 ≤ d) {Q : zq_Q} (hq : zq_R X (some .boolean) 1 Q) : zq_ok X 6 88 (xX11_readAct_88 s_X8_next s_X8_skip s_X8_takeLetter s_X8_takeNumber Q) := by
  refine zs_iload C dX11_readAct_88 ?_
  exact zs_goto C dX11_readAct_90 (by decide) (kX11_readAct_117 C h_X8_next g_X8_next h_X8_skip g_X8_skip h_X8_takeLetter g_X8_takeLetter h_X8_takeNumber g_X8_takeNumber hq)
def xX11_readAct_82 (s_X8_next : zq_Sp) (s_X8_skip : zq_Sp) (s_X8_takeLetter : zq_Sp) (s_X8_takeNumber : zq_Sp) (Q : zq_Q) (ls : zq_L) (st : List Value) (h : zq_H) : Prop := (zi_iload 2 (zi_push (.int 109) (zi_if2 (fun x y => x = y) (xX11_readAct_88 s_X8_next s_X8_skip s_X8_takeLetter s_X8_takeNumber Q) (xX11_readAct_93 s_X8_next s_X8_skip s_X8_takeLetter s_X8_takeNumber Q)))) ls st h
theorem kX11_readAct_82 {X : zq_X} {d : Nat} (C : zq_C X cX11_readAct 6 RX11 d) {d_X8_next : Nat} {s_X8_next : zq_Sp} (h_X8_next : zq_M yX8_next cX8_next 1 (some .int) 1 d_X8_next s_X8_next) (g_X8_next : d_X8_next + 1 ≤ d) {d_X8_skip : Nat} {s_X8_skip : zq_Sp} (h_X8_skip : zq_M yX8_skip cX8_skip 2 (some .boolean) 1 d_X8_skip s_X8_skip) (g_X8_skip : d_X8_skip + 1 ≤ d) {d_X8_takeLetter : Nat} {s_X8_takeLetter : zq_Sp} (h_X8_takeLetter : zq_M yX8_takeLetter cX8_takeLetter 3 (some .int) 1 d_X8_takeLetter s_X8_takeLetter) (g_X8_takeLetter : d_X8_takeLetter + 1 ≤ d) {d_X8_takeNumber : Nat} {s_X8_takeNumber : zq_Sp} (h_X8_takeNumber : zq_M yX8_takeNumber cX8_takeNumber 5 (some .int) 1 d_X8_takeNumber s_X8_takeNumber) (g_X8_takeNumber : d_X8_takeNumber + 1 ≤ d) {Q : zq_Q} (hq : zq_R X (some .boolean) 1 Q) : zq_ok X 6 82 (xX11_readAct_82 s_X8_next s_X8_skip s_X8_takeLetter s_X8_takeNumber Q) := by
  refine zs_iload_n C dX11_readAct_82 rfl ?_
  refine zs_bipush C dX11_readAct_83 (by decide) ?_
  exact zs_icmp_ne C dX11_readAct_85 (by decide) (kX11_readAct_93 C h_X8_next g_X8_next h_X8_skip g_X8_skip h_X8_takeLetter g_X8_takeLetter h_X8_takeNumber g_X8_takeNumber hq) (kX11_readAct_88 C h_X8_next g_X8_next h_X8_skip g_X8_skip h_X8_takeLetter g_X8_takeLetter h_X8_takeNumber g_X8_takeNumber hq)
def xX11_readAct_80 (s_X8_next : zq_Sp) (s_X8_skip : zq_Sp) (s_X8_takeLetter : zq_Sp) (s_X8_takeNumber : zq_Sp) (Q : zq_Q) (ls : zq_L) (st : List Value) (h : zq_H) : Prop := (zi_push (.int 0) (zi_zret Q)) ls st h
theorem kX11_readAct_80 {X : zq_X} {d : Nat} (C : zq_C X cX11_readAct 6 RX11 d) {d_X8_next : Nat} {s_X8_next : zq_Sp} (h_X8_next : zq_M yX8_next cX8_next 1 (some .int) 1 d_X8_next s_X8_next) (g_X8_next : d_X8_next + 1 ≤ d) {d_X8_skip : Nat} {s_X8_skip : zq_Sp} (h_X8_skip : zq_M yX8_skip cX8_skip 2 (some .boolean) 1 d_X8_skip s_X8_skip) (g_X8_skip : d_X8_skip + 1 ≤ d) {d_X8_takeLetter : Nat} {s_X8_takeLetter : zq_Sp} (h_X8_takeLetter : zq_M yX8_takeLetter cX8_takeLetter 3 (some .int) 1 d_X8_takeLetter s_X8_takeLetter) (g_X8_takeLetter : d_X8_takeLetter + 1 ≤ d) {d_X8_takeNumber : Nat} {s_X8_takeNumber : zq_Sp} (h_X8_takeNumber : zq_M yX8_takeNumber cX8_takeNumber 5 (some .int) 1 d_X8_takeNumber s_X8_takeNumber) (g_X8_takeNumber : d_X8_takeNumber + 1 ≤ d) {Q : zq_Q} (hq : zq_R X (some .boolean) 1 Q) : zq_ok X 6 80 (xX11_readAct_80 s_X8_next s_X8_skip s_X8_takeLetter s_X8_takeNumber Q) := by
  refine zs_iconst C dX11_readAct_80 (by decide) ?_
  exact zs_zret C hq dX11_readAct_81
def xX11_readAct_73 (s_X8_next : zq_Sp) (s_X8_skip : zq_Sp) (s_X8_takeLetter : zq_Sp) (s_X8_takeNumber : zq_Sp) (Q : zq_Q) (ls : zq_L) (st : List Value) (h : zq_H) : Prop := (zi_istore 4 (zi_iload 4 (zi_if1 (fun x => 0 ≤ x) (xX11_readAct_82 s_X8_next s_X8_skip s_X8_takeLetter s_X8_takeNumber Q) (xX11_readAct_80 s_X8_next s_X8_skip s_X8_takeLetter s_X8_takeNumber Q)))) ls st h
theorem kX11_readAct_73 {X : zq_X} {d : Nat} (C : zq_C X cX11_readAct 6 RX11 d) {d_X8_next : Nat} {s_X8_next : zq_Sp} (h_X8_next : zq_M yX8_next cX8_next 1 (some .int) 1 d_X8_next s_X8_next) (g_X8_next : d_X8_next + 1 ≤ d) {d_X8_skip : Nat} {s_X8_skip : zq_Sp} (h_X8_skip : zq_M yX8_skip cX8_skip 2 (some .boolean) 1 d_X8_skip s_X8_skip) (g_X8_skip : d_X8_skip + 1 ≤ d) {d_X8_takeLetter : Nat} {s_X8_takeLetter : zq_Sp} (h_X8_takeLetter : zq_M yX8_takeLetter cX8_takeLetter 3 (some .int) 1 d_X8_takeLetter s_X8_takeLetter) (g_X8_takeLetter : d_X8_takeLetter + 1 ≤ d) {d_X8_takeNumber : Nat} {s_X8_takeNumber : zq_Sp} (h_X8_takeNumber : zq_M yX8_takeNumber cX8_takeNumber 5 (some .int) 1 d_X8_takeNumber s_X8_takeNumber) (g_X8_takeNumber : d_X8_takeNumber + 1 ≤ d) {Q : zq_Q} (hq : zq_R X (some .boolean) 1 Q) : zq_ok X 6 73 (xX11_readAct_73 s_X8_next s_X8_skip s_X8_takeLetter s_X8_takeNumber Q) := by
  refine zs_istore C dX11_readAct_73 (by decide) ?_
  refine zs_iload C dX11_readAct_75 ?_
  exact zs_if_ge C dX11_readAct_77 (by decide) (kX11_readAct_82 C h_X8_next g_X8_next h_X8_skip g_X8_skip h_X8_takeLetter g_X8_takeLetter h_X8_takeNumber g_X8_takeNumber hq) (kX11_readAct_80 C h_X8_next g_X8_next h_X8_skip g_X8_skip h_X8_takeLetter g_X8_takeLetter h_X8_takeNumber g_X8_takeNumber hq)
def xX11_readAct_65 (s_X8_next : zq_Sp) (s_X8_skip : zq_Sp) (s_X8_takeLetter : zq_Sp) (s_X8_takeNumber : zq_Sp) (Q : zq_Q) (ls : zq_L) (st : List Value) (h : zq_H) : Prop := (zi_aload 0 (zi_getR 0 1 (zi_push (.int 2) (zi_callV 1 1 s_X8_takeNumber ((xX11_readAct_73 s_X8_next s_X8_skip s_X8_takeLetter s_X8_takeNumber Q)))))) ls st h
theorem kX11_readAct_65 {X : zq_X} {d : Nat} (C : zq_C X cX11_readAct 6 RX11 d) {d_X8_next : Nat} {s_X8_next : zq_Sp} (h_X8_next : zq_M yX8_next cX8_next 1 (some .int) 1 d_X8_next s_X8_next) (g_X8_next : d_X8_next + 1 ≤ d) {d_X8_skip : Nat} {s_X8_skip : zq_Sp} (h_X8_skip : zq_M yX8_skip cX8_skip 2 (some .boolean) 1 d_X8_skip s_X8_skip) (g_X8_skip : d_X8_skip + 1 ≤ d) {d_X8_takeLetter : Nat} {s_X8_takeLetter : zq_Sp} (h_X8_takeLetter : zq_M yX8_takeLetter cX8_takeLetter 3 (some .int) 1 d_X8_takeLetter s_X8_takeLetter) (g_X8_takeLetter : d_X8_takeLetter + 1 ≤ d) {d_X8_takeNumber : Nat} {s_X8_takeNumber : zq_Sp} (h_X8_takeNumber : zq_M yX8_takeNumber cX8_takeNumber 5 (some .int) 1 d_X8_takeNumber s_X8_takeNumber) (g_X8_takeNumber : d_X8_takeNumber + 1 ≤ d) {Q : zq_Q} (hq : zq_R X (some .boolean) 1 Q) : zq_ok X 6 65 (xX11_readAct_65 s_X8_next s_X8_skip s_X8_takeLetter s_X8_takeNumber Q) := by
  refine zs_aload_n C dX11_readAct_65 rfl ?_
  refine zs_getR C zp_0 zF11 (j := 0) ⟨by decide, rfl⟩ zw_315 dX11_readAct_66 ?_
  refine zs_iconst C dX11_readAct_69 (by decide) ?_
  refine zs_callV C h_X8_takeNumber g_X8_takeNumber zy_X8_takeNumber zp_1 (show vwCl[8]? = some (RX8, TX8, 4) from rfl) zw_645 zw_518 zs9_X8_takeNumber dX11_readAct_70 ?_
  exact kX11_readAct_73 C h_X8_next g_X8_next h_X8_skip g_X8_skip h_X8_takeLetter g_X8_takeLetter h_X8_takeNumber g_X8_takeNumber hq
def xX11_readAct_61 (s_X8_next : zq_Sp) (s_X8_skip : zq_Sp) (s_X8_takeLetter : zq_Sp) (s_X8_takeNumber : zq_Sp) (Q : zq_Q) (ls : zq_L) (st : List Value) (h : zq_H) : Prop := (zi_push (.int (-1)) ((xX11_readAct_73 s_X8_next s_X8_skip s_X8_takeLetter s_X8_takeNumber Q))) ls st h
theorem kX11_readAct_61 {X : zq_X} {d : Nat} (C : zq_C X cX11_readAct 6 RX11 d) {d_X8_next : Nat} {s_X8_next : zq_Sp} (h_X8_next : zq_M yX8_next cX8_next 1 (some .int) 1 d_X8_next s_X8_next) (g_X8_next : d_X8_next + 1 ≤ d) {d_X8_skip : Nat} {s_X8_skip : zq_Sp} (h_X8_skip : zq_M yX8_skip cX8_skip 2 (some .boolean) 1 d_X8_skip s_X8_skip) (g_X8_skip : d_X8_skip + 1 ≤ d) {d_X8_takeLetter : Nat} {s_X8_takeLetter : zq_Sp} (h_X8_takeLetter : zq_M yX8_takeLetter cX8_takeLetter 3 (some .int) 1 d_X8_takeLetter s_X8_takeLetter) (g_X8_takeLetter : d_X8_takeLetter + 1 ≤ d) {d_X8_takeNumber : Nat} {s_X8_takeNumber : zq_Sp} (h_X8_takeNumber : zq_M yX8_takeNumber cX8_takeNumber 5 (some .int) 1 d_X8_takeNumber s_X8_takeNumber) (g_X8_takeNumber : d_X8_takeNumber + 1 ≤ d) {Q : zq_Q} (hq : zq_R X (some .boolean) 1 Q) : zq_ok X 6 61 (xX11_readAct_61 s_X8_next s_X8_skip s_X8_takeLetter s_X8_takeNumber Q) := by
  refine zs_iconst C dX11_readAct_61 (by decide) ?_
  exact zs_goto C dX11_readAct_62 (by decide) (kX11_readAct_73 C h_X8_next g_X8_next h_X8_skip g_X8_skip h_X8_takeLetter g_X8_takeLetter h_X8_takeNumber g_X8_takeNumber hq)
def xX11_readAct_56 (s_X8_next : zq_Sp) (s_X8_skip : zq_Sp) (s_X8_takeLetter : zq_Sp) (s_X8_takeNumber : zq_Sp) (Q : zq_Q) (ls : zq_L) (st : List Value) (h : zq_H) : Prop := (zi_istore 3 (zi_iload 3 (zi_if1 (fun x => 0 ≤ x) (xX11_readAct_65 s_X8_next s_X8_skip s_X8_takeLetter s_X8_takeNumber Q) (xX11_readAct_61 s_X8_next s_X8_skip s_X8_takeLetter s_X8_takeNumber Q)))) ls st h
theorem kX11_readAct_56 {X : zq_X} {d : Nat} (C : zq_C X cX11_readAct 6 RX11 d) {d_X8_next : Nat} {s_X8_next : zq_Sp} (h_X8_next : zq_M yX8_next cX8_next 1 (some .int) 1 d_X8_next s_X8_next) (g_X8_next : d_X8_next + 1 ≤ d) {d_X8_skip : Nat} {s_X8_skip : zq_Sp} (h_X8_skip : zq_M yX8_skip cX8_skip 2 (some .boolean) 1 d_X8_skip s_X8_skip) (g_X8_skip : d_X8_skip + 1 ≤ d) {d_X8_takeLetter : Nat} {s_X8_takeLetter : zq_Sp} (h_X8_takeLetter : zq_M yX8_takeLetter cX8_takeLetter 3 (some .int) 1 d_X8_takeLetter s_X8_takeLetter) (g_X8_takeLetter : d_X8_takeLetter + 1 ≤ d) {d_X8_takeNumber : Nat} {s_X8_takeNumber : zq_Sp} (h_X8_takeNumber : zq_M yX8_takeNumber cX8_takeNumber 5 (some .int) 1 d_X8_takeNumber s_X8_takeNumber) (g_X8_takeNumber : d_X8_takeNumber + 1 ≤ d) {Q : zq_Q} (hq : zq_R X (some .boolean) 1 Q) : zq_ok X 6 56 (xX11_readAct_56 s_X8_next s_X8_skip s_X8_takeLetter s_X8_takeNumber Q) := by
  refine zs_istore_n C dX11_readAct_56 rfl (by decide) ?_
  refine zs_iload_n C dX11_readAct_57 rfl ?_
  exact zs_if_ge C dX11_readAct_58 (by decide) (kX11_readAct_65 C h_X8_next g_X8_next h_X8_skip g_X8_skip h_X8_takeLetter g_X8_takeLetter h_X8_takeNumber g_X8_takeNumber hq) (kX11_readAct_61 C h_X8_next g_X8_next h_X8_skip g_X8_skip h_X8_takeLetter g_X8_takeLetter h_X8_takeNumber g_X8_takeNumber hq)
def xX11_readAct_55 (s_X8_next : zq_Sp) (s_X8_skip : zq_Sp) (s_X8_takeLetter : zq_Sp) (s_X8_takeNumber : zq_Sp) (Q : zq_Q) (ls : zq_L) (st : List Value) (h : zq_H) : Prop := (zi_push (.int 0) ((xX11_readAct_56 s_X8_next s_X8_skip s_X8_takeLetter s_X8_takeNumber Q))) ls st h
theorem kX11_readAct_55 {X : zq_X} {d : Nat} (C : zq_C X cX11_readAct 6 RX11 d) {d_X8_next : Nat} {s_X8_next : zq_Sp} (h_X8_next : zq_M yX8_next cX8_next 1 (some .int) 1 d_X8_next s_X8_next) (g_X8_next : d_X8_next + 1 ≤ d) {d_X8_skip : Nat} {s_X8_skip : zq_Sp} (h_X8_skip : zq_M yX8_skip cX8_skip 2 (some .boolean) 1 d_X8_skip s_X8_skip) (g_X8_skip : d_X8_skip + 1 ≤ d) {d_X8_takeLetter : Nat} {s_X8_takeLetter : zq_Sp} (h_X8_takeLetter : zq_M yX8_takeLetter cX8_takeLetter 3 (some .int) 1 d_X8_takeLetter s_X8_takeLetter) (g_X8_takeLetter : d_X8_takeLetter + 1 ≤ d) {d_X8_takeNumber : Nat} {s_X8_takeNumber : zq_Sp} (h_X8_takeNumber : zq_M yX8_takeNumber cX8_takeNumber 5 (some .int) 1 d_X8_takeNumber s_X8_takeNumber) (g_X8_takeNumber : d_X8_takeNumber + 1 ≤ d) {Q : zq_Q} (hq : zq_R X (some .boolean) 1 Q) : zq_ok X 6 55 (xX11_readAct_55 s_X8_next s_X8_skip s_X8_takeLetter s_X8_takeNumber Q) := by
  refine zs_iconst C dX11_readAct_55 (by decide) ?_
  exact kX11_readAct_56 C h_X8_next g_X8_next h_X8_skip g_X8_skip h_X8_takeLetter g_X8_takeLetter h_X8_takeNumber g_X8_takeNumber hq
def xX11_readAct_43 (s_X8_next : zq_Sp) (s_X8_skip : zq_Sp) (s_X8_takeLetter : zq_Sp) (s_X8_takeNumber : zq_Sp) (Q : zq_Q) (ls : zq_L) (st : List Value) (h : zq_H) : Prop := (zi_aload 0 (zi_getR 0 1 (zi_push (.int 6) (zi_callV 1 1 s_X8_takeLetter ((xX11_readAct_56 s_X8_next s_X8_skip s_X8_takeLetter s_X8_takeNumber Q)))))) ls st h
theorem kX11_readAct_43 {X : zq_X} {d : Nat} (C : zq_C X cX11_readAct 6 RX11 d) {d_X8_next : Nat} {s_X8_next : zq_Sp} (h_X8_next : zq_M yX8_next cX8_next 1 (some .int) 1 d_X8_next s_X8_next) (g_X8_next : d_X8_next + 1 ≤ d) {d_X8_skip : Nat} {s_X8_skip : zq_Sp} (h_X8_skip : zq_M yX8_skip cX8_skip 2 (some .boolean) 1 d_X8_skip s_X8_skip) (g_X8_skip : d_X8_skip + 1 ≤ d) {d_X8_takeLetter : Nat} {s_X8_takeLetter : zq_Sp} (h_X8_takeLetter : zq_M yX8_takeLetter cX8_takeLetter 3 (some .int) 1 d_X8_takeLetter s_X8_takeLetter) (g_X8_takeLetter : d_X8_takeLetter + 1 ≤ d) {d_X8_takeNumber : Nat} {s_X8_takeNumber : zq_Sp} (h_X8_takeNumber : zq_M yX8_takeNumber cX8_takeNumber 5 (some .int) 1 d_X8_takeNumber s_X8_takeNumber) (g_X8_takeNumber : d_X8_takeNumber + 1 ≤ d) {Q : zq_Q} (hq : zq_R X (some .boolean) 1 Q) : zq_ok X 6 43 (xX11_readAct_43 s_X8_next s_X8_skip s_X8_takeLetter s_X8_takeNumber Q) := by
  refine zs_aload_n C dX11_readAct_43 rfl ?_
  refine zs_getR C zp_0 zF11 (j := 0) ⟨by decide, rfl⟩ zw_315 dX11_readAct_44 ?_
  refine zs_bipush C dX11_readAct_47 (by decide) ?_
  refine zs_callV C h_X8_takeLetter g_X8_takeLetter zy_X8_takeLetter zp_1 (show vwCl[8]? = some (RX8, TX8, 4) from rfl) zw_644 zw_408 zs9_X8_takeLetter dX11_readAct_49 ?_
  exact zs_goto C dX11_readAct_52 (by decide) (kX11_readAct_56 C h_X8_next g_X8_next h_X8_skip g_X8_skip h_X8_takeLetter g_X8_takeLetter h_X8_takeNumber g_X8_takeNumber hq)
def xX11_readAct_28 (s_X8_next : zq_Sp) (s_X8_skip : zq_Sp) (s_X8_takeLetter : zq_Sp) (s_X8_takeNumber : zq_Sp) (Q : zq_Q) (ls : zq_L) (st : List Value) (h : zq_H) : Prop := (zi_aload 0 (zi_getR 0 1 (zi_iload 2 (zi_callV 1 1 s_X8_skip (zi_pop (zi_iload 2 (zi_push (.int 103) (zi_if2 (fun x y => x = y) (xX11_readAct_43 s_X8_next s_X8_skip s_X8_takeLetter s_X8_takeNumber Q) (xX11_readAct_55 s_X8_next s_X8_skip s_X8_takeLetter s_X8_takeNumber Q))))))))) ls st h
theorem kX11_readAct_28 {X : zq_X} {d : Nat} (C : zq_C X cX11_readAct 6 RX11 d) {d_X8_next : Nat} {s_X8_next : zq_Sp} (h_X8_next : zq_M yX8_next cX8_next 1 (some .int) 1 d_X8_next s_X8_next) (g_X8_next : d_X8_next + 1 ≤ d) {d_X8_skip : Nat} {s_X8_skip : zq_Sp} (h_X8_skip : zq_M yX8_skip cX8_skip 2 (some .boolean) 1 d_X8_skip s_X8_skip) (g_X8_skip : d_X8_skip + 1 ≤ d) {d_X8_takeLetter : Nat} {s_X8_takeLetter : zq_Sp} (h_X8_takeLetter : zq_M yX8_takeLetter cX8_takeLetter 3 (some .int) 1 d_X8_takeLetter s_X8_takeLetter) (g_X8_takeLetter : d_X8_takeLetter + 1 ≤ d) {d_X8_takeNumber : Nat} {s_X8_takeNumber : zq_Sp} (h_X8_takeNumber : zq_M yX8_takeNumber cX8_takeNumber 5 (some .int) 1 d_X8_takeNumber s_X8_takeNumber) (g_X8_takeNumber : d_X8_takeNumber + 1 ≤ d) {Q : zq_Q} (hq : zq_R X (some .boolean) 1 Q) : zq_ok X 6 28 (xX11_readAct_28 s_X8_next s_X8_skip s_X8_takeLetter s_X8_takeNumber Q) := by
  refine zs_aload_n C dX11_readAct_28 rfl ?_
  refine zs_getR C zp_0 zF11 (j := 0) ⟨by decide, rfl⟩ zw_315 dX11_readAct_29 ?_
  refine zs_iload_n C dX11_readAct_32 rfl ?_
  refine zs_callV C h_X8_skip g_X8_skip zy_X8_skip zp_1 (show vwCl[8]? = some (RX8, TX8, 4) from rfl) zw_643 zw_412 zs9_X8_skip dX11_readAct_33 ?_
  refine zs_pop C dX11_readAct_36 ?_
  refine zs_iload_n C dX11_readAct_37 rfl ?_
  refine zs_bipush C dX11_readAct_38 (by decide) ?_
  exact zs_icmp_ne C dX11_readAct_40 (by decide) (kX11_readAct_55 C h_X8_next g_X8_next h_X8_skip g_X8_skip h_X8_takeLetter g_X8_takeLetter h_X8_takeNumber g_X8_takeNumber hq) (kX11_readAct_43 C h_X8_next g_X8_next h_X8_skip g_X8_skip h_X8_takeLetter g_X8_takeLetter h_X8_takeNumber g_X8_takeNumber hq)
def xX11_readAct_26 (s_X8_next : zq_Sp) (s_X8_skip : zq_Sp) (s_X8_takeLetter : zq_Sp) (s_X8_takeNumber : zq_Sp) (Q : zq_Q) (ls : zq_L) (st : List Value) (h : zq_H) : Prop := (zi_push (.int 0) (zi_zret Q)) ls st h
theorem kX11_readAct_26 {X : zq_X} {d : Nat} (C : zq_C X cX11_readAct 6 RX11 d) {d_X8_next : Nat} {s_X8_next : zq_Sp} (h_X8_next : zq_M yX8_next cX8_next 1 (some .int) 1 d_X8_next s_X8_next) (g_X8_next : d_X8_next + 1 ≤ d) {d_X8_skip : Nat} {s_X8_skip : zq_Sp} (h_X8_skip : zq_M yX8_skip cX8_skip 2 (some .boolean) 1 d_X8_skip s_X8_skip) (g_X8_skip : d_X8_skip + 1 ≤ d) {d_X8_takeLetter : Nat} {s_X8_takeLetter : zq_Sp} (h_X8_takeLetter : zq_M yX8_takeLetter cX8_takeLetter 3 (some .int) 1 d_X8_takeLetter s_X8_takeLetter) (g_X8_takeLetter : d_X8_takeLetter + 1 ≤ d) {d_X8_takeNumber : Nat} {s_X8_takeNumber : zq_Sp} (h_X8_takeNumber : zq_M yX8_takeNumber cX8_takeNumber 5 (some .int) 1 d_X8_takeNumber s_X8_takeNumber) (g_X8_takeNumber : d_X8_takeNumber + 1 ≤ d) {Q : zq_Q} (hq : zq_R X (some .boolean) 1 Q) : zq_ok X 6 26 (xX11_readAct_26 s_X8_next s_X8_skip s_X8_takeLetter s_X8_takeNumber Q) := by
  refine zs_iconst C dX11_readAct_26 (by decide) ?_
  exact zs_zret C hq dX11_readAct_27
def xX11_readAct_20 (s_X8_next : zq_Sp) (s_X8_skip : zq_Sp) (s_X8_takeLetter : zq_Sp) (s_X8_takeNumber : zq_Sp) (Q : zq_Q) (ls : zq_L) (st : List Value) (h : zq_H) : Prop := (zi_iload 2 (zi_push (.int 109) (zi_if2 (fun x y => x = y) (xX11_readAct_28 s_X8_next s_X8_skip s_X8_takeLetter s_X8_takeNumber Q) (xX11_readAct_26 s_X8_next s_X8_skip s_X8_takeLetter s_X8_takeNumber Q)))) ls st h
theorem kX11_readAct_20 {X : zq_X} {d : Nat} (C : zq_C X cX11_readAct 6 RX11 d) {d_X8_next : Nat} {s_X8_next : zq_Sp} (h_X8_next : zq_M yX8_next cX8_next 1 (some .int) 1 d_X8_next s_X8_next) (g_X8_next : d_X8_next + 1 ≤ d) {d_X8_skip : Nat} {s_X8_skip : zq_Sp} (h_X8_skip : zq_M yX8_skip cX8_skip 2 (some .boolean) 1 d_X8_skip s_X8_skip) (g_X8_skip : d_X8_skip + 1 ≤ d) {d_X8_takeLetter : Nat} {s_X8_takeLetter : zq_Sp} (h_X8_takeLetter : zq_M yX8_takeLetter cX8_takeLetter 3 (some .int) 1 d_X8_takeLetter s_X8_takeLetter) (g_X8_takeLetter : d_X8_takeLetter + 1 ≤ d) {d_X8_takeNumber : Nat} {s_X8_takeNumber : zq_Sp} (h_X8_takeNumber : zq_M yX8_takeNumber cX8_takeNumber 5 (some .int) 1 d_X8_takeNumber s_X8_takeNumber) (g_X8_takeNumber : d_X8_takeNumber + 1 ≤ d) {Q : zq_Q} (hq : zq_R X (some .boolean) 1 Q) : zq_ok X 6 20 (xX11_readAct_20 s_X8_next s_X8_skip s_X8_takeLetter s_X8_takeNumber Q) := by
  refine zs_iload_n C dX11_readAct_20 rfl ?_
  refine zs_bipush C dX11_readAct_21 (by decide) ?_
  exact zs_icmp_eq C dX11_readAct_23 (by decide) (kX11_readAct_28 C h_X8_next g_X8_next h_X8_skip g_X8_skip h_X8_takeLetter g_X8_takeLetter h_X8_takeNumber g_X8_takeNumber hq) (kX11_readAct_26 C h_X8_next g_X8_next h_X8_skip g_X8_skip h_X8_takeLetter g_X8_takeLetter h_X8_takeNumber g_X8_takeNumber hq)
def xX11_readAct_14 (s_X8_next : zq_Sp) (s_X8_skip : zq_Sp) (s_X8_takeLetter : zq_Sp) (s_X8_takeNumber : zq_Sp) (Q : zq_Q) (ls : zq_L) (st : List Value) (h : zq_H) : Prop := (zi_iload 2 (zi_push (.int 98) (zi_if2 (fun x y => x = y) (xX11_readAct_28 s_X8_next s_X8_skip s_X8_takeLetter s_X8_takeNumber Q) (xX11_readAct_20 s_X8_next s_X8_skip s_X8_takeLetter s_X8_takeNumber Q)))) ls st h
theorem kX11_readAct_14 {X : zq_X} {d : Nat} (C : zq_C X cX11_readAct 6 RX11 d) {d_X8_next : Nat} {s_X8_next : zq_Sp} (h_X8_next : zq_M yX8_next cX8_next 1 (some .int) 1 d_X8_next s_X8_next) (g_X8_next : d_X8_next + 1 ≤ d) {d_X8_skip : Nat} {s_X8_skip : zq_Sp} (h_X8_skip : zq_M yX8_skip cX8_skip 2 (some .boolean) 1 d_X8_skip s_X8_skip) (g_X8_skip : d_X8_skip + 1 ≤ d) {d_X8_takeLetter : Nat} {s_X8_takeLetter : zq_Sp} (h_X8_takeLetter : zq_M yX8_takeLetter cX8_takeLetter 3 (some .int) 1 d_X8_takeLetter s_X8_takeLetter) (g_X8_takeLetter : d_X8_takeLetter + 1 ≤ d) {d_X8_takeNumber : Nat} {s_X8_takeNumber : zq_Sp} (h_X8_takeNumber : zq_M yX8_takeNumber cX8_takeNumber 5 (some .int) 1 d_X8_takeNumber s_X8_takeNumber) (g_X8_takeNumber : d_X8_takeNumber + 1 ≤ d) {Q : zq_Q} (hq : zq_R X (some .boolean) 1 Q) : zq_ok X 6 14 (xX11_readAct_14 s_X8_next s_X8_skip s_X8_takeLetter s_X8_takeNumber Q) := by
  refine zs_iload_n C dX11_readAct_14 rfl ?_
  refine zs_bipush C dX11_readAct_15 (by decide) ?_
  exact zs_icmp_eq C dX11_readAct_17 (by decide) (kX11_readAct_28 C h_X8_next g_X8_next h_X8_skip g_X8_skip h_X8_takeLetter g_X8_takeLetter h_X8_takeNumber g_X8_takeNumber hq) (kX11_readAct_20 C h_X8_next g_X8_next h_X8_skip g_X8_skip h_X8_takeLetter g_X8_takeLetter h_X8_takeNumber g_X8_takeNumber hq)
def xX11_readAct_0 (s_X8_next : zq_Sp) (s_X8_skip : zq_Sp) (s_X8_takeLetter : zq_Sp) (s_X8_takeNumber : zq_Sp) (Q : zq_Q) (ls : zq_L) (st : List Value) (h : zq_H) : Prop := (zi_aload 0 (zi_getR 0 1 (zi_callV 0 1 s_X8_next (zi_istore 2 (zi_iload 2 (zi_push (.int 103) (zi_if2 (fun x y => x = y) (xX11_readAct_28 s_X8_next s_X8_skip s_X8_takeLetter s_X8_takeNumber Q) (xX11_readAct_14 s_X8_next s_X8_skip s_X8_takeLetter s_X8_takeNumber Q)))))))) ls st h
theorem kX11_readAct_0 {X : zq_X} {d : Nat} (C : zq_C X cX11_readAct 6 RX11 d) {d_X8_next : Nat} {s_X8_next : zq_Sp} (h_X8_next : zq_M yX8_next cX8_next 1 (some .int) 1 d_X8_next s_X8_next) (g_X8_next : d_X8_next + 1 ≤ d) {d_X8_skip : Nat} {s_X8_skip : zq_Sp} (h_X8_skip : zq_M yX8_skip cX8_skip 2 (some .boolean) 1 d_X8_skip s_X8_skip) (g_X8_skip : d_X8_skip + 1 ≤ d) {d_X8_takeLetter : Nat} {s_X8_takeLetter : zq_Sp} (h_X8_takeLetter : zq_M yX8_takeLetter cX8_takeLetter 3 (some .int) 1 d_X8_takeLetter s_X8_takeLetter) (g_X8_takeLetter : d_X8_takeLetter + 1 ≤ d) {d_X8_takeNumber : Nat} {s_X8_takeNumber : zq_Sp} (h_X8_takeNumber : zq_M yX8_takeNumber cX8_takeNumber 5 (some .int) 1 d_X8_takeNumber s_X8_takeNumber) (g_X8_takeNumber : d_X8_takeNumber + 1 ≤ d) {Q : zq_Q} (hq : zq_R X (some .boolean) 1 Q) : zq_ok X 6 0 (xX11_readAct_0 s_X8_next s_X8_skip s_X8_takeLetter s_X8_takeNumber Q) := by
  refine zs_aload_n C dX11_readAct_0 rfl ?_
  refine zs_getR C zp_0 zF11 (j := 0) ⟨by decide, rfl⟩ zw_315 dX11_readAct_1 ?_
  refine zs_callV C h_X8_next g_X8_next zy_X8_next zp_1 (show vwCl[8]? = some (RX8, TX8, 4) from rfl) zw_642 zw_404 zs9_X8_next dX11_readAct_4 ?_
  refine zs_istore_n C dX11_readAct_7 rfl (by decide) ?_
  refine zs_iload_n C dX11_readAct_8 rfl ?_
  refine zs_bipush C dX11_readAct_9 (by decide) ?_
  exact zs_icmp_eq C dX11_readAct_11 (by decide) (kX11_readAct_28 C h_X8_next g_X8_next h_X8_skip g_X8_skip h_X8_takeLetter g_X8_takeLetter h_X8_takeNumber g_X8_takeNumber hq) (kX11_readAct_14 C h_X8_next g_X8_next h_X8_skip g_X8_skip h_X8_takeLetter g_X8_takeLetter h_X8_takeNumber g_X8_takeNumber hq)
theorem mX11_readAct {d : Nat} {spec : zq_Sp} {d_X8_next : Nat} {s_X8_next : zq_Sp} (h_X8_next : zq_M yX8_next cX8_next 1 (some .int) 1 d_X8_next s_X8_next) (g_X8_next : d_X8_next + 1 ≤ d) {d_X8_skip : Nat} {s_X8_skip : zq_Sp} (h_X8_skip : zq_M yX8_skip cX8_skip 2 (some .boolean) 1 d_X8_skip s_X8_skip) (g_X8_skip : d_X8_skip + 1 ≤ d) {d_X8_takeLetter : Nat} {s_X8_takeLetter : zq_Sp} (h_X8_takeLetter : zq_M yX8_takeLetter cX8_takeLetter 3 (some .int) 1 d_X8_takeLetter s_X8_takeLetter) (g_X8_takeLetter : d_X8_takeLetter + 1 ≤ d) {d_X8_takeNumber : Nat} {s_X8_takeNumber : zq_Sp} (h_X8_takeNumber : zq_M yX8_takeNumber cX8_takeNumber 5 (some .int) 1 d_X8_takeNumber s_X8_takeNumber) (g_X8_takeNumber : d_X8_takeNumber + 1 ≤ d) (v : ∀ args h Q, spec args h Q → (zq_a args).length ≤ 6 ∧ xX11_readAct_0 s_X8_next s_X8_skip s_X8_takeLetter s_X8_takeNumber Q (zq_l0 6 args) [] h) : zq_M yX11_readAct cX11_readAct 6 (some .boolean) 1 d spec := by
  refine zq_met (by decide +kernel) (by decide) (fun X Q args h C hq hs => ⟨(v args h Q hs).1, _, ?_, (v args h Q hs).2⟩)
  exact kX11_readAct_0 C h_X8_next g_X8_next h_X8_skip g_X8_skip h_X8_takeLetter g_X8_takeLetter h_X8_takeNumber g_X8_takeNumber hq
/-! ToOneCrumb.doAct(I)I -/
theorem dX11_doAct_0 : decode cX11_doAct 0 = .ok (.iload_n 1, 1) := by decide +kernel
theorem dX11_doAct_1 : decode cX11_doAct 1 = .ok (.iconst 4, 1) := by decide +kernel
theorem dX11_doAct_2 : decode cX11_doAct 2 = .ok (.imul, 1) := by decide +kernel
theorem dX11_doAct_3 : decode cX11_doAct 3 = .ok (.istore_n 2, 1) := by decide +kernel
theorem dX11_doAct_4 : decode cX11_doAct 4 = .ok (.aload_n 0, 1) := by decide +kernel
theorem dX11_doAct_5 : decode cX11_doAct 5 = .ok (.getfield 72, 3) := by decide +kernel
theorem dX11_doAct_8 : decode cX11_doAct 8 = .ok (.iload_n 2, 1) := by decide +kernel
theorem dX11_doAct_9 : decode cX11_doAct 9 = .ok (.iaload, 1) := by decide +kernel
theorem dX11_doAct_10 : decode cX11_doAct 10 = .ok (.lookupswitch 76 #[(98, 55), (103, 26)], 26) := by decide +kernel
theorem dX11_doAct_36 : decode cX11_doAct 36 = .ok (.aload_n 0, 1) := by decide +kernel
theorem dX11_doAct_37 : decode cX11_doAct 37 = .ok (.aload_n 0, 1) := by decide +kernel
theorem dX11_doAct_38 : decode cX11_doAct 38 = .ok (.getfield 72, 3) := by decide +kernel
theorem dX11_doAct_41 : decode cX11_doAct 41 = .ok (.iload_n 2, 1) := by decide +kernel
theorem dX11_doAct_42 : decode cX11_doAct 42 = .ok (.iconst 1, 1) := by decide +kernel
theorem dX11_doAct_43 : decode cX11_doAct 43 = .ok (.iadd, 1) := by decide +kernel
theorem dX11_doAct_44 : decode cX11_doAct 44 = .ok (.iaload, 1) := by decide +kernel
theorem dX11_doAct_45 : decode cX11_doAct 45 = .ok (.aload_n 0, 1) := by decide +kernel
theorem dX11_doAct_46 : decode cX11_doAct 46 = .ok (.getfield 72, 3) := by decide +kernel
theorem dX11_doAct_49 : decode cX11_doAct 49 = .ok (.iload_n 2, 1) := by decide +kernel
theorem dX11_doAct_50 : decode cX11_doAct 50 = .ok (.iconst 2, 1) := by decide +kernel
theorem dX11_doAct_51 : decode cX11_doAct 51 = .ok (.iadd, 1) := by decide +kernel
theorem dX11_doAct_52 : decode cX11_doAct 52 = .ok (.iaload, 1) := by decide +kernel
theorem dX11_doAct_53 : decode cX11_doAct 53 = .ok (.aload_n 0, 1) := by decide +kernel
theorem dX11_doAct_54 : decode cX11_doAct 54 = .ok (.getfield 72, 3) := by decide +kernel
theorem dX11_doAct_57 : decode cX11_doAct 57 = .ok (.iload_n 2, 1) := by decide +kernel
theorem dX11_doAct_58 : decode cX11_doAct 58 = .ok (.iconst 3, 1) := by decide +kernel
theorem dX11_doAct_59 : decode cX11_doAct 59 = .ok (.iadd, 1) := by decide +kernel
theorem dX11_doAct_60 : decode cX11_doAct 60 = .ok (.iaload, 1) := by decide +kernel
theorem dX11_doAct_61 : decode cX11_doAct 61 = .ok (.invokevirtual 208, 3) := by decide +kernel
theorem dX11_doAct_64 : decode cX11_doAct 64 = .ok (.ireturn, 1) := by decide +kernel
theorem dX11_doAct_65 : decode cX11_doAct 65 = .ok (.aload_n 0, 1) := by decide +kernel
theorem dX11_doAct_66 : decode cX11_doAct 66 = .ok (.aload_n 0, 1) := by decide +kernel
theorem dX11_doAct_67 : decode cX11_doAct 67 = .ok (.getfield 72, 3) := by decide +kernel
theorem dX11_doAct_70 : decode cX11_doAct 70 = .ok (.iload_n 2, 1) := by decide +kernel
theorem dX11_doAct_71 : decode cX11_doAct 71 = .ok (.iconst 2, 1) := by decide +kernel
theorem dX11_doAct_72 : decode cX11_doAct 72 = .ok (.iadd, 1) := by decide +kernel
theorem dX11_doAct_73 : decode cX11_doAct 73 = .ok (.iaload, 1) := by decide +kernel
theorem dX11_doAct_74 : decode cX11_doAct 74 = .ok (.aload_n 0, 1) := by decide +kernel
theorem dX11_doAct_75 : decode cX11_doAct 75 = .ok (.getfield 72, 3) := by decide +kernel
theorem dX11_doAct_78 : decode cX11_doAct 78 = .ok (.iload_n 2, 1) := by decide +kernel
theorem dX11_doAct_79 : decode cX11_doAct 79 = .ok (.iconst 3, 1) := by decide +kernel
theorem dX11_doAct_80 : decode cX11_doAct 80 = .ok (.iadd, 1) := by decide +kernel
theorem dX11_doAct_81 : decode cX11_doAct 81 = .ok (.iaload, 1) := by decide +kernel
theorem dX11_doAct_82 : decode cX11_doAct 82 = .ok (.invokevirtual 216, 3) := by decide +kernel
theorem dX11_doAct_85 : decode cX11_doAct 85 = .ok (.ireturn, 1) := by decide +kernel
theorem dX11_doAct_86 : decode cX11_doAct 86 = .ok (.aload_n 0, 1) := by decide +kernel
theorem dX11_doAct_87 : decode cX11_doAct 87 = .ok (.aload_n 0, 1) := by decide +kernel
theorem dX11_doAct_88 : decode cX11_doAct 88 = .ok (.getfield 72, 3) := by decide +kernel
theorem dX11_doAct_91 : decode cX11_doAct 91 = .ok (.iload_n 2, 1) := by decide +kernel
theorem dX11_doAct_92 : decode cX11_doAct 92 = .ok (.iconst 2, 1) := by decide +kernel
theorem dX11_doAct_93 : decode cX11_doAct 93 = .ok (.iadd, 1) := by decide +kernel
theorem dX11_doAct_94 : decode cX11_doAct 94 = .ok (.iaload, 1) := by decide +kernel
theorem dX11_doAct_95 : decode cX11_doAct 95 = .ok (.invokevirtual 219, 3) := by decide +kernel
theorem dX11_doAct_98 : decode cX11_doAct 98 = .ok (.ireturn, 1) := by decide +kernel
def xX11_doAct_86 (s_X11_feedMouse : zq_Sp) (s_X11_giveSlice : zq_Sp) (s_X11_takeBack : zq_Sp) (Q : zq_Q) (ls : zq_L) (st : List Value) (h : zq_H) : Prop := (zi_aload 0 (zi_aload 0 (zi_getR 0 38 (zi_iload 2 (zi_push (.int 2) (zi_i2 (fun x y => x + y) (zi_aldI 38 80 (zi_callV 1 0 s_X11_feedMouse (zi_iret Q))))))))) ls st h
theorem kX11_doAct_86 {X : zq_X} {d : Nat} (C : zq_C X cX11_doAct 3 RX11 d) {d_X11_feedMouse : Nat} {s_X11_feedMouse : zq_Sp} (h_X11_feedMouse : zq_M yX11_feedMouse cX11_feedMouse 2 (some .int) 1 d_X11_feedMouse s_X11_feedMouse) (g_X11_feedMouse : d_X11_feedMouse + 1 ≤ d) {d_X11_giveSlice : Nat} {s_X11_giveSlice : zq_Sp} (h_X11_giveSlice : zq_M yX11_giveSlice cX11_giveSlice 5 (some .int) 1 d_X11_giveSlice s_X11_giveSlice) (g_X11_giveSlice : d_X11_giveSlice + 1 ≤ d) {d_X11_takeBack : Nat} {s_X11_takeBack : zq_Sp} (h_X11_takeBack : zq_M yX11_takeBack cX11_takeBack 6 (some .int) 1 d_X11_takeBack s_X11_takeBack) (g_X11_takeBack : d_X11_takeBack + 1 ≤ d) {Q : zq_Q} (hq : zq_R X (some .int) 1 Q) : zq_ok X 3 86 (xX11_doAct_86 s_X11_feedMouse s_X11_giveSlice s_X11_takeBack Q) := by
  refine zs_aload_n C dX11_doAct_86 rfl ?_
  refine zs_aload_n C dX11_doAct_87 rfl ?_
  refine zs_getR C zp_0 zF11 (j := 9) ⟨by decide, rfl⟩ zw_324 dX11_doAct_88 ?_
  refine zs_iload_n C dX11_doAct_91 rfl ?_
  refine zs_iconst C dX11_doAct_92 (by decide) ?_
  refine zs_iadd C dX11_doAct_93 ?_
  refine zs_iaload C zp_38 dX11_doAct_94 ?_
  refine zs_callV C h_X11_feedMouse g_X11_feedMouse zy_X11_feedMouse zp_0 (show vwCl[11]? = some (RX11, TX11, 16) from rfl) zw_624 zw_626 zs9_X11_feedMouse dX11_doAct_95 ?_
  exact zs_iret C hq dX11_doAct_98
def xX11_doAct_65 (s_X11_feedMouse : zq_Sp) (s_X11_giveSlice : zq_Sp) (s_X11_takeBack : zq_Sp) (Q : zq_Q) (ls : zq_L) (st : List Value) (h : zq_H) : Prop := (zi_aload 0 (zi_aload 0 (zi_getR 0 38 (zi_iload 2 (zi_push (.int 2) (zi_i2 (fun x y => x + y) (zi_aldI 38 80 (zi_aload 0 (zi_getR 0 38 (zi_iload 2 (zi_push (.int 3) (zi_i2 (fun x y => x + y) (zi_aldI 38 80 (zi_callV 2 0 s_X11_takeBack (zi_iret Q))))))))))))))) ls st h
theorem kX11_doAct_65 {X : zq_X} {d : Nat} (C : zq_C X cX11_doAct 3 RX11 d) {d_X11_feedMouse : Nat} {s_X11_feedMouse : zq_Sp} (h_X11_feedMouse : zq_M yX11_feedMouse cX11_feedMouse 2 (some .int) 1 d_X11_feedMouse s_X11_feedMouse) (g_X11_feedMouse : d_X11_feedMouse + 1 ≤ d) {d_X11_giveSlice : Nat} {s_X11_giveSlice : zq_Sp} (h_X11_giveSlice : zq_M yX11_giveSlice cX11_giveSlice 5 (some .int) 1 d_X11_giveSlice s_X11_giveSlice) (g_X11_giveSlice : d_X11_giveSlice + 1 ≤ d) {d_X11_takeBack : Nat} {s_X11_takeBack : zq_Sp} (h_X11_takeBack : zq_M yX11_takeBack cX11_takeBack 6 (some .int) 1 d_X11_takeBack s_X11_takeBack) (g_X11_takeBack : d_X11_takeBack + 1 ≤ d) {Q : zq_Q} (hq : zq_R X (some .int) 1 Q) : zq_ok X 3 65 (xX11_doAct_65 s_X11_feedMouse s_X11_giveSlice s_X11_takeBack Q) := by
  refine zs_aload_n C dX11_doAct_65 rfl ?_
  refine zs_aload_n C dX11_doAct_66 rfl ?_
  refine zs_getR C zp_0 zF11 (j := 9) ⟨by decide, rfl⟩ zw_324 dX11_doAct_67 ?_
  refine zs_iload_n C dX11_doAct_70 rfl ?_
  refine zs_iconst C dX11_doAct_71 (by decide) ?_
  refine zs_iadd C dX11_doAct_72 ?_
  refine zs_iaload C zp_38 dX11_doAct_73 ?_
  refine zs_aload_n C dX11_doAct_74 rfl ?_
  refine zs_getR C zp_0 zF11 (j := 9) ⟨by decide, rfl⟩ zw_324 dX11_doAct_75 ?_
  refine zs_iload_n C dX11_doAct_78 rfl ?_
  refine zs_iconst C dX11_doAct_79 (by decide) ?_
  refine zs_iadd C dX11_doAct_80 ?_
  refine zs_iaload C zp_38 dX11_doAct_81 ?_
  refine zs_callV C h_X11_takeBack g_X11_takeBack zy_X11_takeBack zp_0 (show vwCl[11]? = some (RX11, TX11, 16) from rfl) zw_616 zw_618 zs9_X11_takeBack dX11_doAct_82 ?_
  exact zs_iret C hq dX11_doAct_85
def xX11_doAct_36 (s_X11_feedMouse : zq_Sp) (s_X11_giveSlice : zq_Sp) (s_X11_takeBack : zq_Sp) (Q : zq_Q) (ls : zq_L) (st : List Value) (h : zq_H) : Prop := (zi_aload 0 (zi_aload 0 (zi_getR 0 38 (zi_iload 2 (zi_push (.int 1) (zi_i2 (fun x y => x + y) (zi_aldI 38 80 (zi_aload 0 (zi_getR 0 38 (zi_iload 2 (zi_push (.int 2) (zi_i2 (fun x y => x + y) (zi_aldI 38 80 (zi_aload 0 (zi_getR 0 38 (zi_iload 2 (zi_push (.int 3) (zi_i2 (fun x y => x + y) (zi_aldI 38 80 (zi_callV 3 0 s_X11_giveSlice (zi_iret Q))))))))))))))))))))) ls st h
theorem kX11_doAct_36 {X : zq_X} {d : Nat} (C : zq_C X cX11_doAct 3 RX11 d) {d_X11_feedMouse : Nat} {s_X11_feedMouse : zq_Sp} (h_X11_feedMouse : zq_M yX11_feedMouse cX11_feedMouse 2 (some .int) 1 d_X11_feedMouse s_X11_feedMouse) (g_X11_feedMouse : d_X11_feedMouse + 1 ≤ d) {d_X11_giveSlice : Nat} {s_X11_giveSlice : zq_Sp} (h_X11_giveSlice : zq_M yX11_giveSlice cX11_giveSlice 5 (some .int) 1 d_X11_giveSlice s_X11_giveSlice) (g_X11_giveSlice : d_X11_giveSlice + 1 ≤ d) {d_X11_takeBack : Nat} {s_X11_takeBack : zq_Sp} (h_X11_takeBack : zq_M yX11_takeBack cX11_takeBack 6 (some .int) 1 d_X11_takeBack s_X11_takeBack) (g_X11_takeBack : d_X11_takeBack + 1 ≤ d) {Q : zq_Q} (hq : zq_R X (some .int) 1 Q) : zq_ok X 3 36 (xX11_doAct_36 s_X11_feedMouse s_X11_giveSlice s_X11_takeBack Q) := by
  refine zs_aload_n C dX11_doAct_36 rfl ?_
  refine zs_aload_n C dX11_doAct_37 rfl ?_
  refine zs_getR C zp_0 zF11 (j := 9) ⟨by decide, rfl⟩ zw_324 dX11_doAct_38 ?_
  refine zs_iload_n C dX11_doAct_41 rfl ?_
  refine zs_iconst C dX11_doAct_42 (by decide) ?_
  refine zs_iadd C dX11_doAct_43 ?_
  refine zs_iaload C zp_38 dX11_doAct_44 ?_
  refine zs_aload_n C dX11_doAct_45 rfl ?_
  refine zs_getR C zp_0 zF11 (j := 9) ⟨by decide, rfl⟩ zw_324 dX11_doAct_46 ?_
  refine zs_iload_n C dX11_doAct_49 rfl ?_
  refine zs_iconst C dX11_doAct_50 (by decide) ?_
  refine zs_iadd C dX11_doAct_51 ?_
  refine zs_iaload C zp_38 dX11_doAct_52 ?_
  refine zs_aload_n C dX11_doAct_53 rfl ?_
  refine zs_getR C zp_0 zF11 (j := 9) ⟨by decide, rfl⟩ zw_324 dX11_doAct_54 ?_
  refine zs_iload_n C dX11_doAct_57 rfl ?_
  refine zs_iconst C dX11_doAct_58 (by decide) ?_
  refine zs_iadd C dX11_doAct_59 ?_
  refine zs_iaload C zp_38 dX11_doAct_60 ?_
  refine zs_callV C h_X11_giveSlice g_X11_giveSlice zy_X11_giveSlice zp_0 (show vwCl[11]? = some (RX11, TX11, 16) from rfl) zw_579 zw_581 zs9_X11_giveSlice dX11_doAct_61 ?_
  exact zs_iret C hq dX11_doAct_64
def xX11_doAct_0 (s_X11_feedMouse : zq_Sp) (s_X11_giveSlice : zq_Sp) (s_X11_takeBack : zq_Sp) (Q : zq_Q) (ls : zq_L) (st : List Value) (h : zq_H) : Prop := (zi_iload 1 (zi_push (.int 4) (zi_i2 (fun x y => x * y) (zi_istore 2 (zi_aload 0 (zi_getR 0 38 (zi_iload 2 (zi_aldI 38 80 (zi_sw [(98, (xX11_doAct_65 s_X11_feedMouse s_X11_giveSlice s_X11_takeBack Q)), (103, (xX11_doAct_36 s_X11_feedMouse s_X11_giveSlice s_X11_takeBack Q))] (xX11_doAct_86 s_X11_feedMouse s_X11_giveSlice s_X11_takeBack Q)))))))))) ls st h
theorem kX11_doAct_0 {X : zq_X} {d : Nat} (C : zq_C X cX11_doAct 3 RX11 d) {d_X11_feedMouse : Nat} {s_X11_feedMouse : zq_Sp} (h_X11_feedMouse : zq_M yX11_feedMouse cX11_feedMouse 2 (some .int) 1 d_X11_feedMouse s_X11_feedMouse) (g_X11_feedMouse : d_X11_feedMouse + 1 ≤ d) {d_X11_giveSlice : Nat} {s_X11_giveSlice : zq_Sp} (h_X11_giveSlice : zq_M yX11_giveSlice cX11_giveSlice 5 (some .int) 1 d_X11_giveSlice s_X11_giveSlice) (g_X11_giveSlice : d_X11_giveSlice + 1 ≤ d) {d_X11_takeBack : Nat} {s_X11_takeBack : zq_Sp} (h_X11_takeBack : zq_M yX11_takeBack cX11_takeBack 6 (some .int) 1 d_X11_takeBack s_X11_takeBack) (g_X11_takeBack : d_X11_takeBack + 1 ≤ d) {Q : zq_Q} (hq : zq_R X (some .int) 1 Q) : zq_ok X 3 0 (xX11_doAct_0 s_X11_feedMouse s_X11_giveSlice s_X11_takeBack Q) := by
  refine zs_iload_n C dX11_doAct_0 rfl ?_
  refine zs_iconst C dX11_doAct_1 (by decide) ?_
  refine zs_imul C dX11_doAct_2 ?_
  refine zs_istore_n C dX11_doAct_3 rfl (by decide) ?_
  refine zs_aload_n C dX11_doAct_4 rfl ?_
  refine zs_getR C zp_0 zF11 (j := 9) ⟨by decide, rfl⟩ zw_324 dX11_doAct_5 ?_
  refine zs_iload_n C dX11_doAct_8 rfl ?_
  refine zs_iaload C zp_38 dX11_doAct_9 ?_
  exact zs_lsw C dX11_doAct_10 (by decide) ⟨⟨by decide, _, by decide, kX11_doAct_65 C h_X11_feedMouse g_X11_feedMouse h_X11_giveSlice g_X11_giveSlice h_X11_takeBack g_X11_takeBack hq⟩, ⟨by decide, _, by decide, kX11_doAct_36 C h_X11_feedMouse g_X11_feedMouse h_X11_giveSlice g_X11_giveSlice h_X11_takeBack g_X11_takeBack hq⟩, trivial⟩ (by decide) (kX11_doAct_86 C h_X11_feedMouse g_X11_feedMouse h_X11_giveSlice g_X11_giveSlice h_X11_takeBack g_X11_takeBack hq)
theorem mX11_doAct {d : Nat} {spec : zq_Sp} {d_X11_feedMouse : Nat} {s_X11_feedMouse : zq_Sp} (h_X11_feedMouse : zq_M yX11_feedMouse cX11_feedMouse 2 (some .int) 1 d_X11_feedMouse s_X11_feedMouse) (g_X11_feedMouse : d_X11_feedMouse + 1 ≤ d) {d_X11_giveSlice : Nat} {s_X11_giveSlice : zq_Sp} (h_X11_giveSlice : zq_M yX11_giveSlice cX11_giveSlice 5 (some .int) 1 d_X11_giveSlice s_X11_giveSlice) (g_X11_giveSlice : d_X11_giveSlice + 1 ≤ d) {d_X11_takeBack : Nat} {s_X11_takeBack : zq_Sp} (h_X11_takeBack : zq_M yX11_takeBack cX11_takeBack 6 (some .int) 1 d_X11_takeBack s_X11_takeBack) (g_X11_takeBack : d_X11_takeBack + 1 ≤ d) (v : ∀ args h Q, spec args h Q → (zq_a args).length ≤ 3 ∧ xX11_doAct_0 s_X11_feedMouse s_X11_giveSlice s_X11_takeBack Q (zq_l0 3 args) [] h) : zq_M yX11_doAct cX11_doAct 3 (some .int) 1 d spec := by
  refine zq_met (by decide +kernel) (by decide) (fun X Q args h C hq hs => ⟨(v args h Q hs).1, _, ?_, (v args h Q hs).2⟩)
  exact kX11_doAct_0 C h_X11_feedMouse g_X11_feedMouse h_X11_giveSlice g_X11_giveSlice h_X11_takeBack g_X11_takeBack hq
/-! ToOneCrumb.jointGain(IIII)I -/
theorem dX11_jointGain_0 : decode cX11_jointGain 0 = .ok (.aload_n 0, 1) := by decide +kernel
theorem dX11_jointGain_1 : decode cX11_jointGain 1 = .ok (.getfield 33, 3) := by decide +kernel
theorem dX11_jointGain_4 : decode cX11_jointGain 4 = .ok (.iload_n 1, 1) := by decide +kernel
theorem dX11_jointGain_5 : decode cX11_jointGain 5 = .ok (.iload 4, 2) := by decide +kernel
theorem dX11_jointGain_7 : decode cX11_jointGain 7 = .ok (.invokevirtual 195, 3) := by decide +kernel
theorem dX11_jointGain_10 : decode cX11_jointGain 10 = .ok (.aload_n 0, 1) := by decide +kernel
theorem dX11_jointGain_11 : decode cX11_jointGain 11 = .ok (.getfield 33, 3) := by decide +kernel
theorem dX11_jointGain_14 : decode cX11_jointGain 14 = .ok (.iload_n 1, 1) := by decide +kernel
theorem dX11_jointGain_15 : decode cX11_jointGain 15 = .ok (.iload_n 2, 1) := by decide +kernel
theorem dX11_jointGain_16 : decode cX11_jointGain 16 = .ok (.invokevirtual 195, 3) := by decide +kernel
theorem dX11_jointGain_19 : decode cX11_jointGain 19 = .ok (.isub, 1) := by decide +kernel
theorem dX11_jointGain_20 : decode cX11_jointGain 20 = .ok (.istore 5, 2) := by decide +kernel
theorem dX11_jointGain_22 : decode cX11_jointGain 22 = .ok (.aload_n 0, 1) := by decide +kernel
theorem dX11_jointGain_23 : decode cX11_jointGain 23 = .ok (.getfield 33, 3) := by decide +kernel
theorem dX11_jointGain_26 : decode cX11_jointGain 26 = .ok (.iload_n 3, 1) := by decide +kernel
theorem dX11_jointGain_27 : decode cX11_jointGain 27 = .ok (.iload_n 2, 1) := by decide +kernel
theorem dX11_jointGain_28 : decode cX11_jointGain 28 = .ok (.invokevirtual 195, 3) := by decide +kernel
theorem dX11_jointGain_31 : decode cX11_jointGain 31 = .ok (.aload_n 0, 1) := by decide +kernel
theorem dX11_jointGain_32 : decode cX11_jointGain 32 = .ok (.getfield 33, 3) := by decide +kernel
theorem dX11_jointGain_35 : decode cX11_jointGain 35 = .ok (.iload_n 3, 1) := by decide +kernel
theorem dX11_jointGain_36 : decode cX11_jointGain 36 = .ok (.iload 4, 2) := by decide +kernel
theorem dX11_jointGain_38 : decode cX11_jointGain 38 = .ok (.invokevirtual 195, 3) := by decide +kernel
theorem dX11_jointGain_41 : decode cX11_jointGain 41 = .ok (.isub, 1) := by decide +kernel
theorem dX11_jointGain_42 : decode cX11_jointGain 42 = .ok (.istore 6, 2) := by decide +kernel
theorem dX11_jointGain_44 : decode cX11_jointGain 44 = .ok (.iload 5, 2) := by decide +kernel
theorem dX11_jointGain_46 : decode cX11_jointGain 46 = .ok (.ifCond .le 16, 3) := by decide +kernel
theorem dX11_jointGain_49 : decode cX11_jointGain 49 = .ok (.iload 6, 2) := by decide +kernel
theorem dX11_jointGain_51 : decode cX11_jointGain 51 = .ok (.ifCond .le 11, 3) := by decide +kernel
theorem dX11_jointGain_54 : decode cX11_jointGain 54 = .ok (.iload 5, 2) := by decide +kernel
theorem dX11_jointGain_56 : decode cX11_jointGain 56 = .ok (.iload 6, 2) := by decide +kernel
theorem dX11_jointGain_58 : decode cX11_jointGain 58 = .ok (.iadd, 1) := by decide +kernel
theorem dX11_jointGain_59 : decode cX11_jointGain 59 = .ok (.goto 4, 3) := by decide +kernel
theorem dX11_jointGain_62 : decode cX11_jointGain 62 = .ok (.iconst 0, 1) := by decide +kernel
theorem dX11_jointGain_63 : decode cX11_jointGain 63 = .ok (.ireturn, 1) := by decide +kernel
def xX11_jointGain_63 (s_X10_of : zq_Sp) (Q : zq_Q) (ls : zq_L) (st : List Value) (h : zq_H) : Prop := (zi_iret Q) ls st h
theorem kX11_jointGain_63 {X : zq_X} {d : Nat} (C : zq_C X cX11_jointGain 7 RX11 d) {d_X10_of : Nat} {s_X10_of : zq_Sp} (h_X10_of : zq_M yX10_of cX10_of 3 (some .int) 1 d_X10_of s_X10_of) (g_X10_of : d_X10_of + 1 ≤ d) {Q : zq_Q} (hq : zq_R X (some .int) 1 Q) : zq_ok X 7 63 (xX11_jointGain_63 s_X10_of Q) := by
  exact zs_iret C hq dX11_jointGain_63
def xX11_jointGain_62 (s_X10_of : zq_Sp) (Q : zq_Q) (ls : zq_L) (st : List Value) (h : zq_H) : Prop := (zi_push (.int 0) ((xX11_jointGain_63 s_X10_of Q))) ls st h
theorem kX11_jointGain_62 {X : zq_X} {d : Nat} (C : zq_C X cX11_jointGain 7 RX11 d) {d_X10_of : Nat} {s_X10_of : zq_Sp} (h_X10_of : zq_M yX10_of cX10_of 3 (some .int) 1 d_X10_of s_X10_of) (g_X10_of : d_X10_of + 1 ≤ d) {Q : zq_Q} (hq : zq_R X (some .int) 1 Q) : zq_ok X 7 62 (xX11_jointGain_62 s_X10_of Q) := by
  refine zs_iconst C dX11_jointGain_62 (by decide) ?_
  exact kX11_jointGain_63 C h_X10_of g_X10_of hq
def xX11_jointGain_54 (s_X10_of : zq_Sp) (Q : zq_Q) (ls : zq_L) (st : List Value) (h : zq_H) : Prop := (zi_iload 5 (zi_iload 6 (zi_i2 (fun x y => x + y) ((xX11_jointGain_63 s_X10_of Q))))) ls st h
theorem kX11_jointGain_54 {X : zq_X} {d : Nat} (C : zq_C X cX11_jointGain 7 RX11 d) {d_X10_of : Nat} {s_X10_of : zq_Sp} (h_X10_of : zq_M yX10_of cX10_of 3 (some .int) 1 d_X10_of s_X10_of) (g_X10_of : d_X10_of + 1 ≤ d) {Q : zq_Q} (hq : zq_R X (some .int) 1 Q) : zq_ok X 7 54 (xX11_jointGain_54 s_X10_of Q) := by
  refine zs_iload C dX11_jointGain_54 ?_
  refine zs_iload C dX11_jointGain_56 ?_
  refine zs_iadd C dX11_jointGain_58 ?_
  exact zs_goto C dX11_jointGain_59 (by decide) (kX11_jointGain_63 C h_X10_of g_X10_of hq)
def xX11_jointGain_49 (s_X10_of : zq_Sp) (Q : zq_Q) (ls : zq_L) (st : List Value) (h : zq_H) : Prop := (zi_iload 6 (zi_if1 (fun x => x ≤ 0) (xX11_jointGain_62 s_X10_of Q) (xX11_jointGain_54 s_X10_of Q))) ls st h
theorem kX11_jointGain_49 {X : zq_X} {d : Nat} (C : zq_C X cX11_jointGain 7 RX11 d) {d_X10_of : Nat} {s_X10_of : zq_Sp} (h_X10_of : zq_M yX10_of cX10_of 3 (some .int) 1 d_X10_of s_X10_of) (g_X10_of : d_X10_of + 1 ≤ d) {Q : zq_Q} (hq : zq_R X (some .int) 1 Q) : zq_ok X 7 49 (xX11_jointGain_49 s_X10_of Q) := by
  refine zs_iload C dX11_jointGain_49 ?_
  exact zs_if_le C dX11_jointGain_51 (by decide) (kX11_jointGain_62 C h_X10_of g_X10_of hq) (kX11_jointGain_54 C h_X10_of g_X10_of hq)
def xX11_jointGain_0 (s_X10_of : zq_Sp) (Q : zq_Q) (ls : zq_L) (st : List Value) (h : zq_H) : Prop := (zi_aload 0 (zi_getR 0 9 (zi_iload 1 (zi_iload 4 (zi_callV 2 9 s_X10_of (zi_aload 0 (zi_getR 0 9 (zi_iload 1 (zi_iload 2 (zi_callV 2 9 s_X10_of (zi_i2 (fun x y => x - y) (zi_istore 5 (zi_aload 0 (zi_getR 0 9 (zi_iload 3 (zi_iload 2 (zi_callV 2 9 s_X10_of (zi_aload 0 (zi_getR 0 9 (zi_iload 3 (zi_iload 4 (zi_callV 2 9 s_X10_of (zi_i2 (fun x y => x - y) (zi_istore 6 (zi_iload 5 (zi_if1 (fun x => x ≤ 0) (xX11_jointGain_62 s_X10_of Q) (xX11_jointGain_49 s_X10_of Q))))))))))))))))))))))))))) ls st h
theorem kX11_jointGain_0 {X : zq_X} {d : Nat} (C : zq_C X cX11_jointGain 7 RX11 d) {d_X10_of : Nat} {s_X10_of : zq_Sp} (h_X10_of : zq_M yX10_of cX10_of 3 (some .int) 1 d_X10_of s_X10_of) (g_X10_of : d_X10_of + 1 ≤ d) {Q : zq_Q} (hq : zq_R X (some .int) 1 Q) : zq_ok X 7 0 (xX11_jointGain_0 s_X10_of Q) := by
  refine zs_aload_n C dX11_jointGain_0 rfl ?_
  refine zs_getR C zp_0 zF11 (j := 3) ⟨by decide, rfl⟩ zw_318 dX11_jointGain_1 ?_
  refine zs_iload_n C dX11_jointGain_4 rfl ?_
  refine zs_iload C dX11_jointGain_5 ?_
  refine zs_callV C h_X10_of g_X10_of zy_X10_of zp_9 (show vwCl[10]? = some (RX10, TX10, 3) from rfl) zw_554 zw_555 zs9_X10_of dX11_jointGain_7 ?_
  refine zs_aload_n C dX11_jointGain_10 rfl ?_
  refine zs_getR C zp_0 zF11 (j := 3) ⟨by decide, rfl⟩ zw_318 dX11_jointGain_11 ?_
  refine zs_iload_n C dX11_jointGain_14 rfl ?_
  refine zs_iload_n C dX11_jointGain_15 rfl ?_
  refine zs_callV C h_X10_of g_X10_of zy_X10_of zp_9 (show vwCl[10]? = some (RX10, TX10, 3) from rfl) zw_554 zw_555 zs9_X10_of dX11_jointGain_16 ?_
  refine zs_isub C dX11_jointGain_19 ?_
  refine zs_istore C dX11_jointGain_20 (by decide) ?_
  refine zs_aload_n C dX11_jointGain_22 rfl ?_
  refine zs_getR C zp_0 zF11 (j := 3) ⟨by decide, rfl⟩ zw_318 dX11_jointGain_23 ?_
  refine zs_iload_n C dX11_jointGain_26 rfl ?_
  refine zs_iload_n C dX11_jointGain_27 rfl ?_
  refine zs_callV C h_X10_of g_X10_of zy_X10_of zp_9 (show vwCl[10]? = some (RX10, TX10, 3) from rfl) zw_554 zw_555 zs9_X10_of dX11_jointGain_28 ?_
  refine zs_aload_n C dX11_jointGain_31 rfl ?_
  refine zs_getR C zp_0 zF11 (j := 3) ⟨by decide, rfl⟩ zw_318 dX11_jointGain_32 ?_
  refine zs_iload_n C dX11_jointGain_35 rfl ?_
  refine zs_iload C dX11_jointGain_36 ?_
  refine zs_callV C h_X10_of g_X10_of zy_X10_of zp_9 (show vwCl[10]? = some (RX10, TX10, 3) from rfl) zw_554 zw_555 zs9_X10_of dX11_jointGain_38 ?_
  refine zs_isub C dX11_jointGain_41 ?_
  refine zs_istore C dX11_jointGain_42 (by decide) ?_
  refine zs_iload C dX11_jointGain_44 ?_
  exact zs_if_le C dX11_jointGain_46 (by decide) (kX11_jointGain_62 C h_X10_of g_X10_of hq) (kX11_jointGain_49 C h_X10_of g_X10_of hq)
theorem mX11_jointGain {d : Nat} {spec : zq_Sp} {d_X10_of : Nat} {s_X10_of : zq_Sp} (h_X10_of : zq_M yX10_of cX10_of 3 (some .int) 1 d_X10_of s_X10_of) (g_X10_of : d_X10_of + 1 ≤ d) (v : ∀ args h Q, spec args h Q → (zq_a args).length ≤ 7 ∧ xX11_jointGain_0 s_X10_of Q (zq_l0 7 args) [] h) : zq_M yX11_jointGain cX11_jointGain 7 (some .int) 1 d spec := by
  refine zq_met (by decide +kernel) (by decide) (fun X Q args h C hq hs => ⟨(v args h Q hs).1, _, ?_, (v args h Q hs).2⟩)
  exact kX11_jointGain_0 C h_X10_of g_X10_of hq
/-! ToOneCrumb.placeGuests(I)V -/
theorem dX11_placeGuests_0 : decode cX11_placeGuests 0 = .ok (.aload_n 0, 1) := by decide +kernel
theorem dX11_placeGuests_1 : decode cX11_placeGuests 1 = .ok (.getfield 54, 3) := by decide +kernel
theorem dX11_placeGuests_4 : decode cX11_placeGuests 4 = .ok (.aload_n 0, 1) := by decide +kernel
theorem dX11_placeGuests_5 : decode cX11_placeGuests 5 = .ok (.getfield 82, 3) := by decide +kernel
theorem dX11_placeGuests_8 : decode cX11_placeGuests 8 = .ok (.getfield 128, 3) := by decide +kernel
theorem dX11_placeGuests_11 : decode cX11_placeGuests 11 = .ok (.invokevirtual 325, 3) := by decide +kernel
theorem dX11_placeGuests_14 : decode cX11_placeGuests 14 = .ok (.aload_n 0, 1) := by decide +kernel
theorem dX11_placeGuests_15 : decode cX11_placeGuests 15 = .ok (.getfield 26, 3) := by decide +kernel
theorem dX11_placeGuests_18 : decode cX11_placeGuests 18 = .ok (.invokevirtual 145, 3) := by decide +kernel
theorem dX11_placeGuests_21 : decode cX11_placeGuests 21 = .ok (.i2l, 1) := by decide +kernel
theorem dX11_placeGuests_22 : decode cX11_placeGuests 22 = .ok (.lstore_n 2, 1) := by decide +kernel
theorem dX11_placeGuests_23 : decode cX11_placeGuests 23 = .ok (.iconst 0, 1) := by decide +kernel
theorem dX11_placeGuests_24 : decode cX11_placeGuests 24 = .ok (.istore 4, 2) := by decide +kernel
theorem dX11_placeGuests_26 : decode cX11_placeGuests 26 = .ok (.iload 4, 2) := by decide +kernel
theorem dX11_placeGuests_28 : decode cX11_placeGuests 28 = .ok (.aload_n 0, 1) := by decide +kernel
theorem dX11_placeGuests_29 : decode cX11_placeGuests 29 = .ok (.getfield 26, 3) := by decide +kernel
theorem dX11_placeGuests_32 : decode cX11_placeGuests 32 = .ok (.getfield 243, 3) := by decide +kernel
theorem dX11_placeGuests_35 : decode cX11_placeGuests 35 = .ok (.if_icmp .ge 52, 3) := by decide +kernel
theorem dX11_placeGuests_38 : decode cX11_placeGuests 38 = .ok (.aload_n 0, 1) := by decide +kernel
theorem dX11_placeGuests_39 : decode cX11_placeGuests 39 = .ok (.getfield 26, 3) := by decide +kernel
theorem dX11_placeGuests_42 : decode cX11_placeGuests 42 = .ok (.getfield 176, 3) := by decide +kernel
theorem dX11_placeGuests_45 : decode cX11_placeGuests 45 = .ok (.iload 4, 2) := by decide +kernel
theorem dX11_placeGuests_47 : decode cX11_placeGuests 47 = .ok (.iaload, 1) := by decide +kernel
theorem dX11_placeGuests_48 : decode cX11_placeGuests 48 = .ok (.i2l, 1) := by decide +kernel
theorem dX11_placeGuests_49 : decode cX11_placeGuests 49 = .ok (.aload_n 0, 1) := by decide +kernel
theorem dX11_placeGuests_50 : decode cX11_placeGuests 50 = .ok (.getfield 33, 3) := by decide +kernel
theorem dX11_placeGuests_53 : decode cX11_placeGuests 53 = .ok (.iload 4, 2) := by decide +kernel
theorem dX11_placeGuests_55 : decode cX11_placeGuests 55 = .ok (.invokevirtual 186, 3) := by decide +kernel
theorem dX11_placeGuests_58 : decode cX11_placeGuests 58 = .ok (.i2l, 1) := by decide +kernel
theorem dX11_placeGuests_59 : decode cX11_placeGuests 59 = .ok (.lmul, 1) := by decide +kernel
theorem dX11_placeGuests_60 : decode cX11_placeGuests 60 = .ok (.iload_n 1, 1) := by decide +kernel
theorem dX11_placeGuests_61 : decode cX11_placeGuests 61 = .ok (.i2l, 1) := by decide +kernel
theorem dX11_placeGuests_62 : decode cX11_placeGuests 62 = .ok (.lmul, 1) := by decide +kernel
theorem dX11_placeGuests_63 : decode cX11_placeGuests 63 = .ok (.lstore 5, 2) := by decide +kernel
theorem dX11_placeGuests_65 : decode cX11_placeGuests 65 = .ok (.aload_n 0, 1) := by decide +kernel
theorem dX11_placeGuests_66 : decode cX11_placeGuests 66 = .ok (.getfield 54, 3) := by decide +kernel
theorem dX11_placeGuests_69 : decode cX11_placeGuests 69 = .ok (.iload 4, 2) := by decide +kernel
theorem dX11_placeGuests_71 : decode cX11_placeGuests 71 = .ok (.lload_n 2, 1) := by decide +kernel
theorem dX11_placeGuests_72 : decode cX11_placeGuests 72 = .ok (.ldc2_w 361, 3) := by decide +kernel
theorem dX11_placeGuests_75 : decode cX11_placeGuests 75 = .ok (.lmul, 1) := by decide +kernel
theorem dX11_placeGuests_76 : decode cX11_placeGuests 76 = .ok (.lload 5, 2) := by decide +kernel
theorem dX11_placeGuests_78 : decode cX11_placeGuests 78 = .ok (.invokevirtual 415, 3) := by decide +kernel
theorem dX11_placeGuests_81 : decode cX11_placeGuests 81 = .ok (.iinc 4 1, 3) := by decide +kernel
theorem dX11_placeGuests_84 : decode cX11_placeGuests 84 = .ok (.goto (-58), 3) := by decide +kernel
theorem dX11_placeGuests_87 : decode cX11_placeGuests 87 = .ok (.aload_n 0, 1) := by decide +kernel
theorem dX11_placeGuests_88 : decode cX11_placeGuests 88 = .ok (.getfield 54, 3) := by decide +kernel
theorem dX11_placeGuests_91 : decode cX11_placeGuests 91 = .ok (.aload_n 0, 1) := by decide +kernel
theorem dX11_placeGuests_92 : decode cX11_placeGuests 92 = .ok (.getfield 33, 3) := by decide +kernel
theorem dX11_placeGuests_95 : decode cX11_placeGuests 95 = .ok (.invokevirtual 331, 3) := by decide +kernel
theorem dX11_placeGuests_98 : decode cX11_placeGuests 98 = .ok (.return_, 1) := by decide +kernel
def xX11_placeGuests_87 (s_X4_start : zq_Sp) (s_X3_allDeserts : zq_Sp) (s_X10_whole : zq_Sp) (s_X4_addMember : zq_Sp) (s_X4_spread : zq_Sp) (J26 : zq_P) (Q : zq_Q) (ls : zq_L) (st : List Value) (h : zq_H) : Prop := (zi_aload 0 (zi_getR 0 22 (zi_aload 0 (zi_getR 0 9 (zi_callV 1 22 s_X4_spread (zi_vret Q)))))) ls st h
theorem kX11_placeGuests_87 {X : zq_X} {d : Nat} (C : zq_C X cX11_placeGuests 7 RX11 d) {d_X4_start : Nat} {s_X4_start : zq_Sp} (h_X4_start : zq_M yX4_start cX4_start 2 none 0 d_X4_start s_X4_start) (g_X4_start : d_X4_start + 1 ≤ d) {d_X3_allDeserts : Nat} {s_X3_allDeserts : zq_Sp} (h_X3_allDeserts : zq_M yX3_allDeserts cX3_allDeserts 1 (some .int) 1 d_X3_allDeserts s_X3_allDeserts) (g_X3_allDeserts : d_X3_allDeserts + 1 ≤ d) {d_X10_whole : Nat} {s_X10_whole : zq_Sp} (h_X10_whole : zq_M yX10_whole cX10_whole 2 (some .int) 1 d_X10_whole s_X10_whole) (g_X10_whole : d_X10_whole + 1 ≤ d) {d_X4_addMember : Nat} {s_X4_addMember : zq_Sp} (h_X4_addMember : zq_M yX4_addMember cX4_addMember 6 none 0 d_X4_addMember s_X4_addMember) (g_X4_addMember : d_X4_addMember + 1 ≤ d) {d_X4_spread : Nat} {s_X4_spread : zq_Sp} (h_X4_spread : zq_M yX4_spread cX4_spread 5 none 0 d_X4_spread s_X4_spread) (g_X4_spread : d_X4_spread + 1 ≤ d) {J26 : zq_P} (j26 : zq_ok X 7 26 J26) {Q : zq_Q} (hq : zq_R X none 0 Q) : zq_ok X 7 87 (xX11_placeGuests_87 s_X4_start s_X3_allDeserts s_X10_whole s_X4_addMember s_X4_spread J26 Q) := by
  refine zs_aload_n C dX11_placeGuests_87 rfl ?_
  refine zs_getR C zp_0 zF11 (j := 6) ⟨by decide, rfl⟩ zw_321 dX11_placeGuests_88 ?_
  refine zs_aload_n C dX11_placeGuests_91 rfl ?_
  refine zs_getR C zp_0 zF11 (j := 3) ⟨by decide, rfl⟩ zw_318 dX11_placeGuests_92 ?_
  refine zs_callV C h_X4_spread g_X4_spread zy_X4_spread zp_22 (show vwCl[4]? = some (RX4, TX4, 8) from rfl) zw_747 zw_748 zs9_X4_spread dX11_placeGuests_95 ?_
  exact zs_vret C hq dX11_placeGuests_98
def xX11_placeGuests_38 (s_X4_start : zq_Sp) (s_X3_allDeserts : zq_Sp) (s_X10_whole : zq_Sp) (s_X4_addMember : zq_Sp) (s_X4_spread : zq_Sp) (J26 : zq_P) (Q : zq_Q) (ls : zq_L) (st : List Value) (h : zq_H) : Prop := (zi_aload 0 (zi_getR 0 5 (zi_getR 5 7 (zi_iload 4 (zi_aldI 7 6 (zi_i2l (zi_aload 0 (zi_getR 0 9 (zi_iload 4 (zi_callV 1 9 s_X10_whole (zi_i2l (zi_l2 (fun x y => x * y) (zi_iload 1 (zi_i2l (zi_l2 (fun x y => x * y) (zi_lstore 5 (zi_aload 0 (zi_getR 0 22 (zi_iload 4 (zi_lload 2 (zi_push (.long 100) (zi_l2 (fun x y => x * y) (zi_lload 5 (zi_callV 3 22 s_X4_addMember (zi_iinc 4 1 (J26)))))))))))))))))))))))))) ls st h
theorem kX11_placeGuests_38 {X : zq_X} {d : Nat} (C : zq_C X cX11_placeGuests 7 RX11 d) {d_X4_start : Nat} {s_X4_start : zq_Sp} (h_X4_start : zq_M yX4_start cX4_start 2 none 0 d_X4_start s_X4_start) (g_X4_start : d_X4_start + 1 ≤ d) {d_X3_allDeserts : Nat} {s_X3_allDeserts : zq_Sp} (h_X3_allDeserts : zq_M yX3_allDeserts cX3_allDeserts 1 (some .int) 1 d_X3_allDeserts s_X3_allDeserts) (g_X3_allDeserts : d_X3_allDeserts + 1 ≤ d) {d_X10_whole : Nat} {s_X10_whole : zq_Sp} (h_X10_whole : zq_M yX10_whole cX10_whole 2 (some .int) 1 d_X10_whole s_X10_whole) (g_X10_whole : d_X10_whole + 1 ≤ d) {d_X4_addMember : Nat} {s_X4_addMember : zq_Sp} (h_X4_addMember : zq_M yX4_addMember cX4_addMember 6 none 0 d_X4_addMember s_X4_addMember) (g_X4_addMember : d_X4_addMember + 1 ≤ d) {d_X4_spread : Nat} {s_X4_spread : zq_Sp} (h_X4_spread : zq_M yX4_spread cX4_spread 5 none 0 d_X4_spread s_X4_spread) (g_X4_spread : d_X4_spread + 1 ≤ d) {J26 : zq_P} (j26 : zq_ok X 7 26 J26) {Q : zq_Q} (hq : zq_R X none 0 Q) : zq_ok X 7 38 (xX11_placeGuests_38 s_X4_start s_X3_allDeserts s_X10_whole s_X4_addMember s_X4_spread J26 Q) := by
  refine zs_aload_n C dX11_placeGuests_38 rfl ?_
  refine zs_getR C zp_0 zF11 (j := 2) ⟨by decide, rfl⟩ zw_317 dX11_placeGuests_39 ?_
  refine zs_getRN C zp_5 zF3 (j := 1) ⟨by decide, rfl⟩ zw_81 dX11_placeGuests_42 ?_
  refine zs_iload C dX11_placeGuests_45 ?_
  refine zs_iaload C zp_7 dX11_placeGuests_47 ?_
  refine zs_i2l C dX11_placeGuests_48 ?_
  refine zs_aload_n C dX11_placeGuests_49 rfl ?_
  refine zs_getR C zp_0 zF11 (j := 3) ⟨by decide, rfl⟩ zw_318 dX11_placeGuests_50 ?_
  refine zs_iload C dX11_placeGuests_53 ?_
  refine zs_callV C h_X10_whole g_X10_whole zy_X10_whole zp_9 (show vwCl[10]? = some (RX10, TX10, 3) from rfl) zw_690 zw_691 zs9_X10_whole dX11_placeGuests_55 ?_
  refine zs_i2l C dX11_placeGuests_58 ?_
  refine zs_lmul C dX11_placeGuests_59 ?_
  refine zs_iload_n C dX11_placeGuests_60 rfl ?_
  refine zs_i2l C dX11_placeGuests_61 ?_
  refine zs_lmul C dX11_placeGuests_62 ?_
  refine zs_lstore C dX11_placeGuests_63 (by decide) ?_
  refine zs_aload_n C dX11_placeGuests_65 rfl ?_
  refine zs_getR C zp_0 zF11 (j := 6) ⟨by decide, rfl⟩ zw_321 dX11_placeGuests_66 ?_
  refine zs_iload C dX11_placeGuests_69 ?_
  refine zs_lload_n C dX11_placeGuests_71 rfl ?_
  refine zs_ldc2 C dX11_placeGuests_72 zw_742 ?_
  refine zs_lmul C dX11_placeGuests_75 ?_
  refine zs_lload C dX11_placeGuests_76 ?_
  refine zs_callV C h_X4_addMember g_X4_addMember zy_X4_addMember zp_22 (show vwCl[4]? = some (RX4, TX4, 8) from rfl) zw_743 zw_744 zs9_X4_addMember dX11_placeGuests_78 ?_
  refine zs_iinc C dX11_placeGuests_81 (by decide) (by decide) ?_
  exact zs_goto C dX11_placeGuests_84 (by decide) (j26)
def xX11_placeGuests_26 (s_X4_start : zq_Sp) (s_X3_allDeserts : zq_Sp) (s_X10_whole : zq_Sp) (s_X4_addMember : zq_Sp) (s_X4_spread : zq_Sp) (J26 : zq_P) (Q : zq_Q) (ls : zq_L) (st : List Value) (h : zq_H) : Prop := (zi_iload 4 (zi_aload 0 (zi_getR 0 5 (zi_getI 5 3 (zi_if2 (fun x y => y ≤ x) (xX11_placeGuests_87 s_X4_start s_X3_allDeserts s_X10_whole s_X4_addMember s_X4_spread J26 Q) (xX11_placeGuests_38 s_X4_start s_X3_allDeserts s_X10_whole s_X4_addMember s_X4_spread J26 Q)))))) ls st h
theorem kX11_placeGuests_26 {X : zq_X} {d : Nat} (C : zq_C X cX11_placeGuests 7 RX11 d) {d_X4_start : Nat} {s_X4_start : zq_Sp} (h_X4_start : zq_M yX4_start cX4_start 2 none 0 d_X4_start s_X4_start) (g_X4_start : d_X4_start + 1 ≤ d) {d_X3_allDeserts : Nat} {s_X3_allDeserts : zq_Sp} (h_X3_allDeserts : zq_M yX3_allDeserts cX3_allDeserts 1 (some .int) 1 d_X3_allDeserts s_X3_allDeserts) (g_X3_allDeserts : d_X3_allDeserts + 1 ≤ d) {d_X10_whole : Nat} {s_X10_whole : zq_Sp} (h_X10_whole : zq_M yX10_whole cX10_whole 2 (some .int) 1 d_X10_whole s_X10_whole) (g_X10_whole : d_X10_whole + 1 ≤ d) {d_X4_addMember : Nat} {s_X4_addMember : zq_Sp} (h_X4_addMember : zq_M yX4_addMember cX4_addMember 6 none 0 d_X4_addMember s_X4_addMember) (g_X4_addMember : d_X4_addMember + 1 ≤ d) {d_X4_spread : Nat} {s_X4_spread : zq_Sp} (h_X4_spread : zq_M yX4_spread cX4_spread 5 none 0 d_X4_spread s_X4_spread) (g_X4_spread : d_X4_spread + 1 ≤ d) {J26 : zq_P} (j26 : zq_ok X 7 26 J26) {Q : zq_Q} (hq : zq_R X none 0 Q) : zq_ok X 7 26 (xX11_placeGuests_26 s_X4_start s_X3_allDeserts s_X10_whole s_X4_addMember s_X4_spread J26 Q) := by
  refine zs_iload C dX11_placeGuests_26 ?_
  refine zs_aload_n C dX11_placeGuests_28 rfl ?_
  refine zs_getR C zp_0 zF11 (j := 2) ⟨by decide, rfl⟩ zw_317 dX11_placeGuests_29 ?_
  refine zs_getIN C zp_5 zF3 (j := 3) ⟨by decide, rfl⟩ zw_85 dX11_placeGuests_32 ?_
  exact zs_icmp_ge C dX11_placeGuests_35 (by decide) (kX11_placeGuests_87 C h_X4_start g_X4_start h_X3_allDeserts g_X3_allDeserts h_X10_whole g_X10_whole h_X4_addMember g_X4_addMember h_X4_spread g_X4_spread j26 hq) (kX11_placeGuests_38 C h_X4_start g_X4_start h_X3_allDeserts g_X3_allDeserts h_X10_whole g_X10_whole h_X4_addMember g_X4_addMember h_X4_spread g_X4_spread j26 hq)
def xX11_placeGuests_0 (s_X4_start : zq_Sp) (s_X3_allDeserts : zq_Sp) (s_X10_whole : zq_Sp) (s_X4_addMember : zq_Sp) (s_X4_spread : zq_Sp) (J26 : zq_P) (Q : zq_Q) (ls : zq_L) (st : List Value) (h : zq_H) : Prop := (zi_aload 0 (zi_getR 0 22 (zi_aload 0 (zi_getR 0 40 (zi_getI 40 3 (zi_callV 1 22 s_X4_start (zi_aload 0 (zi_getR 0 5 (zi_callV 0 5 s_X3_allDeserts (zi_i2l (zi_lstore 2 (zi_push (.int 0) (zi_istore 4 (J26)))))))))))))) ls st h
theorem kX11_placeGuests_0 {X : zq_X} {d : Nat} (C : zq_C X cX11_placeGuests 7 RX11 d) {d_X4_start : Nat} {s_X4_start : zq_Sp} (h_X4_start : zq_M yX4_start cX4_start 2 none 0 d_X4_start s_X4_start) (g_X4_start : d_X4_start + 1 ≤ d) {d_X3_allDeserts : Nat} {s_X3_allDeserts : zq_Sp} (h_X3_allDeserts : zq_M yX3_allDeserts cX3_allDeserts 1 (some .int) 1 d_X3_allDeserts s_X3_allDeserts) (g_X3_allDeserts : d_X3_allDeserts + 1 ≤ d) {d_X10_whole : Nat} {s_X10_whole : zq_Sp} (h_X10_whole : zq_M yX10_whole cX10_whole 2 (some .int) 1 d_X10_whole s_X10_whole) (g_X10_whole : d_X10_whole + 1 ≤ d) {d_X4_addMember : Nat} {s_X4_addMember : zq_Sp} (h_X4_addMember : zq_M yX4_addMember cX4_addMember 6 none 0 d_X4_addMember s_X4_addMember) (g_X4_addMember : d_X4_addMember + 1 ≤ d) {d_X4_spread : Nat} {s_X4_spread : zq_Sp} (h_X4_spread : zq_M yX4_spread cX4_spread 5 none 0 d_X4_spread s_X4_spread) (g_X4_spread : d_X4_spread + 1 ≤ d) {J26 : zq_P} (j26 : zq_ok X 7 26 J26) {Q : zq_Q} (hq : zq_R X none 0 Q) : zq_ok X 7 0 (xX11_placeGuests_0 s_X4_start s_X3_allDeserts s_X10_whole s_X4_addMember s_X4_spread J26 Q) := by
  refine zs_aload_n C dX11_placeGuests_0 rfl ?_
  refine zs_getR C zp_0 zF11 (j := 6) ⟨by decide, rfl⟩ zw_321 dX11_placeGuests_1 ?_
  refine zs_aload_n C dX11_placeGuests_4 rfl ?_
  refine zs_getR C zp_0 zF11 (j := 11) ⟨by decide, rfl⟩ zw_326 dX11_placeGuests_5 ?_
  refine zs_getIN C zp_40 zF2 (j := 3) ⟨by decide, rfl⟩ zw_273 dX11_placeGuests_8 ?_
  refine zs_callV C h_X4_start g_X4_start zy_X4_start zp_22 (show vwCl[4]? = some (RX4, TX4, 8) from rfl) zw_738 zw_739 zs9_X4_start dX11_placeGuests_11 ?_
  refine zs_aload_n C dX11_placeGuests_14 rfl ?_
  refine zs_getR C zp_0 zF11 (j := 2) ⟨by decide, rfl⟩ zw_317 dX11_placeGuests_15 ?_
  refine zs_callV C h_X3_allDeserts g_X3_allDeserts zy_X3_allDeserts zp_5 (show vwCl[3]? = some (RX3, TX3, 4) from rfl) zw_494 zw_495 zs9_X3_allDeserts dX11_placeGuests_18 ?_
  refine zs_i2l C dX11_placeGuests_21 ?_
  refine zs_lstore_n C dX11_placeGuests_22 rfl (by decide) ?_
  refine zs_iconst C dX11_placeGuests_23 (by decide) ?_
  refine zs_istore C dX11_placeGuests_24 (by decide) ?_
  exact j26
theorem mX11_placeGuests {d : Nat} {spec : zq_Sp} {σ26 : Type} {d_X4_start : Nat} {s_X4_start : zq_Sp} (h_X4_start : zq_M yX4_start cX4_start 2 none 0 d_X4_start s_X4_start) (g_X4_start : d_X4_start + 1 ≤ d) {d_X3_allDeserts : Nat} {s_X3_allDeserts : zq_Sp} (h_X3_allDeserts : zq_M yX3_allDeserts cX3_allDeserts 1 (some .int) 1 d_X3_allDeserts s_X3_allDeserts) (g_X3_allDeserts : d_X3_allDeserts + 1 ≤ d) {d_X10_whole : Nat} {s_X10_whole : zq_Sp} (h_X10_whole : zq_M yX10_whole cX10_whole 2 (some .int) 1 d_X10_whole s_X10_whole) (g_X10_whole : d_X10_whole + 1 ≤ d) {d_X4_addMember : Nat} {s_X4_addMember : zq_Sp} (h_X4_addMember : zq_M yX4_addMember cX4_addMember 6 none 0 d_X4_addMember s_X4_addMember) (g_X4_addMember : d_X4_addMember + 1 ≤ d) {d_X4_spread : Nat} {s_X4_spread : zq_Sp} (h_X4_spread : zq_M yX4_spread cX4_spread 5 none 0 d_X4_spread s_X4_spread) (g_X4_spread : d_X4_spread + 1 ≤ d) (μ26 : σ26 → Nat) (I26 : zq_Q → σ26 → zq_P) (v : ∀ args h Q, spec args h Q → (zq_a args).length ≤ 7 ∧ xX11_placeGuests_0 s_X4_start s_X3_allDeserts s_X10_whole s_X4_addMember s_X4_spread (fun ls st h => ∃ b, I26 Q b ls st h) Q (zq_l0 7 args) [] h) (v26 : ∀ Q a ls st h, I26 Q a ls st h → xX11_placeGuests_26 s_X4_start s_X3_allDeserts s_X10_whole s_X4_addMember s_X4_spread (fun ls st h => ∃ b, μ26 b < μ26 a ∧ I26 Q b ls st h) Q ls st h) : zq_M yX11_placeGuests cX11_placeGuests 7 none 0 d spec := by
  refine zq_met (by decide +kernel) (by decide) (fun X Q args h C hq hs => ⟨(v args h Q hs).1, _, ?_, (v args h Q hs).2⟩)
  have hl := zq_loop1 (X := X) (nL := 7) (pc1 := 26) μ26 (I26 Q) (fun J26 => xX11_placeGuests_26 s_X4_start s_X3_allDeserts s_X10_whole s_X4_addMember s_X4_spread J26 Q) (fun j26 => kX11_placeGuests_26 C h_X4_start g_X4_start h_X3_allDeserts g_X3_allDeserts h_X10_whole g_X10_whole h_X4_addMember g_X4_addMember h_X4_spread g_X4_spread j26 hq) (v26 Q)
  exact kX11_placeGuests_0 C h_X4_start g_X4_start h_X3_allDeserts g_X3_allDeserts h_X10_whole g_X10_whole h_X4_addMember g_X4_addMember h_X4_spread g_X4_spread hl hq
/-! ToOneCrumb.bestOfLeasts(II)I -/
theorem dX11_bestOfLeasts_0 : decode cX11_bestOfLeasts 0 = .ok (.aload_n 0, 1) := by decide +kernel
theorem dX11_bestOfLeasts_1 : decode cX11_bestOfLeasts 1 = .ok (.getfield 82, 3) := by decide +kernel
theorem dX11_bestOfLeasts_4 : decode cX11_bestOfLeasts 4 = .ok (.getfield 128, 3) := by decide +kernel
theorem dX11_bestOfLeasts_7 : decode cX11_bestOfLeasts 7 = .ok (.istore_n 3, 1) := by decide +kernel
theorem dX11_bestOfLeasts_8 : decode cX11_bestOfLeasts 8 = .ok (.iconst 0, 1) := by decide +kernel
theorem dX11_bestOfLeasts_9 : decode cX11_bestOfLeasts 9 = .ok (.istore 4, 2) := by decide +kernel
theorem dX11_bestOfLeasts_11 : decode cX11_bestOfLeasts 11 = .ok (.iload 4, 2) := by decide +kernel
theorem dX11_bestOfLeasts_13 : decode cX11_bestOfLeasts 13 = .ok (.iload_n 3, 1) := by decide +kernel
theorem dX11_bestOfLeasts_14 : decode cX11_bestOfLeasts 14 = .ok (.if_icmp .gt 37, 3) := by decide +kernel
theorem dX11_bestOfLeasts_17 : decode cX11_bestOfLeasts 17 = .ok (.aload_n 0, 1) := by decide +kernel
theorem dX11_bestOfLeasts_18 : decode cX11_bestOfLeasts 18 = .ok (.getfield 76, 3) := by decide +kernel
theorem dX11_bestOfLeasts_21 : decode cX11_bestOfLeasts 21 = .ok (.iload 4, 2) := by decide +kernel
theorem dX11_bestOfLeasts_23 : decode cX11_bestOfLeasts 23 = .ok (.iload 4, 2) := by decide +kernel
theorem dX11_bestOfLeasts_25 : decode cX11_bestOfLeasts 25 = .ok (.iload_n 3, 1) := by decide +kernel
theorem dX11_bestOfLeasts_26 : decode cX11_bestOfLeasts 26 = .ok (.if_icmp .ge 17, 3) := by decide +kernel
theorem dX11_bestOfLeasts_29 : decode cX11_bestOfLeasts 29 = .ok (.aload_n 0, 1) := by decide +kernel
theorem dX11_bestOfLeasts_30 : decode cX11_bestOfLeasts 30 = .ok (.getfield 33, 3) := by decide +kernel
theorem dX11_bestOfLeasts_33 : decode cX11_bestOfLeasts 33 = .ok (.iload_n 1, 1) := by decide +kernel
theorem dX11_bestOfLeasts_34 : decode cX11_bestOfLeasts 34 = .ok (.iload 4, 2) := by decide +kernel
theorem dX11_bestOfLeasts_36 : decode cX11_bestOfLeasts 36 = .ok (.iload_n 3, 1) := by decide +kernel
theorem dX11_bestOfLeasts_37 : decode cX11_bestOfLeasts 37 = .ok (.invokevirtual 276, 3) := by decide +kernel
theorem dX11_bestOfLeasts_40 : decode cX11_bestOfLeasts 40 = .ok (.goto 4, 3) := by decide +kernel
theorem dX11_bestOfLeasts_43 : decode cX11_bestOfLeasts 43 = .ok (.iconst (-1), 1) := by decide +kernel
theorem dX11_bestOfLeasts_44 : decode cX11_bestOfLeasts 44 = .ok (.iastore, 1) := by decide +kernel
theorem dX11_bestOfLeasts_45 : decode cX11_bestOfLeasts 45 = .ok (.iinc 4 1, 3) := by decide +kernel
theorem dX11_bestOfLeasts_48 : decode cX11_bestOfLeasts 48 = .ok (.goto (-37), 3) := by decide +kernel
theorem dX11_bestOfLeasts_51 : decode cX11_bestOfLeasts 51 = .ok (.iconst 1, 1) := by decide +kernel
theorem dX11_bestOfLeasts_52 : decode cX11_bestOfLeasts 52 = .ok (.istore 4, 2) := by decide +kernel
theorem dX11_bestOfLeasts_54 : decode cX11_bestOfLeasts 54 = .ok (.iload 4, 2) := by decide +kernel
theorem dX11_bestOfLeasts_56 : decode cX11_bestOfLeasts 56 = .ok (.iload_n 2, 1) := by decide +kernel
theorem dX11_bestOfLeasts_57 : decode cX11_bestOfLeasts 57 = .ok (.if_icmp .ge 83, 3) := by decide +kernel
theorem dX11_bestOfLeasts_60 : decode cX11_bestOfLeasts 60 = .ok (.iconst 0, 1) := by decide +kernel
theorem dX11_bestOfLeasts_61 : decode cX11_bestOfLeasts 61 = .ok (.istore 5, 2) := by decide +kernel
theorem dX11_bestOfLeasts_63 : decode cX11_bestOfLeasts 63 = .ok (.iload 5, 2) := by decide +kernel
theorem dX11_bestOfLeasts_65 : decode cX11_bestOfLeasts 65 = .ok (.iload_n 3, 1) := by decide +kernel
theorem dX11_bestOfLeasts_66 : decode cX11_bestOfLeasts 66 = .ok (.if_icmp .gt 68, 3) := by decide +kernel
theorem dX11_bestOfLeasts_69 : decode cX11_bestOfLeasts 69 = .ok (.iconst (-1), 1) := by decide +kernel
theorem dX11_bestOfLeasts_70 : decode cX11_bestOfLeasts 70 = .ok (.istore 6, 2) := by decide +kernel
theorem dX11_bestOfLeasts_72 : decode cX11_bestOfLeasts 72 = .ok (.iload 5, 2) := by decide +kernel
theorem dX11_bestOfLeasts_74 : decode cX11_bestOfLeasts 74 = .ok (.iconst 1, 1) := by decide +kernel
theorem dX11_bestOfLeasts_75 : decode cX11_bestOfLeasts 75 = .ok (.iadd, 1) := by decide +kernel
theorem dX11_bestOfLeasts_76 : decode cX11_bestOfLeasts 76 = .ok (.istore 7, 2) := by decide +kernel
theorem dX11_bestOfLeasts_78 : decode cX11_bestOfLeasts 78 = .ok (.iload 7, 2) := by decide +kernel
theorem dX11_bestOfLeasts_80 : decode cX11_bestOfLeasts 80 = .ok (.iload_n 3, 1) := by decide +kernel
theorem dX11_bestOfLeasts_81 : decode cX11_bestOfLeasts 81 = .ok (.if_icmp .gt 38, 3) := by decide +kernel
theorem dX11_bestOfLeasts_84 : decode cX11_bestOfLeasts 84 = .ok (.iload 6, 2) := by decide +kernel
theorem dX11_bestOfLeasts_86 : decode cX11_bestOfLeasts 86 = .ok (.aload_n 0, 1) := by decide +kernel
theorem dX11_bestOfLeasts_87 : decode cX11_bestOfLeasts 87 = .ok (.getfield 33, 3) := by decide +kernel
theorem dX11_bestOfLeasts_90 : decode cX11_bestOfLeasts 90 = .ok (.iload_n 1, 1) := by decide +kernel
theorem dX11_bestOfLeasts_91 : decode cX11_bestOfLeasts 91 = .ok (.iload 5, 2) := by decide +kernel
theorem dX11_bestOfLeasts_93 : decode cX11_bestOfLeasts 93 = .ok (.iload 7, 2) := by decide +kernel
theorem dX11_bestOfLeasts_95 : decode cX11_bestOfLeasts 95 = .ok (.invokevirtual 276, 3) := by decide +kernel
theorem dX11_bestOfLeasts_98 : decode cX11_bestOfLeasts 98 = .ok (.aload_n 0, 1) := by decide +kernel
theorem dX11_bestOfLeasts_99 : decode cX11_bestOfLeasts 99 = .ok (.getfield 76, 3) := by decide +kernel
theorem dX11_bestOfLeasts_102 : decode cX11_bestOfLeasts 102 = .ok (.iload 7, 2) := by decide +kernel
theorem dX11_bestOfLeasts_104 : decode cX11_bestOfLeasts 104 = .ok (.iaload, 1) := by decide +kernel
theorem dX11_bestOfLeasts_105 : decode cX11_bestOfLeasts 105 = .ok (.invokestatic 337, 3) := by decide +kernel
theorem dX11_bestOfLeasts_108 : decode cX11_bestOfLeasts 108 = .ok (.invokestatic 340, 3) := by decide +kernel
theorem dX11_bestOfLeasts_111 : decode cX11_bestOfLeasts 111 = .ok (.istore 6, 2) := by decide +kernel
theorem dX11_bestOfLeasts_113 : decode cX11_bestOfLeasts 113 = .ok (.iinc 7 1, 3) := by decide +kernel
theorem dX11_bestOfLeasts_116 : decode cX11_bestOfLeasts 116 = .ok (.goto (-38), 3) := by decide +kernel
theorem dX11_bestOfLeasts_119 : decode cX11_bestOfLeasts 119 = .ok (.aload_n 0, 1) := by decide +kernel
theorem dX11_bestOfLeasts_120 : decode cX11_bestOfLeasts 120 = .ok (.getfield 76, 3) := by decide +kernel
theorem dX11_bestOfLeasts_123 : decode cX11_bestOfLeasts 123 = .ok (.iload 5, 2) := by decide +kernel
theorem dX11_bestOfLeasts_125 : decode cX11_bestOfLeasts 125 = .ok (.iload 6, 2) := by decide +kernel
theorem dX11_bestOfLeasts_127 : decode cX11_bestOfLeasts 127 = .ok (.iastore, 1) := by decide +kernel
theorem dX11_bestOfLeasts_128 : decode cX11_bestOfLeasts 128 = .ok (.iinc 5 1, 3) := by decide +kernel
theorem dX11_bestOfLeasts_131 : decode cX11_bestOfLeasts 131 = .ok (.goto (-68), 3) := by decide +kernel
theorem dX11_bestOfLeasts_134 : decode cX11_bestOfLeasts 134 = .ok (.iinc 4 1, 3) := by decide +kernel
theorem dX11_bestOfLeasts_137 : decode cX11_bestOfLeasts 137 = .ok (.goto (-83), 3) := by decide +kernel
theorem dX11_bestOfLeasts_140 : decode cX11_bestOfLeasts 140 = .ok (.aload_n 0, 1) := by decide +kernel
theorem dX11_bestOfLeasts_141 : decode cX11_bestOfLeasts 141 = .ok (.getfield 76, 3) := by decide +kernel
theorem dX11_bestOfLeasts_144 : decode cX11_bestOfLeasts 144 = .ok (.iconst 0, 1) := by decide +kernel
theorem dX11_bestOfLeasts_145 : decode cX11_bestOfLeasts 145 = .ok (.iaload, 1) := by decide +kernel
theorem dX11_bestOfLeasts_146 : decode cX11_bestOfLeasts 146 = .ok (.ireturn, 1) := by decide +kernel
def xX11_bestOfLeasts_140 (s_X10_between : zq_Sp) (J11 : zq_P) (J54 : zq_P) (J63 : zq_P) (J78 : zq_P) (Q : zq_Q) (ls : zq_L) (st : List Value) (h : zq_H) : Prop := (zi_aload 0 (zi_getR 0 39 (zi_push (.int 0) (zi_aldI 39 17 (zi_iret Q))))) ls st h
theorem kX11_bestOfLeasts_140 {X : zq_X} {d : Nat} (C : zq_C X cX11_bestOfLeasts 8 RX11 d) (hd1 : 1 ≤ d) {d_X10_between : Nat} {s_X10_between : zq_Sp} (h_X10_between : zq_M yX10_between cX10_between 4 (some .int) 1 d_X10_between s_X10_between) (g_X10_between : d_X10_between + 1 ≤ d) {J11 : zq_P} (j11 : zq_ok X 8 11 J11) {J54 : zq_P} (j54 : zq_ok X 8 54 J54) {J63 : zq_P} (j63 : zq_ok X 8 63 J63) {J78 : zq_P} (j78 : zq_ok X 8 78 J78) {Q : zq_Q} (hq : zq_R X (some .int) 1 Q) : zq_ok X 8 140 (xX11_bestOfLeasts_140 s_X10_between J11 J54 J63 J78 Q) := by
  refine zs_aload_n C dX11_bestOfLeasts_140 rfl ?_
  refine zs_getR C zp_0 zF11 (j := 10) ⟨by decide, rfl⟩ zw_325 dX11_bestOfLeasts_141 ?_
  refine zs_iconst C dX11_bestOfLeasts_144 (by decide) ?_
  refine zs_iaload C zp_39 dX11_bestOfLeasts_145 ?_
  exact zs_iret C hq dX11_bestOfLeasts_146
def xX11_bestOfLeasts_134 (s_X10_between : zq_Sp) (J11 : zq_P) (J54 : zq_P) (J63 : zq_P) (J78 : zq_P) (Q : zq_Q) (ls : zq_L) (st : List Value) (h : zq_H) : Prop := (zi_iinc 4 1 (J54)) ls st h
theorem kX11_bestOfLeasts_134 {X : zq_X} {d : Nat} (C : zq_C X cX11_bestOfLeasts 8 RX11 d) (hd1 : 1 ≤ d) {d_X10_between : Nat} {s_X10_between : zq_Sp} (h_X10_between : zq_M yX10_between cX10_between 4 (some .int) 1 d_X10_between s_X10_between) (g_X10_between : d_X10_between + 1 ≤ d) {J11 : zq_P} (j11 : zq_ok X 8 11 J11) {J54 : zq_P} (j54 : zq_ok X 8 54 J54) {J63 : zq_P} (j63 : zq_ok X 8 63 J63) {J78 : zq_P} (j78 : zq_ok X 8 78 J78) {Q : zq_Q} (hq : zq_R X (some .int) 1 Q) : zq_ok X 8 134 (xX11_bestOfLeasts_134 s_X10_between J11 J54 J63 J78 Q) := by
  refine zs_iinc C dX11_bestOfLeasts_134 (by decide) (by decide) ?_
  exact zs_goto C dX11_bestOfLeasts_137 (by decide) (j54)
def xX11_bestOfLeasts_119 (s_X10_between : zq_Sp) (J11 : zq_P) (J54 : zq_P) (J63 : zq_P) (J78 : zq_P) (Q : zq_Q) (ls : zq_L) (st : List Value) (h : zq_H) : Prop := (zi_aload 0 (zi_getR 0 39 (zi_iload 5 (zi_iload 6 (zi_astI 39 17 (zi_iinc 5 1 (J63))))))) ls st h
theorem kX11_bestOfLeasts_119 {X : zq_X} {d : Nat} (C : zq_C X cX11_bestOfLeasts 8 RX11 d) (hd1 : 1 ≤ d) {d_X10_between : Nat} {s_X10_between : zq_Sp} (h_X10_between : zq_M yX10_between cX10_between 4 (some .int) 1 d_X10_between s_X10_between) (g_X10_between : d_X10_between + 1 ≤ d) {J11 : zq_P} (j11 : zq_ok X 8 11 J11) {J54 : zq_P} (j54 : zq_ok X 8 54 J54) {J63 : zq_P} (j63 : zq_ok X 8 63 J63) {J78 : zq_P} (j78 : zq_ok X 8 78 J78) {Q : zq_Q} (hq : zq_R X (some .int) 1 Q) : zq_ok X 8 119 (xX11_bestOfLeasts_119 s_X10_between J11 J54 J63 J78 Q) := by
  refine zs_aload_n C dX11_bestOfLeasts_119 rfl ?_
  refine zs_getR C zp_0 zF11 (j := 10) ⟨by decide, rfl⟩ zw_325 dX11_bestOfLeasts_120 ?_
  refine zs_iload C dX11_bestOfLeasts_123 ?_
  refine zs_iload C dX11_bestOfLeasts_125 ?_
  refine zs_iastore C zp_39 dX11_bestOfLeasts_127 ?_
  refine zs_iinc C dX11_bestOfLeasts_128 (by decide) (by decide) ?_
  exact zs_goto C dX11_bestOfLeasts_131 (by decide) (j63)
def xX11_bestOfLeasts_84 (s_X10_between : zq_Sp) (J11 : zq_P) (J54 : zq_P) (J63 : zq_P) (J78 : zq_P) (Q : zq_Q) (ls : zq_L) (st : List Value) (h : zq_H) : Prop := (zi_iload 6 (zi_aload 0 (zi_getR 0 9 (zi_iload 1 (zi_iload 5 (zi_iload 7 (zi_callV 3 9 s_X10_between (zi_aload 0 (zi_getR 0 39 (zi_iload 7 (zi_aldI 39 17 (zi_m2 zf_min (zi_m2 zf_max (zi_istore 6 (zi_iinc 7 1 (J78)))))))))))))))) ls st h
theorem kX11_bestOfLeasts_84 {X : zq_X} {d : Nat} (C : zq_C X cX11_bestOfLeasts 8 RX11 d) (hd1 : 1 ≤ d) {d_X10_between : Nat} {s_X10_between : zq_Sp} (h_X10_between : zq_M yX10_between cX10_between 4 (some .int) 1 d_X10_between s_X10_between) (g_X10_between : d_X10_between + 1 ≤ d) {J11 : zq_P} (j11 : zq_ok X 8 11 J11) {J54 : zq_P} (j54 : zq_ok X 8 54 J54) {J63 : zq_P} (j63 : zq_ok X 8 63 J63) {J78 : zq_P} (j78 : zq_ok X 8 78 J78) {Q : zq_Q} (hq : zq_R X (some .int) 1 Q) : zq_ok X 8 84 (xX11_bestOfLeasts_84 s_X10_between J11 J54 J63 J78 Q) := by
  refine zs_iload C dX11_bestOfLeasts_84 ?_
  refine zs_aload_n C dX11_bestOfLeasts_86 rfl ?_
  refine zs_getR C zp_0 zF11 (j := 3) ⟨by decide, rfl⟩ zw_318 dX11_bestOfLeasts_87 ?_
  refine zs_iload_n C dX11_bestOfLeasts_90 rfl ?_
  refine zs_iload C dX11_bestOfLeasts_91 ?_
  refine zs_iload C dX11_bestOfLeasts_93 ?_
  refine zs_callV C h_X10_between g_X10_between zy_X10_between zp_9 (show vwCl[10]? = some (RX10, TX10, 3) from rfl) zw_597 zw_598 zs9_X10_between dX11_bestOfLeasts_95 ?_
  refine zs_aload_n C dX11_bestOfLeasts_98 rfl ?_
  refine zs_getR C zp_0 zF11 (j := 10) ⟨by decide, rfl⟩ zw_325 dX11_bestOfLeasts_99 ?_
  refine zs_iload C dX11_bestOfLeasts_102 ?_
  refine zs_iaload C zp_39 dX11_bestOfLeasts_104 ?_
  refine zs_mmin C hd1 zw_573 zw_393 zw_14 zw_394 dX11_bestOfLeasts_105 ?_
  refine zs_mmax C hd1 zw_574 zw_454 zw_14 zw_455 dX11_bestOfLeasts_108 ?_
  refine zs_istore C dX11_bestOfLeasts_111 (by decide) ?_
  refine zs_iinc C dX11_bestOfLeasts_113 (by decide) (by decide) ?_
  exact zs_goto C dX11_bestOfLeasts_116 (by decide) (j78)
def xX11_bestOfLeasts_78 (s_X10_between : zq_Sp) (J11 : zq_P) (J54 : zq_P) (J63 : zq_P) (J78 : zq_P) (Q : zq_Q) (ls : zq_L) (st : List Value) (h : zq_H) : Prop := (zi_iload 7 (zi_iload 3 (zi_if2 (fun x y => y < x) (xX11_bestOfLeasts_119 s_X10_between J11 J54 J63 J78 Q) (xX11_bestOfLeasts_84 s_X10_between J11 J54 J63 J78 Q)))) ls st h
theorem kX11_bestOfLeasts_78 {X : zq_X} {d : Nat} (C : zq_C X cX11_bestOfLeasts 8 RX11 d) (hd1 : 1 ≤ d) {d_X10_between : Nat} {s_X10_between : zq_Sp} (h_X10_between : zq_M yX10_between cX10_between 4 (some .int) 1 d_X10_between s_X10_between) (g_X10_between : d_X10_between + 1 ≤ d) {J11 : zq_P} (j11 : zq_ok X 8 11 J11) {J54 : zq_P} (j54 : zq_ok X 8 54 J54) {J63 : zq_P} (j63 : zq_ok X 8 63 J63) {J78 : zq_P} (j78 : zq_ok X 8 78 J78) {Q : zq_Q} (hq : zq_R X (some .int) 1 Q) : zq_ok X 8 78 (xX11_bestOfLeasts_78 s_X10_between J11 J54 J63 J78 Q) := by
  refine zs_iload C dX11_bestOfLeasts_78 ?_
  refine zs_iload_n C dX11_bestOfLeasts_80 rfl ?_
  exact zs_icmp_gt C dX11_bestOfLeasts_81 (by decide) (kX11_bestOfLeasts_119 C hd1 h_X10_between g_X10_between j11 j54 j63 j78 hq) (kX11_bestOfLeasts_84 C hd1 h_X10_between g_X10_between j11 j54 j63 j78 hq)
def xX11_bestOfLeasts_69 (s_X10_between : zq_Sp) (J11 : zq_P) (J54 : zq_P) (J63 : zq_P) (J78 : zq_P) (Q : zq_Q) (ls : zq_L) (st : List Value) (h : zq_H) : Prop := (zi_push (.int (-1)) (zi_istore 6 (zi_iload 5 (zi_push (.int 1) (zi_i2 (fun x y => x + y) (zi_istore 7 (J78))))))) ls st h
theorem kX11_bestOfLeasts_69 {X : zq_X} {d : Nat} (C : zq_C X cX11_bestOfLeasts 8 RX11 d) (hd1 : 1 ≤ d) {d_X10_between : Nat} {s_X10_between : zq_Sp} (h_X10_between : zq_M yX10_between cX10_between 4 (some .int) 1 d_X10_between s_X10_between) (g_X10_between : d_X10_between + 1 ≤ d) {J11 : zq_P} (j11 : zq_ok X 8 11 J11) {J54 : zq_P} (j54 : zq_ok X 8 54 J54) {J63 : zq_P} (j63 : zq_ok X 8 63 J63) {J78 : zq_P} (j78 : zq_ok X 8 78 J78) {Q : zq_Q} (hq : zq_R X (some .int) 1 Q) : zq_ok X 8 69 (xX11_bestOfLeasts_69 s_X10_between J11 J54 J63 J78 Q) := by
  refine zs_iconst C dX11_bestOfLeasts_69 (by decide) ?_
  refine zs_istore C dX11_bestOfLeasts_70 (by decide) ?_
  refine zs_iload C dX11_bestOfLeasts_72 ?_
  refine zs_iconst C dX11_bestOfLeasts_74 (by decide) ?_
  refine zs_iadd C dX11_bestOfLeasts_75 ?_
  refine zs_istore C dX11_bestOfLeasts_76 (by decide) ?_
  exact j78
def xX11_bestOfLeasts_63 (s_X10_between : zq_Sp) (J11 : zq_P) (J54 : zq_P) (J63 : zq_P) (J78 : zq_P) (Q : zq_Q) (ls : zq_L) (st : List Value) (h : zq_H) : Prop := (zi_iload 5 (zi_iload 3 (zi_if2 (fun x y => y < x) (xX11_bestOfLeasts_134 s_X10_between J11 J54 J63 J78 Q) (xX11_bestOfLeasts_69 s_X10_between J11 J54 J63 J78 Q)))) ls st h
theorem kX11_bestOfLeasts_63 {X : zq_X} {d : Nat} (C : zq_C X cX11_bestOfLeasts 8 RX11 d) (hd1 : 1 ≤ d) {d_X10_between : Nat} {s_X10_between : zq_Sp} (h_X10_between : zq_M yX10_between cX10_between 4 (some .int) 1 d_X10_between s_X10_between) (g_X10_between : d_X10_between + 1 ≤ d) {J11 : zq_P} (j11 : zq_ok X 8 11 J11) {J54 : zq_P} (j54 : zq_ok X 8 54 J54) {J63 : zq_P} (j63 : zq_ok X 8 63 J63) {J78 : zq_P} (j78 : zq_ok X 8 78 J78) {Q : zq_Q} (hq : zq_R X (some .int) 1 Q) : zq_ok X 8 63 (xX11_bestOfLeasts_63 s_X10_between J11 J54 J63 J78 Q) := by
  refine zs_iload C dX11_bestOfLeasts_63 ?_
  refine zs_iload_n C dX11_bestOfLeasts_65 rfl ?_
  exact zs_icmp_gt C dX11_bestOfLeasts_66 (by decide) (kX11_bestOfLeasts_134 C hd1 h_X10_between g_X10_between j11 j54 j63 j78 hq) (kX11_bestOfLeasts_69 C hd1 h_X10_between g_X10_between j11 j54 j63 j78 hq)
def xX11_bestOfLeasts_60 (s_X10_between : zq_Sp) (J11 : zq_P) (J54 : zq_P) (J63 : zq_P) (J78 : zq_P) (Q : zq_Q) (ls : zq_L) (st : List Value) (h : zq_H) : Prop := (zi_push (.int 0) (zi_istore 5 (J63))) ls st h
theorem kX11_bestOfLeasts_60 {X : zq_X} {d : Nat} (C : zq_C X cX11_bestOfLeasts 8 RX11 d) (hd1 : 1 ≤ d) {d_X10_between : Nat} {s_X10_between : zq_Sp} (h_X10_between : zq_M yX10_between cX10_between 4 (some .int) 1 d_X10_between s_X10_between) (g_X10_between : d_X10_between + 1 ≤ d) {J11 : zq_P} (j11 : zq_ok X 8 11 J11) {J54 : zq_P} (j54 : zq_ok X 8 54 J54) {J63 : zq_P} (j63 : zq_ok X 8 63 J63) {J78 : zq_P} (j78 : zq_ok X 8 78 J78) {Q : zq_Q} (hq : zq_R X (some .int) 1 Q) : zq_ok X 8 60 (xX11_bestOfLeasts_60 s_X10_between J11 J54 J63 J78 Q) := by
  refine zs_iconst C dX11_bestOfLeasts_60 (by decide) ?_
  refine zs_istore C dX11_bestOfLeasts_61 (by decide) ?_
  exact j63
def xX11_bestOfLeasts_54 (s_X10_between : zq_Sp) (J11 : zq_P) (J54 : zq_P) (J63 : zq_P) (J78 : zq_P) (Q : zq_Q) (ls : zq_L) (st : List Value) (h : zq_H) : Prop := (zi_iload 4 (zi_iload 2 (zi_if2 (fun x y => y ≤ x) (xX11_bestOfLeasts_140 s_X10_between J11 J54 J63 J78 Q) (xX11_bestOfLeasts_60 s_X10_between J11 J54 J63 J78 Q)))) ls st h
theorem kX11_bestOfLeasts_54 {X : zq_X} {d : Nat} (C : zq_C X cX11_bestOfLeasts 8 RX11 d) (hd1 : 1 ≤ d) {d_X10_between : Nat} {s_X10_between : zq_Sp} (h_X10_between : zq_M yX10_between cX10_between 4 (some .int) 1 d_X10_between s_X10_between) (g_X10_between : d_X10_between + 1 ≤ d) {J11 : zq_P} (j11 : zq_ok X 8 11 J11) {J54 : zq_P} (j54 : zq_ok X 8 54 J54) {J63 : zq_P} (j63 : zq_ok X 8 63 J63) {J78 : zq_P} (j78 : zq_ok X 8 78 J78) {Q : zq_Q} (hq : zq_R X (some .int) 1 Q) : zq_ok X 8 54 (xX11_bestOfLeasts_54 s_X10_between J11 J54 J63 J78 Q) := by
  refine zs_iload C dX11_bestOfLeasts_54 ?_
  refine zs_iload_n C dX11_bestOfLeasts_56 rfl ?_
  exact zs_icmp_ge C dX11_bestOfLeasts_57 (by decide) (kX11_bestOfLeasts_140 C hd1 h_X10_between g_X10_between j11 j54 j63 j78 hq) (kX11_bestOfLeasts_60 C hd1 h_X10_between g_X10_between j11 j54 j63 j78 hq)
def xX11_bestOfLeasts_51 (s_X10_between : zq_Sp) (J11 : zq_P) (J54 : zq_P) (J63 : zq_P) (J78 : zq_P) (Q : zq_Q) (ls : zq_L) (st : List Value) (h : zq_H) : Prop := (zi_push (.int 1) (zi_istore 4 (J54))) ls st h
theorem kX11_bestOfLeasts_51 {X : zq_X} {d : Nat} (C : zq_C X cX11_bestOfLeasts 8 RX11 d) (hd1 : 1 ≤ d) {d_X10_between : Nat} {s_X10_between : zq_Sp} (h_X10_between : zq_M yX10_between cX10_between 4 (some .int) 1 d_X10_between s_X10_between) (g_X10_between : d_X10_between + 1 ≤ d) {J11 : zq_P} (j11 : zq_ok X 8 11 J11) {J54 : zq_P} (j54 : zq_ok X 8 54 J54) {J63 : zq_P} (j63 : zq_ok X 8 63 J63) {J78 : zq_P} (j78 : zq_ok X 8 78 J78) {Q : zq_Q} (hq : zq_R X (some .int) 1 Q) : zq_ok X 8 51 (xX11_bestOfLeasts_51 s_X10_between J11 J54 J63 J78 Q) := by
  refine zs_iconst C dX11_bestOfLeasts_51 (by decide) ?_
  refine zs_istore C dX11_bestOfLeasts_52 (by decide) ?_
  exact j54
def xX11_bestOfLeasts_44 (s_X10_between : zq_Sp) (J11 : zq_P) (J54 : zq_P) (J63 : zq_P) (J78 : zq_P) (Q : zq_Q) (ls : zq_L) (st : List Value) (h : zq_H) : Prop := (zi_astI 39 17 (zi_iinc 4 1 (J11))) ls st h
theorem kX11_bestOfLeasts_44 {X : zq_X} {d : Nat} (C : zq_C X cX11_bestOfLeasts 8 RX11 d) (hd1 : 1 ≤ d) {d_X10_between : Nat} {s_X10_between : zq_Sp} (h_X10_between : zq_M yX10_between cX10_between 4 (some .int) 1 d_X10_between s_X10_between) (g_X10_between : d_X10_between + 1 ≤ d) {J11 : zq_P} (j11 : zq_ok X 8 11 J11) {J54 : zq_P} (j54 : zq_ok X 8 54 J54) {J63 : zq_P} (j63 : zq_ok X 8 63 J63) {J78 : zq_P} (j78 : zq_ok X 8 78 J78) {Q : zq_Q} (hq : zq_R X (some .int) 1 Q) : zq_ok X 8 44 (xX11_bestOfLeasts_44 s_X10_between J11 J54 J63 J78 Q) := by
  refine zs_iastore C zp_39 dX11_bestOfLeasts_44 ?_
  refine zs_iinc C dX11_bestOfLeasts_45 (by decide) (by decide) ?_
  exact zs_goto C dX11_bestOfLeasts_48 (by decide) (j11)
def xX11_bestOfLeasts_43 (s_X10_between : zq_Sp) (J11 : zq_P) (J54 : zq_P) (J63 : zq_P) (J78 : zq_P) (Q : zq_Q) (ls : zq_L) (st : List Value) (h : zq_H) : Prop := (zi_push (.int (-1)) ((xX11_bestOfLeasts_44 s_X10_between J11 J54 J63 J78 Q))) ls st h
theorem kX11_bestOfLeasts_43 {X : zq_X} {d : Nat} (C : zq_C X cX11_bestOfLeasts 8 RX11 d) (hd1 : 1 ≤ d) {d_X10_between : Nat} {s_X10_between : zq_Sp} (h_X10_between : zq_M yX10_between cX10_between 4 (some .int) 1 d_X10_between s_X10_between) (g_X10_between : d_X10_between + 1 ≤ d) {J11 : zq_P} (j11 : zq_ok X 8 11 J11) {J54 : zq_P} (j54 : zq_ok X 8 54 J54) {J63 : zq_P} (j63 : zq_ok X 8 63 J63) {J78 : zq_P} (j78 : zq_ok X 8 78 J78) {Q : zq_Q} (hq : zq_R X (some .int) 1 Q) : zq_ok X 8 43 (xX11_bestOfLeasts_43 s_X10_between J11 J54 J63 J78 Q) := by
  refine zs_iconst C dX11_bestOfLeasts_43 (by decide) ?_
  exact kX11_bestOfLeasts_44 C hd1 h_X10_between g_X10_between j11 j54 j63 j78 hq
def xX11_bestOfLeasts_29 (s_X10_between : zq_Sp) (J11 : zq_P) (J54 : zq_P) (J63 : zq_P) (J78 : zq_P) (Q : zq_Q) (ls : zq_L) (st : List Value) (h : zq_H) : Prop := (zi_aload 0 (zi_getR 0 9 (zi_iload 1 (zi_iload 4 (zi_iload 3 (zi_callV 3 9 s_X10_between ((xX11_bestOfLeasts_44 s_X10_between J11 J54 J63 J78 Q)))))))) ls st h
theorem kX11_bestOfLeasts_29 {X : zq_X} {d : Nat} (C : zq_C X cX11_bestOfLeasts 8 RX11 d) (hd1 : 1 ≤ d) {d_X10_between : Nat} {s_X10_between : zq_Sp} (h_X10_between : zq_M yX10_between cX10_between 4 (some .int) 1 d_X10_between s_X10_between) (g_X10_between : d_X10_between + 1 ≤ d) {J11 : zq_P} (j11 : zq_ok X 8 11 J11) {J54 : zq_P} (j54 : zq_ok X 8 54 J54) {J63 : zq_P} (j63 : zq_ok X 8 63 J63) {J78 : zq_P} (j78 : zq_ok X 8 78 J78) {Q : zq_Q} (hq : zq_R X (some .int) 1 Q) : zq_ok X 8 29 (xX11_bestOfLeasts_29 s_X10_between J11 J54 J63 J78 Q) := by
  refine zs_aload_n C dX11_bestOfLeasts_29 rfl ?_
  refine zs_getR C zp_0 zF11 (j := 3) ⟨by decide, rfl⟩ zw_318 dX11_bestOfLeasts_30 ?_
  refine zs_iload_n C dX11_bestOfLeasts_33 rfl ?_
  refine zs_iload C dX11_bestOfLeasts_34 ?_
  refine zs_iload_n C dX11_bestOfLeasts_36 rfl ?_
  refine zs_callV C h_X10_between g_X10_between zy_X10_between zp_9 (show vwCl[10]? = some (RX10, TX10, 3) from rfl) zw_597 zw_598 zs9_X10_between dX11_bestOfLeasts_37 ?_
  exact zs_goto C dX11_bestOfLeasts_40 (by decide) (kX11_bestOfLeasts_44 C hd1 h_X10_between g_X10_between j11 j54 j63 j78 hq)
def xX11_bestOfLeasts_17 (s_X10_between : zq_Sp) (J11 : zq_P) (J54 : zq_P) (J63 : zq_P) (J78 : zq_P) (Q : zq_Q) (ls : zq_L) (st : List Value) (h : zq_H) : Prop := (zi_aload 0 (zi_getR 0 39 (zi_iload 4 (zi_iload 4 (zi_iload 3 (zi_if2 (fun x y => y ≤ x) (xX11_bestOfLeasts_43 s_X10_between J11 J54 J63 J78 Q) (xX11_bestOfLeasts_29 s_X10_between J11 J54 J63 J78 Q))))))) ls st h
theorem kX11_bestOfLeasts_17 {X : zq_X} {d : Nat} (C : zq_C X cX11_bestOfLeasts 8 RX11 d) (hd1 : 1 ≤ d) {d_X10_between : Nat} {s_X10_between : zq_Sp} (h_X10_between : zq_M yX10_between cX10_between 4 (some .int) 1 d_X10_between s_X10_between) (g_X10_between : d_X10_between + 1 ≤ d) {J11 : zq_P} (j11 : zq_ok X 8 11 J11) {J54 : zq_P} (j54 : zq_ok X 8 54 J54) {J63 : zq_P} (j63 : zq_ok X 8 63 J63) {J78 : zq_P} (j78 : zq_ok X 8 78 J78) {Q : zq_Q} (hq : zq_R X (some .int) 1 Q) : zq_ok X 8 17 (xX11_bestOfLeasts_17 s_X10_between J11 J54 J63 J78 Q) := by
  refine zs_aload_n C dX11_bestOfLeasts_17 rfl ?_
  refine zs_getR C zp_0 zF11 (j := 10) ⟨by decide, rfl⟩ zw_325 dX11_bestOfLeasts_18 ?_
  refine zs_iload C dX11_bestOfLeasts_21 ?_
  refine zs_iload C dX11_bestOfLeasts_23 ?_
  refine zs_iload_n C dX11_bestOfLeasts_25 rfl ?_
  exact zs_icmp_ge C dX11_bestOfLeasts_26 (by decide) (kX11_bestOfLeasts_43 C hd1 h_X10_between g_X10_between j11 j54 j63 j78 hq) (kX11_bestOfLeasts_29 C hd1 h_X10_between g_X10_between j11 j54 j63 j78 hq)
def xX11_bestOfLeasts_11 (s_X10_between : zq_Sp) (J11 : zq_P) (J54 : zq_P) (J63 : zq_P) (J78 : zq_P) (Q : zq_Q) (ls : zq_L) (st : List Value) (h : zq_H) : Prop := (zi_iload 4 (zi_iload 3 (zi_if2 (fun x y => y < x) (xX11_bestOfLeasts_51 s_X10_between J11 J54 J63 J78 Q) (xX11_bestOfLeasts_17 s_X10_between J11 J54 J63 J78 Q)))) ls st h
theorem kX11_bestOfLeasts_11 {X : zq_X} {d : Nat} (C : zq_C X cX11_bestOfLeasts 8 RX11 d) (hd1 : 1 ≤ d) {d_X10_between : Nat} {s_X10_between : zq_Sp} (h_X10_between : zq_M yX10_between cX10_between 4 (some .int) 1 d_X10_between s_X10_between) (g_X10_between : d_X10_between + 1 ≤ d) {J11 : zq_P} (j11 : zq_ok X 8 11 J11) {J54 : zq_P} (j54 : zq_ok X 8 54 J54) {J63 : zq_P} (j63 : zq_ok X 8 63 J63) {J78 : zq_P} (j78 : zq_ok X 8 78 J78) {Q : zq_Q} (hq : zq_R X (some .int) 1 Q) : zq_ok X 8 11 (xX11_bestOfLeasts_11 s_X10_between J11 J54 J63 J78 Q) := by
  refine zs_iload C dX11_bestOfLeasts_11 ?_
  refine zs_iload_n C dX11_bestOfLeasts_13 rfl ?_
  exact zs_icmp_gt C dX11_bestOfLeasts_14 (by decide) (kX11_bestOfLeasts_51 C hd1 h_X10_between g_X10_between j11 j54 j63 j78 hq) (kX11_bestOfLeasts_17 C hd1 h_X10_between g_X10_between j11 j54 j63 j78 hq)
def xX11_bestOfLeasts_0 (s_X10_between : zq_Sp) (J11 : zq_P) (J54 : zq_P) (J63 : zq_P) (J78 : zq_P) (Q : zq_Q) (ls : zq_L) (st : List Value) (h : zq_H) : Prop := (zi_aload 0 (zi_getR 0 40 (zi_getI 40 3 (zi_istore 3 (zi_push (.int 0) (zi_istore 4 (J11))))))) ls st h
theorem kX11_bestOfLeasts_0 {X : zq_X} {d : Nat} (C : zq_C X cX11_bestOfLeasts 8 RX11 d) (hd1 : 1 ≤ d) {d_X10_between : Nat} {s_X10_between : zq_Sp} (h_X10_between : zq_M yX10_between cX10_between 4 (some .int) 1 d_X10_between s_X10_between) (g_X10_between : d_X10_between + 1 ≤ d) {J11 : zq_P} (j11 : zq_ok X 8 11 J11) {J54 : zq_P} (j54 : zq_ok X 8 54 J54) {J63 : zq_P} (j63 : zq_ok X 8 63 J63) {J78 : zq_P} (j78 : zq_ok X 8 78 J78) {Q : zq_Q} (hq : zq_R X (some .int) 1 Q) : zq_ok X 8 0 (xX11_bestOfLeasts_0 s_X10_between J11 J54 J63 J78 Q) := by
  refine zs_aload_n C dX11_bestOfLeasts_0 rfl ?_
  refine zs_getR C zp_0 zF11 (j := 11) ⟨by decide, rfl⟩ zw_326 dX11_bestOfLeasts_1 ?_
  refine zs_getIN C zp_40 zF2 (j := 3) ⟨by decide, rfl⟩ zw_273 dX11_bestOfLeasts_4 ?_
  refine zs_istore_n C dX11_bestOfLeasts_7 rfl (by decide) ?_
  refine zs_iconst C dX11_bestOfLeasts_8 (by decide) ?_
  refine zs_istore C dX11_bestOfLeasts_9 (by decide) ?_
  exact j11
theorem mX11_bestOfLeasts {d : Nat} {spec : zq_Sp} {σ11 : Type} {σ54 : Type} {σ63 : Type} {σ78 : Type} {d_X10_between : Nat} {s_X10_between : zq_Sp} (h_X10_between : zq_M yX10_between cX10_between 4 (some .int) 1 d_X10_between s_X10_between) (g_X10_between : d_X10_between + 1 ≤ d) (hd1 : 1 ≤ d) (μ11 : σ11 → Nat) (I11 : zq_Q → σ11 → zq_P) (μ54 : σ54 → Nat) (I54 : zq_Q → σ54 → zq_P) (μ63 : σ63 → Nat) (I63 : zq_Q → σ63 → zq_P) (μ78 : σ78 → Nat) (I78 : zq_Q → σ78 → zq_P) (v : ∀ args h Q, spec args h Q → (zq_a args).length ≤ 8 ∧ xX11_bestOfLeasts_0 s_X10_between (fun ls st h => ∃ b, I11 Q b ls st h) (fun ls st h => ∃ b, I54 Q b ls st h) (fun ls st h => ∃ b, I63 Q b ls st h) (fun ls st h => ∃ b, I78 Q b ls st h) Q (zq_l0 8 args) [] h) (v11 : ∀ Q a ls st h, I11 Q a ls st h → xX11_bestOfLeasts_11 s_X10_between (fun ls st h => ∃ b, μ11 b < μ11 a ∧ I11 Q b ls st h) (fun ls st h => ∃ b, μ54 b < μ11 a ∧ I54 Q b ls st h) (fun ls st h => ∃ b, μ63 b < μ11 a ∧ I63 Q b ls st h) (fun ls st h => ∃ b, μ78 b < μ11 a ∧ I78 Q b ls st h) Q ls st h) (v54 : ∀ Q a ls st h, I54 Q a ls st h → xX11_bestOfLeasts_54 s_X10_between (fun ls st h => ∃ b, μ11 b < μ54 a ∧ I11 Q b ls st h) (fun ls st h => ∃ b, μ54 b < μ54 a ∧ I54 Q b ls st h) (fun ls st h => ∃ b, μ63 b < μ54 a ∧ I63 Q b ls st h) (fun ls st h => ∃ b, μ78 b < μ54 a ∧ I78 Q b ls st h) Q ls st h) (v63 : ∀ Q a ls st h, I63 Q a ls st h → xX11_bestOfLeasts_63 s_X10_between (fun ls st h => ∃ b, μ11 b < μ63 a ∧ I11 Q b ls st h) (fun ls st h => ∃ b, μ54 b < μ63 a ∧ I54 Q b ls st h) (fun ls st h => ∃ b, μ63 b < μ63 a ∧ I63 Q b ls st h) (fun ls st h => ∃ b, μ78 b < μ63 a ∧ I78 Q b ls st h) Q ls st h) (v78 : ∀ Q a ls st h, I78 Q a ls st h → xX11_bestOfLeasts_78 s_X10_between (fun ls st h => ∃ b, μ11 b < μ78 a ∧ I11 Q b ls st h) (fun ls st h => ∃ b, μ54 b < μ78 a ∧ I54 Q b ls st h) (fun ls st h => ∃ b, μ63 b < μ78 a ∧ I63 Q b ls st h) (fun ls st h => ∃ b, μ78 b < μ78 a ∧ I78 Q b ls st h) Q ls st h) : zq_M yX11_bestOfLeasts cX11_bestOfLeasts 8 (some .int) 1 d spec := by
  refine zq_met (by decide +kernel) (by decide) (fun X Q args h C hq hs => ⟨(v args h Q hs).1, _, ?_, (v args h Q hs).2⟩)
  have hl := zq_loop4 (X := X) (nL := 8) (pc1 := 11) (pc2 := 54) (pc3 := 63) (pc4 := 78) μ11 μ54 μ63 μ78 (I11 Q) (I54 Q) (I63 Q) (I78 Q) (fun J11 J54 J63 J78 => xX11_bestOfLeasts_11 s_X10_between J11 J54 J63 J78 Q) (fun J11 J54 J63 J78 => xX11_bestOfLeasts_54 s_X10_between J11 J54 J63 J78 Q) (fun J11 J54 J63 J78 => xX11_bestOfLeasts_63 s_X10_between J11 J54 J63 J78 Q) (fun J11 J54 J63 J78 => xX11_bestOfLeasts_78 s_X10_between J11 J54 J63 J78 Q) (fun j11 j54 j63 j78 => kX11_bestOfLeasts_11 C hd1 h_X10_between g_X10_between j11 j54 j63 j78 hq) (fun j11 j54 j63 j78 => kX11_bestOfLeasts_54 C hd1 h_X10_between g_X10_between j11 j54 j63 j78 hq) (fun j11 j54 j63 j78 => kX11_bestOfLeasts_63 C hd1 h_X10_between g_X10_between j11 j54 j63 j78 hq) (fun j11 j54 j63 j78 => kX11_bestOfLeasts_78 C hd1 h_X10_between g_X10_between j11 j54 j63 j78 hq) (v11 Q) (v54 Q) (v63 Q) (v78 Q)
  exact kX11_bestOfLeasts_0 C hd1 h_X10_between g_X10_between hl.1 hl.2.1 hl.2.2.1 hl.2.2.2 hq
/-! ToOneCrumb.hasByLie(III)I -/
theorem dX11_hasByLie_0 : decode cX11_hasByLie 0 = .ok (.aload_n 0, 1) := by decide +kernel
theorem dX11_hasByLie_1 : decode cX11_hasByLie 1 = .ok (.getfield 26, 3) := by decide +kernel
theorem dX11_hasByLie_4 : decode cX11_hasByLie 4 = .ok (.iload_n 1, 1) := by decide +kernel
theorem dX11_hasByLie_5 : decode cX11_hasByLie 5 = .ok (.iload_n 2, 1) := by decide +kernel
theorem dX11_hasByLie_6 : decode cX11_hasByLie 6 = .ok (.invokevirtual 192, 3) := by decide +kernel
theorem dX11_hasByLie_9 : decode cX11_hasByLie 9 = .ok (.istore 4, 2) := by decide +kernel
theorem dX11_hasByLie_11 : decode cX11_hasByLie 11 = .ok (.aload_n 0, 1) := by decide +kernel
theorem dX11_hasByLie_12 : decode cX11_hasByLie 12 = .ok (.getfield 26, 3) := by decide +kernel
theorem dX11_hasByLie_15 : decode cX11_hasByLie 15 = .ok (.getfield 198, 3) := by decide +kernel
theorem dX11_hasByLie_18 : decode cX11_hasByLie 18 = .ok (.iload_n 1, 1) := by decide +kernel
theorem dX11_hasByLie_19 : decode cX11_hasByLie 19 = .ok (.iconst 3, 1) := by decide +kernel
theorem dX11_hasByLie_20 : decode cX11_hasByLie 20 = .ok (.imul, 1) := by decide +kernel
theorem dX11_hasByLie_21 : decode cX11_hasByLie 21 = .ok (.iload_n 2, 1) := by decide +kernel
theorem dX11_hasByLie_22 : decode cX11_hasByLie 22 = .ok (.iadd, 1) := by decide +kernel
theorem dX11_hasByLie_23 : decode cX11_hasByLie 23 = .ok (.iload_n 3, 1) := by decide +kernel
theorem dX11_hasByLie_24 : decode cX11_hasByLie 24 = .ok (.iastore, 1) := by decide +kernel
theorem dX11_hasByLie_25 : decode cX11_hasByLie 25 = .ok (.aload_n 0, 1) := by decide +kernel
theorem dX11_hasByLie_26 : decode cX11_hasByLie 26 = .ok (.getfield 68, 3) := by decide +kernel
theorem dX11_hasByLie_29 : decode cX11_hasByLie 29 = .ok (.aload_n 0, 1) := by decide +kernel
theorem dX11_hasByLie_30 : decode cX11_hasByLie 30 = .ok (.getfield 33, 3) := by decide +kernel
theorem dX11_hasByLie_33 : decode cX11_hasByLie 33 = .ok (.invokevirtual 294, 3) := by decide +kernel
theorem dX11_hasByLie_36 : decode cX11_hasByLie 36 = .ok (.iconst 0, 1) := by decide +kernel
theorem dX11_hasByLie_37 : decode cX11_hasByLie 37 = .ok (.istore 5, 2) := by decide +kernel
theorem dX11_hasByLie_39 : decode cX11_hasByLie 39 = .ok (.iload 5, 2) := by decide +kernel
theorem dX11_hasByLie_41 : decode cX11_hasByLie 41 = .ok (.aload_n 0, 1) := by decide +kernel
theorem dX11_hasByLie_42 : decode cX11_hasByLie 42 = .ok (.getfield 82, 3) := by decide +kernel
theorem dX11_hasByLie_45 : decode cX11_hasByLie 45 = .ok (.getfield 128, 3) := by decide +kernel
theorem dX11_hasByLie_48 : decode cX11_hasByLie 48 = .ok (.if_icmp .ge 48, 3) := by decide +kernel
theorem dX11_hasByLie_51 : decode cX11_hasByLie 51 = .ok (.aload_n 0, 1) := by decide +kernel
theorem dX11_hasByLie_52 : decode cX11_hasByLie 52 = .ok (.getfield 68, 3) := by decide +kernel
theorem dX11_hasByLie_55 : decode cX11_hasByLie 55 = .ok (.getfield 419, 3) := by decide +kernel
theorem dX11_hasByLie_58 : decode cX11_hasByLie 58 = .ok (.iload_n 1, 1) := by decide +kernel
theorem dX11_hasByLie_59 : decode cX11_hasByLie 59 = .ok (.bipush 16, 2) := by decide +kernel
theorem dX11_hasByLie_61 : decode cX11_hasByLie 61 = .ok (.imul, 1) := by decide +kernel
theorem dX11_hasByLie_62 : decode cX11_hasByLie 62 = .ok (.iload 5, 2) := by decide +kernel
theorem dX11_hasByLie_64 : decode cX11_hasByLie 64 = .ok (.iadd, 1) := by decide +kernel
theorem dX11_hasByLie_65 : decode cX11_hasByLie 65 = .ok (.aload_n 0, 1) := by decide +kernel
theorem dX11_hasByLie_66 : decode cX11_hasByLie 66 = .ok (.getfield 92, 3) := by decide +kernel
theorem dX11_hasByLie_69 : decode cX11_hasByLie 69 = .ok (.aload_n 0, 1) := by decide +kernel
theorem dX11_hasByLie_70 : decode cX11_hasByLie 70 = .ok (.getfield 82, 3) := by decide +kernel
theorem dX11_hasByLie_73 : decode cX11_hasByLie 73 = .ok (.iload 5, 2) := by decide +kernel
theorem dX11_hasByLie_75 : decode cX11_hasByLie 75 = .ok (.iload_n 1, 1) := by decide +kernel
theorem dX11_hasByLie_76 : decode cX11_hasByLie 76 = .ok (.aload_n 0, 1) := by decide +kernel
theorem dX11_hasByLie_77 : decode cX11_hasByLie 77 = .ok (.getfield 26, 3) := by decide +kernel
theorem dX11_hasByLie_80 : decode cX11_hasByLie 80 = .ok (.getfield 198, 3) := by decide +kernel
theorem dX11_hasByLie_83 : decode cX11_hasByLie 83 = .ok (.iload_n 1, 1) := by decide +kernel
theorem dX11_hasByLie_84 : decode cX11_hasByLie 84 = .ok (.iconst 3, 1) := by decide +kernel
theorem dX11_hasByLie_85 : decode cX11_hasByLie 85 = .ok (.imul, 1) := by decide +kernel
theorem dX11_hasByLie_86 : decode cX11_hasByLie 86 = .ok (.invokevirtual 422, 3) := by decide +kernel
theorem dX11_hasByLie_89 : decode cX11_hasByLie 89 = .ok (.iastore, 1) := by decide +kernel
theorem dX11_hasByLie_90 : decode cX11_hasByLie 90 = .ok (.iinc 5 1, 3) := by decide +kernel
theorem dX11_hasByLie_93 : decode cX11_hasByLie 93 = .ok (.goto (-54), 3) := by decide +kernel
theorem dX11_hasByLie_96 : decode cX11_hasByLie 96 = .ok (.aload_n 0, 1) := by decide +kernel
theorem dX11_hasByLie_97 : decode cX11_hasByLie 97 = .ok (.getfield 26, 3) := by decide +kernel
theorem dX11_hasByLie_100 : decode cX11_hasByLie 100 = .ok (.getfield 198, 3) := by decide +kernel
theorem dX11_hasByLie_103 : decode cX11_hasByLie 103 = .ok (.iload_n 1, 1) := by decide +kernel
theorem dX11_hasByLie_104 : decode cX11_hasByLie 104 = .ok (.iconst 3, 1) := by decide +kernel
theorem dX11_hasByLie_105 : decode cX11_hasByLie 105 = .ok (.imul, 1) := by decide +kernel
theorem dX11_hasByLie_106 : decode cX11_hasByLie 106 = .ok (.iload_n 2, 1) := by decide +kernel
theorem dX11_hasByLie_107 : decode cX11_hasByLie 107 = .ok (.iadd, 1) := by decide +kernel
theorem dX11_hasByLie_108 : decode cX11_hasByLie 108 = .ok (.iload 4, 2) := by decide +kernel
theorem dX11_hasByLie_110 : decode cX11_hasByLie 110 = .ok (.iastore, 1) := by decide +kernel
theorem dX11_hasByLie_111 : decode cX11_hasByLie 111 = .ok (.aload_n 0, 1) := by decide +kernel
theorem dX11_hasByLie_112 : decode cX11_hasByLie 112 = .ok (.getfield 68, 3) := by decide +kernel
theorem dX11_hasByLie_115 : decode cX11_hasByLie 115 = .ok (.aload_n 0, 1) := by decide +kernel
theorem dX11_hasByLie_116 : decode cX11_hasByLie 116 = .ok (.getfield 33, 3) := by decide +kernel
theorem dX11_hasByLie_119 : decode cX11_hasByLie 119 = .ok (.invokevirtual 298, 3) := by decide +kernel
theorem dX11_hasByLie_122 : decode cX11_hasByLie 122 = .ok (.pop, 1) := by decide +kernel
theorem dX11_hasByLie_123 : decode cX11_hasByLie 123 = .ok (.aload_n 0, 1) := by decide +kernel
theorem dX11_hasByLie_124 : decode cX11_hasByLie 124 = .ok (.getfield 68, 3) := by decide +kernel
theorem dX11_hasByLie_127 : decode cX11_hasByLie 127 = .ok (.getfield 302, 3) := by decide +kernel
theorem dX11_hasByLie_130 : decode cX11_hasByLie 130 = .ok (.iload_n 1, 1) := by decide +kernel
theorem dX11_hasByLie_131 : decode cX11_hasByLie 131 = .ok (.iaload, 1) := by decide +kernel
theorem dX11_hasByLie_132 : decode cX11_hasByLie 132 = .ok (.ireturn, 1) := by decide +kernel
def xX11_hasByLie_96 (s_X3_tasteOf : zq_Sp) (s_X9_startTaking : zq_Sp) (s_X6_worthOf : zq_Sp) (s_X9_takeAll : zq_Sp) (J39 : zq_P) (Q : zq_Q) (ls : zq_L) (st : List Value) (h : zq_H) : Prop := (zi_aload 0 (zi_getR 0 5 (zi_getR 5 6 (zi_iload 1 (zi_push (.int 3) (zi_i2 (fun x y => x * y) (zi_iload 2 (zi_i2 (fun x y => x + y) (zi_iload 4 (zi_astI 6 18 (zi_aload 0 (zi_getR 0 34 (zi_aload 0 (zi_getR 0 9 (zi_callV 1 34 s_X9_takeAll (zi_pop (zi_aload 0 (zi_getR 0 34 (zi_getR 34 37 (zi_iload 1 (zi_aldI 37 6 (zi_iret Q)))))))))))))))))))))) ls st h
theorem kX11_hasByLie_96 {X : zq_X} {d : Nat} (C : zq_C X cX11_hasByLie 6 RX11 d) {d_X3_tasteOf : Nat} {s_X3_tasteOf : zq_Sp} (h_X3_tasteOf : zq_M yX3_tasteOf cX3_tasteOf 3 (some .int) 1 d_X3_tasteOf s_X3_tasteOf) (g_X3_tasteOf : d_X3_tasteOf + 1 ≤ d) {d_X9_startTaking : Nat} {s_X9_startTaking : zq_Sp} (h_X9_startTaking : zq_M yX9_startTaking cX9_startTaking 2 none 0 d_X9_startTaking s_X9_startTaking) (g_X9_startTaking : d_X9_startTaking + 1 ≤ d) {d_X6_worthOf : Nat} {s_X6_worthOf : zq_Sp} (h_X6_worthOf : zq_M yX6_worthOf cX6_worthOf 7 (some .int) 1 d_X6_worthOf s_X6_worthOf) (g_X6_worthOf : d_X6_worthOf + 1 ≤ d) {d_X9_takeAll : Nat} {s_X9_takeAll : zq_Sp} (h_X9_takeAll : zq_M yX9_takeAll cX9_takeAll 7 (some .int) 1 d_X9_takeAll s_X9_takeAll) (g_X9_takeAll : d_X9_takeAll + 1 ≤ d) {J39 : zq_P} (j39 : zq_ok X 6 39 J39) {Q : zq_Q} (hq : zq_R X (some .int) 1 Q) : zq_ok X 6 96 (xX11_hasByLie_96 s_X3_tasteOf s_X9_startTaking s_X6_worthOf s_X9_takeAll J39 Q) := by
  refine zs_aload_n C dX11_hasByLie_96 rfl ?_
  refine zs_getR C zp_0 zF11 (j := 2) ⟨by decide, rfl⟩ zw_317 dX11_hasByLie_97 ?_
  refine zs_getRN C zp_5 zF3 (j := 0) ⟨by decide, rfl⟩ zw_79 dX11_hasByLie_100 ?_
  refine zs_iload_n C dX11_hasByLie_103 rfl ?_
  refine zs_iconst C dX11_hasByLie_104 (by decide) ?_
  refine zs_imul C dX11_hasByLie_105 ?_
  refine zs_iload_n C dX11_hasByLie_106 rfl ?_
  refine zs_iadd C dX11_hasByLie_107 ?_
  refine zs_iload C dX11_hasByLie_108 ?_
  refine zs_iastore C zp_6 dX11_hasByLie_110 ?_
  refine zs_aload_n C dX11_hasByLie_111 rfl ?_
  refine zs_getR C zp_0 zF11 (j := 8) ⟨by decide, rfl⟩ zw_323 dX11_hasByLie_112 ?_
  refine zs_aload_n C dX11_hasByLie_115 rfl ?_
  refine zs_getR C zp_0 zF11 (j := 3) ⟨by decide, rfl⟩ zw_318 dX11_hasByLie_116 ?_
  refine zs_callV C h_X9_takeAll g_X9_takeAll zy_X9_takeAll zp_34 (show vwCl[9]? = some (RX9, TX9, 4) from rfl) zw_857 zw_858 zs9_X9_takeAll dX11_hasByLie_119 ?_
  refine zs_pop C dX11_hasByLie_122 ?_
  refine zs_aload_n C dX11_hasByLie_123 rfl ?_
  refine zs_getR C zp_0 zF11 (j := 8) ⟨by decide, rfl⟩ zw_323 dX11_hasByLie_124 ?_
  refine zs_getRN C zp_34 zF9 (j := 2) ⟨by decide, rfl⟩ zw_243 dX11_hasByLie_127 ?_
  refine zs_iload_n C dX11_hasByLie_130 rfl ?_
  refine zs_iaload C zp_37 dX11_hasByLie_131 ?_
  exact zs_iret C hq dX11_hasByLie_132
def xX11_hasByLie_51 (s_X3_tasteOf : zq_Sp) (s_X9_startTaking : zq_Sp) (s_X6_worthOf : zq_Sp) (s_X9_takeAll : zq_Sp) (J39 : zq_P) (Q : zq_Q) (ls : zq_L) (st : List Value) (h : zq_H) : Prop := (zi_aload 0 (zi_getR 0 34 (zi_getR 34 36 (zi_iload 1 (zi_push (.int 16) (zi_i2 (fun x y => x * y) (zi_iload 5 (zi_i2 (fun x y => x + y) (zi_aload 0 (zi_getR 0 48 (zi_aload 0 (zi_getR 0 40 (zi_iload 5 (zi_iload 1 (zi_aload 0 (zi_getR 0 5 (zi_getR 5 6 (zi_iload 1 (zi_push (.int 3) (zi_i2 (fun x y => x * y) (zi_callV 5 48 s_X6_worthOf (zi_astI 36 96 (zi_iinc 5 1 (J39)))))))))))))))))))))))) ls st h
theorem kX11_hasByLie_51 {X : zq_X} {d : Nat} (C : zq_C X cX11_hasByLie 6 RX11 d) {d_X3_tasteOf : Nat} {s_X3_tasteOf : zq_Sp} (h_X3_tasteOf : zq_M yX3_tasteOf cX3_tasteOf 3 (some .int) 1 d_X3_tasteOf s_X3_tasteOf) (g_X3_tasteOf : d_X3_tasteOf + 1 ≤ d) {d_X9_startTaking : Nat} {s_X9_startTaking : zq_Sp} (h_X9_startTaking : zq_M yX9_startTaking cX9_startTaking 2 none 0 d_X9_startTaking s_X9_startTaking) (g_X9_startTaking : d_X9_startTaking + 1 ≤ d) {d_X6_worthOf : Nat} {s_X6_worthOf : zq_Sp} (h_X6_worthOf : zq_M yX6_worthOf cX6_worthOf 7 (some .int) 1 d_X6_worthOf s_X6_worthOf) (g_X6_worthOf : d_X6_worthOf + 1 ≤ d) {d_X9_takeAll : Nat} {s_X9_takeAll : zq_Sp} (h_X9_takeAll : zq_M yX9_takeAll cX9_takeAll 7 (some .int) 1 d_X9_takeAll s_X9_takeAll) (g_X9_takeAll : d_X9_takeAll + 1 ≤ d) {J39 : zq_P} (j39 : zq_ok X 6 39 J39) {Q : zq_Q} (hq : zq_R X (some .int) 1 Q) : zq_ok X 6 51 (xX11_hasByLie_51 s_X3_tasteOf s_X9_startTaking s_X6_worthOf s_X9_takeAll J39 Q) := by
  refine zs_aload_n C dX11_hasByLie_51 rfl ?_
  refine zs_getR C zp_0 zF11 (j := 8) ⟨by decide, rfl⟩ zw_323 dX11_hasByLie_52 ?_
  refine zs_getRN C zp_34 zF9 (j := 1) ⟨by decide, rfl⟩ zw_241 dX11_hasByLie_55 ?_
  refine zs_iload_n C dX11_hasByLie_58 rfl ?_
  refine zs_bipush C dX11_hasByLie_59 (by decide) ?_
  refine zs_imul C dX11_hasByLie_61 ?_
  refine zs_iload C dX11_hasByLie_62 ?_
  refine zs_iadd C dX11_hasByLie_64 ?_
  refine zs_aload_n C dX11_hasByLie_65 rfl ?_
  refine zs_getR C zp_0 zF11 (j := 13) ⟨by decide, rfl⟩ zw_328 dX11_hasByLie_66 ?_
  refine zs_aload_n C dX11_hasByLie_69 rfl ?_
  refine zs_getR C zp_0 zF11 (j := 11) ⟨by decide, rfl⟩ zw_326 dX11_hasByLie_70 ?_
  refine zs_iload C dX11_hasByLie_73 ?_
  refine zs_iload_n C dX11_hasByLie_75 rfl ?_
  refine zs_aload_n C dX11_hasByLie_76 rfl ?_
  refine zs_getR C zp_0 zF11 (j := 2) ⟨by decide, rfl⟩ zw_317 dX11_hasByLie_77 ?_
  refine zs_getRN C zp_5 zF3 (j := 0) ⟨by decide, rfl⟩ zw_79 dX11_hasByLie_80 ?_
  refine zs_iload_n C dX11_hasByLie_83 rfl ?_
  refine zs_iconst C dX11_hasByLie_84 (by decide) ?_
  refine zs_imul C dX11_hasByLie_85 ?_
  refine zs_callV C h_X6_worthOf g_X6_worthOf zy_X6_worthOf zp_48 (show vwCl[6]? = some (RX6, TX6, 8) from rfl) zw_874 zw_436 zs9_X6_worthOf dX11_hasByLie_86 ?_
  refine zs_iastore C zp_36 dX11_hasByLie_89 ?_
  refine zs_iinc C dX11_hasByLie_90 (by decide) (by decide) ?_
  exact zs_goto C dX11_hasByLie_93 (by decide) (j39)
def xX11_hasByLie_39 (s_X3_tasteOf : zq_Sp) (s_X9_startTaking : zq_Sp) (s_X6_worthOf : zq_Sp) (s_X9_takeAll : zq_Sp) (J39 : zq_P) (Q : zq_Q) (ls : zq_L) (st : List Value) (h : zq_H) : Prop := (zi_iload 5 (zi_aload 0 (zi_getR 0 40 (zi_getI 40 3 (zi_if2 (fun x y => y ≤ x) (xX11_hasByLie_96 s_X3_tasteOf s_X9_startTaking s_X6_worthOf s_X9_takeAll J39 Q) (xX11_hasByLie_51 s_X3_tasteOf s_X9_startTaking s_X6_worthOf s_X9_takeAll J39 Q)))))) ls st h
theorem kX11_hasByLie_39 {X : zq_X} {d : Nat} (C : zq_C X cX11_hasByLie 6 RX11 d) {d_X3_tasteOf : Nat} {s_X3_tasteOf : zq_Sp} (h_X3_tasteOf : zq_M yX3_tasteOf cX3_tasteOf 3 (some .int) 1 d_X3_tasteOf s_X3_tasteOf) (g_X3_tasteOf : d_X3_tasteOf + 1 ≤ d) {d_X9_startTaking : Nat} {s_X9_startTaking : zq_Sp} (h_X9_startTaking : zq_M yX9_startTaking cX9_startTaking 2 none 0 d_X9_startTaking s_X9_startTaking) (g_X9_startTaking : d_X9_startTaking + 1 ≤ d) {d_X6_worthOf : Nat} {s_X6_worthOf : zq_Sp} (h_X6_worthOf : zq_M yX6_worthOf cX6_worthOf 7 (some .int) 1 d_X6_worthOf s_X6_worthOf) (g_X6_worthOf : d_X6_worthOf + 1 ≤ d) {d_X9_takeAll : Nat} {s_X9_takeAll : zq_Sp} (h_X9_takeAll : zq_M yX9_takeAll cX9_takeAll 7 (some .int) 1 d_X9_takeAll s_X9_takeAll) (g_X9_takeAll : d_X9_takeAll + 1 ≤ d) {J39 : zq_P} (j39 : zq_ok X 6 39 J39) {Q : zq_Q} (hq : zq_R X (some .int) 1 Q) : zq_ok X 6 39 (xX11_hasByLie_39 s_X3_tasteOf s_X9_startTaking s_X6_worthOf s_X9_takeAll J39 Q) := by
  refine zs_iload C dX11_hasByLie_39 ?_
  refine zs_aload_n C dX11_hasByLie_41 rfl ?_
  refine zs_getR C zp_0 zF11 (j := 11) ⟨by decide, rfl⟩ zw_326 dX11_hasByLie_42 ?_
  refine zs_getIN C zp_40 zF2 (j := 3) ⟨by decide, rfl⟩ zw_273 dX11_hasByLie_45 ?_
  exact zs_icmp_ge C dX11_hasByLie_48 (by decide) (kX11_hasByLie_96 C h_X3_tasteOf g_X3_tasteOf h_X9_startTaking g_X9_startTaking h_X6_worthOf g_X6_worthOf h_X9_takeAll g_X9_takeAll j39 hq) (kX11_hasByLie_51 C h_X3_tasteOf g_X3_tasteOf h_X9_startTaking g_X9_startTaking h_X6_worthOf g_X6_worthOf h_X9_takeAll g_X9_takeAll j39 hq)
def xX11_hasByLie_0 (s_X3_tasteOf : zq_Sp) (s_X9_startTaking : zq_Sp) (s_X6_worthOf : zq_Sp) (s_X9_takeAll : zq_Sp) (J39 : zq_P) (Q : zq_Q) (ls : zq_L) (st : List Value) (h : zq_H) : Prop := (zi_aload 0 (zi_getR 0 5 (zi_iload 1 (zi_iload 2 (zi_callV 2 5 s_X3_tasteOf (zi_istore 4 (zi_aload 0 (zi_getR 0 5 (zi_getR 5 6 (zi_iload 1 (zi_push (.int 3) (zi_i2 (fun x y => x * y) (zi_iload 2 (zi_i2 (fun x y => x + y) (zi_iload 3 (zi_astI 6 18 (zi_aload 0 (zi_getR 0 34 (zi_aload 0 (zi_getR 0 9 (zi_callV 1 34 s_X9_startTaking (zi_push (.int 0) (zi_istore 5 (J39)))))))))))))))))))))))) ls st h
theorem kX11_hasByLie_0 {X : zq_X} {d : Nat} (C : zq_C X cX11_hasByLie 6 RX11 d) {d_X3_tasteOf : Nat} {s_X3_tasteOf : zq_Sp} (h_X3_tasteOf : zq_M yX3_tasteOf cX3_tasteOf 3 (some .int) 1 d_X3_tasteOf s_X3_tasteOf) (g_X3_tasteOf : d_X3_tasteOf + 1 ≤ d) {d_X9_startTaking : Nat} {s_X9_startTaking : zq_Sp} (h_X9_startTaking : zq_M yX9_startTaking cX9_startTaking 2 none 0 d_X9_startTaking s_X9_startTaking) (g_X9_startTaking : d_X9_startTaking + 1 ≤ d) {d_X6_worthOf : Nat} {s_X6_worthOf : zq_Sp} (h_X6_worthOf : zq_M yX6_worthOf cX6_worthOf 7 (some .int) 1 d_X6_worthOf s_X6_worthOf) (g_X6_worthOf : d_X6_worthOf + 1 ≤ d) {d_X9_takeAll : Nat} {s_X9_takeAll : zq_Sp} (h_X9_takeAll : zq_M yX9_takeAll cX9_takeAll 7 (some .int) 1 d_X9_takeAll s_X9_takeAll) (g_X9_takeAll : d_X9_takeAll + 1 ≤ d) {J39 : zq_P} (j39 : zq_ok X 6 39 J39) {Q : zq_Q} (hq : zq_R X (some .int) 1 Q) : zq_ok X 6 0 (xX11_hasByLie_0 s_X3_tasteOf s_X9_startTaking s_X6_worthOf s_X9_takeAll J39 Q) := by
  refine zs_aload_n C dX11_hasByLie_0 rfl ?_
  refine zs_getR C zp_0 zF11 (j := 2) ⟨by decide, rfl⟩ zw_317 dX11_hasByLie_1 ?_
  refine zs_iload_n C dX11_hasByLie_4 rfl ?_
  refine zs_iload_n C dX11_hasByLie_5 rfl ?_
  refine zs_callV C h_X3_tasteOf g_X3_tasteOf zy_X3_tasteOf zp_5 (show vwCl[3]? = some (RX3, TX3, 4) from rfl) zw_562 zw_563 zs9_X3_tasteOf dX11_hasByLie_6 ?_
  refine zs_istore C dX11_hasByLie_9 (by decide) ?_
  refine zs_aload_n C dX11_hasByLie_11 rfl ?_
  refine zs_getR C zp_0 zF11 (j := 2) ⟨by decide, rfl⟩ zw_317 dX11_hasByLie_12 ?_
  refine zs_getRN C zp_5 zF3 (j := 0) ⟨by decide, rfl⟩ zw_79 dX11_hasByLie_15 ?_
  refine zs_iload_n C dX11_hasByLie_18 rfl ?_
  refine zs_iconst C dX11_hasByLie_19 (by decide) ?_
  refine zs_imul C dX11_hasByLie_20 ?_
  refine zs_iload_n C dX11_hasByLie_21 rfl ?_
  refine zs_iadd C dX11_hasByLie_22 ?_
  refine zs_iload_n C dX11_hasByLie_23 rfl ?_
  refine zs_iastore C zp_6 dX11_hasByLie_24 ?_
  refine zs_aload_n C dX11_hasByLie_25 rfl ?_
  refine zs_getR C zp_0 zF11 (j := 8) ⟨by decide, rfl⟩ zw_323 dX11_hasByLie_26 ?_
  refine zs_aload_n C dX11_hasByLie_29 rfl ?_
  refine zs_getR C zp_0 zF11 (j := 3) ⟨by decide, rfl⟩ zw_318 dX11_hasByLie_30 ?_
  refine zs_callV C h_X9_startTaking g_X9_startTaking zy_X9_startTaking zp_34 (show vwCl[9]? = some (RX9, TX9, 4) from rfl) zw_851 zw_852 zs9_X9_startTaking dX11_hasByLie_33 ?_
  refine zs_iconst C dX11_hasByLie_36 (by decide) ?_
  refine zs_istore C dX11_hasByLie_37 (by decide) ?_
  exact j39
theorem mX11_hasByLie {d : Nat} {spec : zq_Sp} {σ39 : Type} {d_X3_tasteOf : Nat} {s_X3_tasteOf : zq_Sp} (h_X3_tasteOf : zq_M yX3_tasteOf cX3_tasteOf 3 (some .int) 1 d_X3_tasteOf s_X3_tasteOf) (g_X3_tasteOf : d_X3_tasteOf + 1 ≤ d) {d_X9_startTaking : Nat} {s_X9_startTaking : zq_Sp} (h_X9_startTaking : zq_M yX9_startTaking cX9_startTaking 2 none 0 d_X9_startTaking s_X9_startTaking) (g_X9_startTaking : d_X9_startTaking + 1 ≤ d) {d_X6_worthOf : Nat} {s_X6_worthOf : zq_Sp} (h_X6_worthOf : zq_M yX6_worthOf cX6_worthOf 7 (some .int) 1 d_X6_worthOf s_X6_worthOf) (g_X6_worthOf : d_X6_worthOf + 1 ≤ d) {d_X9_takeAll : Nat} {s_X9_takeAll : zq_Sp} (h_X9_takeAll : zq_M yX9_takeAll cX9_takeAll 7 (some .int) 1 d_X9_takeAll s_X9_takeAll) (g_X9_takeAll : d_X9_takeAll + 1 ≤ d) (μ39 : σ39 → Nat) (I39 : zq_Q → σ39 → zq_P) (v : ∀ args h Q, spec args h Q → (zq_a args).length ≤ 6 ∧ xX11_hasByLie_0 s_X3_tasteOf s_X9_startTaking s_X6_worthOf s_X9_takeAll (fun ls st h => ∃ b, I39 Q b ls st h) Q (zq_l0 6 args) [] h) (v39 : ∀ Q a ls st h, I39 Q a ls st h → xX11_hasByLie_39 s_X3_tasteOf s_X9_startTaking s_X6_worthOf s_X9_takeAll (fun ls st h => ∃ b, μ39 b < μ39 a ∧ I39 Q b ls st h) Q ls st h) : zq_M yX11_hasByLie cX11_hasByLie 6 (some .int) 1 d spec := by
  refine zq_met (by decide +kernel) (by decide) (fun X Q args h C hq hs => ⟨(v args h Q hs).1, _, ?_, (v args h Q hs).2⟩)
  have hl := zq_loop1 (X := X) (nL := 6) (pc1 := 39) μ39 (I39 Q) (fun J39 => xX11_hasByLie_39 s_X3_tasteOf s_X9_startTaking s_X6_worthOf s_X9_takeAll J39 Q) (fun j39 => kX11_hasByLie_39 C h_X3_tasteOf g_X3_tasteOf h_X9_startTaking g_X9_startTaking h_X6_worthOf g_X6_worthOf h_X9_takeAll g_X9_takeAll j39 hq) (v39 Q)
  exact kX11_hasByLie_0 C h_X3_tasteOf g_X3_tasteOf h_X9_startTaking g_X9_startTaking h_X6_worthOf g_X6_worthOf h_X9_takeAll g_X9_takeAll hl hq
