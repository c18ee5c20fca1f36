/-! ToOneCrumb$Party.tasteOf(II)I -/
theorem dX3_tasteOf_0 : decode cX3_tasteOf 0 = .ok (.aload_n 0, 1) := by decide +kernel
theorem dX3_tasteOf_1 : decode cX3_tasteOf 1 = .ok (.getfield 9, 3) := by decide +kernel
theorem dX3_tasteOf_4 : decode cX3_tasteOf 4 = .ok (.iload_n 1, 1) := by decide +kernel
theorem dX3_tasteOf_5 : decode cX3_tasteOf 5 = .ok (.iconst 3, 1) := by decide +kernel
theorem dX3_tasteOf_6 : decode cX3_tasteOf 6 = .ok (.imul, 1) := by decide +kernel
theorem dX3_tasteOf_7 : decode cX3_tasteOf 7 = .ok (.iload_n 2, 1) := by decide +kernel
theorem dX3_tasteOf_8 : decode cX3_tasteOf 8 = .ok (.iadd, 1) := by decide +kernel
theorem dX3_tasteOf_9 : decode cX3_tasteOf 9 = .ok (.iaload, 1) := by decide +kernel
theorem dX3_tasteOf_10 : decode cX3_tasteOf 10 = .ok (.ireturn, 1) := by decide +kernel
def xX3_tasteOf_0 (Q : zq_Q) (ls : zq_L) (st : List Value) (h : zq_H) : Prop := (zi_aload 0 (zi_getR 5 6 (zi_iload 1 (zi_push (.int 3) (zi_i2 (fun x y => x * y) (zi_iload 2 (zi_i2 (fun x y => x + y) (zi_aldI 6 18 (zi_iret Q))))))))) ls st h
theorem kX3_tasteOf_0 {X : zq_X} {d : Nat} (C : zq_C X cX3_tasteOf 3 RX3 d) {Q : zq_Q} (hq : zq_R X (some .int) 1 Q) : zq_ok X 3 0 (xX3_tasteOf_0 Q) := by
  refine zs_aload_n C dX3_tasteOf_0 rfl ?_
  refine zs_getR C zp_5 zF3 (j := 0) ⟨by decide, rfl⟩ zw_77 dX3_tasteOf_1 ?_
  refine zs_iload_n C dX3_tasteOf_4 rfl ?_
  refine zs_iconst C dX3_tasteOf_5 (by decide) ?_
  refine zs_imul C dX3_tasteOf_6 ?_
  refine zs_iload_n C dX3_tasteOf_7 rfl ?_
  refine zs_iadd C dX3_tasteOf_8 ?_
  refine zs_iaload C zp_6 dX3_tasteOf_9 ?_
  exact zs_iret C hq dX3_tasteOf_10
theorem mX3_tasteOf {d : Nat} {spec : zq_Sp} (v : ∀ args h Q, spec args h Q → (zq_a args).length ≤ 3 ∧ xX3_tasteOf_0 Q (zq_l0 3 args) [] h) : zq_M yX3_tasteOf cX3_tasteOf 3 (some .int) 1 d spec := by
  refine zq_met (by decide +kernel) (by decide) (fun X Q args h C hq hs => ⟨(v args h Q hs).1, _, ?_, (v args h Q hs).2⟩)
  exact kX3_tasteOf_0 C hq
/-! ToOneCrumb$Party.readLines(LToOneCrumb$Text;)I -/
theorem dX3_readLines_0 : decode cX3_readLines 0 = .ok (.aload_n 1, 1) := by decide +kernel
theorem dX3_readLines_1 : decode cX3_readLines 1 = .ok (.bipush 23, 2) := by decide +kernel
theorem dX3_readLines_3 : decode cX3_readLines 3 = .ok (.invokevirtual 21, 3) := by decide +kernel
theorem dX3_readLines_6 : decode cX3_readLines 6 = .ok (.aload_n 1, 1) := by decide +kernel
theorem dX3_readLines_7 : decode cX3_readLines 7 = .ok (.invokevirtual 27, 3) := by decide +kernel
theorem dX3_readLines_10 : decode cX3_readLines 10 = .ok (.ifCond .eq 5, 3) := by decide +kernel
theorem dX3_readLines_13 : decode cX3_readLines 13 = .ok (.iconst 0, 1) := by decide +kernel
theorem dX3_readLines_14 : decode cX3_readLines 14 = .ok (.ireturn, 1) := by decide +kernel
theorem dX3_readLines_15 : decode cX3_readLines 15 = .ok (.aload_n 0, 1) := by decide +kernel
theorem dX3_readLines_16 : decode cX3_readLines 16 = .ok (.getfield 31, 3) := by decide +kernel
theorem dX3_readLines_19 : decode cX3_readLines 19 = .ok (.istore_n 2, 1) := by decide +kernel
theorem dX3_readLines_20 : decode cX3_readLines 20 = .ok (.iload_n 2, 1) := by decide +kernel
theorem dX3_readLines_21 : decode cX3_readLines 21 = .ok (.bipush 6, 2) := by decide +kernel
theorem dX3_readLines_23 : decode cX3_readLines 23 = .ok (.if_icmp .ge 77, 3) := by decide +kernel
theorem dX3_readLines_26 : decode cX3_readLines 26 = .ok (.iconst 0, 1) := by decide +kernel
theorem dX3_readLines_27 : decode cX3_readLines 27 = .ok (.istore_n 3, 1) := by decide +kernel
theorem dX3_readLines_28 : decode cX3_readLines 28 = .ok (.iload_n 3, 1) := by decide +kernel
theorem dX3_readLines_29 : decode cX3_readLines 29 = .ok (.iconst 3, 1) := by decide +kernel
theorem dX3_readLines_30 : decode cX3_readLines 30 = .ok (.if_icmp .ge 35, 3) := by decide +kernel
theorem dX3_readLines_33 : decode cX3_readLines 33 = .ok (.aload_n 1, 1) := by decide +kernel
theorem dX3_readLines_34 : decode cX3_readLines 34 = .ok (.iconst 0, 1) := by decide +kernel
theorem dX3_readLines_35 : decode cX3_readLines 35 = .ok (.invokevirtual 35, 3) := by decide +kernel
theorem dX3_readLines_38 : decode cX3_readLines 38 = .ok (.istore 4, 2) := by decide +kernel
theorem dX3_readLines_40 : decode cX3_readLines 40 = .ok (.iload 4, 2) := by decide +kernel
theorem dX3_readLines_42 : decode cX3_readLines 42 = .ok (.ifCond .ge 5, 3) := by decide +kernel
theorem dX3_readLines_45 : decode cX3_readLines 45 = .ok (.iconst (-1), 1) := by decide +kernel
theorem dX3_readLines_46 : decode cX3_readLines 46 = .ok (.ireturn, 1) := by decide +kernel
theorem dX3_readLines_47 : decode cX3_readLines 47 = .ok (.aload_n 0, 1) := by decide +kernel
theorem dX3_readLines_48 : decode cX3_readLines 48 = .ok (.getfield 9, 3) := by decide +kernel
theorem dX3_readLines_51 : decode cX3_readLines 51 = .ok (.iload_n 2, 1) := by decide +kernel
theorem dX3_readLines_52 : decode cX3_readLines 52 = .ok (.iconst 3, 1) := by decide +kernel
theorem dX3_readLines_53 : decode cX3_readLines 53 = .ok (.imul, 1) := by decide +kernel
theorem dX3_readLines_54 : decode cX3_readLines 54 = .ok (.iload_n 3, 1) := by decide +kernel
theorem dX3_readLines_55 : decode cX3_readLines 55 = .ok (.iadd, 1) := by decide +kernel
theorem dX3_readLines_56 : decode cX3_readLines 56 = .ok (.iload 4, 2) := by decide +kernel
theorem dX3_readLines_58 : decode cX3_readLines 58 = .ok (.iastore, 1) := by decide +kernel
theorem dX3_readLines_59 : decode cX3_readLines 59 = .ok (.iinc 3 1, 3) := by decide +kernel
theorem dX3_readLines_62 : decode cX3_readLines 62 = .ok (.goto (-34), 3) := by decide +kernel
theorem dX3_readLines_65 : decode cX3_readLines 65 = .ok (.aload_n 1, 1) := by decide +kernel
theorem dX3_readLines_66 : decode cX3_readLines 66 = .ok (.bipush 59, 2) := by decide +kernel
theorem dX3_readLines_68 : decode cX3_readLines 68 = .ok (.invokevirtual 39, 3) := by decide +kernel
theorem dX3_readLines_71 : decode cX3_readLines 71 = .ok (.ifCond .ne 23, 3) := by decide +kernel
theorem dX3_readLines_74 : decode cX3_readLines 74 = .ok (.aload_n 1, 1) := by decide +kernel
theorem dX3_readLines_75 : decode cX3_readLines 75 = .ok (.invokevirtual 27, 3) := by decide +kernel
theorem dX3_readLines_78 : decode cX3_readLines 78 = .ok (.ifCond .eq 14, 3) := by decide +kernel
theorem dX3_readLines_81 : decode cX3_readLines 81 = .ok (.iload_n 2, 1) := by decide +kernel
theorem dX3_readLines_82 : decode cX3_readLines 82 = .ok (.iconst 1, 1) := by decide +kernel
theorem dX3_readLines_83 : decode cX3_readLines 83 = .ok (.iadd, 1) := by decide +kernel
theorem dX3_readLines_84 : decode cX3_readLines 84 = .ok (.aload_n 0, 1) := by decide +kernel
theorem dX3_readLines_85 : decode cX3_readLines 85 = .ok (.getfield 31, 3) := by decide +kernel
theorem dX3_readLines_88 : decode cX3_readLines 88 = .ok (.isub, 1) := by decide +kernel
theorem dX3_readLines_89 : decode cX3_readLines 89 = .ok (.goto 4, 3) := by decide +kernel
theorem dX3_readLines_92 : decode cX3_readLines 92 = .ok (.iconst (-1), 1) := by decide +kernel
theorem dX3_readLines_93 : decode cX3_readLines 93 = .ok (.ireturn, 1) := by decide +kernel
theorem dX3_readLines_94 : decode cX3_readLines 94 = .ok (.iinc 2 1, 3) := by decide +kernel
theorem dX3_readLines_97 : decode cX3_readLines 97 = .ok (.goto (-77), 3) := by decide +kernel
theorem dX3_readLines_100 : decode cX3_readLines 100 = .ok (.iconst (-1), 1) := by decide +kernel
theorem dX3_readLines_101 : decode cX3_readLines 101 = .ok (.ireturn, 1) := by decide +kernel
def xX3_readLines_100 (s_X8_start : zq_Sp) (s_X8_isFinished : zq_Sp) (s_X8_takeDigit : zq_Sp) (s_X8_skip : zq_Sp) (J20 : zq_P) (J28 : zq_P) (Q : zq_Q) (ls : zq_L) (st : List Value) (h : zq_H) : Prop := (zi_push (.int (-1)) (zi_iret Q)) ls st h
theorem kX3_readLines_100 {X : zq_X} {d : Nat} (C : zq_C X cX3_readLines 5 RX3 d) {d_X8_start : Nat} {s_X8_start : zq_Sp} (h_X8_start : zq_M yX8_start cX8_start 2 none 0 d_X8_start s_X8_start) (g_X8_start : d_X8_start + 1 ≤ d) {d_X8_isFinished : Nat} {s_X8_isFinished : zq_Sp} (h_X8_isFinished : zq_M yX8_isFinished cX8_isFinished 1 (some .boolean) 1 d_X8_isFinished s_X8_isFinished) (g_X8_isFinished : d_X8_isFinished + 1 ≤ d) {d_X8_takeDigit : Nat} {s_X8_takeDigit : zq_Sp} (h_X8_takeDigit : zq_M yX8_takeDigit cX8_takeDigit 3 (some .int) 1 d_X8_takeDigit s_X8_takeDigit) (g_X8_takeDigit : d_X8_takeDigit + 1 ≤ d) {d_X8_skip : Nat} {s_X8_skip : zq_Sp} (h_X8_skip : zq_M yX8_skip cX8_skip 2 (some .boolean) 1 d_X8_skip s_X8_skip) (g_X8_skip : d_X8_skip + 1 ≤ d) {J20 : zq_P} (j20 : zq_ok X 5 20 J20) {J28 : zq_P} (j28 : zq_ok X 5 28 J28) {Q : zq_Q} (hq : zq_R X (some .int) 1 Q) : zq_ok X 5 100 (xX3_readLines_100 s_X8_start s_X8_isFinished s_X8_takeDigit s_X8_skip J20 J28 Q) := by
  refine zs_iconst C dX3_readLines_100 (by decide) ?_
  exact zs_iret C hq dX3_readLines_101
def xX3_readLines_94 (s_X8_start : zq_Sp) (s_X8_isFinished : zq_Sp) (s_X8_takeDigit : zq_Sp) (s_X8_skip : zq_Sp) (J20 : zq_P) (J28 : zq_P) (Q : zq_Q) (ls : zq_L) (st : List Value) (h : zq_H) : Prop := (zi_iinc 2 1 (J20)) ls st h
theorem kX3_readLines_94 {X : zq_X} {d : Nat} (C : zq_C X cX3_readLines 5 RX3 d) {d_X8_start : Nat} {s_X8_start : zq_Sp} (h_X8_start : zq_M yX8_start cX8_start 2 none 0 d_X8_start s_X8_start) (g_X8_start : d_X8_start + 1 ≤ d) {d_X8_isFinished : Nat} {s_X8_isFinished : zq_Sp} (h_X8_isFinished : zq_M yX8_isFinished cX8_isFinished 1 (some .boolean) 1 d_X8_isFinished s_X8_isFinished) (g_X8_isFinished : d_X8_isFinished + 1 ≤ d) {d_X8_takeDigit : Nat} {s_X8_takeDigit : zq_Sp} (h_X8_takeDigit : zq_M yX8_takeDigit cX8_takeDigit 3 (some .int) 1 d_X8_takeDigit s_X8_takeDigit) (g_X8_takeDigit : d_X8_takeDigit + 1 ≤ d) {d_X8_skip : Nat} {s_X8_skip : zq_Sp} (h_X8_skip : zq_M yX8_skip cX8_skip 2 (some .boolean) 1 d_X8_skip s_X8_skip) (g_X8_skip : d_X8_skip + 1 ≤ d) {J20 : zq_P} (j20 : zq_ok X 5 20 J20) {J28 : zq_P} (j28 : zq_ok X 5 28 J28) {Q : zq_Q} (hq : zq_R X (some .int) 1 Q) : zq_ok X 5 94 (xX3_readLines_94 s_X8_start s_X8_isFinished s_X8_takeDigit s_X8_skip J20 J28 Q) := by
  refine zs_iinc C dX3_readLines_94 (by decide) (by decide) ?_
  exact zs_goto C dX3_readLines_97 (by decide) (j20)
def xX3_readLines_93 (s_X8_start : zq_Sp) (s_X8_isFinished : zq_Sp) (s_X8_takeDigit : zq_Sp) (s_X8_skip : zq_Sp) (J20 : zq_P) (J28 : zq_P) (Q : zq_Q) (ls : zq_L) (st : List Value) (h : zq_H) : Prop := (zi_iret Q) ls st h
theorem kX3_readLines_93 {X : zq_X} {d : Nat} (C : zq_C X cX3_readLines 5 RX3 d) {d_X8_start : Nat} {s_X8_start : zq_Sp} (h_X8_start : zq_M yX8_start cX8_start 2 none 0 d_X8_start s_X8_start) (g_X8_start : d_X8_start + 1 ≤ d) {d_X8_isFinished : Nat} {s_X8_isFinished : zq_Sp} (h_X8_isFinished : zq_M yX8_isFinished cX8_isFinished 1 (some .boolean) 1 d_X8_isFinished s_X8_isFinished) (g_X8_isFinished : d_X8_isFinished + 1 ≤ d) {d_X8_takeDigit : Nat} {s_X8_takeDigit : zq_Sp} (h_X8_takeDigit : zq_M yX8_takeDigit cX8_takeDigit 3 (some .int) 1 d_X8_takeDigit s_X8_takeDigit) (g_X8_takeDigit : d_X8_takeDigit + 1 ≤ d) {d_X8_skip : Nat} {s_X8_skip : zq_Sp} (h_X8_skip : zq_M yX8_skip cX8_skip 2 (some .boolean) 1 d_X8_skip s_X8_skip) (g_X8_skip : d_X8_skip + 1 ≤ d) {J20 : zq_P} (j20 : zq_ok X 5 20 J20) {J28 : zq_P} (j28 : zq_ok X 5 28 J28) {Q : zq_Q} (hq : zq_R X (some .int) 1 Q) : zq_ok X 5 93 (xX3_readLines_93 s_X8_start s_X8_isFinished s_X8_takeDigit s_X8_skip J20 J28 Q) := by
  exact zs_iret C hq dX3_readLines_93
def xX3_readLines_92 (s_X8_start : zq_Sp) (s_X8_isFinished : zq_Sp) (s_X8_takeDigit : zq_Sp) (s_X8_skip : zq_Sp) (J20 : zq_P) (J28 : zq_P) (Q : zq_Q) (ls : zq_L) (st : List Value) (h : zq_H) : Prop := (zi_push (.int (-1)) ((xX3_readLines_93 s_X8_start s_X8_isFinished s_X8_takeDigit s_X8_skip J20 J28 Q))) ls st h
theorem kX3_readLines_92 {X : zq_X} {d : Nat} (C : zq_C X cX3_readLines 5 RX3 d) {d_X8_start : Nat} {s_X8_start : zq_Sp} (h_X8_start : zq_M yX8_start cX8_start 2 none 0 d_X8_start s_X8_start) (g_X8_start : d_X8_start + 1 ≤ d) {d_X8_isFinished : Nat} {s_X8_isFinished : zq_Sp} (h_X8_isFinished : zq_M yX8_isFinished cX8_isFinished 1 (some .boolean) 1 d_X8_isFinished s_X8_isFinished) (g_X8_isFinished : d_X8_isFinished + 1 ≤ d) {d_X8_takeDigit : Nat} {s_X8_takeDigit : zq_Sp} (h_X8_takeDigit : zq_M yX8_takeDigit cX8_takeDigit 3 (some .int) 1 d_X8_takeDigit s_X8_takeDigit) (g_X8_takeDigit : d_X8_takeDigit + 1 ≤ d) {d_X8_skip : Nat} {s_X8_skip : zq_Sp} (h_X8_skip : zq_M yX8_skip cX8_skip 2 (some .boolean) 1 d_X8_skip s_X8_skip) (g_X8_skip : d_X8_skip + 1 ≤ d) {J20 : zq_P} (j20 : zq_ok X 5 20 J20) {J28 : zq_P} (j28 : zq_ok X 5 28 J28) {Q : zq_Q} (hq : zq_R X (some .int) 1 Q) : zq_ok X 5 92 (xX3_readLines_92 s_X8_start s_X8_isFinished s_X8_takeDigit s_X8_skip J20 J28 Q) := by
  refine zs_iconst C dX3_readLines_92 (by decide) ?_
  exact kX3_readLines_93 C h_X8_start g_X8_start h_X8_isFinished g_X8_isFinished h_X8_takeDigit g_X8_takeDigit h_X8_skip g_X8_skip j20 j28 hq
def xX3_readLines_81 (s_X8_start : zq_Sp) (s_X8_isFinished : zq_Sp) (s_X8_takeDigit : zq_Sp) (s_X8_skip : zq_Sp) (J20 : zq_P) (J28 : zq_P) (Q : zq_Q) (ls : zq_L) (st : List Value) (h : zq_H) : Prop := (zi_iload 2 (zi_push (.int 1) (zi_i2 (fun x y => x + y) (zi_aload 0 (zi_getI 5 3 (zi_i2 (fun x y => x - y) ((xX3_readLines_93 s_X8_start s_X8_isFinished s_X8_takeDigit s_X8_skip J20 J28 Q)))))))) ls st h
theorem kX3_readLines_81 {X : zq_X} {d : Nat} (C : zq_C X cX3_readLines 5 RX3 d) {d_X8_start : Nat} {s_X8_start : zq_Sp} (h_X8_start : zq_M yX8_start cX8_start 2 none 0 d_X8_start s_X8_start) (g_X8_start : d_X8_start + 1 ≤ d) {d_X8_isFinished : Nat} {s_X8_isFinished : zq_Sp} (h_X8_isFinished : zq_M yX8_isFinished cX8_isFinished 1 (some .boolean) 1 d_X8_isFinished s_X8_isFinished) (g_X8_isFinished : d_X8_isFinished + 1 ≤ d) {d_X8_takeDigit : Nat} {s_X8_takeDigit : zq_Sp} (h_X8_takeDigit : zq_M yX8_takeDigit cX8_takeDigit 3 (some .int) 1 d_X8_takeDigit s_X8_takeDigit) (g_X8_takeDigit : d_X8_takeDigit + 1 ≤ d) {d_X8_skip : Nat} {s_X8_skip : zq_Sp} (h_X8_skip : zq_M yX8_skip cX8_skip 2 (some .boolean) 1 d_X8_skip s_X8_skip) (g_X8_skip : d_X8_skip + 1 ≤ d) {J20 : zq_P} (j20 : zq_ok X 5 20 J20) {J28 : zq_P} (j28 : zq_ok X 5 28 J28) {Q : zq_Q} (hq : zq_R X (some .int) 1 Q) : zq_ok X 5 81 (xX3_readLines_81 s_X8_start s_X8_isFinished s_X8_takeDigit s_X8_skip J20 J28 Q) := by
  refine zs_iload_n C dX3_readLines_81 rfl ?_
  refine zs_iconst C dX3_readLines_82 (by decide) ?_
  refine zs_iadd C dX3_readLines_83 ?_
  refine zs_aload_n C dX3_readLines_84 rfl ?_
  refine zs_getI C zp_5 zF3 (j := 3) ⟨by decide, rfl⟩ zw_84 dX3_readLines_85 ?_
  refine zs_isub C dX3_readLines_88 ?_
  exact zs_goto C dX3_readLines_89 (by decide) (kX3_readLines_93 C h_X8_start g_X8_start h_X8_isFinished g_X8_isFinished h_X8_takeDigit g_X8_takeDigit h_X8_skip g_X8_skip j20 j28 hq)
def xX3_readLines_74 (s_X8_start : zq_Sp) (s_X8_isFinished : zq_Sp) (s_X8_takeDigit : zq_Sp) (s_X8_skip : zq_Sp) (J20 : zq_P) (J28 : zq_P) (Q : zq_Q) (ls : zq_L) (st : List Value) (h : zq_H) : Prop := (zi_aload 1 (zi_callV 0 1 s_X8_isFinished (zi_if1 (fun x => x = 0) (xX3_readLines_92 s_X8_start s_X8_isFinished s_X8_takeDigit s_X8_skip J20 J28 Q) (xX3_readLines_81 s_X8_start s_X8_isFinished s_X8_takeDigit s_X8_skip J20 J28 Q)))) ls st h
theorem kX3_readLines_74 {X : zq_X} {d : Nat} (C : zq_C X cX3_readLines 5 RX3 d) {d_X8_start : Nat} {s_X8_start : zq_Sp} (h_X8_start : zq_M yX8_start cX8_start 2 none 0 d_X8_start s_X8_start) (g_X8_start : d_X8_start + 1 ≤ d) {d_X8_isFinished : Nat} {s_X8_isFinished : zq_Sp} (h_X8_isFinished : zq_M yX8_isFinished cX8_isFinished 1 (some .boolean) 1 d_X8_isFinished s_X8_isFinished) (g_X8_isFinished : d_X8_isFinished + 1 ≤ d) {d_X8_takeDigit : Nat} {s_X8_takeDigit : zq_Sp} (h_X8_takeDigit : zq_M yX8_takeDigit cX8_takeDigit 3 (some .int) 1 d_X8_takeDigit s_X8_takeDigit) (g_X8_takeDigit : d_X8_takeDigit + 1 ≤ d) {d_X8_skip : Nat} {s_X8_skip : zq_Sp} (h_X8_skip : zq_M yX8_skip cX8_skip 2 (some .boolean) 1 d_X8_skip s_X8_skip) (g_X8_skip : d_X8_skip + 1 ≤ d) {J20 : zq_P} (j20 : zq_ok X 5 20 J20) {J28 : zq_P} (j28 : zq_ok X 5 28 J28) {Q : zq_Q} (hq : zq_R X (some .int) 1 Q) : zq_ok X 5 74 (xX3_readLines_74 s_X8_start s_X8_isFinished s_X8_takeDigit s_X8_skip J20 J28 Q) := by
  refine zs_aload_n C dX3_readLines_74 rfl ?_
  refine zs_callV C h_X8_isFinished g_X8_isFinished zy_X8_isFinished zp_1 (show vwCl[8]? = some (RX8, TX8, 4) from rfl) zw_465 zw_396 zs9_X8_isFinished dX3_readLines_75 ?_
  exact zs_if_eq C dX3_readLines_78 (by decide) (kX3_readLines_92 C h_X8_start g_X8_start h_X8_isFinished g_X8_isFinished h_X8_takeDigit g_X8_takeDigit h_X8_skip g_X8_skip j20 j28 hq) (kX3_readLines_81 C h_X8_start g_X8_start h_X8_isFinished g_X8_isFinished h_X8_takeDigit g_X8_takeDigit h_X8_skip g_X8_skip j20 j28 hq)
def xX3_readLines_65 (s_X8_start : zq_Sp) (s_X8_isFinished : zq_Sp) (s_X8_takeDigit : zq_Sp) (s_X8_skip : zq_Sp) (J20 : zq_P) (J28 : zq_P) (Q : zq_Q) (ls : zq_L) (st : List Value) (h : zq_H) : Prop := (zi_aload 1 (zi_push (.int 59) (zi_callV 1 1 s_X8_skip (zi_if1 (fun x => x = 0) (xX3_readLines_74 s_X8_start s_X8_isFinished s_X8_takeDigit s_X8_skip J20 J28 Q) (xX3_readLines_94 s_X8_start s_X8_isFinished s_X8_takeDigit s_X8_skip J20 J28 Q))))) ls st h
theorem kX3_readLines_65 {X : zq_X} {d : Nat} (C : zq_C X cX3_readLines 5 RX3 d) {d_X8_start : Nat} {s_X8_start : zq_Sp} (h_X8_start : zq_M yX8_start cX8_start 2 none 0 d_X8_start s_X8_start) (g_X8_start : d_X8_start + 1 ≤ d) {d_X8_isFinished : Nat} {s_X8_isFinished : zq_Sp} (h_X8_isFinished : zq_M yX8_isFinished cX8_isFinished 1 (some .boolean) 1 d_X8_isFinished s_X8_isFinished) (g_X8_isFinished : d_X8_isFinished + 1 ≤ d) {d_X8_takeDigit : Nat} {s_X8_takeDigit : zq_Sp} (h_X8_takeDigit : zq_M yX8_takeDigit cX8_takeDigit 3 (some .int) 1 d_X8_takeDigit s_X8_takeDigit) (g_X8_takeDigit : d_X8_takeDigit + 1 ≤ d) {d_X8_skip : Nat} {s_X8_skip : zq_Sp} (h_X8_skip : zq_M yX8_skip cX8_skip 2 (some .boolean) 1 d_X8_skip s_X8_skip) (g_X8_skip : d_X8_skip + 1 ≤ d) {J20 : zq_P} (j20 : zq_ok X 5 20 J20) {J28 : zq_P} (j28 : zq_ok X 5 28 J28) {Q : zq_Q} (hq : zq_R X (some .int) 1 Q) : zq_ok X 5 65 (xX3_readLines_65 s_X8_start s_X8_isFinished s_X8_takeDigit s_X8_skip J20 J28 Q) := by
  refine zs_aload_n C dX3_readLines_65 rfl ?_
  refine zs_bipush C dX3_readLines_66 (by decide) ?_
  refine zs_callV C h_X8_skip g_X8_skip zy_X8_skip zp_1 (show vwCl[8]? = some (RX8, TX8, 4) from rfl) zw_467 zw_412 zs9_X8_skip dX3_readLines_68 ?_
  exact zs_if_ne C dX3_readLines_71 (by decide) (kX3_readLines_94 C h_X8_start g_X8_start h_X8_isFinished g_X8_isFinished h_X8_takeDigit g_X8_takeDigit h_X8_skip g_X8_skip j20 j28 hq) (kX3_readLines_74 C h_X8_start g_X8_start h_X8_isFinished g_X8_isFinished h_X8_takeDigit g_X8_takeDigit h_X8_skip g_X8_skip j20 j28 hq)
def xX3_readLines_47 (s_X8_start : zq_Sp) (s_X8_isFinished : zq_Sp) (s_X8_takeDigit : zq_Sp) (s_X8_skip : zq_Sp) (J20 : zq_P) (J28 : zq_P) (Q : zq_Q) (ls : zq_L) (st : List Value) (h : zq_H) : Prop := (zi_aload 0 (zi_getR 5 6 (zi_iload 2 (zi_push (.int 3) (zi_i2 (fun x y => x * y) (zi_iload 3 (zi_i2 (fun x y => x + y) (zi_iload 4 (zi_astI 6 18 (zi_iinc 3 1 (J28))))))))))) ls st h
theorem kX3_readLines_47 {X : zq_X} {d : Nat} (C : zq_C X cX3_readLines 5 RX3 d) {d_X8_start : Nat} {s_X8_start : zq_Sp} (h_X8_start : zq_M yX8_start cX8_start 2 none 0 d_X8_start s_X8_start) (g_X8_start : d_X8_start + 1 ≤ d) {d_X8_isFinished : Nat} {s_X8_isFinished : zq_Sp} (h_X8_isFinished : zq_M yX8_isFinished cX8_isFinished 1 (some .boolean) 1 d_X8_isFinished s_X8_isFinished) (g_X8_isFinished : d_X8_isFinished + 1 ≤ d) {d_X8_takeDigit : Nat} {s_X8_takeDigit : zq_Sp} (h_X8_takeDigit : zq_M yX8_takeDigit cX8_takeDigit 3 (some .int) 1 d_X8_takeDigit s_X8_takeDigit) (g_X8_takeDigit : d_X8_takeDigit + 1 ≤ d) {d_X8_skip : Nat} {s_X8_skip : zq_Sp} (h_X8_skip : zq_M yX8_skip cX8_skip 2 (some .boolean) 1 d_X8_skip s_X8_skip) (g_X8_skip : d_X8_skip + 1 ≤ d) {J20 : zq_P} (j20 : zq_ok X 5 20 J20) {J28 : zq_P} (j28 : zq_ok X 5 28 J28) {Q : zq_Q} (hq : zq_R X (some .int) 1 Q) : zq_ok X 5 47 (xX3_readLines_47 s_X8_start s_X8_isFinished s_X8_takeDigit s_X8_skip J20 J28 Q) := by
  refine zs_aload_n C dX3_readLines_47 rfl ?_
  refine zs_getR C zp_5 zF3 (j := 0) ⟨by decide, rfl⟩ zw_77 dX3_readLines_48 ?_
  refine zs_iload_n C dX3_readLines_51 rfl ?_
  refine zs_iconst C dX3_readLines_52 (by decide) ?_
  refine zs_imul C dX3_readLines_53 ?_
  refine zs_iload_n C dX3_readLines_54 rfl ?_
  refine zs_iadd C dX3_readLines_55 ?_
  refine zs_iload C dX3_readLines_56 ?_
  refine zs_iastore C zp_6 dX3_readLines_58 ?_
  refine zs_iinc C dX3_readLines_59 (by decide) (by decide) ?_
  exact zs_goto C dX3_readLines_62 (by decide) (j28)
def xX3_readLines_45 (s_X8_start : zq_Sp) (s_X8_isFinished : zq_Sp) (s_X8_takeDigit : zq_Sp) (s_X8_skip : zq_Sp) (J20 : zq_P) (J28 : zq_P) (Q : zq_Q) (ls : zq_L) (st : List Value) (h : zq_H) : Prop := (zi_push (.int (-1)) (zi_iret Q)) ls st h
theorem kX3_readLines_45 {X : zq_X} {d : Nat} (C : zq_C X cX3_readLines 5 RX3 d) {d_X8_start : Nat} {s_X8_start : zq_Sp} (h_X8_start : zq_M yX8_start cX8_start 2 none 0 d_X8_start s_X8_start) (g_X8_start : d_X8_start + 1 ≤ d) {d_X8_isFinished : Nat} {s_X8_isFinished : zq_Sp} (h_X8_isFinished : zq_M yX8_isFinished cX8_isFinished 1 (some .boolean) 1 d_X8_isFinished s_X8_isFinished) (g_X8_isFinished : d_X8_isFinished + 1 ≤ d) {d_X8_takeDigit : Nat} {s_X8_takeDigit : zq_Sp} (h_X8_takeDigit : zq_M yX8_takeDigit cX8_takeDigit 3 (some .int) 1 d_X8_takeDigit s_X8_takeDigit) (g_X8_takeDigit : d_X8_takeDigit + 1 ≤ d) {d_X8_skip : Nat} {s_X8_skip : zq_Sp} (h_X8_skip : zq_M yX8_skip cX8_skip 2 (some .boolean) 1 d_X8_skip s_X8_skip) (g_X8_skip : d_X8_skip + 1 ≤ d) {J20 : zq_P} (j20 : zq_ok X 5 20 J20) {J28 : zq_P} (j28 : zq_ok X 5 28 J28) {Q : zq_Q} (hq : zq_R X (some .int) 1 Q) : zq_ok X 5 45 (xX3_readLines_45 s_X8_start s_X8_isFinished s_X8_takeDigit s_X8_skip J20 J28 Q) := by
  refine zs_iconst C dX3_readLines_45 (by decide) ?_
  exact zs_iret C hq dX3_readLines_46
def xX3_readLines_33 (s_X8_start : zq_Sp) (s_X8_isFinished : zq_Sp) (s_X8_takeDigit : zq_Sp) (s_X8_skip : zq_Sp) (J20 : zq_P) (J28 : zq_P) (Q : zq_Q) (ls : zq_L) (st : List Value) (h : zq_H) : Prop := (zi_aload 1 (zi_push (.int 0) (zi_callV 1 1 s_X8_takeDigit (zi_istore 4 (zi_iload 4 (zi_if1 (fun x => 0 ≤ x) (xX3_readLines_47 s_X8_start s_X8_isFinished s_X8_takeDigit s_X8_skip J20 J28 Q) (xX3_readLines_45 s_X8_start s_X8_isFinished s_X8_takeDigit s_X8_skip J20 J28 Q))))))) ls st h
theorem kX3_readLines_33 {X : zq_X} {d : Nat} (C : zq_C X cX3_readLines 5 RX3 d) {d_X8_start : Nat} {s_X8_start : zq_Sp} (h_X8_start : zq_M yX8_start cX8_start 2 none 0 d_X8_start s_X8_start) (g_X8_start : d_X8_start + 1 ≤ d) {d_X8_isFinished : Nat} {s_X8_isFinished : zq_Sp} (h_X8_isFinished : zq_M yX8_isFinished cX8_isFinished 1 (some .boolean) 1 d_X8_isFinished s_X8_isFinished) (g_X8_isFinished : d_X8_isFinished + 1 ≤ d) {d_X8_takeDigit : Nat} {s_X8_takeDigit : zq_Sp} (h_X8_takeDigit : zq_M yX8_takeDigit cX8_takeDigit 3 (some .int) 1 d_X8_takeDigit s_X8_takeDigit) (g_X8_takeDigit : d_X8_takeDigit + 1 ≤ d) {d_X8_skip : Nat} {s_X8_skip : zq_Sp} (h_X8_skip : zq_M yX8_skip cX8_skip 2 (some .boolean) 1 d_X8_skip s_X8_skip) (g_X8_skip : d_X8_skip + 1 ≤ d) {J20 : zq_P} (j20 : zq_ok X 5 20 J20) {J28 : zq_P} (j28 : zq_ok X 5 28 J28) {Q : zq_Q} (hq : zq_R X (some .int) 1 Q) : zq_ok X 5 33 (xX3_readLines_33 s_X8_start s_X8_isFinished s_X8_takeDigit s_X8_skip J20 J28 Q) := by
  refine zs_aload_n C dX3_readLines_33 rfl ?_
  refine zs_iconst C dX3_readLines_34 (by decide) ?_
  refine zs_callV C h_X8_takeDigit g_X8_takeDigit zy_X8_takeDigit zp_1 (show vwCl[8]? = some (RX8, TX8, 4) from rfl) zw_466 zw_400 zs9_X8_takeDigit dX3_readLines_35 ?_
  refine zs_istore C dX3_readLines_38 (by decide) ?_
  refine zs_iload C dX3_readLines_40 ?_
  exact zs_if_ge C dX3_readLines_42 (by decide) (kX3_readLines_47 C h_X8_start g_X8_start h_X8_isFinished g_X8_isFinished h_X8_takeDigit g_X8_takeDigit h_X8_skip g_X8_skip j20 j28 hq) (kX3_readLines_45 C h_X8_start g_X8_start h_X8_isFinished g_X8_isFinished h_X8_takeDigit g_X8_takeDigit h_X8_skip g_X8_skip j20 j28 hq)
def xX3_readLines_28 (s_X8_start : zq_Sp) (s_X8_isFinished : zq_Sp) (s_X8_takeDigit : zq_Sp) (s_X8_skip : zq_Sp) (J20 : zq_P) (J28 : zq_P) (Q : zq_Q) (ls : zq_L) (st : List Value) (h : zq_H) : Prop := (zi_iload 3 (zi_push (.int 3) (zi_if2 (fun x y => y ≤ x) (xX3_readLines_65 s_X8_start s_X8_isFinished s_X8_takeDigit s_X8_skip J20 J28 Q) (xX3_readLines_33 s_X8_start s_X8_isFinished s_X8_takeDigit s_X8_skip J20 J28 Q)))) ls st h
theorem kX3_readLines_28 {X : zq_X} {d : Nat} (C : zq_C X cX3_readLines 5 RX3 d) {d_X8_start : Nat} {s_X8_start : zq_Sp} (h_X8_start : zq_M yX8_start cX8_start 2 none 0 d_X8_start s_X8_start) (g_X8_start : d_X8_start + 1 ≤ d) {d_X8_isFinished : Nat} {s_X8_isFinished : zq_Sp} (h_X8_isFinished : zq_M yX8_isFinished cX8_isFinished 1 (some .boolean) 1 d_X8_isFinished s_X8_isFinished) (g_X8_isFinished : d_X8_isFinished + 1 ≤ d) {d_X8_takeDigit : Nat} {s_X8_takeDigit : zq_Sp} (h_X8_takeDigit : zq_M yX8_takeDigit cX8_takeDigit 3 (some .int) 1 d_X8_takeDigit s_X8_takeDigit) (g_X8_takeDigit : d_X8_takeDigit + 1 ≤ d) {d_X8_skip : Nat} {s_X8_skip : zq_Sp} (h_X8_skip : zq_M yX8_skip cX8_skip 2 (some .boolean) 1 d_X8_skip s_X8_skip) (g_X8_skip : d_X8_skip + 1 ≤ d) {J20 : zq_P} (j20 : zq_ok X 5 20 J20) {J28 : zq_P} (j28 : zq_ok X 5 28 J28) {Q : zq_Q} (hq : zq_R X (some .int) 1 Q) : zq_ok X 5 28 (xX3_readLines_28 s_X8_start s_X8_isFinished s_X8_takeDigit s_X8_skip J20 J28 Q) := by
  refine zs_iload_n C dX3_readLines_28 rfl ?_
  refine zs_iconst C dX3_readLines_29 (by decide) ?_
  exact zs_icmp_ge C dX3_readLines_30 (by decide) (kX3_readLines_65 C h_X8_start g_X8_start h_X8_isFinished g_X8_isFinished h_X8_takeDigit g_X8_takeDigit h_X8_skip g_X8_skip j20 j28 hq) (kX3_readLines_33 C h_X8_start g_X8_start h_X8_isFinished g_X8_isFinished h_X8_takeDigit g_X8_takeDigit h_X8_skip g_X8_skip j20 j28 hq)
def xX3_readLines_26 (s_X8_start : zq_Sp) (s_X8_isFinished : zq_Sp) (s_X8_takeDigit : zq_Sp) (s_X8_skip : zq_Sp) (J20 : zq_P) (J28 : zq_P) (Q : zq_Q) (ls : zq_L) (st : List Value) (h : zq_H) : Prop := (zi_push (.int 0) (zi_istore 3 (J28))) ls st h
theorem kX3_readLines_26 {X : zq_X} {d : Nat} (C : zq_C X cX3_readLines 5 RX3 d) {d_X8_start : Nat} {s_X8_start : zq_Sp} (h_X8_start : zq_M yX8_start cX8_start 2 none 0 d_X8_start s_X8_start) (g_X8_start : d_X8_start + 1 ≤ d) {d_X8_isFinished : Nat} {s_X8_isFinished : zq_Sp} (h_X8_isFinished : zq_M yX8_isFinished cX8_isFinished 1 (some .boolean) 1 d_X8_isFinished s_X8_isFinished) (g_X8_isFinished : d_X8_isFinished + 1 ≤ d) {d_X8_takeDigit : Nat} {s_X8_takeDigit : zq_Sp} (h_X8_takeDigit : zq_M yX8_takeDigit cX8_takeDigit 3 (some .int) 1 d_X8_takeDigit s_X8_takeDigit) (g_X8_takeDigit : d_X8_takeDigit + 1 ≤ d) {d_X8_skip : Nat} {s_X8_skip : zq_Sp} (h_X8_skip : zq_M yX8_skip cX8_skip 2 (some .boolean) 1 d_X8_skip s_X8_skip) (g_X8_skip : d_X8_skip + 1 ≤ d) {J20 : zq_P} (j20 : zq_ok X 5 20 J20) {J28 : zq_P} (j28 : zq_ok X 5 28 J28) {Q : zq_Q} (hq : zq_R X (some .int) 1 Q) : zq_ok X 5 26 (xX3_readLines_26 s_X8_start s_X8_isFinished s_X8_takeDigit s_X8_skip J20 J28 Q) := by
  refine zs_iconst C dX3_readLines_26 (by decide) ?_
  refine zs_istore_n C dX3_readLines_27 rfl (by decide) ?_
  exact j28
def xX3_readLines_20 (s_X8_start : zq_Sp) (s_X8_isFinished : zq_Sp) (s_X8_takeDigit : zq_Sp) (s_X8_skip : zq_Sp) (J20 : zq_P) (J28 : zq_P) (Q : zq_Q) (ls : zq_L) (st : List Value) (h : zq_H) : Prop := (zi_iload 2 (zi_push (.int 6) (zi_if2 (fun x y => y ≤ x) (xX3_readLines_100 s_X8_start s_X8_isFinished s_X8_takeDigit s_X8_skip J20 J28 Q) (xX3_readLines_26 s_X8_start s_X8_isFinished s_X8_takeDigit s_X8_skip J20 J28 Q)))) ls st h
theorem kX3_readLines_20 {X : zq_X} {d : Nat} (C : zq_C X cX3_readLines 5 RX3 d) {d_X8_start : Nat} {s_X8_start : zq_Sp} (h_X8_start : zq_M yX8_start cX8_start 2 none 0 d_X8_start s_X8_start) (g_X8_start : d_X8_start + 1 ≤ d) {d_X8_isFinished : Nat} {s_X8_isFinished : zq_Sp} (h_X8_isFinished : zq_M yX8_isFinished cX8_isFinished 1 (some .boolean) 1 d_X8_isFinished s_X8_isFinished) (g_X8_isFinished : d_X8_isFinished + 1 ≤ d) {d_X8_takeDigit : Nat} {s_X8_takeDigit : zq_Sp} (h_X8_takeDigit : zq_M yX8_takeDigit cX8_takeDigit 3 (some .int) 1 d_X8_takeDigit s_X8_takeDigit) (g_X8_takeDigit : d_X8_takeDigit + 1 ≤ d) {d_X8_skip : Nat} {s_X8_skip : zq_Sp} (h_X8_skip : zq_M yX8_skip cX8_skip 2 (some .boolean) 1 d_X8_skip s_X8_skip) (g_X8_skip : d_X8_skip + 1 ≤ d) {J20 : zq_P} (j20 : zq_ok X 5 20 J20) {J28 : zq_P} (j28 : zq_ok X 5 28 J28) {Q : zq_Q} (hq : zq_R X (some .int) 1 Q) : zq_ok X 5 20 (xX3_readLines_20 s_X8_start s_X8_isFinished s_X8_takeDigit s_X8_skip J20 J28 Q) := by
  refine zs_iload_n C dX3_readLines_20 rfl ?_
  refine zs_bipush C dX3_readLines_21 (by decide) ?_
  exact zs_icmp_ge C dX3_readLines_23 (by decide) (kX3_readLines_100 C h_X8_start g_X8_start h_X8_isFinished g_X8_isFinished h_X8_takeDigit g_X8_takeDigit h_X8_skip g_X8_skip j20 j28 hq) (kX3_readLines_26 C h_X8_start g_X8_start h_X8_isFinished g_X8_isFinished h_X8_takeDigit g_X8_takeDigit h_X8_skip g_X8_skip j20 j28 hq)
def xX3_readLines_15 (s_X8_start : zq_Sp) (s_X8_isFinished : zq_Sp) (s_X8_takeDigit : zq_Sp) (s_X8_skip : zq_Sp) (J20 : zq_P) (J28 : zq_P) (Q : zq_Q) (ls : zq_L) (st : List Value) (h : zq_H) : Prop := (zi_aload 0 (zi_getI 5 3 (zi_istore 2 (J20)))) ls st h
theorem kX3_readLines_15 {X : zq_X} {d : Nat} (C : zq_C X cX3_readLines 5 RX3 d) {d_X8_start : Nat} {s_X8_start : zq_Sp} (h_X8_start : zq_M yX8_start cX8_start 2 none 0 d_X8_start s_X8_start) (g_X8_start : d_X8_start + 1 ≤ d) {d_X8_isFinished : Nat} {s_X8_isFinished : zq_Sp} (h_X8_isFinished : zq_M yX8_isFinished cX8_isFinished 1 (some .boolean) 1 d_X8_isFinished s_X8_isFinished) (g_X8_isFinished : d_X8_isFinished + 1 ≤ d) {d_X8_takeDigit : Nat} {s_X8_takeDigit : zq_Sp} (h_X8_takeDigit : zq_M yX8_takeDigit cX8_takeDigit 3 (some .int) 1 d_X8_takeDigit s_X8_takeDigit) (g_X8_takeDigit : d_X8_takeDigit + 1 ≤ d) {d_X8_skip : Nat} {s_X8_skip : zq_Sp} (h_X8_skip : zq_M yX8_skip cX8_skip 2 (some .boolean) 1 d_X8_skip s_X8_skip) (g_X8_skip : d_X8_skip + 1 ≤ d) {J20 : zq_P} (j20 : zq_ok X 5 20 J20) {J28 : zq_P} (j28 : zq_ok X 5 28 J28) {Q : zq_Q} (hq : zq_R X (some .int) 1 Q) : zq_ok X 5 15 (xX3_readLines_15 s_X8_start s_X8_isFinished s_X8_takeDigit s_X8_skip J20 J28 Q) := by
  refine zs_aload_n C dX3_readLines_15 rfl ?_
  refine zs_getI C zp_5 zF3 (j := 3) ⟨by decide, rfl⟩ zw_84 dX3_readLines_16 ?_
  refine zs_istore_n C dX3_readLines_19 rfl (by decide) ?_
  exact j20
def xX3_readLines_13 (s_X8_start : zq_Sp) (s_X8_isFinished : zq_Sp) (s_X8_takeDigit : zq_Sp) (s_X8_skip : zq_Sp) (J20 : zq_P) (J28 : zq_P) (Q : zq_Q) (ls : zq_L) (st : List Value) (h : zq_H) : Prop := (zi_push (.int 0) (zi_iret Q)) ls st h
theorem kX3_readLines_13 {X : zq_X} {d : Nat} (C : zq_C X cX3_readLines 5 RX3 d) {d_X8_start : Nat} {s_X8_start : zq_Sp} (h_X8_start : zq_M yX8_start cX8_start 2 none 0 d_X8_start s_X8_start) (g_X8_start : d_X8_start + 1 ≤ d) {d_X8_isFinished : Nat} {s_X8_isFinished : zq_Sp} (h_X8_isFinished : zq_M yX8_isFinished cX8_isFinished 1 (some .boolean) 1 d_X8_isFinished s_X8_isFinished) (g_X8_isFinished : d_X8_isFinished + 1 ≤ d) {d_X8_takeDigit : Nat} {s_X8_takeDigit : zq_Sp} (h_X8_takeDigit : zq_M yX8_takeDigit cX8_takeDigit 3 (some .int) 1 d_X8_takeDigit s_X8_takeDigit) (g_X8_takeDigit : d_X8_takeDigit + 1 ≤ d) {d_X8_skip : Nat} {s_X8_skip : zq_Sp} (h_X8_skip : zq_M yX8_skip cX8_skip 2 (some .boolean) 1 d_X8_skip s_X8_skip) (g_X8_skip : d_X8_skip + 1 ≤ d) {J20 : zq_P} (j20 : zq_ok X 5 20 J20) {J28 : zq_P} (j28 : zq_ok X 5 28 J28) {Q : zq_Q} (hq : zq_R X (some .int) 1 Q) : zq_ok X 5 13 (xX3_readLines_13 s_X8_start s_X8_isFinished s_X8_takeDigit s_X8_skip J20 J28 Q) := by
  refine zs_iconst C dX3_readLines_13 (by decide) ?_
  exact zs_iret C hq dX3_readLines_14
def xX3_readLines_0 (s_X8_start : zq_Sp) (s_X8_isFinished : zq_Sp) (s_X8_takeDigit : zq_Sp) (s_X8_skip : zq_Sp) (J20 : zq_P) (J28 : zq_P) (Q : zq_Q) (ls : zq_L) (st : List Value) (h : zq_H) : Prop := (zi_aload 1 (zi_push (.int 23) (zi_callV 1 1 s_X8_start (zi_aload 1 (zi_callV 0 1 s_X8_isFinished (zi_if1 (fun x => x = 0) (xX3_readLines_15 s_X8_start s_X8_isFinished s_X8_takeDigit s_X8_skip J20 J28 Q) (xX3_readLines_13 s_X8_start s_X8_isFinished s_X8_takeDigit s_X8_skip J20 J28 Q))))))) ls st h
theorem kX3_readLines_0 {X : zq_X} {d : Nat} (C : zq_C X cX3_readLines 5 RX3 d) {d_X8_start : Nat} {s_X8_start : zq_Sp} (h_X8_start : zq_M yX8_start cX8_start 2 none 0 d_X8_start s_X8_start) (g_X8_start : d_X8_start + 1 ≤ d) {d_X8_isFinished : Nat} {s_X8_isFinished : zq_Sp} (h_X8_isFinished : zq_M yX8_isFinished cX8_isFinished 1 (some .boolean) 1 d_X8_isFinished s_X8_isFinished) (g_X8_isFinished : d_X8_isFinished + 1 ≤ d) {d_X8_takeDigit : Nat} {s_X8_takeDigit : zq_Sp} (h_X8_takeDigit : zq_M yX8_takeDigit cX8_takeDigit 3 (some .int) 1 d_X8_takeDigit s_X8_takeDigit) (g_X8_takeDigit : d_X8_takeDigit + 1 ≤ d) {d_X8_skip : Nat} {s_X8_skip : zq_Sp} (h_X8_skip : zq_M yX8_skip cX8_skip 2 (some .boolean) 1 d_X8_skip s_X8_skip) (g_X8_skip : d_X8_skip + 1 ≤ d) {J20 : zq_P} (j20 : zq_ok X 5 20 J20) {J28 : zq_P} (j28 : zq_ok X 5 28 J28) {Q : zq_Q} (hq : zq_R X (some .int) 1 Q) : zq_ok X 5 0 (xX3_readLines_0 s_X8_start s_X8_isFinished s_X8_takeDigit s_X8_skip J20 J28 Q) := by
  refine zs_aload_n C dX3_readLines_0 rfl ?_
  refine zs_bipush C dX3_readLines_1 (by decide) ?_
  refine zs_callV C h_X8_start g_X8_start zy_X8_start zp_1 (show vwCl[8]? = some (RX8, TX8, 4) from rfl) zw_464 zw_389 zs9_X8_start dX3_readLines_3 ?_
  refine zs_aload_n C dX3_readLines_6 rfl ?_
  refine zs_callV C h_X8_isFinished g_X8_isFinished zy_X8_isFinished zp_1 (show vwCl[8]? = some (RX8, TX8, 4) from rfl) zw_465 zw_396 zs9_X8_isFinished dX3_readLines_7 ?_
  exact zs_if_eq C dX3_readLines_10 (by decide) (kX3_readLines_15 C h_X8_start g_X8_start h_X8_isFinished g_X8_isFinished h_X8_takeDigit g_X8_takeDigit h_X8_skip g_X8_skip j20 j28 hq) (kX3_readLines_13 C h_X8_start g_X8_start h_X8_isFinished g_X8_isFinished h_X8_takeDigit g_X8_takeDigit h_X8_skip g_X8_skip j20 j28 hq)
theorem mX3_readLines {d : Nat} {spec : zq_Sp} {σ20 : Type} {σ28 : Type} {d_X8_start : Nat} {s_X8_start : zq_Sp} (h_X8_start : zq_M yX8_start cX8_start 2 none 0 d_X8_start s_X8_start) (g_X8_start : d_X8_start + 1 ≤ d) {d_X8_isFinished : Nat} {s_X8_isFinished : zq_Sp} (h_X8_isFinished : zq_M yX8_isFinished cX8_isFinished 1 (some .boolean) 1 d_X8_isFinished s_X8_isFinished) (g_X8_isFinished : d_X8_isFinished + 1 ≤ d) {d_X8_takeDigit : Nat} {s_X8_takeDigit : zq_Sp} (h_X8_takeDigit : zq_M yX8_takeDigit cX8_takeDigit 3 (some .int) 1 d_X8_takeDigit s_X8_takeDigit) (g_X8_takeDigit : d_X8_takeDigit + 1 ≤ d) {d_X8_skip : Nat} {s_X8_skip : zq_Sp} (h_X8_skip : zq_M yX8_skip cX8_skip 2 (some .boolean) 1 d_X8_skip s_X8_skip) (g_X8_skip : d_X8_skip + 1 ≤ d) (μ20 : σ20 → Nat) (I20 : zq_Q → σ20 → zq_P) (μ28 : σ28 → Nat) (I28 : zq_Q → σ28 → zq_P) (v : ∀ args h Q, spec args h Q → (zq_a args).length ≤ 5 ∧ xX3_readLines_0 s_X8_start s_X8_isFinished s_X8_takeDigit s_X8_skip (fun ls st h => ∃ b, I20 Q b ls st h) (fun ls st h => ∃ b, I28 Q b ls st h) Q (zq_l0 5 args) [] h) (v20 : ∀ Q a ls st h, I20 Q a ls st h → xX3_readLines_20 s_X8_start s_X8_isFinished s_X8_takeDigit s_X8_skip (fun ls st h => ∃ b, μ20 b < μ20 a ∧ I20 Q b ls st h) (fun ls st h => ∃ b, μ28 b < μ20 a ∧ I28 Q b ls st h) Q ls st h) (v28 : ∀ Q a ls st h, I28 Q a ls st h → xX3_readLines_28 s_X8_start s_X8_isFinished s_X8_takeDigit s_X8_skip (fun ls st h => ∃ b, μ20 b < μ28 a ∧ I20 Q b ls st h) (fun ls st h => ∃ b, μ28 b < μ28 a ∧ I28 Q b ls st h) Q ls st h) : zq_M yX3_readLines cX3_readLines 5 (some .int) 1 d spec := by
  refine zq_met (by decide +kernel) (by decide) (fun X Q args h C hq hs => ⟨(v args h Q hs).1, _, ?_, (v args h Q hs).2⟩)
  have hl := zq_loop2 (X := X) (nL := 5) (pc1 := 20) (pc2 := 28) μ20 μ28 (I20 Q) (I28 Q) (fun J20 J28 => xX3_readLines_20 s_X8_start s_X8_isFinished s_X8_takeDigit s_X8_skip J20 J28 Q) (fun J20 J28 => xX3_readLines_28 s_X8_start s_X8_isFinished s_X8_takeDigit s_X8_skip J20 J28 Q) (fun j20 j28 => kX3_readLines_20 C h_X8_start g_X8_start h_X8_isFinished g_X8_isFinished h_X8_takeDigit g_X8_takeDigit h_X8_skip g_X8_skip j20 j28 hq) (fun j20 j28 => kX3_readLines_28 C h_X8_start g_X8_start h_X8_isFinished g_X8_isFinished h_X8_takeDigit g_X8_takeDigit h_X8_skip g_X8_skip j20 j28 hq) (v20 Q) (v28 Q)
  exact kX3_readLines_0 C h_X8_start g_X8_start h_X8_isFinished g_X8_isFinished h_X8_takeDigit g_X8_takeDigit h_X8_skip g_X8_skip hl.1 hl.2 hq
/-! ToOneCrumb$Party: yX3_admit -/
theorem dX3_admit_0 : decode cX3_admit 0 = .ok (.iconst 0, 1) := by decide +kernel
theorem dX3_admit_1 : decode cX3_admit 1 = .ok (.istore_n 2, 1) := by decide +kernel
theorem dX3_admit_2 : decode cX3_admit 2 = .ok (.iload_n 2, 1) := by decide +kernel
theorem dX3_admit_3 : decode cX3_admit 3 = .ok (.iload_n 1, 1) := by decide +kernel
theorem dX3_admit_4 : decode cX3_admit 4 = .ok (.if_icmp .ge 38, 3) := by decide +kernel
theorem dX3_admit_7 : decode cX3_admit 7 = .ok (.aload_n 0, 1) := by decide +kernel
theorem dX3_admit_8 : decode cX3_admit 8 = .ok (.getfield 31, 3) := by decide +kernel
theorem dX3_admit_11 : decode cX3_admit 11 = .ok (.bipush 6, 2) := by decide +kernel
theorem dX3_admit_13 : decode cX3_admit 13 = .ok (.if_icmp .ge 29, 3) := by decide +kernel
theorem dX3_admit_16 : decode cX3_admit 16 = .ok (.aload_n 0, 1) := by decide +kernel
theorem dX3_admit_17 : decode cX3_admit 17 = .ok (.getfield 15, 3) := by decide +kernel
theorem dX3_admit_20 : decode cX3_admit 20 = .ok (.aload_n 0, 1) := by decide +kernel
theorem dX3_admit_21 : decode cX3_admit 21 = .ok (.getfield 31, 3) := by decide +kernel
theorem dX3_admit_24 : decode cX3_admit 24 = .ok (.iconst 1, 1) := by decide +kernel
theorem dX3_admit_25 : decode cX3_admit 25 = .ok (.iastore, 1) := by decide +kernel
theorem dX3_admit_26 : decode cX3_admit 26 = .ok (.aload_n 0, 1) := by decide +kernel
theorem dX3_admit_27 : decode cX3_admit 27 = .ok (.dup, 1) := by decide +kernel
theorem dX3_admit_28 : decode cX3_admit 28 = .ok (.getfield 31, 3) := by decide +kernel
theorem dX3_admit_31 : decode cX3_admit 31 = .ok (.iconst 1, 1) := by decide +kernel
theorem dX3_admit_32 : decode cX3_admit 32 = .ok (.iadd, 1) := by decide +kernel
theorem dX3_admit_33 : decode cX3_admit 33 = .ok (.putfield 31, 3) := by decide +kernel
theorem dX3_admit_36 : decode cX3_admit 36 = .ok (.iinc 2 1, 3) := by decide +kernel
theorem dX3_admit_39 : decode cX3_admit 39 = .ok (.goto (-37), 3) := by decide +kernel
theorem dX3_admit_42 : decode cX3_admit 42 = .ok (.return_, 1) := by decide +kernel
def xX3_admit_42 (J2 : zq_P) (Q : zq_Q) (ls : zq_L) (st : List Value) (h : zq_H) : Prop := (zi_vret Q) ls st h
theorem kX3_admit_42 {X : zq_X} {d : Nat} (C : zq_C X cX3_admit 3 RX3 d) {J2 : zq_P} (j2 : zq_ok X 3 2 J2) {Q : zq_Q} (hq : zq_R X none 0 Q) : zq_ok X 3 42 (xX3_admit_42 J2 Q) := by
  exact zs_vret C hq dX3_admit_42
def xX3_admit_16 (J2 : zq_P) (Q : zq_Q) (ls : zq_L) (st : List Value) (h : zq_H) : Prop := (zi_aload 0 (zi_getR 5 7 (zi_aload 0 (zi_getI 5 3 (zi_push (.int 1) (zi_astI 7 6 (zi_aload 0 (zi_dup (zi_getI 5 3 (zi_push (.int 1) (zi_i2 (fun x y => x + y) (zi_putI 5 3 (zi_iinc 2 1 (J2)))))))))))))) ls st h
theorem kX3_admit_16 {X : zq_X} {d : Nat} (C : zq_C X cX3_admit 3 RX3 d) {J2 : zq_P} (j2 : zq_ok X 3 2 J2) {Q : zq_Q} (hq : zq_R X none 0 Q) : zq_ok X 3 16 (xX3_admit_16 J2 Q) := by
  refine zs_aload_n C dX3_admit_16 rfl ?_
  refine zs_getR C zp_5 zF3 (j := 1) ⟨by decide, rfl⟩ zw_80 dX3_admit_17 ?_
  refine zs_aload_n C dX3_admit_20 rfl ?_
  refine zs_getI C zp_5 zF3 (j := 3) ⟨by decide, rfl⟩ zw_84 dX3_admit_21 ?_
  refine zs_iconst C dX3_admit_24 (by decide) ?_
  refine zs_iastore C zp_7 dX3_admit_25 ?_
  refine zs_aload_n C dX3_admit_26 rfl ?_
  refine zs_dup C dX3_admit_27 ?_
  refine zs_getI C zp_5 zF3 (j := 3) ⟨by decide, rfl⟩ zw_84 dX3_admit_28 ?_
  refine zs_iconst C dX3_admit_31 (by decide) ?_
  refine zs_iadd C dX3_admit_32 ?_
  refine zs_putI C zp_5 zF3 (j := 3) ⟨by decide, rfl⟩ ⟨rfl, by decide +kernel⟩ zw_84 dX3_admit_33 ?_
  refine zs_iinc C dX3_admit_36 (by decide) (by decide) ?_
  exact zs_goto C dX3_admit_39 (by decide) (j2)
def xX3_admit_7 (J2 : zq_P) (Q : zq_Q) (ls : zq_L) (st : List Value) (h : zq_H) : Prop := (zi_aload 0 (zi_getI 5 3 (zi_push (.int 6) (zi_if2 (fun x y => y ≤ x) (xX3_admit_42 J2 Q) (xX3_admit_16 J2 Q))))) ls st h
theorem kX3_admit_7 {X : zq_X} {d : Nat} (C : zq_C X cX3_admit 3 RX3 d) {J2 : zq_P} (j2 : zq_ok X 3 2 J2) {Q : zq_Q} (hq : zq_R X none 0 Q) : zq_ok X 3 7 (xX3_admit_7 J2 Q) := by
  refine zs_aload_n C dX3_admit_7 rfl ?_
  refine zs_getI C zp_5 zF3 (j := 3) ⟨by decide, rfl⟩ zw_84 dX3_admit_8 ?_
  refine zs_bipush C dX3_admit_11 (by decide) ?_
  exact zs_icmp_ge C dX3_admit_13 (by decide) (kX3_admit_42 C j2 hq) (kX3_admit_16 C j2 hq)
def xX3_admit_2 (J2 : zq_P) (Q : zq_Q) (ls : zq_L) (st : List Value) (h : zq_H) : Prop := (zi_iload 2 (zi_iload 1 (zi_if2 (fun x y => y ≤ x) (xX3_admit_42 J2 Q) (xX3_admit_7 J2 Q)))) ls st h
theorem kX3_admit_2 {X : zq_X} {d : Nat} (C : zq_C X cX3_admit 3 RX3 d) {J2 : zq_P} (j2 : zq_ok X 3 2 J2) {Q : zq_Q} (hq : zq_R X none 0 Q) : zq_ok X 3 2 (xX3_admit_2 J2 Q) := by
  refine zs_iload_n C dX3_admit_2 rfl ?_
  refine zs_iload_n C dX3_admit_3 rfl ?_
  exact zs_icmp_ge C dX3_admit_4 (by decide) (kX3_admit_42 C j2 hq) (kX3_admit_7 C j2 hq)
def xX3_admit_0 (J2 : zq_P) (Q : zq_Q) (ls : zq_L) (st : List Value) (h : zq_H) : Prop := (zi_push (.int 0) (zi_istore 2 (J2))) ls st h
theorem kX3_admit_0 {X : zq_X} {d : Nat} (C : zq_C X cX3_admit 3 RX3 d) {J2 : zq_P} (j2 : zq_ok X 3 2 J2) {Q : zq_Q} (hq : zq_R X none 0 Q) : zq_ok X 3 0 (xX3_admit_0 J2 Q) := by
  refine zs_iconst C dX3_admit_0 (by decide) ?_
  refine zs_istore_n C dX3_admit_1 rfl (by decide) ?_
  exact j2
theorem mX3_admit {d : Nat} {spec : zq_Sp} {σ2 : Type} (μ2 : σ2 → Nat) (I2 : zq_Q → σ2 → zq_P) (v : ∀ args h Q, spec args h Q → (zq_a args).length ≤ 3 ∧ xX3_admit_0 (fun ls st h => ∃ b, I2 Q b ls st h) Q (zq_l0 3 args) [] h) (v2 : ∀ Q a ls st h, I2 Q a ls st h → xX3_admit_2 (fun ls st h => ∃ b, μ2 b < μ2 a ∧ I2 Q b ls st h) Q ls st h) : zq_M yX3_admit cX3_admit 3 none 0 d spec := by
  refine zq_met (by decide +kernel) (by decide) (fun X Q args h C hq hs => ⟨(v args h Q hs).1, _, ?_, (v args h Q hs).2⟩)
  have hl := zq_loop1 (X := X) (nL := 3) (pc1 := 2) μ2 (I2 Q) (fun J2 => xX3_admit_2 J2 Q) (fun j2 => kX3_admit_2 C j2 hq) (v2 Q)
  exact kX3_admit_0 C hl hq
/-! ToOneCrumb$Party.readDeeds(LToOneCrumb$Text;)Z -/
theorem dX3_readDeeds_0 : decode cX3_readDeeds 0 = .ok (.aload_n 0, 1) := by decide +kernel
theorem dX3_readDeeds_1 : decode cX3_readDeeds 1 = .ok (.getfield 18, 3) := by decide +kernel
theorem dX3_readDeeds_4 : decode cX3_readDeeds 4 = .ok (.iconst 0, 1) := by decide +kernel
theorem dX3_readDeeds_5 : decode cX3_readDeeds 5 = .ok (.invokestatic 43, 3) := by decide +kernel
theorem dX3_readDeeds_8 : decode cX3_readDeeds 8 = .ok (.aload_n 1, 1) := by decide +kernel
theorem dX3_readDeeds_9 : decode cX3_readDeeds 9 = .ok (.bipush 60, 2) := by decide +kernel
theorem dX3_readDeeds_11 : decode cX3_readDeeds 11 = .ok (.invokevirtual 21, 3) := by decide +kernel
theorem dX3_readDeeds_14 : decode cX3_readDeeds 14 = .ok (.aload_n 1, 1) := by decide +kernel
theorem dX3_readDeeds_15 : decode cX3_readDeeds 15 = .ok (.invokevirtual 27, 3) := by decide +kernel
theorem dX3_readDeeds_18 : decode cX3_readDeeds 18 = .ok (.ifCond .eq 5, 3) := by decide +kernel
theorem dX3_readDeeds_21 : decode cX3_readDeeds 21 = .ok (.iconst 1, 1) := by decide +kernel
theorem dX3_readDeeds_22 : decode cX3_readDeeds 22 = .ok (.ireturn, 1) := by decide +kernel
theorem dX3_readDeeds_23 : decode cX3_readDeeds 23 = .ok (.iconst 0, 1) := by decide +kernel
theorem dX3_readDeeds_24 : decode cX3_readDeeds 24 = .ok (.istore_n 2, 1) := by decide +kernel
theorem dX3_readDeeds_25 : decode cX3_readDeeds 25 = .ok (.iload_n 2, 1) := by decide +kernel
theorem dX3_readDeeds_26 : decode cX3_readDeeds 26 = .ok (.bipush 60, 2) := by decide +kernel
theorem dX3_readDeeds_28 : decode cX3_readDeeds 28 = .ok (.if_icmp .ge 33, 3) := by decide +kernel
theorem dX3_readDeeds_31 : decode cX3_readDeeds 31 = .ok (.aload_n 0, 1) := by decide +kernel
theorem dX3_readDeeds_32 : decode cX3_readDeeds 32 = .ok (.aload_n 1, 1) := by decide +kernel
theorem dX3_readDeeds_33 : decode cX3_readDeeds 33 = .ok (.invokevirtual 49, 3) := by decide +kernel
theorem dX3_readDeeds_36 : decode cX3_readDeeds 36 = .ok (.ifCond .ne 5, 3) := by decide +kernel
theorem dX3_readDeeds_39 : decode cX3_readDeeds 39 = .ok (.iconst 0, 1) := by decide +kernel
theorem dX3_readDeeds_40 : decode cX3_readDeeds 40 = .ok (.ireturn, 1) := by decide +kernel
theorem dX3_readDeeds_41 : decode cX3_readDeeds 41 = .ok (.aload_n 1, 1) := by decide +kernel
theorem dX3_readDeeds_42 : decode cX3_readDeeds 42 = .ok (.bipush 59, 2) := by decide +kernel
theorem dX3_readDeeds_44 : decode cX3_readDeeds 44 = .ok (.invokevirtual 39, 3) := by decide +kernel
theorem dX3_readDeeds_47 : decode cX3_readDeeds 47 = .ok (.ifCond .ne 8, 3) := by decide +kernel
theorem dX3_readDeeds_50 : decode cX3_readDeeds 50 = .ok (.aload_n 1, 1) := by decide +kernel
theorem dX3_readDeeds_51 : decode cX3_readDeeds 51 = .ok (.invokevirtual 27, 3) := by decide +kernel
theorem dX3_readDeeds_54 : decode cX3_readDeeds 54 = .ok (.ireturn, 1) := by decide +kernel
theorem dX3_readDeeds_55 : decode cX3_readDeeds 55 = .ok (.iinc 2 1, 3) := by decide +kernel
theorem dX3_readDeeds_58 : decode cX3_readDeeds 58 = .ok (.goto (-33), 3) := by decide +kernel
theorem dX3_readDeeds_61 : decode cX3_readDeeds 61 = .ok (.iconst 0, 1) := by decide +kernel
theorem dX3_readDeeds_62 : decode cX3_readDeeds 62 = .ok (.ireturn, 1) := by decide +kernel
def xX3_readDeeds_61 (s_J7_fill_53178 : zq_Sp) (s_X8_start : zq_Sp) (s_X8_isFinished : zq_Sp) (s_X3_readDeed : zq_Sp) (s_X8_skip : zq_Sp) (J25 : zq_P) (Q : zq_Q) (ls : zq_L) (st : List Value) (h : zq_H) : Prop := (zi_push (.int 0) (zi_zret Q)) ls st h
theorem kX3_readDeeds_61 {X : zq_X} {d : Nat} (C : zq_C X cX3_readDeeds 3 RX3 d) {d_J7_fill_53178 : Nat} {s_J7_fill_53178 : zq_Sp} (h_J7_fill_53178 : zq_M yJ7_fill_53178 cJ7_fill_53178 4 none 0 d_J7_fill_53178 s_J7_fill_53178) (g_J7_fill_53178 : d_J7_fill_53178 + 1 ≤ d) {d_X8_start : Nat} {s_X8_start : zq_Sp} (h_X8_start : zq_M yX8_start cX8_start 2 none 0 d_X8_start s_X8_start) (g_X8_start : d_X8_start + 1 ≤ d) {d_X8_isFinished : Nat} {s_X8_isFinished : zq_Sp} (h_X8_isFinished : zq_M yX8_isFinished cX8_isFinished 1 (some .boolean) 1 d_X8_isFinished s_X8_isFinished) (g_X8_isFinished : d_X8_isFinished + 1 ≤ d) {d_X3_readDeed : Nat} {s_X3_readDeed : zq_Sp} (h_X3_readDeed : zq_M yX3_readDeed cX3_readDeed 6 (some .boolean) 1 d_X3_readDeed s_X3_readDeed) (g_X3_readDeed : d_X3_readDeed + 1 ≤ d) {d_X8_skip : Nat} {s_X8_skip : zq_Sp} (h_X8_skip : zq_M yX8_skip cX8_skip 2 (some .boolean) 1 d_X8_skip s_X8_skip) (g_X8_skip : d_X8_skip + 1 ≤ d) {J25 : zq_P} (j25 : zq_ok X 3 25 J25) {Q : zq_Q} (hq : zq_R X (some .boolean) 1 Q) : zq_ok X 3 61 (xX3_readDeeds_61 s_J7_fill_53178 s_X8_start s_X8_isFinished s_X3_readDeed s_X8_skip J25 Q) := by
  refine zs_iconst C dX3_readDeeds_61 (by decide) ?_
  exact zs_zret C hq dX3_readDeeds_62
def xX3_readDeeds_55 (s_J7_fill_53178 : zq_Sp) (s_X8_start : zq_Sp) (s_X8_isFinished : zq_Sp) (s_X3_readDeed : zq_Sp) (s_X8_skip : zq_Sp) (J25 : zq_P) (Q : zq_Q) (ls : zq_L) (st : List Value) (h : zq_H) : Prop := (zi_iinc 2 1 (J25)) ls st h
theorem kX3_readDeeds_55 {X : zq_X} {d : Nat} (C : zq_C X cX3_readDeeds 3 RX3 d) {d_J7_fill_53178 : Nat} {s_J7_fill_53178 : zq_Sp} (h_J7_fill_53178 : zq_M yJ7_fill_53178 cJ7_fill_53178 4 none 0 d_J7_fill_53178 s_J7_fill_53178) (g_J7_fill_53178 : d_J7_fill_53178 + 1 ≤ d) {d_X8_start : Nat} {s_X8_start : zq_Sp} (h_X8_start : zq_M yX8_start cX8_start 2 none 0 d_X8_start s_X8_start) (g_X8_start : d_X8_start + 1 ≤ d) {d_X8_isFinished : Nat} {s_X8_isFinished : zq_Sp} (h_X8_isFinished : zq_M yX8_isFinished cX8_isFinished 1 (some .boolean) 1 d_X8_isFinished s_X8_isFinished) (g_X8_isFinished : d_X8_isFinished + 1 ≤ d) {d_X3_readDeed : Nat} {s_X3_readDeed : zq_Sp} (h_X3_readDeed : zq_M yX3_readDeed cX3_readDeed 6 (some .boolean) 1 d_X3_readDeed s_X3_readDeed) (g_X3_readDeed : d_X3_readDeed + 1 ≤ d) {d_X8_skip : Nat} {s_X8_skip : zq_Sp} (h_X8_skip : zq_M yX8_skip cX8_skip 2 (some .boolean) 1 d_X8_skip s_X8_skip) (g_X8_skip : d_X8_skip + 1 ≤ d) {J25 : zq_P} (j25 : zq_ok X 3 25 J25) {Q : zq_Q} (hq : zq_R X (some .boolean) 1 Q) : zq_ok X 3 55 (xX3_readDeeds_55 s_J7_fill_53178 s_X8_start s_X8_isFinished s_X3_readDeed s_X8_skip J25 Q) := by
  refine zs_iinc C dX3_readDeeds_55 (by decide) (by decide) ?_
  exact zs_goto C dX3_readDeeds_58 (by decide) (j25)
def xX3_readDeeds_50 (s_J7_fill_53178 : zq_Sp) (s_X8_start : zq_Sp) (s_X8_isFinished : zq_Sp) (s_X3_readDeed : zq_Sp) (s_X8_skip : zq_Sp) (J25 : zq_P) (Q : zq_Q) (ls : zq_L) (st : List Value) (h : zq_H) : Prop := (zi_aload 1 (zi_callV 0 1 s_X8_isFinished (zi_zret Q))) ls st h
theorem kX3_readDeeds_50 {X : zq_X} {d : Nat} (C : zq_C X cX3_readDeeds 3 RX3 d) {d_J7_fill_53178 : Nat} {s_J7_fill_53178 : zq_Sp} (h_J7_fill_53178 : zq_M yJ7_fill_53178 cJ7_fill_53178 4 none 0 d_J7_fill_53178 s_J7_fill_53178) (g_J7_fill_53178 : d_J7_fill_53178 + 1 ≤ d) {d_X8_start : Nat} {s_X8_start : zq_Sp} (h_X8_start : zq_M yX8_start cX8_start 2 none 0 d_X8_start s_X8_start) (g_X8_start : d_X8_start + 1 ≤ d) {d_X8_isFinished : Nat} {s_X8_isFinished : zq_Sp} (h_X8_isFinished : zq_M yX8_isFinished cX8_isFinished 1 (some .boolean) 1 d_X8_isFinished s_X8_isFinished) (g_X8_isFinished : d_X8_isFinished + 1 ≤ d) {d_X3_readDeed : Nat} {s_X3_readDeed : zq_Sp} (h_X3_readDeed : zq_M yX3_readDeed cX3_readDeed 6 (some .boolean) 1 d_X3_readDeed s_X3_readDeed) (g_X3_readDeed : d_X3_readDeed + 1 ≤ d) {d_X8_skip : Nat} {s_X8_skip : zq_Sp} (h_X8_skip : zq_M yX8_skip cX8_skip 2 (some .boolean) 1 d_X8_skip s_X8_skip) (g_X8_skip : d_X8_skip + 1 ≤ d) {J25 : zq_P} (j25 : zq_ok X 3 25 J25) {Q : zq_Q} (hq : zq_R X (some .boolean) 1 Q) : zq_ok X 3 50 (xX3_readDeeds_50 s_J7_fill_53178 s_X8_start s_X8_isFinished s_X3_readDeed s_X8_skip J25 Q) := by
  refine zs_aload_n C dX3_readDeeds_50 rfl ?_
  refine zs_callV C h_X8_isFinished g_X8_isFinished zy_X8_isFinished zp_1 (show vwCl[8]? = some (RX8, TX8, 4) from rfl) zw_465 zw_396 zs9_X8_isFinished dX3_readDeeds_51 ?_
  exact zs_zret C hq dX3_readDeeds_54
def xX3_readDeeds_41 (s_J7_fill_53178 : zq_Sp) (s_X8_start : zq_Sp) (s_X8_isFinished : zq_Sp) (s_X3_readDeed : zq_Sp) (s_X8_skip : zq_Sp) (J25 : zq_P) (Q : zq_Q) (ls : zq_L) (st : List Value) (h : zq_H) : Prop := (zi_aload 1 (zi_push (.int 59) (zi_callV 1 1 s_X8_skip (zi_if1 (fun x => x = 0) (xX3_readDeeds_50 s_J7_fill_53178 s_X8_start s_X8_isFinished s_X3_readDeed s_X8_skip J25 Q) (xX3_readDeeds_55 s_J7_fill_53178 s_X8_start s_X8_isFinished s_X3_readDeed s_X8_skip J25 Q))))) ls st h
theorem kX3_readDeeds_41 {X : zq_X} {d : Nat} (C : zq_C X cX3_readDeeds 3 RX3 d) {d_J7_fill_53178 : Nat} {s_J7_fill_53178 : zq_Sp} (h_J7_fill_53178 : zq_M yJ7_fill_53178 cJ7_fill_53178 4 none 0 d_J7_fill_53178 s_J7_fill_53178) (g_J7_fill_53178 : d_J7_fill_53178 + 1 ≤ d) {d_X8_start : Nat} {s_X8_start : zq_Sp} (h_X8_start : zq_M yX8_start cX8_start 2 none 0 d_X8_start s_X8_start) (g_X8_start : d_X8_start + 1 ≤ d) {d_X8_isFinished : Nat} {s_X8_isFinished : zq_Sp} (h_X8_isFinished : zq_M yX8_isFinished cX8_isFinished 1 (some .boolean) 1 d_X8_isFinished s_X8_isFinished) (g_X8_isFinished : d_X8_isFinished + 1 ≤ d) {d_X3_readDeed : Nat} {s_X3_readDeed : zq_Sp} (h_X3_readDeed : zq_M yX3_readDeed cX3_readDeed 6 (some .boolean) 1 d_X3_readDeed s_X3_readDeed) (g_X3_readDeed : d_X3_readDeed + 1 ≤ d) {d_X8_skip : Nat} {s_X8_skip : zq_Sp} (h_X8_skip : zq_M yX8_skip cX8_skip 2 (some .boolean) 1 d_X8_skip s_X8_skip) (g_X8_skip : d_X8_skip + 1 ≤ d) {J25 : zq_P} (j25 : zq_ok X 3 25 J25) {Q : zq_Q} (hq : zq_R X (some .boolean) 1 Q) : zq_ok X 3 41 (xX3_readDeeds_41 s_J7_fill_53178 s_X8_start s_X8_isFinished s_X3_readDeed s_X8_skip J25 Q) := by
  refine zs_aload_n C dX3_readDeeds_41 rfl ?_
  refine zs_bipush C dX3_readDeeds_42 (by decide) ?_
  refine zs_callV C h_X8_skip g_X8_skip zy_X8_skip zp_1 (show vwCl[8]? = some (RX8, TX8, 4) from rfl) zw_467 zw_412 zs9_X8_skip dX3_readDeeds_44 ?_
  exact zs_if_ne C dX3_readDeeds_47 (by decide) (kX3_readDeeds_55 C h_J7_fill_53178 g_J7_fill_53178 h_X8_start g_X8_start h_X8_isFinished g_X8_isFinished h_X3_readDeed g_X3_readDeed h_X8_skip g_X8_skip j25 hq) (kX3_readDeeds_50 C h_J7_fill_53178 g_J7_fill_53178 h_X8_start g_X8_start h_X8_isFinished g_X8_isFinished h_X3_readDeed g_X3_readDeed h_X8_skip g_X8_skip j25 hq)
def xX3_readDeeds_39 (s_J7_fill_53178 : zq_Sp) (s_X8_start : zq_Sp) (s_X8_isFinished : zq_Sp) (s_X3_readDeed : zq_Sp) (s_X8_skip : zq_Sp) (J25 : zq_P) (Q : zq_Q) (ls : zq_L) (st : List Value) (h : zq_H) : Prop := (zi_push (.int 0) (zi_zret Q)) ls st h
theorem kX3_readDeeds_39 {X : zq_X} {d : Nat} (C : zq_C X cX3_readDeeds 3 RX3 d) {d_J7_fill_53178 : Nat} {s_J7_fill_53178 : zq_Sp} (h_J7_fill_53178 : zq_M yJ7_fill_53178 cJ7_fill_53178 4 none 0 d_J7_fill_53178 s_J7_fill_53178) (g_J7_fill_53178 : d_J7_fill_53178 + 1 ≤ d) {d_X8_start : Nat} {s_X8_start : zq_Sp} (h_X8_start : zq_M yX8_start cX8_start 2 none 0 d_X8_start s_X8_start) (g_X8_start : d_X8_start + 1 ≤ d) {d_X8_isFinished : Nat} {s_X8_isFinished : zq_Sp} (h_X8_isFinished : zq_M yX8_isFinished cX8_isFinished 1 (some .boolean) 1 d_X8_isFinished s_X8_isFinished) (g_X8_isFinished : d_X8_isFinished + 1 ≤ d) {d_X3_readDeed : Nat} {s_X3_readDeed : zq_Sp} (h_X3_readDeed : zq_M yX3_readDeed cX3_readDeed 6 (some .boolean) 1 d_X3_readDeed s_X3_readDeed) (g_X3_readDeed : d_X3_readDeed + 1 ≤ d) {d_X8_skip : Nat} {s_X8_skip : zq_Sp} (h_X8_skip : zq_M yX8_skip cX8_skip 2 (some .boolean) 1 d_X8_skip s_X8_skip) (g_X8_skip : d_X8_skip + 1 ≤ d) {J25 : zq_P} (j25 : zq_ok X 3 25 J25) {Q : zq_Q} (hq : zq_R X (some .boolean) 1 Q) : zq_ok X 3 39 (xX3_readDeeds_39 s_J7_fill_53178 s_X8_start s_X8_isFinished s_X3_readDeed s_X8_skip J25 Q) := by
  refine zs_iconst C dX3_readDeeds_39 (by decide) ?_
  exact zs_zret C hq dX3_readDeeds_40
def xX3_readDeeds_31 (s_J7_fill_53178 : zq_Sp) (s_X8_start : zq_Sp) (s_X8_isFinished : zq_Sp) (s_X3_readDeed : zq_Sp) (s_X8_skip : zq_Sp) (J25 : zq_P) (Q : zq_Q) (ls : zq_L) (st : List Value) (h : zq_H) : Prop := (zi_aload 0 (zi_aload 1 (zi_callV 1 5 s_X3_readDeed (zi_if1 (fun x => x = 0) (xX3_readDeeds_39 s_J7_fill_53178 s_X8_start s_X8_isFinished s_X3_readDeed s_X8_skip J25 Q) (xX3_readDeeds_41 s_J7_fill_53178 s_X8_start s_X8_isFinished s_X3_readDeed s_X8_skip J25 Q))))) ls st h
theorem kX3_readDeeds_31 {X : zq_X} {d : Nat} (C : zq_C X cX3_readDeeds 3 RX3 d) {d_J7_fill_53178 : Nat} {s_J7_fill_53178 : zq_Sp} (h_J7_fill_53178 : zq_M yJ7_fill_53178 cJ7_fill_53178 4 none 0 d_J7_fill_53178 s_J7_fill_53178) (g_J7_fill_53178 : d_J7_fill_53178 + 1 ≤ d) {d_X8_start : Nat} {s_X8_start : zq_Sp} (h_X8_start : zq_M yX8_start cX8_start 2 none 0 d_X8_start s_X8_start) (g_X8_start : d_X8_start + 1 ≤ d) {d_X8_isFinished : Nat} {s_X8_isFinished : zq_Sp} (h_X8_isFinished : zq_M yX8_isFinished cX8_isFinished 1 (some .boolean) 1 d_X8_isFinished s_X8_isFinished) (g_X8_isFinished : d_X8_isFinished + 1 ≤ d) {d_X3_readDeed : Nat} {s_X3_readDeed : zq_Sp} (h_X3_readDeed : zq_M yX3_readDeed cX3_readDeed 6 (some .boolean) 1 d_X3_readDeed s_X3_readDeed) (g_X3_readDeed : d_X3_readDeed + 1 ≤ d) {d_X8_skip : Nat} {s_X8_skip : zq_Sp} (h_X8_skip : zq_M yX8_skip cX8_skip 2 (some .boolean) 1 d_X8_skip s_X8_skip) (g_X8_skip : d_X8_skip + 1 ≤ d) {J25 : zq_P} (j25 : zq_ok X 3 25 J25) {Q : zq_Q} (hq : zq_R X (some .boolean) 1 Q) : zq_ok X 3 31 (xX3_readDeeds_31 s_J7_fill_53178 s_X8_start s_X8_isFinished s_X3_readDeed s_X8_skip J25 Q) := by
  refine zs_aload_n C dX3_readDeeds_31 rfl ?_
  refine zs_aload_n C dX3_readDeeds_32 rfl ?_
  refine zs_callV C h_X3_readDeed g_X3_readDeed zy_X3_readDeed zp_5 (show vwCl[3]? = some (RX3, TX3, 4) from rfl) zw_483 zw_485 zs9_X3_readDeed dX3_readDeeds_33 ?_
  exact zs_if_ne C dX3_readDeeds_36 (by decide) (kX3_readDeeds_41 C h_J7_fill_53178 g_J7_fill_53178 h_X8_start g_X8_start h_X8_isFinished g_X8_isFinished h_X3_readDeed g_X3_readDeed h_X8_skip g_X8_skip j25 hq) (kX3_readDeeds_39 C h_J7_fill_53178 g_J7_fill_53178 h_X8_start g_X8_start h_X8_isFinished g_X8_isFinished h_X3_readDeed g_X3_readDeed h_X8_skip g_X8_skip j25 hq)
def xX3_readDeeds_25 (s_J7_fill_53178 : zq_Sp) (s_X8_start : zq_Sp) (s_X8_isFinished : zq_Sp) (s_X3_readDeed : zq_Sp) (s_X8_skip : zq_Sp) (J25 : zq_P) (Q : zq_Q) (ls : zq_L) (st : List Value) (h : zq_H) : Prop := (zi_iload 2 (zi_push (.int 60) (zi_if2 (fun x y => y ≤ x) (xX3_readDeeds_61 s_J7_fill_53178 s_X8_start s_X8_isFinished s_X3_readDeed s_X8_skip J25 Q) (xX3_readDeeds_31 s_J7_fill_53178 s_X8_start s_X8_isFinished s_X3_readDeed s_X8_skip J25 Q)))) ls st h
theorem kX3_readDeeds_25 {X : zq_X} {d : Nat} (C : zq_C X cX3_readDeeds 3 RX3 d) {d_J7_fill_53178 : Nat} {s_J7_fill_53178 : zq_Sp} (h_J7_fill_53178 : zq_M yJ7_fill_53178 cJ7_fill_53178 4 none 0 d_J7_fill_53178 s_J7_fill_53178) (g_J7_fill_53178 : d_J7_fill_53178 + 1 ≤ d) {d_X8_start : Nat} {s_X8_start : zq_Sp} (h_X8_start : zq_M yX8_start cX8_start 2 none 0 d_X8_start s_X8_start) (g_X8_start : d_X8_start + 1 ≤ d) {d_X8_isFinished : Nat} {s_X8_isFinished : zq_Sp} (h_X8_isFinished : zq_M yX8_isFinished cX8_isFinished 1 (some .boolean) 1 d_X8_isFinished s_X8_isFinished) (g_X8_isFinished : d_X8_isFinished + 1 ≤ d) {d_X3_readDeed : Nat} {s_X3_readDeed : zq_Sp} (h_X3_readDeed : zq_M yX3_readDeed cX3_readDeed 6 (some .boolean) 1 d_X3_readDeed s_X3_readDeed) (g_X3_readDeed : d_X3_readDeed + 1 ≤ d) {d_X8_skip : Nat} {s_X8_skip : zq_Sp} (h_X8_skip : zq_M yX8_skip cX8_skip 2 (some .boolean) 1 d_X8_skip s_X8_skip) (g_X8_skip : d_X8_skip + 1 ≤ d) {J25 : zq_P} (j25 : zq_ok X 3 25 J25) {Q : zq_Q} (hq : zq_R X (some .boolean) 1 Q) : zq_ok X 3 25 (xX3_readDeeds_25 s_J7_fill_53178 s_X8_start s_X8_isFinished s_X3_readDeed s_X8_skip J25 Q) := by
  refine zs_iload_n C dX3_readDeeds_25 rfl ?_
  refine zs_bipush C dX3_readDeeds_26 (by decide) ?_
  exact zs_icmp_ge C dX3_readDeeds_28 (by decide) (kX3_readDeeds_61 C h_J7_fill_53178 g_J7_fill_53178 h_X8_start g_X8_start h_X8_isFinished g_X8_isFinished h_X3_readDeed g_X3_readDeed h_X8_skip g_X8_skip j25 hq) (kX3_readDeeds_31 C h_J7_fill_53178 g_J7_fill_53178 h_X8_start g_X8_start h_X8_isFinished g_X8_isFinished h_X3_readDeed g_X3_readDeed h_X8_skip g_X8_skip j25 hq)
def xX3_readDeeds_23 (s_J7_fill_53178 : zq_Sp) (s_X8_start : zq_Sp) (s_X8_isFinished : zq_Sp) (s_X3_readDeed : zq_Sp) (s_X8_skip : zq_Sp) (J25 : zq_P) (Q : zq_Q) (ls : zq_L) (st : List Value) (h : zq_H) : Prop := (zi_push (.int 0) (zi_istore 2 (J25))) ls st h
theorem kX3_readDeeds_23 {X : zq_X} {d : Nat} (C : zq_C X cX3_readDeeds 3 RX3 d) {d_J7_fill_53178 : Nat} {s_J7_fill_53178 : zq_Sp} (h_J7_fill_53178 : zq_M yJ7_fill_53178 cJ7_fill_53178 4 none 0 d_J7_fill_53178 s_J7_fill_53178) (g_J7_fill_53178 : d_J7_fill_53178 + 1 ≤ d) {d_X8_start : Nat} {s_X8_start : zq_Sp} (h_X8_start : zq_M yX8_start cX8_start 2 none 0 d_X8_start s_X8_start) (g_X8_start : d_X8_start + 1 ≤ d) {d_X8_isFinished : Nat} {s_X8_isFinished : zq_Sp} (h_X8_isFinished : zq_M yX8_isFinished cX8_isFinished 1 (some .boolean) 1 d_X8_isFinished s_X8_isFinished) (g_X8_isFinished : d_X8_isFinished + 1 ≤ d) {d_X3_readDeed : Nat} {s_X3_readDeed : zq_Sp} (h_X3_readDeed : zq_M yX3_readDeed cX3_readDeed 6 (some .boolean) 1 d_X3_readDeed s_X3_readDeed) (g_X3_readDeed : d_X3_readDeed + 1 ≤ d) {d_X8_skip : Nat} {s_X8_skip : zq_Sp} (h_X8_skip : zq_M yX8_skip cX8_skip 2 (some .boolean) 1 d_X8_skip s_X8_skip) (g_X8_skip : d_X8_skip + 1 ≤ d) {J25 : zq_P} (j25 : zq_ok X 3 25 J25) {Q : zq_Q} (hq : zq_R X (some .boolean) 1 Q) : zq_ok X 3 23 (xX3_readDeeds_23 s_J7_fill_53178 s_X8_start s_X8_isFinished s_X3_readDeed s_X8_skip J25 Q) := by
  refine zs_iconst C dX3_readDeeds_23 (by decide) ?_
  refine zs_istore_n C dX3_readDeeds_24 rfl (by decide) ?_
  exact j25
def xX3_readDeeds_21 (s_J7_fill_53178 : zq_Sp) (s_X8_start : zq_Sp) (s_X8_isFinished : zq_Sp) (s_X3_readDeed : zq_Sp) (s_X8_skip : zq_Sp) (J25 : zq_P) (Q : zq_Q) (ls : zq_L) (st : List Value) (h : zq_H) : Prop := (zi_push (.int 1) (zi_zret Q)) ls st h
theorem kX3_readDeeds_21 {X : zq_X} {d : Nat} (C : zq_C X cX3_readDeeds 3 RX3 d) {d_J7_fill_53178 : Nat} {s_J7_fill_53178 : zq_Sp} (h_J7_fill_53178 : zq_M yJ7_fill_53178 cJ7_fill_53178 4 none 0 d_J7_fill_53178 s_J7_fill_53178) (g_J7_fill_53178 : d_J7_fill_53178 + 1 ≤ d) {d_X8_start : Nat} {s_X8_start : zq_Sp} (h_X8_start : zq_M yX8_start cX8_start 2 none 0 d_X8_start s_X8_start) (g_X8_start : d_X8_start + 1 ≤ d) {d_X8_isFinished : Nat} {s_X8_isFinished : zq_Sp} (h_X8_isFinished : zq_M yX8_isFinished cX8_isFinished 1 (some .boolean) 1 d_X8_isFinished s_X8_isFinished) (g_X8_isFinished : d_X8_isFinished + 1 ≤ d) {d_X3_readDeed : Nat} {s_X3_readDeed : zq_Sp} (h_X3_readDeed : zq_M yX3_readDeed cX3_readDeed 6 (some .boolean) 1 d_X3_readDeed s_X3_readDeed) (g_X3_readDeed : d_X3_readDeed + 1 ≤ d) {d_X8_skip : Nat} {s_X8_skip : zq_Sp} (h_X8_skip : zq_M yX8_skip cX8_skip 2 (some .boolean) 1 d_X8_skip s_X8_skip) (g_X8_skip : d_X8_skip + 1 ≤ d) {J25 : zq_P} (j25 : zq_ok X 3 25 J25) {Q : zq_Q} (hq : zq_R X (some .boolean) 1 Q) : zq_ok X 3 21 (xX3_readDeeds_21 s_J7_fill_53178 s_X8_start s_X8_isFinished s_X3_readDeed s_X8_skip J25 Q) := by
  refine zs_iconst C dX3_readDeeds_21 (by decide) ?_
  exact zs_zret C hq dX3_readDeeds_22
def xX3_readDeeds_0 (s_J7_fill_53178 : zq_Sp) (s_X8_start : zq_Sp) (s_X8_isFinished : zq_Sp) (s_X3_readDeed : zq_Sp) (s_X8_skip : zq_Sp) (J25 : zq_P) (Q : zq_Q) (ls : zq_L) (st : List Value) (h : zq_H) : Prop := (zi_aload 0 (zi_getR 5 8 (zi_push (.int 0) (zi_callS 2 s_J7_fill_53178 (zi_aload 1 (zi_push (.int 60) (zi_callV 1 1 s_X8_start (zi_aload 1 (zi_callV 0 1 s_X8_isFinished (zi_if1 (fun x => x = 0) (xX3_readDeeds_23 s_J7_fill_53178 s_X8_start s_X8_isFinished s_X3_readDeed s_X8_skip J25 Q) (xX3_readDeeds_21 s_J7_fill_53178 s_X8_start s_X8_isFinished s_X3_readDeed s_X8_skip J25 Q))))))))))) ls st h
theorem kX3_readDeeds_0 {X : zq_X} {d : Nat} (C : zq_C X cX3_readDeeds 3 RX3 d) {d_J7_fill_53178 : Nat} {s_J7_fill_53178 : zq_Sp} (h_J7_fill_53178 : zq_M yJ7_fill_53178 cJ7_fill_53178 4 none 0 d_J7_fill_53178 s_J7_fill_53178) (g_J7_fill_53178 : d_J7_fill_53178 + 1 ≤ d) {d_X8_start : Nat} {s_X8_start : zq_Sp} (h_X8_start : zq_M yX8_start cX8_start 2 none 0 d_X8_start s_X8_start) (g_X8_start : d_X8_start + 1 ≤ d) {d_X8_isFinished : Nat} {s_X8_isFinished : zq_Sp} (h_X8_isFinished : zq_M yX8_isFinished cX8_isFinished 1 (some .boolean) 1 d_X8_isFinished s_X8_isFinished) (g_X8_isFinished : d_X8_isFinished + 1 ≤ d) {d_X3_readDeed : Nat} {s_X3_readDeed : zq_Sp} (h_X3_readDeed : zq_M yX3_readDeed cX3_readDeed 6 (some .boolean) 1 d_X3_readDeed s_X3_readDeed) (g_X3_readDeed : d_X3_readDeed + 1 ≤ d) {d_X8_skip : Nat} {s_X8_skip : zq_Sp} (h_X8_skip : zq_M yX8_skip cX8_skip 2 (some .boolean) 1 d_X8_skip s_X8_skip) (g_X8_skip : d_X8_skip + 1 ≤ d) {J25 : zq_P} (j25 : zq_ok X 3 25 J25) {Q : zq_Q} (hq : zq_R X (some .boolean) 1 Q) : zq_ok X 3 0 (xX3_readDeeds_0 s_J7_fill_53178 s_X8_start s_X8_isFinished s_X3_readDeed s_X8_skip J25 Q) := by
  refine zs_aload_n C dX3_readDeeds_0 rfl ?_
  refine zs_getR C zp_5 zF3 (j := 2) ⟨by decide, rfl⟩ zw_82 dX3_readDeeds_1 ?_
  refine zs_iconst C dX3_readDeeds_4 (by decide) ?_
  refine zs_callS C h_J7_fill_53178 g_J7_fill_53178 zy_J7_fill_53178 zw_480 zw_481 dX3_readDeeds_5 ?_
  refine zs_aload_n C dX3_readDeeds_8 rfl ?_
  refine zs_bipush C dX3_readDeeds_9 (by decide) ?_
  refine zs_callV C h_X8_start g_X8_start zy_X8_start zp_1 (show vwCl[8]? = some (RX8, TX8, 4) from rfl) zw_464 zw_389 zs9_X8_start dX3_readDeeds_11 ?_
  refine zs_aload_n C dX3_readDeeds_14 rfl ?_
  refine zs_callV C h_X8_isFinished g_X8_isFinished zy_X8_isFinished zp_1 (show vwCl[8]? = some (RX8, TX8, 4) from rfl) zw_465 zw_396 zs9_X8_isFinished dX3_readDeeds_15 ?_
  exact zs_if_eq C dX3_readDeeds_18 (by decide) (kX3_readDeeds_23 C h_J7_fill_53178 g_J7_fill_53178 h_X8_start g_X8_start h_X8_isFinished g_X8_isFinished h_X3_readDeed g_X3_readDeed h_X8_skip g_X8_skip j25 hq) (kX3_readDeeds_21 C h_J7_fill_53178 g_J7_fill_53178 h_X8_start g_X8_start h_X8_isFinished g_X8_isFinished h_X3_readDeed g_X3_readDeed h_X8_skip g_X8_skip j25 hq)
theorem mX3_readDeeds {d : Nat} {spec : zq_Sp} {σ25 : Type} {d_J7_fill_53178 : Nat} {s_J7_fill_53178 : zq_Sp} (h_J7_fill_53178 : zq_M yJ7_fill_53178 cJ7_fill_53178 4 none 0 d_J7_fill_53178 s_J7_fill_53178) (g_J7_fill_53178 : d_J7_fill_53178 + 1 ≤ d) {d_X8_start : Nat} {s_X8_start : zq_Sp} (h_X8_start : zq_M yX8_start cX8_start 2 none 0 d_X8_start s_X8_start) (g_X8_start : d_X8_start + 1 ≤ d) {d_X8_isFinished : Nat} {s_X8_isFinished : zq_Sp} (h_X8_isFinished : zq_M yX8_isFinished cX8_isFinished 1 (some .boolean) 1 d_X8_isFinished s_X8_isFinished) (g_X8_isFinished : d_X8_isFinished + 1 ≤ d) {d_X3_readDeed : Nat} {s_X3_readDeed : zq_Sp} (h_X3_readDeed : zq_M yX3_readDeed cX3_readDeed 6 (some .boolean) 1 d_X3_readDeed s_X3_readDeed) (g_X3_readDeed : d_X3_readDeed + 1 ≤ d) {d_X8_skip : Nat} {s_X8_skip : zq_Sp} (h_X8_skip : zq_M yX8_skip cX8_skip 2 (some .boolean) 1 d_X8_skip s_X8_skip) (g_X8_skip : d_X8_skip + 1 ≤ d) (μ25 : σ25 → Nat) (I25 : zq_Q → σ25 → zq_P) (v : ∀ args h Q, spec args h Q → (zq_a args).length ≤ 3 ∧ xX3_readDeeds_0 s_J7_fill_53178 s_X8_start s_X8_isFinished s_X3_readDeed s_X8_skip (fun ls st h => ∃ b, I25 Q b ls st h) Q (zq_l0 3 args) [] h) (v25 : ∀ Q a ls st h, I25 Q a ls st h → xX3_readDeeds_25 s_J7_fill_53178 s_X8_start s_X8_isFinished s_X3_readDeed s_X8_skip (fun ls st h => ∃ b, μ25 b < μ25 a ∧ I25 Q b ls st h) Q ls st h) : zq_M yX3_readDeeds cX3_readDeeds 3 (some .boolean) 1 d spec := by
  refine zq_met (by decide +kernel) (by decide) (fun X Q args h C hq hs => ⟨(v args h Q hs).1, _, ?_, (v args h Q hs).2⟩)
  have hl := zq_loop1 (X := X) (nL := 3) (pc1 := 25) μ25 (I25 Q) (fun J25 => xX3_readDeeds_25 s_J7_fill_53178 s_X8_start s_X8_isFinished s_X3_readDeed s_X8_skip J25 Q) (fun j25 => kX3_readDeeds_25 C h_J7_fill_53178 g_J7_fill_53178 h_X8_start g_X8_start h_X8_isFinished g_X8_isFinished h_X3_readDeed g_X3_readDeed h_X8_skip g_X8_skip j25 hq) (v25 Q)
  exact kX3_readDeeds_0 C h_J7_fill_53178 g_J7_fill_53178 h_X8_start g_X8_start h_X8_isFinished g_X8_isFinished h_X3_readDeed g_X3_readDeed h_X8_skip g_X8_skip hl hq
/-! ToOneCrumb$Party.readDeed(LToOneCrumb$Text;)Z -/
theorem dX3_readDeed_0 : decode cX3_readDeed 0 = .ok (.aload_n 1, 1) := by decide +kernel
theorem dX3_readDeed_1 : decode cX3_readDeed 1 = .ok (.invokevirtual 53, 3) := by decide +kernel
theorem dX3_readDeed_4 : decode cX3_readDeed 4 = .ok (.istore_n 2, 1) := by decide +kernel
theorem dX3_readDeed_5 : decode cX3_readDeed 5 = .ok (.iload_n 2, 1) := by decide +kernel
theorem dX3_readDeed_6 : decode cX3_readDeed 6 = .ok (.bipush 102, 2) := by decide +kernel
theorem dX3_readDeed_8 : decode cX3_readDeed 8 = .ok (.if_icmp .eq 23, 3) := by decide +kernel
theorem dX3_readDeed_11 : decode cX3_readDeed 11 = .ok (.iload_n 2, 1) := by decide +kernel
theorem dX3_readDeed_12 : decode cX3_readDeed 12 = .ok (.bipush 121, 2) := by decide +kernel
theorem dX3_readDeed_14 : decode cX3_readDeed 14 = .ok (.if_icmp .eq 17, 3) := by decide +kernel
theorem dX3_readDeed_17 : decode cX3_readDeed 17 = .ok (.iload_n 2, 1) := by decide +kernel
theorem dX3_readDeed_18 : decode cX3_readDeed 18 = .ok (.bipush 120, 2) := by decide +kernel
theorem dX3_readDeed_20 : decode cX3_readDeed 20 = .ok (.if_icmp .eq 11, 3) := by decide +kernel
theorem dX3_readDeed_23 : decode cX3_readDeed 23 = .ok (.iload_n 2, 1) := by decide +kernel
theorem dX3_readDeed_24 : decode cX3_readDeed 24 = .ok (.bipush 103, 2) := by decide +kernel
theorem dX3_readDeed_26 : decode cX3_readDeed 26 = .ok (.if_icmp .eq 5, 3) := by decide +kernel
theorem dX3_readDeed_29 : decode cX3_readDeed 29 = .ok (.iconst 0, 1) := by decide +kernel
theorem dX3_readDeed_30 : decode cX3_readDeed 30 = .ok (.ireturn, 1) := by decide +kernel
theorem dX3_readDeed_31 : decode cX3_readDeed 31 = .ok (.aload_n 1, 1) := by decide +kernel
theorem dX3_readDeed_32 : decode cX3_readDeed 32 = .ok (.iload_n 2, 1) := by decide +kernel
theorem dX3_readDeed_33 : decode cX3_readDeed 33 = .ok (.invokevirtual 39, 3) := by decide +kernel
theorem dX3_readDeed_36 : decode cX3_readDeed 36 = .ok (.pop, 1) := by decide +kernel
theorem dX3_readDeed_37 : decode cX3_readDeed 37 = .ok (.aload_n 1, 1) := by decide +kernel
theorem dX3_readDeed_38 : decode cX3_readDeed 38 = .ok (.aload_n 0, 1) := by decide +kernel
theorem dX3_readDeed_39 : decode cX3_readDeed 39 = .ok (.getfield 31, 3) := by decide +kernel
theorem dX3_readDeed_42 : decode cX3_readDeed 42 = .ok (.invokevirtual 57, 3) := by decide +kernel
theorem dX3_readDeed_45 : decode cX3_readDeed 45 = .ok (.istore_n 3, 1) := by decide +kernel
theorem dX3_readDeed_46 : decode cX3_readDeed 46 = .ok (.iload_n 3, 1) := by decide +kernel
theorem dX3_readDeed_47 : decode cX3_readDeed 47 = .ok (.ifCond .ge 5, 3) := by decide +kernel
theorem dX3_readDeed_50 : decode cX3_readDeed 50 = .ok (.iconst 0, 1) := by decide +kernel
theorem dX3_readDeed_51 : decode cX3_readDeed 51 = .ok (.ireturn, 1) := by decide +kernel
theorem dX3_readDeed_52 : decode cX3_readDeed 52 = .ok (.iconst (-1), 1) := by decide +kernel
theorem dX3_readDeed_53 : decode cX3_readDeed 53 = .ok (.istore 4, 2) := by decide +kernel
theorem dX3_readDeed_55 : decode cX3_readDeed 55 = .ok (.iload_n 2, 1) := by decide +kernel
theorem dX3_readDeed_56 : decode cX3_readDeed 56 = .ok (.bipush 120, 2) := by decide +kernel
theorem dX3_readDeed_58 : decode cX3_readDeed 58 = .ok (.if_icmp .eq 9, 3) := by decide +kernel
theorem dX3_readDeed_61 : decode cX3_readDeed 61 = .ok (.iload_n 2, 1) := by decide +kernel
theorem dX3_readDeed_62 : decode cX3_readDeed 62 = .ok (.bipush 103, 2) := by decide +kernel
theorem dX3_readDeed_64 : decode cX3_readDeed 64 = .ok (.if_icmp .ne 35, 3) := by decide +kernel
theorem dX3_readDeed_67 : decode cX3_readDeed 67 = .ok (.aload_n 1, 1) := by decide +kernel
theorem dX3_readDeed_68 : decode cX3_readDeed 68 = .ok (.invokevirtual 53, 3) := by decide +kernel
theorem dX3_readDeed_71 : decode cX3_readDeed 71 = .ok (.bipush 97, 2) := by decide +kernel
theorem dX3_readDeed_73 : decode cX3_readDeed 73 = .ok (.iload_n 3, 1) := by decide +kernel
theorem dX3_readDeed_74 : decode cX3_readDeed 74 = .ok (.iadd, 1) := by decide +kernel
theorem dX3_readDeed_75 : decode cX3_readDeed 75 = .ok (.if_icmp .ne 7, 3) := by decide +kernel
theorem dX3_readDeed_78 : decode cX3_readDeed 78 = .ok (.iconst (-1), 1) := by decide +kernel
theorem dX3_readDeed_79 : decode cX3_readDeed 79 = .ok (.goto 11, 3) := by decide +kernel
theorem dX3_readDeed_82 : decode cX3_readDeed 82 = .ok (.aload_n 1, 1) := by decide +kernel
theorem dX3_readDeed_83 : decode cX3_readDeed 83 = .ok (.aload_n 0, 1) := by decide +kernel
theorem dX3_readDeed_84 : decode cX3_readDeed 84 = .ok (.getfield 31, 3) := by decide +kernel
theorem dX3_readDeed_87 : decode cX3_readDeed 87 = .ok (.invokevirtual 57, 3) := by decide +kernel
theorem dX3_readDeed_90 : decode cX3_readDeed 90 = .ok (.istore 4, 2) := by decide +kernel
theorem dX3_readDeed_92 : decode cX3_readDeed 92 = .ok (.iload 4, 2) := by decide +kernel
theorem dX3_readDeed_94 : decode cX3_readDeed 94 = .ok (.ifCond .ge 5, 3) := by decide +kernel
theorem dX3_readDeed_97 : decode cX3_readDeed 97 = .ok (.iconst 0, 1) := by decide +kernel
theorem dX3_readDeed_98 : decode cX3_readDeed 98 = .ok (.ireturn, 1) := by decide +kernel
theorem dX3_readDeed_99 : decode cX3_readDeed 99 = .ok (.aload_n 1, 1) := by decide +kernel
theorem dX3_readDeed_100 : decode cX3_readDeed 100 = .ok (.iconst 0, 1) := by decide +kernel
theorem dX3_readDeed_101 : decode cX3_readDeed 101 = .ok (.invokevirtual 35, 3) := by decide +kernel
theorem dX3_readDeed_104 : decode cX3_readDeed 104 = .ok (.istore 5, 2) := by decide +kernel
theorem dX3_readDeed_106 : decode cX3_readDeed 106 = .ok (.iload 5, 2) := by decide +kernel
theorem dX3_readDeed_108 : decode cX3_readDeed 108 = .ok (.ifCond .ge 5, 3) := by decide +kernel
theorem dX3_readDeed_111 : decode cX3_readDeed 111 = .ok (.iconst 0, 1) := by decide +kernel
theorem dX3_readDeed_112 : decode cX3_readDeed 112 = .ok (.ireturn, 1) := by decide +kernel
theorem dX3_readDeed_113 : decode cX3_readDeed 113 = .ok (.aload_n 0, 1) := by decide +kernel
theorem dX3_readDeed_114 : decode cX3_readDeed 114 = .ok (.getfield 18, 3) := by decide +kernel
theorem dX3_readDeed_117 : decode cX3_readDeed 117 = .ok (.iload_n 3, 1) := by decide +kernel
theorem dX3_readDeed_118 : decode cX3_readDeed 118 = .ok (.dup2, 1) := by decide +kernel
theorem dX3_readDeed_119 : decode cX3_readDeed 119 = .ok (.iaload, 1) := by decide +kernel
theorem dX3_readDeed_120 : decode cX3_readDeed 120 = .ok (.iload_n 2, 1) := by decide +kernel
theorem dX3_readDeed_121 : decode cX3_readDeed 121 = .ok (.bipush 102, 2) := by decide +kernel
theorem dX3_readDeed_123 : decode cX3_readDeed 123 = .ok (.if_icmp .ne 10, 3) := by decide +kernel
theorem dX3_readDeed_126 : decode cX3_readDeed 126 = .ok (.iconst 3, 1) := by decide +kernel
theorem dX3_readDeed_127 : decode cX3_readDeed 127 = .ok (.iload 5, 2) := by decide +kernel
theorem dX3_readDeed_129 : decode cX3_readDeed 129 = .ok (.imul, 1) := by decide +kernel
theorem dX3_readDeed_130 : decode cX3_readDeed 130 = .ok (.goto 30, 3) := by decide +kernel
theorem dX3_readDeed_133 : decode cX3_readDeed 133 = .ok (.iload_n 2, 1) := by decide +kernel
theorem dX3_readDeed_134 : decode cX3_readDeed 134 = .ok (.bipush 121, 2) := by decide +kernel
theorem dX3_readDeed_136 : decode cX3_readDeed 136 = .ok (.if_icmp .ne 10, 3) := by decide +kernel
theorem dX3_readDeed_139 : decode cX3_readDeed 139 = .ok (.iconst 2, 1) := by decide +kernel
theorem dX3_readDeed_140 : decode cX3_readDeed 140 = .ok (.iload 5, 2) := by decide +kernel
theorem dX3_readDeed_142 : decode cX3_readDeed 142 = .ok (.imul, 1) := by decide +kernel
theorem dX3_readDeed_143 : decode cX3_readDeed 143 = .ok (.goto 17, 3) := by decide +kernel
theorem dX3_readDeed_146 : decode cX3_readDeed 146 = .ok (.iload_n 2, 1) := by decide +kernel
theorem dX3_readDeed_147 : decode cX3_readDeed 147 = .ok (.bipush 120, 2) := by decide +kernel
theorem dX3_readDeed_149 : decode cX3_readDeed 149 = .ok (.if_icmp .ne 9, 3) := by decide +kernel
theorem dX3_readDeed_152 : decode cX3_readDeed 152 = .ok (.iload 5, 2) := by decide +kernel
theorem dX3_readDeed_154 : decode cX3_readDeed 154 = .ok (.ineg, 1) := by decide +kernel
theorem dX3_readDeed_155 : decode cX3_readDeed 155 = .ok (.goto 5, 3) := by decide +kernel
theorem dX3_readDeed_158 : decode cX3_readDeed 158 = .ok (.iload 5, 2) := by decide +kernel
theorem dX3_readDeed_160 : decode cX3_readDeed 160 = .ok (.iadd, 1) := by decide +kernel
theorem dX3_readDeed_161 : decode cX3_readDeed 161 = .ok (.iastore, 1) := by decide +kernel
theorem dX3_readDeed_162 : decode cX3_readDeed 162 = .ok (.iload_n 2, 1) := by decide +kernel
theorem dX3_readDeed_163 : decode cX3_readDeed 163 = .ok (.bipush 120, 2) := by decide +kernel
theorem dX3_readDeed_165 : decode cX3_readDeed 165 = .ok (.if_icmp .ne 15, 3) := by decide +kernel
theorem dX3_readDeed_168 : decode cX3_readDeed 168 = .ok (.aload_n 0, 1) := by decide +kernel
theorem dX3_readDeed_169 : decode cX3_readDeed 169 = .ok (.getfield 18, 3) := by decide +kernel
theorem dX3_readDeed_172 : decode cX3_readDeed 172 = .ok (.iload 4, 2) := by decide +kernel
theorem dX3_readDeed_174 : decode cX3_readDeed 174 = .ok (.dup2, 1) := by decide +kernel
theorem dX3_readDeed_175 : decode cX3_readDeed 175 = .ok (.iaload, 1) := by decide +kernel
theorem dX3_readDeed_176 : decode cX3_readDeed 176 = .ok (.iload 5, 2) := by decide +kernel
theorem dX3_readDeed_178 : decode cX3_readDeed 178 = .ok (.iadd, 1) := by decide +kernel
theorem dX3_readDeed_179 : decode cX3_readDeed 179 = .ok (.iastore, 1) := by decide +kernel
theorem dX3_readDeed_180 : decode cX3_readDeed 180 = .ok (.iconst 1, 1) := by decide +kernel
theorem dX3_readDeed_181 : decode cX3_readDeed 181 = .ok (.ireturn, 1) := by decide +kernel
def xX3_readDeed_180 (s_X8_next : zq_Sp) (s_X8_skip : zq_Sp) (s_X8_takeLetter : zq_Sp) (s_X8_takeDigit : zq_Sp) (Q : zq_Q) (ls : zq_L) (st : List Value) (h : zq_H) : Prop := (zi_push (.int 1) (zi_zret Q)) ls st h
theorem kX3_readDeed_180 {X : zq_X} {d : Nat} (C : zq_C X cX3_readDeed 6 RX3 d) {d_X8_next : Nat} {s_X8_next : zq_Sp} (h_X8_next : zq_M yX8_next cX8_next 1 (some .int) 1 d_X8_next s_X8_next) (g_X8_next : d_X8_next + 1 ≤ d) {d_X8_skip : Nat} {s_X8_skip : zq_Sp} (h_X8_skip : zq_M yX8_skip cX8_skip 2 (some .boolean) 1 d_X8_skip s_X8_skip) (g_X8_skip : d_X8_skip + 1 ≤ d) {d_X8_takeLetter : Nat} {s_X8_takeLetter : zq_Sp} (h_X8_takeLetter : zq_M yX8_takeLetter cX8_takeLetter 3 (some .int) 1 d_X8_takeLetter s_X8_takeLetter) (g_X8_takeLetter : d_X8_takeLetter + 1 ≤ d) {d_X8_takeDigit : Nat} {s_X8_takeDigit : zq_Sp} (h_X8_takeDigit : zq_M yX8_takeDigit cX8_takeDigit 3 (some .int) 1 d_X8_takeDigit s_X8_takeDigit) (g_X8_takeDigit : d_X8_takeDigit + 1 ≤ d) {Q : zq_Q} (hq : zq_R X (some .boolean) 1 Q) : zq_ok X 6 180 (xX3_readDeed_180 s_X8_next s_X8_skip s_X8_takeLetter s_X8_takeDigit Q) := by
  refine zs_iconst C dX3_readDeed_180 (by decide) ?_
  exact zs_zret C hq dX3_readDeed_181
def xX3_readDeed_168 (s_X8_next : zq_Sp) (s_X8_skip : zq_Sp) (s_X8_takeLetter : zq_Sp) (s_X8_takeDigit : zq_Sp) (Q : zq_Q) (ls : zq_L) (st : List Value) (h : zq_H) : Prop := (zi_aload 0 (zi_getR 5 8 (zi_iload 4 (zi_dup2 (zi_aldI 8 6 (zi_iload 5 (zi_i2 (fun x y => x + y) (zi_astI 8 6 ((xX3_readDeed_180 s_X8_next s_X8_skip s_X8_takeLetter s_X8_takeDigit Q)))))))))) ls st h
theorem kX3_readDeed_168 {X : zq_X} {d : Nat} (C : zq_C X cX3_readDeed 6 RX3 d) {d_X8_next : Nat} {s_X8_next : zq_Sp} (h_X8_next : zq_M yX8_next cX8_next 1 (some .int) 1 d_X8_next s_X8_next) (g_X8_next : d_X8_next + 1 ≤ d) {d_X8_skip : Nat} {s_X8_skip : zq_Sp} (h_X8_skip : zq_M yX8_skip cX8_skip 2 (some .boolean) 1 d_X8_skip s_X8_skip) (g_X8_skip : d_X8_skip + 1 ≤ d) {d_X8_takeLetter : Nat} {s_X8_takeLetter : zq_Sp} (h_X8_takeLetter : zq_M yX8_takeLetter cX8_takeLetter 3 (some .int) 1 d_X8_takeLetter s_X8_takeLetter) (g_X8_takeLetter : d_X8_takeLetter + 1 ≤ d) {d_X8_takeDigit : Nat} {s_X8_takeDigit : zq_Sp} (h_X8_takeDigit : zq_M yX8_takeDigit cX8_takeDigit 3 (some .int) 1 d_X8_takeDigit s_X8_takeDigit) (g_X8_takeDigit : d_X8_takeDigit + 1 ≤ d) {Q : zq_Q} (hq : zq_R X (some .boolean) 1 Q) : zq_ok X 6 168 (xX3_readDeed_168 s_X8_next s_X8_skip s_X8_takeLetter s_X8_takeDigit Q) := by
  refine zs_aload_n C dX3_readDeed_168 rfl ?_
  refine zs_getR C zp_5 zF3 (j := 2) ⟨by decide, rfl⟩ zw_82 dX3_readDeed_169 ?_
  refine zs_iload C dX3_readDeed_172 ?_
  refine zs_dup2 C dX3_readDeed_174 ?_
  refine zs_iaload C zp_8 dX3_readDeed_175 ?_
  refine zs_iload C dX3_readDeed_176 ?_
  refine zs_iadd C dX3_readDeed_178 ?_
  refine zs_iastore C zp_8 dX3_readDeed_179 ?_
  exact kX3_readDeed_180 C h_X8_next g_X8_next h_X8_skip g_X8_skip h_X8_takeLetter g_X8_takeLetter h_X8_takeDigit g_X8_takeDigit hq
def xX3_readDeed_160 (s_X8_next : zq_Sp) (s_X8_skip : zq_Sp) (s_X8_takeLetter : zq_Sp) (s_X8_takeDigit : zq_Sp) (Q : zq_Q) (ls : zq_L) (st : List Value) (h : zq_H) : Prop := (zi_i2 (fun x y => x + y) (zi_astI 8 6 (zi_iload 2 (zi_push (.int 120) (zi_if2 (fun x y => x = y) (xX3_readDeed_168 s_X8_next s_X8_skip s_X8_takeLetter s_X8_takeDigit Q) (xX3_readDeed_180 s_X8_next s_X8_skip s_X8_takeLetter s_X8_takeDigit Q)))))) ls st h
theorem kX3_readDeed_160 {X : zq_X} {d : Nat} (C : zq_C X cX3_readDeed 6 RX3 d) {d_X8_next : Nat} {s_X8_next : zq_Sp} (h_X8_next : zq_M yX8_next cX8_next 1 (some .int) 1 d_X8_next s_X8_next) (g_X8_next : d_X8_next + 1 ≤ d) {d_X8_skip : Nat} {s_X8_skip : zq_Sp} (h_X8_skip : zq_M yX8_skip cX8_skip 2 (some .boolean) 1 d_X8_skip s_X8_skip) (g_X8_skip : d_X8_skip + 1 ≤ d) {d_X8_takeLetter : Nat} {s_X8_takeLetter : zq_Sp} (h_X8_takeLetter : zq_M yX8_takeLetter cX8_takeLetter 3 (some .int) 1 d_X8_takeLetter s_X8_takeLetter) (g_X8_takeLetter : d_X8_takeLetter + 1 ≤ d) {d_X8_takeDigit : Nat} {s_X8_takeDigit : zq_Sp} (h_X8_takeDigit : zq_M yX8_takeDigit cX8_takeDigit 3 (some .int) 1 d_X8_takeDigit s_X8_takeDigit) (g_X8_takeDigit : d_X8_takeDigit + 1 ≤ d) {Q : zq_Q} (hq : zq_R X (some .boolean) 1 Q) : zq_ok X 6 160 (xX3_readDeed_160 s_X8_next s_X8_skip s_X8_takeLetter s_X8_takeDigit Q) := by
  refine zs_iadd C dX3_readDeed_160 ?_
  refine zs_iastore C zp_8 dX3_readDeed_161 ?_
  refine zs_iload_n C dX3_readDeed_162 rfl ?_
  refine zs_bipush C dX3_readDeed_163 (by decide) ?_
  exact zs_icmp_ne C dX3_readDeed_165 (by decide) (kX3_readDeed_180 C h_X8_next g_X8_next h_X8_skip g_X8_skip h_X8_takeLetter g_X8_takeLetter h_X8_takeDigit g_X8_takeDigit hq) (kX3_readDeed_168 C h_X8_next g_X8_next h_X8_skip g_X8_skip h_X8_takeLetter g_X8_takeLetter h_X8_takeDigit g_X8_takeDigit hq)
def xX3_readDeed_158 (s_X8_next : zq_Sp) (s_X8_skip : zq_Sp) (s_X8_takeLetter : zq_Sp) (s_X8_takeDigit : zq_Sp) (Q : zq_Q) (ls : zq_L) (st : List Value) (h : zq_H) : Prop := (zi_iload 5 ((xX3_readDeed_160 s_X8_next s_X8_skip s_X8_takeLetter s_X8_takeDigit Q))) ls st h
theorem kX3_readDeed_158 {X : zq_X} {d : Nat} (C : zq_C X cX3_readDeed 6 RX3 d) {d_X8_next : Nat} {s_X8_next : zq_Sp} (h_X8_next : zq_M yX8_next cX8_next 1 (some .int) 1 d_X8_next s_X8_next) (g_X8_next : d_X8_next + 1 ≤ d) {d_X8_skip : Nat} {s_X8_skip : zq_Sp} (h_X8_skip : zq_M yX8_skip cX8_skip 2 (some .boolean) 1 d_X8_skip s_X8_skip) (g_X8_skip : d_X8_skip + 1 ≤ d) {d_X8_takeLetter : Nat} {s_X8_takeLetter : zq_Sp} (h_X8_takeLetter : zq_M yX8_takeLetter cX8_takeLetter 3 (some .int) 1 d_X8_takeLetter s_X8_takeLetter) (g_X8_takeLetter : d_X8_takeLetter + 1 ≤ d) {d_X8_takeDigit : Nat} {s_X8_takeDigit : zq_Sp} (h_X8_takeDigit : zq_M yX8_takeDigit cX8_takeDigit 3 (some .int) 1 d_X8_takeDigit s_X8_takeDigit) (g_X8_takeDigit : d_X8_takeDigit + 1 ≤ d) {Q : zq_Q} (hq : zq_R X (some .boolean) 1 Q) : zq_ok X 6 158 (xX3_readDeed_158 s_X8_next s_X8_skip s_X8_takeLetter s_X8_takeDigit Q) := by
  refine zs_iload C dX3_readDeed_158 ?_
  exact kX3_readDeed_160 C h_X8_next g_X8_next h_X8_skip g_X8_skip h_X8_takeLetter g_X8_takeLetter h_X8_takeDigit g_X8_takeDigit hq
def xX3_readDeed_152 (s_X8_next : zq_Sp) (s_X8_skip : zq_Sp) (s_X8_takeLetter : zq_Sp) (s_X8_takeDigit : zq_Sp) (Q : zq_Q) (ls : zq_L) (st : List Value) (h : zq_H) : Prop := (zi_iload 5 (zi_i1 (fun x => -x) ((xX3_readDeed_160 s_X8_next s_X8_skip s_X8_takeLetter s_X8_takeDigit Q)))) ls st h
theorem kX3_readDeed_152 {X : zq_X} {d : Nat} (C : zq_C X cX3_readDeed 6 RX3 d) {d_X8_next : Nat} {s_X8_next : zq_Sp} (h_X8_next : zq_M yX8_next cX8_next 1 (some .int) 1 d_X8_next s_X8_next) (g_X8_next : d_X8_next + 1 ≤ d) {d_X8_skip : Nat} {s_X8_skip : zq_Sp} (h_X8_skip : zq_M yX8_skip cX8_skip 2 (some .boolean) 1 d_X8_skip s_X8_skip) (g_X8_skip : d_X8_skip + 1 ≤ d) {d_X8_takeLetter : Nat} {s_X8_takeLetter : zq_Sp} (h_X8_takeLetter : zq_M yX8_takeLetter cX8_takeLetter 3 (some .int) 1 d_X8_takeLetter s_X8_takeLetter) (g_X8_takeLetter : d_X8_takeLetter + 1 ≤ d) {d_X8_takeDigit : Nat} {s_X8_takeDigit : zq_Sp} (h_X8_takeDigit : zq_M yX8_takeDigit cX8_takeDigit 3 (some .int) 1 d_X8_takeDigit s_X8_takeDigit) (g_X8_takeDigit : d_X8_takeDigit + 1 ≤ d) {Q : zq_Q} (hq : zq_R X (some .boolean) 1 Q) : zq_ok X 6 152 (xX3_readDeed_152 s_X8_next s_X8_skip s_X8_takeLetter s_X8_takeDigit Q) := by
  refine zs_iload C dX3_readDeed_152 ?_
  refine zs_ineg C dX3_readDeed_154 ?_
  exact zs_goto C dX3_readDeed_155 (by decide) (kX3_readDeed_160 C h_X8_next g_X8_next h_X8_skip g_X8_skip h_X8_takeLetter g_X8_takeLetter h_X8_takeDigit g_X8_takeDigit hq)
def xX3_readDeed_146 (s_X8_next : zq_Sp) (s_X8_skip : zq_Sp) (s_X8_takeLetter : zq_Sp) (s_X8_takeDigit : zq_Sp) (Q : zq_Q) (ls : zq_L) (st : List Value) (h : zq_H) : Prop := (zi_iload 2 (zi_push (.int 120) (zi_if2 (fun x y => x = y) (xX3_readDeed_152 s_X8_next s_X8_skip s_X8_takeLetter s_X8_takeDigit Q) (xX3_readDeed_158 s_X8_next s_X8_skip s_X8_takeLetter s_X8_takeDigit Q)))) ls st h
theorem kX3_readDeed_146 {X : zq_X} {d : Nat} (C : zq_C X cX3_readDeed 6 RX3 d) {d_X8_next : Nat} {s_X8_next : zq_Sp} (h_X8_next : zq_M yX8_next cX8_next 1 (some .int) 1 d_X8_next s_X8_next) (g_X8_next : d_X8_next + 1 ≤ d) {d_X8_skip : Nat} {s_X8_skip : zq_Sp} (h_X8_skip : zq_M yX8_skip cX8_skip 2 (some .boolean) 1 d_X8_skip s_X8_skip) (g_X8_skip : d_X8_skip + 1 ≤ d) {d_X8_takeLetter : Nat} {s_X8_takeLetter : zq_Sp} (h_X8_takeLetter : zq_M yX8_takeLetter cX8_takeLetter 3 (some .int) 1 d_X8_takeLetter s_X8_takeLetter) (g_X8_takeLetter : d_X8_takeLetter + 1 ≤ d) {d_X8_takeDigit : Nat} {s_X8_takeDigit : zq_Sp} (h_X8_takeDigit : zq_M yX8_takeDigit cX8_takeDigit 3 (some .int) 1 d_X8_takeDigit s_X8_takeDigit) (g_X8_takeDigit : d_X8_takeDigit + 1 ≤ d) {Q : zq_Q} (hq : zq_R X (some .boolean) 1 Q) : zq_ok X 6 146 (xX3_readDeed_146 s_X8_next s_X8_skip s_X8_takeLetter s_X8_takeDigit Q) := by
  refine zs_iload_n C dX3_readDeed_146 rfl ?_
  refine zs_bipush C dX3_readDeed_147 (by decide) ?_
  exact zs_icmp_ne C dX3_readDeed_149 (by decide) (kX3_readDeed_158 C h_X8_next g_X8_next h_X8_skip g_X8_skip h_X8_takeLetter g_X8_takeLetter h_X8_takeDigit g_X8_takeDigit hq) (kX3_readDeed_152 C h_X8_next g_X8_next h_X8_skip g_X8_skip h_X8_takeLetter g_X8_takeLetter h_X8_takeDigit g_X8_takeDigit hq)
def xX3_readDeed_139 (s_X8_next : zq_Sp) (s_X8_skip : zq_Sp) (s_X8_takeLetter : zq_Sp) (s_X8_takeDigit : zq_Sp) (Q : zq_Q) (ls : zq_L) (st : List Value) (h : zq_H) : Prop := (zi_push (.int 2) (zi_iload 5 (zi_i2 (fun x y => x * y) ((xX3_readDeed_160 s_X8_next s_X8_skip s_X8_takeLetter s_X8_takeDigit Q))))) ls st h
theorem kX3_readDeed_139 {X : zq_X} {d : Nat} (C : zq_C X cX3_readDeed 6 RX3 d) {d_X8_next : Nat} {s_X8_next : zq_Sp} (h_X8_next : zq_M yX8_next cX8_next 1 (some .int) 1 d_X8_next s_X8_next) (g_X8_next : d_X8_next + 1 ≤ d) {d_X8_skip : Nat} {s_X8_skip : zq_Sp} (h_X8_skip : zq_M yX8_skip cX8_skip 2 (some .boolean) 1 d_X8_skip s_X8_skip) (g_X8_skip : d_X8_skip + 1 ≤ d) {d_X8_takeLetter : Nat} {s_X8_takeLetter : zq_Sp} (h_X8_takeLetter : zq_M yX8_takeLetter cX8_takeLetter 3 (some .int) 1 d_X8_takeLetter s_X8_takeLetter) (g_X8_takeLetter : d_X8_takeLetter + 1 ≤ d) {d_X8_takeDigit : Nat} {s_X8_takeDigit : zq_Sp} (h_X8_takeDigit : zq_M yX8_takeDigit cX8_takeDigit 3 (some .int) 1 d_X8_takeDigit s_X8_takeDigit) (g_X8_takeDigit : d_X8_takeDigit + 1 ≤ d) {Q : zq_Q} (hq : zq_R X (some .boolean) 1 Q) : zq_ok X 6 139 (xX3_readDeed_139 s_X8_next s_X8_skip s_X8_takeLetter s_X8_takeDigit Q) := by
  refine zs_iconst C dX3_readDeed_139 (by decide) ?_
  refine zs_iload C dX3_readDeed_140 ?_
  refine zs_imul C dX3_readDeed_142 ?_
  exact zs_goto C dX3_readDeed_143 (by decide) (kX3_readDeed_160 C h_X8_next g_X8_next h_X8_skip g_X8_skip h_X8_takeLetter g_X8_takeLetter h_X8_takeDigit g_X8_takeDigit hq)
def xX3_readDeed_133 (s_X8_next : zq_Sp) (s_X8_skip : zq_Sp) (s_X8_takeLetter : zq_Sp) (s_X8_takeDigit : zq_Sp) (Q : zq_Q) (ls : zq_L) (st : List Value) (h : zq_H) : Prop := (zi_iload 2 (zi_push (.int 121) (zi_if2 (fun x y => x = y) (xX3_readDeed_139 s_X8_next s_X8_skip s_X8_takeLetter s_X8_takeDigit Q) (xX3_readDeed_146 s_X8_next s_X8_skip s_X8_takeLetter s_X8_takeDigit Q)))) ls st h
theorem kX3_readDeed_133 {X : zq_X} {d : Nat} (C : zq_C X cX3_readDeed 6 RX3 d) {d_X8_next : Nat} {s_X8_next : zq_Sp} (h_X8_next : zq_M yX8_next cX8_next 1 (some .int) 1 d_X8_next s_X8_next) (g_X8_next : d_X8_next + 1 ≤ d) {d_X8_skip : Nat} {s_X8_skip : zq_Sp} (h_X8_skip : zq_M yX8_skip cX8_skip 2 (some .boolean) 1 d_X8_skip s_X8_skip) (g_X8_skip : d_X8_skip + 1 ≤ d) {d_X8_takeLetter : Nat} {s_X8_takeLetter : zq_Sp} (h_X8_takeLetter : zq_M yX8_takeLetter cX8_takeLetter 3 (some .int) 1 d_X8_takeLetter s_X8_takeLetter) (g_X8_takeLetter : d_X8_takeLetter + 1 ≤ d) {d_X8_takeDigit : Nat} {s_X8_takeDigit : zq_Sp} (h_X8_takeDigit : zq_M yX8_takeDigit cX8_takeDigit 3 (some .int) 1 d_X8_takeDigit s_X8_takeDigit) (g_X8_takeDigit : d_X8_takeDigit + 1 ≤ d) {Q : zq_Q} (hq : zq_R X (some .boolean) 1 Q) : zq_ok X 6 133 (xX3_readDeed_133 s_X8_next s_X8_skip s_X8_takeLetter s_X8_takeDigit Q) := by
  refine zs_iload_n C dX3_readDeed_133 rfl ?_
  refine zs_bipush C dX3_readDeed_134 (by decide) ?_
  exact zs_icmp_ne C dX3_readDeed_136 (by decide) (kX3_readDeed_146 C h_X8_next g_X8_next h_X8_skip g_X8_skip h_X8_takeLetter g_X8_takeLetter h_X8_takeDigit g_X8_takeDigit hq) (kX3_readDeed_139 C h_X8_next g_X8_next h_X8_skip g_X8_skip h_X8_takeLetter g_X8_takeLetter h_X8_takeDigit g_X8_takeDigit hq)
def xX3_readDeed_126 (s_X8_next : zq_Sp) (s_X8_skip : zq_Sp) (s_X8_takeLetter : zq_Sp) (s_X8_takeDigit : zq_Sp) (Q : zq_Q) (ls : zq_L) (st : List Value) (h : zq_H) : Prop := (zi_push (.int 3) (zi_iload 5 (zi_i2 (fun x y => x * y) ((xX3_readDeed_160 s_X8_next s_X8_skip s_X8_takeLetter s_X8_takeDigit Q))))) ls st h
theorem kX3_readDeed_126 {X : zq_X} {d : Nat} (C : zq_C X cX3_readDeed 6 RX3 d) {d_X8_next : Nat} {s_X8_next : zq_Sp} (h_X8_next : zq_M yX8_next cX8_next 1 (some .int) 1 d_X8_next s_X8_next) (g_X8_next : d_X8_next + 1 ≤ d) {d_X8_skip : Nat} {s_X8_skip : zq_Sp} (h_X8_skip : zq_M yX8_skip cX8_skip 2 (some .boolean) 1 d_X8_skip s_X8_skip) (g_X8_skip : d_X8_skip + 1 ≤ d) {d_X8_takeLetter : Nat} {s_X8_takeLetter : zq_Sp} (h_X8_takeLetter : zq_M yX8_takeLetter cX8_takeLetter 3 (some .int) 1 d_X8_takeLetter s_X8_takeLetter) (g_X8_takeLetter : d_X8_takeLetter + 1 ≤ d) {d_X8_takeDigit : Nat} {s_X8_takeDigit : zq_Sp} (h_X8_takeDigit : zq_M yX8_takeDigit cX8_takeDigit 3 (some .int) 1 d_X8_takeDigit s_X8_takeDigit) (g_X8_takeDigit : d_X8_takeDigit + 1 ≤ d) {Q : zq_Q} (hq : zq_R X (some .boolean) 1 Q) : zq_ok X 6 126 (xX3_readDeed_126 s_X8_next s_X8_skip s_X8_takeLetter s_X8_takeDigit Q) := by
  refine zs_iconst C dX3_readDeed_126 (by decide) ?_
  refine zs_iload C dX3_readDeed_127 ?_
  refine zs_imul C dX3_readDeed_129 ?_
  exact zs_goto C dX3_readDeed_130 (by decide) (kX3_readDeed_160 C h_X8_next g_X8_next h_X8_skip g_X8_skip h_X8_takeLetter g_X8_takeLetter h_X8_takeDigit g_X8_takeDigit hq)
def xX3_readDeed_113 (s_X8_next : zq_Sp) (s_X8_skip : zq_Sp) (s_X8_takeLetter : zq_Sp) (s_X8_takeDigit : zq_Sp) (Q : zq_Q) (ls : zq_L) (st : List Value) (h : zq_H) : Prop := (zi_aload 0 (zi_getR 5 8 (zi_iload 3 (zi_dup2 (zi_aldI 8 6 (zi_iload 2 (zi_push (.int 102) (zi_if2 (fun x y => x = y) (xX3_readDeed_126 s_X8_next s_X8_skip s_X8_takeLetter s_X8_takeDigit Q) (xX3_readDeed_133 s_X8_next s_X8_skip s_X8_takeLetter s_X8_takeDigit Q))))))))) ls st h
theorem kX3_readDeed_113 {X : zq_X} {d : Nat} (C : zq_C X cX3_readDeed 6 RX3 d) {d_X8_next : Nat} {s_X8_next : zq_Sp} (h_X8_next : zq_M yX8_next cX8_next 1 (some .int) 1 d_X8_next s_X8_next) (g_X8_next : d_X8_next + 1 ≤ d) {d_X8_skip : Nat} {s_X8_skip : zq_Sp} (h_X8_skip : zq_M yX8_skip cX8_skip 2 (some .boolean) 1 d_X8_skip s_X8_skip) (g_X8_skip : d_X8_skip + 1 ≤ d) {d_X8_takeLetter : Nat} {s_X8_takeLetter : zq_Sp} (h_X8_takeLetter : zq_M yX8_takeLetter cX8_takeLetter 3 (some .int) 1 d_X8_takeLetter s_X8_takeLetter) (g_X8_takeLetter : d_X8_takeLetter + 1 ≤ d) {d_X8_takeDigit : Nat} {s_X8_takeDigit : zq_Sp} (h_X8_takeDigit : zq_M yX8_takeDigit cX8_takeDigit 3 (some .int) 1 d_X8_takeDigit s_X8_takeDigit) (g_X8_takeDigit : d_X8_takeDigit + 1 ≤ d) {Q : zq_Q} (hq : zq_R X (some .boolean) 1 Q) : zq_ok X 6 113 (xX3_readDeed_113 s_X8_next s_X8_skip s_X8_takeLetter s_X8_takeDigit Q) := by
  refine zs_aload_n C dX3_readDeed_113 rfl ?_
  refine zs_getR C zp_5 zF3 (j := 2) ⟨by decide, rfl⟩ zw_82 dX3_readDeed_114 ?_
  refine zs_iload_n C dX3_readDeed_117 rfl ?_
  refine zs_dup2 C dX3_readDeed_118 ?_
  refine zs_iaload C zp_8 dX3_readDeed_119 ?_
  refine zs_iload_n C dX3_readDeed_120 rfl ?_
  refine zs_bipush C dX3_readDeed_121 (by decide) ?_
  exact zs_icmp_ne C dX3_readDeed_123 (by decide) (kX3_readDeed_133 C h_X8_next g_X8_next h_X8_skip g_X8_skip h_X8_takeLetter g_X8_takeLetter h_X8_takeDigit g_X8_takeDigit hq) (kX3_readDeed_126 C h_X8_next g_X8_next h_X8_skip g_X8_skip h_X8_takeLetter g_X8_takeLetter h_X8_takeDigit g_X8_takeDigit hq)
def xX3_readDeed_111 (s_X8_next : zq_Sp) (s_X8_skip : zq_Sp) (s_X8_takeLetter : zq_Sp) (s_X8_takeDigit : zq_Sp) (Q : zq_Q) (ls : zq_L) (st : List Value) (h : zq_H) : Prop := (zi_push (.int 0) (zi_zret Q)) ls st h
theorem kX3_readDeed_111 {X : zq_X} {d : Nat} (C : zq_C X cX3_readDeed 6 RX3 d) {d_X8_next : Nat} {s_X8_next : zq_Sp} (h_X8_next : zq_M yX8_next cX8_next 1 (some .int) 1 d_X8_next s_X8_next) (g_X8_next : d_X8_next + 1 ≤ d) {d_X8_skip : Nat} {s_X8_skip : zq_Sp} (h_X8_skip : zq_M yX8_skip cX8_skip 2 (some .boolean) 1 d_X8_skip s_X8_skip) (g_X8_skip : d_X8_skip + 1 ≤ d) {d_X8_takeLetter : Nat} {s_X8_takeLetter : zq_Sp} (h_X8_takeLetter : zq_M yX8_takeLetter cX8_takeLetter 3 (some .int) 1 d_X8_takeLetter s_X8_takeLetter) (g_X8_takeLetter : d_X8_takeLetter + 1 ≤ d) {d_X8_takeDigit : Nat} {s_X8_takeDigit : zq_Sp} (h_X8_takeDigit : zq_M yX8_takeDigit cX8_takeDigit 3 (some .int) 1 d_X8_takeDigit s_X8_takeDigit) (g_X8_takeDigit : d_X8_takeDigit + 1 ≤ d) {Q : zq_Q} (hq : zq_R X (some .boolean) 1 Q) : zq_ok X 6 111 (xX3_readDeed_111 s_X8_next s_X8_skip s_X8_takeLetter s_X8_takeDigit Q) := by
  refine zs_iconst C dX3_readDeed_111 (by decide) ?_
  exact zs_zret C hq dX3_readDeed_112
def xX3_readDeed_99 (s_X8_next : zq_Sp) (s_X8_skip : zq_Sp) (s_X8_takeLetter : zq_Sp) (s_X8_takeDigit : zq_Sp) (Q : zq_Q) (ls : zq_L) (st : List Value) (h : zq_H) : Prop := (zi_aload 1 (zi_push (.int 0) (zi_callV 1 1 s_X8_takeDigit (zi_istore 5 (zi_iload 5 (zi_if1 (fun x => 0 ≤ x) (xX3_readDeed_113 s_X8_next s_X8_skip s_X8_takeLetter s_X8_takeDigit Q) (xX3_readDeed_111 s_X8_next s_X8_skip s_X8_takeLetter s_X8_takeDigit Q))))))) ls st h
theorem kX3_readDeed_99 {X : zq_X} {d : Nat} (C : zq_C X cX3_readDeed 6 RX3 d) {d_X8_next : Nat} {s_X8_next : zq_Sp} (h_X8_next : zq_M yX8_next cX8_next 1 (some .int) 1 d_X8_next s_X8_next) (g_X8_next : d_X8_next + 1 ≤ d) {d_X8_skip : Nat} {s_X8_skip : zq_Sp} (h_X8_skip : zq_M yX8_skip cX8_skip 2 (some .boolean) 1 d_X8_skip s_X8_skip) (g_X8_skip : d_X8_skip + 1 ≤ d) {d_X8_takeLetter : Nat} {s_X8_takeLetter : zq_Sp} (h_X8_takeLetter : zq_M yX8_takeLetter cX8_takeLetter 3 (some .int) 1 d_X8_takeLetter s_X8_takeLetter) (g_X8_takeLetter : d_X8_takeLetter + 1 ≤ d) {d_X8_takeDigit : Nat} {s_X8_takeDigit : zq_Sp} (h_X8_takeDigit : zq_M yX8_takeDigit cX8_takeDigit 3 (some .int) 1 d_X8_takeDigit s_X8_takeDigit) (g_X8_takeDigit : d_X8_takeDigit + 1 ≤ d) {Q : zq_Q} (hq : zq_R X (some .boolean) 1 Q) : zq_ok X 6 99 (xX3_readDeed_99 s_X8_next s_X8_skip s_X8_takeLetter s_X8_takeDigit Q) := by
  refine zs_aload_n C dX3_readDeed_99 rfl ?_
  refine zs_iconst C dX3_readDeed_100 (by decide) ?_
  refine zs_callV C h_X8_takeDigit g_X8_takeDigit zy_X8_takeDigit zp_1 (show vwCl[8]? = some (RX8, TX8, 4) from rfl) zw_466 zw_400 zs9_X8_takeDigit dX3_readDeed_101 ?_
  refine zs_istore C dX3_readDeed_104 (by decide) ?_
  refine zs_iload C dX3_readDeed_106 ?_
  exact zs_if_ge C dX3_readDeed_108 (by decide) (kX3_readDeed_113 C h_X8_next g_X8_next h_X8_skip g_X8_skip h_X8_takeLetter g_X8_takeLetter h_X8_takeDigit g_X8_takeDigit hq) (kX3_readDeed_111 C h_X8_next g_X8_next h_X8_skip g_X8_skip h_X8_takeLetter g_X8_takeLetter h_X8_takeDigit g_X8_takeDigit hq)
def xX3_readDeed_97 (s_X8_next : zq_Sp) (s_X8_skip : zq_Sp) (s_X8_takeLetter : zq_Sp) (s_X8_takeDigit : zq_Sp) (Q : zq_Q) (ls : zq_L) (st : List Value) (h : zq_H) : Prop := (zi_push (.int 0) (zi_zret Q)) ls st h
theorem kX3_readDeed_97 {X : zq_X} {d : Nat} (C : zq_C X cX3_readDeed 6 RX3 d) {d_X8_next : Nat} {s_X8_next : zq_Sp} (h_X8_next : zq_M yX8_next cX8_next 1 (some .int) 1 d_X8_next s_X8_next) (g_X8_next : d_X8_next + 1 ≤ d) {d_X8_skip : Nat} {s_X8_skip : zq_Sp} (h_X8_skip : zq_M yX8_skip cX8_skip 2 (some .boolean) 1 d_X8_skip s_X8_skip) (g_X8_skip : d_X8_skip + 1 ≤ d) {d_X8_takeLetter : Nat} {s_X8_takeLetter : zq_Sp} (h_X8_takeLetter : zq_M yX8_takeLetter cX8_takeLetter 3 (some .int) 1 d_X8_takeLetter s_X8_takeLetter) (g_X8_takeLetter : d_X8_takeLetter + 1 ≤ d) {d_X8_takeDigit : Nat} {s_X8_takeDigit : zq_Sp} (h_X8_takeDigit : zq_M yX8_takeDigit cX8_takeDigit 3 (some .int) 1 d_X8_takeDigit s_X8_takeDigit) (g_X8_takeDigit : d_X8_takeDigit + 1 ≤ d) {Q : zq_Q} (hq : zq_R X (some .boolean) 1 Q) : zq_ok X 6 97 (xX3_readDeed_97 s_X8_next s_X8_skip s_X8_takeLetter s_X8_takeDigit Q) := by
  refine zs_iconst C dX3_readDeed_97 (by decide) ?_
  exact zs_zret C hq dX3_readDeed_98
def xX3_readDeed_90 (s_X8_next : zq_Sp) (s_X8_skip : zq_Sp) (s_X8_takeLetter : zq_Sp) (s_X8_takeDigit : zq_Sp) (Q : zq_Q) (ls : zq_L) (st : List Value) (h : zq_H) : Prop := (zi_istore 4 (zi_iload 4 (zi_if1 (fun x => 0 ≤ x) (xX3_readDeed_99 s_X8_next s_X8_skip s_X8_takeLetter s_X8_takeDigit Q) (xX3_readDeed_97 s_X8_next s_X8_skip s_X8_takeLetter s_X8_takeDigit Q)))) ls st h
theorem kX3_readDeed_90 {X : zq_X} {d : Nat} (C : zq_C X cX3_readDeed 6 RX3 d) {d_X8_next : Nat} {s_X8_next : zq_Sp} (h_X8_next : zq_M yX8_next cX8_next 1 (some .int) 1 d_X8_next s_X8_next) (g_X8_next : d_X8_next + 1 ≤ d) {d_X8_skip : Nat} {s_X8_skip : zq_Sp} (h_X8_skip : zq_M yX8_skip cX8_skip 2 (some .boolean) 1 d_X8_skip s_X8_skip) (g_X8_skip : d_X8_skip + 1 ≤ d) {d_X8_takeLetter : Nat} {s_X8_takeLetter : zq_Sp} (h_X8_takeLetter : zq_M yX8_takeLetter cX8_takeLetter 3 (some .int) 1 d_X8_takeLetter s_X8_takeLetter) (g_X8_takeLetter : d_X8_takeLetter + 1 ≤ d) {d_X8_takeDigit : Nat} {s_X8_takeDigit : zq_Sp} (h_X8_takeDigit : zq_M yX8_takeDigit cX8_takeDigit 3 (some .int) 1 d_X8_takeDigit s_X8_takeDigit) (g_X8_takeDigit : d_X8_takeDigit + 1 ≤ d) {Q : zq_Q} (hq : zq_R X (some .boolean) 1 Q) : zq_ok X 6 90 (xX3_readDeed_90 s_X8_next s_X8_skip s_X8_takeLetter s_X8_takeDigit Q) := by
  refine zs_istore C dX3_readDeed_90 (by decide) ?_
  refine zs_iload C dX3_readDeed_92 ?_
  exact zs_if_ge C dX3_readDeed_94 (by decide) (kX3_readDeed_99 C h_X8_next g_X8_next h_X8_skip g_X8_skip h_X8_takeLetter g_X8_takeLetter h_X8_takeDigit g_X8_takeDigit hq) (kX3_readDeed_97 C h_X8_next g_X8_next h_X8_skip g_X8_skip h_X8_takeLetter g_X8_takeLetter h_X8_takeDigit g_X8_takeDigit hq)
def xX3_readDeed_82 (s_X8_next : zq_Sp) (s_X8_skip : zq_Sp) (s_X8_takeLetter : zq_Sp) (s_X8_takeDigit : zq_Sp) (Q : zq_Q) (ls : zq_L) (st : List Value) (h : zq_H) : Prop := (zi_aload 1 (zi_aload 0 (zi_getI 5 3 (zi_callV 1 1 s_X8_takeLetter ((xX3_readDeed_90 s_X8_next s_X8_skip s_X8_takeLetter s_X8_takeDigit Q)))))) ls st h
theorem kX3_readDeed_82 {X : zq_X} {d : Nat} (C : zq_C X cX3_readDeed 6 RX3 d) {d_X8_next : Nat} {s_X8_next : zq_Sp} (h_X8_next : zq_M yX8_next cX8_next 1 (some .int) 1 d_X8_next s_X8_next) (g_X8_next : d_X8_next + 1 ≤ d) {d_X8_skip : Nat} {s_X8_skip : zq_Sp} (h_X8_skip : zq_M yX8_skip cX8_skip 2 (some .boolean) 1 d_X8_skip s_X8_skip) (g_X8_skip : d_X8_skip + 1 ≤ d) {d_X8_takeLetter : Nat} {s_X8_takeLetter : zq_Sp} (h_X8_takeLetter : zq_M yX8_takeLetter cX8_takeLetter 3 (some .int) 1 d_X8_takeLetter s_X8_takeLetter) (g_X8_takeLetter : d_X8_takeLetter + 1 ≤ d) {d_X8_takeDigit : Nat} {s_X8_takeDigit : zq_Sp} (h_X8_takeDigit : zq_M yX8_takeDigit cX8_takeDigit 3 (some .int) 1 d_X8_takeDigit s_X8_takeDigit) (g_X8_takeDigit : d_X8_takeDigit + 1 ≤ d) {Q : zq_Q} (hq : zq_R X (some .boolean) 1 Q) : zq_ok X 6 82 (xX3_readDeed_82 s_X8_next s_X8_skip s_X8_takeLetter s_X8_takeDigit Q) := by
  refine zs_aload_n C dX3_readDeed_82 rfl ?_
  refine zs_aload_n C dX3_readDeed_83 rfl ?_
  refine zs_getI C zp_5 zF3 (j := 3) ⟨by decide, rfl⟩ zw_84 dX3_readDeed_84 ?_
  refine zs_callV C h_X8_takeLetter g_X8_takeLetter zy_X8_takeLetter zp_1 (show vwCl[8]? = some (RX8, TX8, 4) from rfl) zw_488 zw_408 zs9_X8_takeLetter dX3_readDeed_87 ?_
  exact kX3_readDeed_90 C h_X8_next g_X8_next h_X8_skip g_X8_skip h_X8_takeLetter g_X8_takeLetter h_X8_takeDigit g_X8_takeDigit hq
def xX3_readDeed_78 (s_X8_next : zq_Sp) (s_X8_skip : zq_Sp) (s_X8_takeLetter : zq_Sp) (s_X8_takeDigit : zq_Sp) (Q : zq_Q) (ls : zq_L) (st : List Value) (h : zq_H) : Prop := (zi_push (.int (-1)) ((xX3_readDeed_90 s_X8_next s_X8_skip s_X8_takeLetter s_X8_takeDigit Q))) ls st h
theorem kX3_readDeed_78 {X : zq_X} {d : Nat} (C : zq_C X cX3_readDeed 6 RX3 d) {d_X8_next : Nat} {s_X8_next : zq_Sp} (h_X8_next : zq_M yX8_next cX8_next 1 (some .int) 1 d_X8_next s_X8_next) (g_X8_next : d_X8_next + 1 ≤ d) {d_X8_skip : Nat} {s_X8_skip : zq_Sp} (h_X8_skip : zq_M yX8_skip cX8_skip 2 (some .boolean) 1 d_X8_skip s_X8_skip) (g_X8_skip : d_X8_skip + 1 ≤ d) {d_X8_takeLetter : Nat} {s_X8_takeLetter : zq_Sp} (h_X8_takeLetter : zq_M yX8_takeLetter cX8_takeLetter 3 (some .int) 1 d_X8_takeLetter s_X8_takeLetter) (g_X8_takeLetter : d_X8_takeLetter + 1 ≤ d) {d_X8_takeDigit : Nat} {s_X8_takeDigit : zq_Sp} (h_X8_takeDigit : zq_M yX8_takeDigit cX8_takeDigit 3 (some .int) 1 d_X8_takeDigit s_X8_takeDigit) (g_X8_takeDigit : d_X8_takeDigit + 1 ≤ d) {Q : zq_Q} (hq : zq_R X (some .boolean) 1 Q) : zq_ok X 6 78 (xX3_readDeed_78 s_X8_next s_X8_skip s_X8_takeLetter s_X8_takeDigit Q) := by
  refine zs_iconst C dX3_readDeed_78 (by decide) ?_
  exact zs_goto C dX3_readDeed_79 (by decide) (kX3_readDeed_90 C h_X8_next g_X8_next h_X8_skip g_X8_skip h_X8_takeLetter g_X8_takeLetter h_X8_takeDigit g_X8_takeDigit hq)
def xX3_readDeed_67 (s_X8_next : zq_Sp) (s_X8_skip : zq_Sp) (s_X8_takeLetter : zq_Sp) (s_X8_takeDigit : zq_Sp) (Q : zq_Q) (ls : zq_L) (st : List Value) (h : zq_H) : Prop := (zi_aload 1 (zi_callV 0 1 s_X8_next (zi_push (.int 97) (zi_iload 3 (zi_i2 (fun x y => x + y) (zi_if2 (fun x y => x = y) (xX3_readDeed_78 s_X8_next s_X8_skip s_X8_takeLetter s_X8_takeDigit Q) (xX3_readDeed_82 s_X8_next s_X8_skip s_X8_takeLetter s_X8_takeDigit Q))))))) ls st h
theorem kX3_readDeed_67 {X : zq_X} {d : Nat} (C : zq_C X cX3_readDeed 6 RX3 d) {d_X8_next : Nat} {s_X8_next : zq_Sp} (h_X8_next : zq_M yX8_next cX8_next 1 (some .int) 1 d_X8_next s_X8_next) (g_X8_next : d_X8_next + 1 ≤ d) {d_X8_skip : Nat} {s_X8_skip : zq_Sp} (h_X8_skip : zq_M yX8_skip cX8_skip 2 (some .boolean) 1 d_X8_skip s_X8_skip) (g_X8_skip : d_X8_skip + 1 ≤ d) {d_X8_takeLetter : Nat} {s_X8_takeLetter : zq_Sp} (h_X8_takeLetter : zq_M yX8_takeLetter cX8_takeLetter 3 (some .int) 1 d_X8_takeLetter s_X8_takeLetter) (g_X8_takeLetter : d_X8_takeLetter + 1 ≤ d) {d_X8_takeDigit : Nat} {s_X8_takeDigit : zq_Sp} (h_X8_takeDigit : zq_M yX8_takeDigit cX8_takeDigit 3 (some .int) 1 d_X8_takeDigit s_X8_takeDigit) (g_X8_takeDigit : d_X8_takeDigit + 1 ≤ d) {Q : zq_Q} (hq : zq_R X (some .boolean) 1 Q) : zq_ok X 6 67 (xX3_readDeed_67 s_X8_next s_X8_skip s_X8_takeLetter s_X8_takeDigit Q) := by
  refine zs_aload_n C dX3_readDeed_67 rfl ?_
  refine zs_callV C h_X8_next g_X8_next zy_X8_next zp_1 (show vwCl[8]? = some (RX8, TX8, 4) from rfl) zw_487 zw_404 zs9_X8_next dX3_readDeed_68 ?_
  refine zs_bipush C dX3_readDeed_71 (by decide) ?_
  refine zs_iload_n C dX3_readDeed_73 rfl ?_
  refine zs_iadd C dX3_readDeed_74 ?_
  exact zs_icmp_ne C dX3_readDeed_75 (by decide) (kX3_readDeed_82 C h_X8_next g_X8_next h_X8_skip g_X8_skip h_X8_takeLetter g_X8_takeLetter h_X8_takeDigit g_X8_takeDigit hq) (kX3_readDeed_78 C h_X8_next g_X8_next h_X8_skip g_X8_skip h_X8_takeLetter g_X8_takeLetter h_X8_takeDigit g_X8_takeDigit hq)
def xX3_readDeed_61 (s_X8_next : zq_Sp) (s_X8_skip : zq_Sp) (s_X8_takeLetter : zq_Sp) (s_X8_takeDigit : zq_Sp) (Q : zq_Q) (ls : zq_L) (st : List Value) (h : zq_H) : Prop := (zi_iload 2 (zi_push (.int 103) (zi_if2 (fun x y => x = y) (xX3_readDeed_67 s_X8_next s_X8_skip s_X8_takeLetter s_X8_takeDigit Q) (xX3_readDeed_99 s_X8_next s_X8_skip s_X8_takeLetter s_X8_takeDigit Q)))) ls st h
theorem kX3_readDeed_61 {X : zq_X} {d : Nat} (C : zq_C X cX3_readDeed 6 RX3 d) {d_X8_next : Nat} {s_X8_next : zq_Sp} (h_X8_next : zq_M yX8_next cX8_next 1 (some .int) 1 d_X8_next s_X8_next) (g_X8_next : d_X8_next + 1 ≤ d) {d_X8_skip : Nat} {s_X8_skip : zq_Sp} (h_X8_skip : zq_M yX8_skip cX8_skip 2 (some .boolean) 1 d_X8_skip s_X8_skip) (g_X8_skip : d_X8_skip + 1 ≤ d) {d_X8_takeLetter : Nat} {s_X8_takeLetter : zq_Sp} (h_X8_takeLetter : zq_M yX8_takeLetter cX8_takeLetter 3 (some .int) 1 d_X8_takeLetter s_X8_takeLetter) (g_X8_takeLetter : d_X8_takeLetter + 1 ≤ d) {d_X8_takeDigit : Nat} {s_X8_takeDigit : zq_Sp} (h_X8_takeDigit : zq_M yX8_takeDigit cX8_takeDigit 3 (some .int) 1 d_X8_takeDigit s_X8_takeDigit) (g_X8_takeDigit : d_X8_takeDigit + 1 ≤ d) {Q : zq_Q} (hq : zq_R X (some .boolean) 1 Q) : zq_ok X 6 61 (xX3_readDeed_61 s_X8_next s_X8_skip s_X8_takeLetter s_X8_takeDigit Q) := by
  refine zs_iload_n C dX3_readDeed_61 rfl ?_
  refine zs_bipush C dX3_readDeed_62 (by decide) ?_
  exact zs_icmp_ne C dX3_readDeed_64 (by decide) (kX3_readDeed_99 C h_X8_next g_X8_next h_X8_skip g_X8_skip h_X8_takeLetter g_X8_takeLetter h_X8_takeDigit g_X8_takeDigit hq) (kX3_readDeed_67 C h_X8_next g_X8_next h_X8_skip g_X8_skip h_X8_takeLetter g_X8_takeLetter h_X8_takeDigit g_X8_takeDigit hq)
def xX3_readDeed_52 (s_X8_next : zq_Sp) (s_X8_skip : zq_Sp) (s_X8_takeLetter : zq_Sp) (s_X8_takeDigit : zq_Sp) (Q : zq_Q) (ls : zq_L) (st : List Value) (h : zq_H) : Prop := (zi_push (.int (-1)) (zi_istore 4 (zi_iload 2 (zi_push (.int 120) (zi_if2 (fun x y => x = y) (xX3_readDeed_67 s_X8_next s_X8_skip s_X8_takeLetter s_X8_takeDigit Q) (xX3_readDeed_61 s_X8_next s_X8_skip s_X8_takeLetter s_X8_takeDigit Q)))))) ls st h
theorem kX3_readDeed_52 {X : zq_X} {d : Nat} (C : zq_C X cX3_readDeed 6 RX3 d) {d_X8_next : Nat} {s_X8_next : zq_Sp} (h_X8_next : zq_M yX8_next cX8_next 1 (some .int) 1 d_X8_next s_X8_next) (g_X8_next : d_X8_next + 1 ≤ d) {d_X8_skip : Nat} {s_X8_skip : zq_Sp} (h_X8_skip : zq_M yX8_skip cX8_skip 2 (some .boolean) 1 d_X8_skip s_X8_skip) (g_X8_skip : d_X8_skip + 1 ≤ d) {d_X8_takeLetter : Nat} {s_X8_takeLetter : zq_Sp} (h_X8_takeLetter : zq_M yX8_takeLetter cX8_takeLetter 3 (some .int) 1 d_X8_takeLetter s_X8_takeLetter) (g_X8_takeLetter : d_X8_takeLetter + 1 ≤ d) {d_X8_takeDigit : Nat} {s_X8_takeDigit : zq_Sp} (h_X8_takeDigit : zq_M yX8_takeDigit cX8_takeDigit 3 (some .int) 1 d_X8_takeDigit s_X8_takeDigit) (g_X8_takeDigit : d_X8_takeDigit + 1 ≤ d) {Q : zq_Q} (hq : zq_R X (some .boolean) 1 Q) : zq_ok X 6 52 (xX3_readDeed_52 s_X8_next s_X8_skip s_X8_takeLetter s_X8_takeDigit Q) := by
  refine zs_iconst C dX3_readDeed_52 (by decide) ?_
  refine zs_istore C dX3_readDeed_53 (by decide) ?_
  refine zs_iload_n C dX3_readDeed_55 rfl ?_
  refine zs_bipush C dX3_readDeed_56 (by decide) ?_
  exact zs_icmp_eq C dX3_readDeed_58 (by decide) (kX3_readDeed_67 C h_X8_next g_X8_next h_X8_skip g_X8_skip h_X8_takeLetter g_X8_takeLetter h_X8_takeDigit g_X8_takeDigit hq) (kX3_readDeed_61 C h_X8_next g_X8_next h_X8_skip g_X8_skip h_X8_takeLetter g_X8_takeLetter h_X8_takeDigit g_X8_takeDigit hq)
def xX3_readDeed_50 (s_X8_next : zq_Sp) (s_X8_skip : zq_Sp) (s_X8_takeLetter : zq_Sp) (s_X8_takeDigit : zq_Sp) (Q : zq_Q) (ls : zq_L) (st : List Value) (h : zq_H) : Prop := (zi_push (.int 0) (zi_zret Q)) ls st h
theorem kX3_readDeed_50 {X : zq_X} {d : Nat} (C : zq_C X cX3_readDeed 6 RX3 d) {d_X8_next : Nat} {s_X8_next : zq_Sp} (h_X8_next : zq_M yX8_next cX8_next 1 (some .int) 1 d_X8_next s_X8_next) (g_X8_next : d_X8_next + 1 ≤ d) {d_X8_skip : Nat} {s_X8_skip : zq_Sp} (h_X8_skip : zq_M yX8_skip cX8_skip 2 (some .boolean) 1 d_X8_skip s_X8_skip) (g_X8_skip : d_X8_skip + 1 ≤ d) {d_X8_takeLetter : Nat} {s_X8_takeLetter : zq_Sp} (h_X8_takeLetter : zq_M yX8_takeLetter cX8_takeLetter 3 (some .int) 1 d_X8_takeLetter s_X8_takeLetter) (g_X8_takeLetter : d_X8_takeLetter + 1 ≤ d) {d_X8_takeDigit : Nat} {s_X8_takeDigit : zq_Sp} (h_X8_takeDigit : zq_M yX8_takeDigit cX8_takeDigit 3 (some .int) 1 d_X8_takeDigit s_X8_takeDigit) (g_X8_takeDigit : d_X8_takeDigit + 1 ≤ d) {Q : zq_Q} (hq : zq_R X (some .boolean) 1 Q) : zq_ok X 6 50 (xX3_readDeed_50 s_X8_next s_X8_skip s_X8_takeLetter s_X8_takeDigit Q) := by
  refine zs_iconst C dX3_readDeed_50 (by decide) ?_
  exact zs_zret C hq dX3_readDeed_51
def xX3_readDeed_31 (s_X8_next : zq_Sp) (s_X8_skip : zq_Sp) (s_X8_takeLetter : zq_Sp) (s_X8_takeDigit : zq_Sp) (Q : zq_Q) (ls : zq_L) (st : List Value) (h : zq_H) : Prop := (zi_aload 1 (zi_iload 2 (zi_callV 1 1 s_X8_skip (zi_pop (zi_aload 1 (zi_aload 0 (zi_getI 5 3 (zi_callV 1 1 s_X8_takeLetter (zi_istore 3 (zi_iload 3 (zi_if1 (fun x => 0 ≤ x) (xX3_readDeed_52 s_X8_next s_X8_skip s_X8_takeLetter s_X8_takeDigit Q) (xX3_readDeed_50 s_X8_next s_X8_skip s_X8_takeLetter s_X8_takeDigit Q)))))))))))) ls st h
theorem kX3_readDeed_31 {X : zq_X} {d : Nat} (C : zq_C X cX3_readDeed 6 RX3 d) {d_X8_next : Nat} {s_X8_next : zq_Sp} (h_X8_next : zq_M yX8_next cX8_next 1 (some .int) 1 d_X8_next s_X8_next) (g_X8_next : d_X8_next + 1 ≤ d) {d_X8_skip : Nat} {s_X8_skip : zq_Sp} (h_X8_skip : zq_M yX8_skip cX8_skip 2 (some .boolean) 1 d_X8_skip s_X8_skip) (g_X8_skip : d_X8_skip + 1 ≤ d) {d_X8_takeLetter : Nat} {s_X8_takeLetter : zq_Sp} (h_X8_takeLetter : zq_M yX8_takeLetter cX8_takeLetter 3 (some .int) 1 d_X8_takeLetter s_X8_takeLetter) (g_X8_takeLetter : d_X8_takeLetter + 1 ≤ d) {d_X8_takeDigit : Nat} {s_X8_takeDigit : zq_Sp} (h_X8_takeDigit : zq_M yX8_takeDigit cX8_takeDigit 3 (some .int) 1 d_X8_takeDigit s_X8_takeDigit) (g_X8_takeDigit : d_X8_takeDigit + 1 ≤ d) {Q : zq_Q} (hq : zq_R X (some .boolean) 1 Q) : zq_ok X 6 31 (xX3_readDeed_31 s_X8_next s_X8_skip s_X8_takeLetter s_X8_takeDigit Q) := by
  refine zs_aload_n C dX3_readDeed_31 rfl ?_
  refine zs_iload_n C dX3_readDeed_32 rfl ?_
  refine zs_callV C h_X8_skip g_X8_skip zy_X8_skip zp_1 (show vwCl[8]? = some (RX8, TX8, 4) from rfl) zw_467 zw_412 zs9_X8_skip dX3_readDeed_33 ?_
  refine zs_pop C dX3_readDeed_36 ?_
  refine zs_aload_n C dX3_readDeed_37 rfl ?_
  refine zs_aload_n C dX3_readDeed_38 rfl ?_
  refine zs_getI C zp_5 zF3 (j := 3) ⟨by decide, rfl⟩ zw_84 dX3_readDeed_39 ?_
  refine zs_callV C h_X8_takeLetter g_X8_takeLetter zy_X8_takeLetter zp_1 (show vwCl[8]? = some (RX8, TX8, 4) from rfl) zw_488 zw_408 zs9_X8_takeLetter dX3_readDeed_42 ?_
  refine zs_istore_n C dX3_readDeed_45 rfl (by decide) ?_
  refine zs_iload_n C dX3_readDeed_46 rfl ?_
  exact zs_if_ge C dX3_readDeed_47 (by decide) (kX3_readDeed_52 C h_X8_next g_X8_next h_X8_skip g_X8_skip h_X8_takeLetter g_X8_takeLetter h_X8_takeDigit g_X8_takeDigit hq) (kX3_readDeed_50 C h_X8_next g_X8_next h_X8_skip g_X8_skip h_X8_takeLetter g_X8_takeLetter h_X8_takeDigit g_X8_takeDigit hq)
def xX3_readDeed_29 (s_X8_next : zq_Sp) (s_X8_skip : zq_Sp) (s_X8_takeLetter : zq_Sp) (s_X8_takeDigit : zq_Sp) (Q : zq_Q) (ls : zq_L) (st : List Value) (h : zq_H) : Prop := (zi_push (.int 0) (zi_zret Q)) ls st h
theorem kX3_readDeed_29 {X : zq_X} {d : Nat} (C : zq_C X cX3_readDeed 6 RX3 d) {d_X8_next : Nat} {s_X8_next : zq_Sp} (h_X8_next : zq_M yX8_next cX8_next 1 (some .int) 1 d_X8_next s_X8_next) (g_X8_next : d_X8_next + 1 ≤ d) {d_X8_skip : Nat} {s_X8_skip : zq_Sp} (h_X8_skip : zq_M yX8_skip cX8_skip 2 (some .boolean) 1 d_X8_skip s_X8_skip) (g_X8_skip : d_X8_skip + 1 ≤ d) {d_X8_takeLetter : Nat} {s_X8_takeLetter : zq_Sp} (h_X8_takeLetter : zq_M yX8_takeLetter cX8_takeLetter 3 (some .int) 1 d_X8_takeLetter s_X8_takeLetter) (g_X8_takeLetter : d_X8_takeLetter + 1 ≤ d) {d_X8_takeDigit : Nat} {s_X8_takeDigit : zq_Sp} (h_X8_takeDigit : zq_M yX8_takeDigit cX8_takeDigit 3 (some .int) 1 d_X8_takeDigit s_X8_takeDigit) (g_X8_takeDigit : d_X8_takeDigit + 1 ≤ d) {Q : zq_Q} (hq : zq_R X (some .boolean) 1 Q) : zq_ok X 6 29 (xX3_readDeed_29 s_X8_next s_X8_skip s_X8_takeLetter s_X8_takeDigit Q) := by
  refine zs_iconst C dX3_readDeed_29 (by decide) ?_
  exact zs_zret C hq dX3_readDeed_30
def xX3_readDeed_23 (s_X8_next : zq_Sp) (s_X8_skip : zq_Sp) (s_X8_takeLetter : zq_Sp) (s_X8_takeDigit : zq_Sp) (Q : zq_Q) (ls : zq_L) (st : List Value) (h : zq_H) : Prop := (zi_iload 2 (zi_push (.int 103) (zi_if2 (fun x y => x = y) (xX3_readDeed_31 s_X8_next s_X8_skip s_X8_takeLetter s_X8_takeDigit Q) (xX3_readDeed_29 s_X8_next s_X8_skip s_X8_takeLetter s_X8_takeDigit Q)))) ls st h
theorem kX3_readDeed_23 {X : zq_X} {d : Nat} (C : zq_C X cX3_readDeed 6 RX3 d) {d_X8_next : Nat} {s_X8_next : zq_Sp} (h_X8_next : zq_M yX8_next cX8_next 1 (some .int) 1 d_X8_next s_X8_next) (g_X8_next : d_X8_next + 1 ≤ d) {d_X8_skip : Nat} {s_X8_skip : zq_Sp} (h_X8_skip : zq_M yX8_skip cX8_skip 2 (some .boolean) 1 d_X8_skip s_X8_skip) (g_X8_skip : d_X8_skip + 1 ≤ d) {d_X8_takeLetter : Nat} {s_X8_takeLetter : zq_Sp} (h_X8_takeLetter : zq_M yX8_takeLetter cX8_takeLetter 3 (some .int) 1 d_X8_takeLetter s_X8_takeLetter) (g_X8_takeLetter : d_X8_takeLetter + 1 ≤ d) {d_X8_takeDigit : Nat} {s_X8_takeDigit : zq_Sp} (h_X8_takeDigit : zq_M yX8_takeDigit cX8_takeDigit 3 (some .int) 1 d_X8_takeDigit s_X8_takeDigit) (g_X8_takeDigit : d_X8_takeDigit + 1 ≤ d) {Q : zq_Q} (hq : zq_R X (some .boolean) 1 Q) : zq_ok X 6 23 (xX3_readDeed_23 s_X8_next s_X8_skip s_X8_takeLetter s_X8_takeDigit Q) := by
  refine zs_iload_n C dX3_readDeed_23 rfl ?_
  refine zs_bipush C dX3_readDeed_24 (by decide) ?_
  exact zs_icmp_eq C dX3_readDeed_26 (by decide) (kX3_readDeed_31 C h_X8_next g_X8_next h_X8_skip g_X8_skip h_X8_takeLetter g_X8_takeLetter h_X8_takeDigit g_X8_takeDigit hq) (kX3_readDeed_29 C h_X8_next g_X8_next h_X8_skip g_X8_skip h_X8_takeLetter g_X8_takeLetter h_X8_takeDigit g_X8_takeDigit hq)
def xX3_readDeed_17 (s_X8_next : zq_Sp) (s_X8_skip : zq_Sp) (s_X8_takeLetter : zq_Sp) (s_X8_takeDigit : zq_Sp) (Q : zq_Q) (ls : zq_L) (st : List Value) (h : zq_H) : Prop := (zi_iload 2 (zi_push (.int 120) (zi_if2 (fun x y => x = y) (xX3_readDeed_31 s_X8_next s_X8_skip s_X8_takeLetter s_X8_takeDigit Q) (xX3_readDeed_23 s_X8_next s_X8_skip s_X8_takeLetter s_X8_takeDigit Q)))) ls st h
theorem kX3_readDeed_17 {X : zq_X} {d : Nat} (C : zq_C X cX3_readDeed 6 RX3 d) {d_X8_next : Nat} {s_X8_next : zq_Sp} (h_X8_next : zq_M yX8_next cX8_next 1 (some .int) 1 d_X8_next s_X8_next) (g_X8_next : d_X8_next + 1 ≤ d) {d_X8_skip : Nat} {s_X8_skip : zq_Sp} (h_X8_skip : zq_M yX8_skip cX8_skip 2 (some .boolean) 1 d_X8_skip s_X8_skip) (g_X8_skip : d_X8_skip + 1 ≤ d) {d_X8_takeLetter : Nat} {s_X8_takeLetter : zq_Sp} (h_X8_takeLetter : zq_M yX8_takeLetter cX8_takeLetter 3 (some .int) 1 d_X8_takeLetter s_X8_takeLetter) (g_X8_takeLetter : d_X8_takeLetter + 1 ≤ d) {d_X8_takeDigit : Nat} {s_X8_takeDigit : zq_Sp} (h_X8_takeDigit : zq_M yX8_takeDigit cX8_takeDigit 3 (some .int) 1 d_X8_takeDigit s_X8_takeDigit) (g_X8_takeDigit : d_X8_takeDigit + 1 ≤ d) {Q : zq_Q} (hq : zq_R X (some .boolean) 1 Q) : zq_ok X 6 17 (xX3_readDeed_17 s_X8_next s_X8_skip s_X8_takeLetter s_X8_takeDigit Q) := by
  refine zs_iload_n C dX3_readDeed_17 rfl ?_
  refine zs_bipush C dX3_readDeed_18 (by decide) ?_
  exact zs_icmp_eq C dX3_readDeed_20 (by decide) (kX3_readDeed_31 C h_X8_next g_X8_next h_X8_skip g_X8_skip h_X8_takeLetter g_X8_takeLetter h_X8_takeDigit g_X8_takeDigit hq) (kX3_readDeed_23 C h_X8_next g_X8_next h_X8_skip g_X8_skip h_X8_takeLetter g_X8_takeLetter h_X8_takeDigit g_X8_takeDigit hq)
def xX3_readDeed_11 (s_X8_next : zq_Sp) (s_X8_skip : zq_Sp) (s_X8_takeLetter : zq_Sp) (s_X8_takeDigit : zq_Sp) (Q : zq_Q) (ls : zq_L) (st : List Value) (h : zq_H) : Prop := (zi_iload 2 (zi_push (.int 121) (zi_if2 (fun x y => x = y) (xX3_readDeed_31 s_X8_next s_X8_skip s_X8_takeLetter s_X8_takeDigit Q) (xX3_readDeed_17 s_X8_next s_X8_skip s_X8_takeLetter s_X8_takeDigit Q)))) ls st h
theorem kX3_readDeed_11 {X : zq_X} {d : Nat} (C : zq_C X cX3_readDeed 6 RX3 d) {d_X8_next : Nat} {s_X8_next : zq_Sp} (h_X8_next : zq_M yX8_next cX8_next 1 (some .int) 1 d_X8_next s_X8_next) (g_X8_next : d_X8_next + 1 ≤ d) {d_X8_skip : Nat} {s_X8_skip : zq_Sp} (h_X8_skip : zq_M yX8_skip cX8_skip 2 (some .boolean) 1 d_X8_skip s_X8_skip) (g_X8_skip : d_X8_skip + 1 ≤ d) {d_X8_takeLetter : Nat} {s_X8_takeLetter : zq_Sp} (h_X8_takeLetter : zq_M yX8_takeLetter cX8_takeLetter 3 (some .int) 1 d_X8_takeLetter s_X8_takeLetter) (g_X8_takeLetter : d_X8_takeLetter + 1 ≤ d) {d_X8_takeDigit : Nat} {s_X8_takeDigit : zq_Sp} (h_X8_takeDigit : zq_M yX8_takeDigit cX8_takeDigit 3 (some .int) 1 d_X8_takeDigit s_X8_takeDigit) (g_X8_takeDigit : d_X8_takeDigit + 1 ≤ d) {Q : zq_Q} (hq : zq_R X (some .boolean) 1 Q) : zq_ok X 6 11 (xX3_readDeed_11 s_X8_next s_X8_skip s_X8_takeLetter s_X8_takeDigit Q) := by
  refine zs_iload_n C dX3_readDeed_11 rfl ?_
  refine zs_bipush C dX3_readDeed_12 (by decide) ?_
  exact zs_icmp_eq C dX3_readDeed_14 (by decide) (kX3_readDeed_31 C h_X8_next g_X8_next h_X8_skip g_X8_skip h_X8_takeLetter g_X8_takeLetter h_X8_takeDigit g_X8_takeDigit hq) (kX3_readDeed_17 C h_X8_next g_X8_next h_X8_skip g_X8_skip h_X8_takeLetter g_X8_takeLetter h_X8_takeDigit g_X8_takeDigit hq)
def xX3_readDeed_0 (s_X8_next : zq_Sp) (s_X8_skip : zq_Sp) (s_X8_takeLetter : zq_Sp) (s_X8_takeDigit : zq_Sp) (Q : zq_Q) (ls : zq_L) (st : List Value) (h : zq_H) : Prop := (zi_aload 1 (zi_callV 0 1 s_X8_next (zi_istore 2 (zi_iload 2 (zi_push (.int 102) (zi_if2 (fun x y => x = y) (xX3_readDeed_31 s_X8_next s_X8_skip s_X8_takeLetter s_X8_takeDigit Q) (xX3_readDeed_11 s_X8_next s_X8_skip s_X8_takeLetter s_X8_takeDigit Q))))))) ls st h
theorem kX3_readDeed_0 {X : zq_X} {d : Nat} (C : zq_C X cX3_readDeed 6 RX3 d) {d_X8_next : Nat} {s_X8_next : zq_Sp} (h_X8_next : zq_M yX8_next cX8_next 1 (some .int) 1 d_X8_next s_X8_next) (g_X8_next : d_X8_next + 1 ≤ d) {d_X8_skip : Nat} {s_X8_skip : zq_Sp} (h_X8_skip : zq_M yX8_skip cX8_skip 2 (some .boolean) 1 d_X8_skip s_X8_skip) (g_X8_skip : d_X8_skip + 1 ≤ d) {d_X8_takeLetter : Nat} {s_X8_takeLetter : zq_Sp} (h_X8_takeLetter : zq_M yX8_takeLetter cX8_takeLetter 3 (some .int) 1 d_X8_takeLetter s_X8_takeLetter) (g_X8_takeLetter : d_X8_takeLetter + 1 ≤ d) {d_X8_takeDigit : Nat} {s_X8_takeDigit : zq_Sp} (h_X8_takeDigit : zq_M yX8_takeDigit cX8_takeDigit 3 (some .int) 1 d_X8_takeDigit s_X8_takeDigit) (g_X8_takeDigit : d_X8_takeDigit + 1 ≤ d) {Q : zq_Q} (hq : zq_R X (some .boolean) 1 Q) : zq_ok X 6 0 (xX3_readDeed_0 s_X8_next s_X8_skip s_X8_takeLetter s_X8_takeDigit Q) := by
  refine zs_aload_n C dX3_readDeed_0 rfl ?_
  refine zs_callV C h_X8_next g_X8_next zy_X8_next zp_1 (show vwCl[8]? = some (RX8, TX8, 4) from rfl) zw_487 zw_404 zs9_X8_next dX3_readDeed_1 ?_
  refine zs_istore_n C dX3_readDeed_4 rfl (by decide) ?_
  refine zs_iload_n C dX3_readDeed_5 rfl ?_
  refine zs_bipush C dX3_readDeed_6 (by decide) ?_
  exact zs_icmp_eq C dX3_readDeed_8 (by decide) (kX3_readDeed_31 C h_X8_next g_X8_next h_X8_skip g_X8_skip h_X8_takeLetter g_X8_takeLetter h_X8_takeDigit g_X8_takeDigit hq) (kX3_readDeed_11 C h_X8_next g_X8_next h_X8_skip g_X8_skip h_X8_takeLetter g_X8_takeLetter h_X8_takeDigit g_X8_takeDigit hq)
theorem mX3_readDeed {d : Nat} {spec : zq_Sp} {d_X8_next : Nat} {s_X8_next : zq_Sp} (h_X8_next : zq_M yX8_next cX8_next 1 (some .int) 1 d_X8_next s_X8_next) (g_X8_next : d_X8_next + 1 ≤ d) {d_X8_skip : Nat} {s_X8_skip : zq_Sp} (h_X8_skip : zq_M yX8_skip cX8_skip 2 (some .boolean) 1 d_X8_skip s_X8_skip) (g_X8_skip : d_X8_skip + 1 ≤ d) {d_X8_takeLetter : Nat} {s_X8_takeLetter : zq_Sp} (h_X8_takeLetter : zq_M yX8_takeLetter cX8_takeLetter 3 (some .int) 1 d_X8_takeLetter s_X8_takeLetter) (g_X8_takeLetter : d_X8_takeLetter + 1 ≤ d) {d_X8_takeDigit : Nat} {s_X8_takeDigit : zq_Sp} (h_X8_takeDigit : zq_M yX8_takeDigit cX8_takeDigit 3 (some .int) 1 d_X8_takeDigit s_X8_takeDigit) (g_X8_takeDigit : d_X8_takeDigit + 1 ≤ d) (v : ∀ args h Q, spec args h Q → (zq_a args).length ≤ 6 ∧ xX3_readDeed_0 s_X8_next s_X8_skip s_X8_takeLetter s_X8_takeDigit Q (zq_l0 6 args) [] h) : zq_M yX3_readDeed cX3_readDeed 6 (some .boolean) 1 d spec := by
  refine zq_met (by decide +kernel) (by decide) (fun X Q args h C hq hs => ⟨(v args h Q hs).1, _, ?_, (v args h Q hs).2⟩)
  exact kX3_readDeed_0 C h_X8_next g_X8_next h_X8_skip g_X8_skip h_X8_takeLetter g_X8_takeLetter h_X8_takeDigit g_X8_takeDigit hq
/-! ToOneCrumb$Party.judge()V -/
theorem dX3_judge_0 : decode cX3_judge 0 = .ok (.iconst 0, 1) := by decide +kernel
theorem dX3_judge_1 : decode cX3_judge 1 = .ok (.istore_n 1, 1) := by decide +kernel
theorem dX3_judge_2 : decode cX3_judge 2 = .ok (.iload_n 1, 1) := by decide +kernel
theorem dX3_judge_3 : decode cX3_judge 3 = .ok (.aload_n 0, 1) := by decide +kernel
theorem dX3_judge_4 : decode cX3_judge 4 = .ok (.getfield 31, 3) := by decide +kernel
theorem dX3_judge_7 : decode cX3_judge 7 = .ok (.if_icmp .ge 25, 3) := by decide +kernel
theorem dX3_judge_10 : decode cX3_judge 10 = .ok (.aload_n 0, 1) := by decide +kernel
theorem dX3_judge_11 : decode cX3_judge 11 = .ok (.getfield 15, 3) := by decide +kernel
theorem dX3_judge_14 : decode cX3_judge 14 = .ok (.iload_n 1, 1) := by decide +kernel
theorem dX3_judge_15 : decode cX3_judge 15 = .ok (.iconst 0, 1) := by decide +kernel
theorem dX3_judge_16 : decode cX3_judge 16 = .ok (.aload_n 0, 1) := by decide +kernel
theorem dX3_judge_17 : decode cX3_judge 17 = .ok (.getfield 18, 3) := by decide +kernel
theorem dX3_judge_20 : decode cX3_judge 20 = .ok (.iload_n 1, 1) := by decide +kernel
theorem dX3_judge_21 : decode cX3_judge 21 = .ok (.iaload, 1) := by decide +kernel
theorem dX3_judge_22 : decode cX3_judge 22 = .ok (.invokestatic 60, 3) := by decide +kernel
theorem dX3_judge_25 : decode cX3_judge 25 = .ok (.iastore, 1) := by decide +kernel
theorem dX3_judge_26 : decode cX3_judge 26 = .ok (.iinc 1 1, 3) := by decide +kernel
theorem dX3_judge_29 : decode cX3_judge 29 = .ok (.goto (-27), 3) := by decide +kernel
theorem dX3_judge_32 : decode cX3_judge 32 = .ok (.return_, 1) := by decide +kernel
def xX3_judge_32 (J2 : zq_P) (Q : zq_Q) (ls : zq_L) (st : List Value) (h : zq_H) : Prop := (zi_vret Q) ls st h
theorem kX3_judge_32 {X : zq_X} {d : Nat} (C : zq_C X cX3_judge 2 RX3 d) (hd1 : 1 ≤ d) {J2 : zq_P} (j2 : zq_ok X 2 2 J2) {Q : zq_Q} (hq : zq_R X none 0 Q) : zq_ok X 2 32 (xX3_judge_32 J2 Q) := by
  exact zs_vret C hq dX3_judge_32
def xX3_judge_10 (J2 : zq_P) (Q : zq_Q) (ls : zq_L) (st : List Value) (h : zq_H) : Prop := (zi_aload 0 (zi_getR 5 7 (zi_iload 1 (zi_push (.int 0) (zi_aload 0 (zi_getR 5 8 (zi_iload 1 (zi_aldI 8 6 (zi_m2 zf_max (zi_astI 7 6 (zi_iinc 1 1 (J2)))))))))))) ls st h
theorem kX3_judge_10 {X : zq_X} {d : Nat} (C : zq_C X cX3_judge 2 RX3 d) (hd1 : 1 ≤ d) {J2 : zq_P} (j2 : zq_ok X 2 2 J2) {Q : zq_Q} (hq : zq_R X none 0 Q) : zq_ok X 2 10 (xX3_judge_10 J2 Q) := by
  refine zs_aload_n C dX3_judge_10 rfl ?_
  refine zs_getR C zp_5 zF3 (j := 1) ⟨by decide, rfl⟩ zw_80 dX3_judge_11 ?_
  refine zs_iload_n C dX3_judge_14 rfl ?_
  refine zs_iconst C dX3_judge_15 (by decide) ?_
  refine zs_aload_n C dX3_judge_16 rfl ?_
  refine zs_getR C zp_5 zF3 (j := 2) ⟨by decide, rfl⟩ zw_82 dX3_judge_17 ?_
  refine zs_iload_n C dX3_judge_20 rfl ?_
  refine zs_iaload C zp_8 dX3_judge_21 ?_
  refine zs_mmax C hd1 zw_493 zw_454 zw_14 zw_455 dX3_judge_22 ?_
  refine zs_iastore C zp_7 dX3_judge_25 ?_
  refine zs_iinc C dX3_judge_26 (by decide) (by decide) ?_
  exact zs_goto C dX3_judge_29 (by decide) (j2)
def xX3_judge_2 (J2 : zq_P) (Q : zq_Q) (ls : zq_L) (st : List Value) (h : zq_H) : Prop := (zi_iload 1 (zi_aload 0 (zi_getI 5 3 (zi_if2 (fun x y => y ≤ x) (xX3_judge_32 J2 Q) (xX3_judge_10 J2 Q))))) ls st h
theorem kX3_judge_2 {X : zq_X} {d : Nat} (C : zq_C X cX3_judge 2 RX3 d) (hd1 : 1 ≤ d) {J2 : zq_P} (j2 : zq_ok X 2 2 J2) {Q : zq_Q} (hq : zq_R X none 0 Q) : zq_ok X 2 2 (xX3_judge_2 J2 Q) := by
  refine zs_iload_n C dX3_judge_2 rfl ?_
  refine zs_aload_n C dX3_judge_3 rfl ?_
  refine zs_getI C zp_5 zF3 (j := 3) ⟨by decide, rfl⟩ zw_84 dX3_judge_4 ?_
  exact zs_icmp_ge C dX3_judge_7 (by decide) (kX3_judge_32 C hd1 j2 hq) (kX3_judge_10 C hd1 j2 hq)
def xX3_judge_0 (J2 : zq_P) (Q : zq_Q) (ls : zq_L) (st : List Value) (h : zq_H) : Prop := (zi_push (.int 0) (zi_istore 1 (J2))) ls st h
theorem kX3_judge_0 {X : zq_X} {d : Nat} (C : zq_C X cX3_judge 2 RX3 d) (hd1 : 1 ≤ d) {J2 : zq_P} (j2 : zq_ok X 2 2 J2) {Q : zq_Q} (hq : zq_R X none 0 Q) : zq_ok X 2 0 (xX3_judge_0 J2 Q) := by
  refine zs_iconst C dX3_judge_0 (by decide) ?_
  refine zs_istore_n C dX3_judge_1 rfl (by decide) ?_
  exact j2
theorem mX3_judge {d : Nat} {spec : zq_Sp} {σ2 : Type} (hd1 : 1 ≤ d) (μ2 : σ2 → Nat) (I2 : zq_Q → σ2 → zq_P) (v : ∀ args h Q, spec args h Q → (zq_a args).length ≤ 2 ∧ xX3_judge_0 (fun ls st h => ∃ b, I2 Q b ls st h) Q (zq_l0 2 args) [] h) (v2 : ∀ Q a ls st h, I2 Q a ls st h → xX3_judge_2 (fun ls st h => ∃ b, μ2 b < μ2 a ∧ I2 Q b ls st h) Q ls st h) : zq_M yX3_judge cX3_judge 2 none 0 d spec := by
  refine zq_met (by decide +kernel) (by decide) (fun X Q args h C hq hs => ⟨(v args h Q hs).1, _, ?_, (v args h Q hs).2⟩)
  have hl := zq_loop1 (X := X) (nL := 2) (pc1 := 2) μ2 (I2 Q) (fun J2 => xX3_judge_2 J2 Q) (fun j2 => kX3_judge_2 C hd1 j2 hq) (v2 Q)
  exact kX3_judge_0 C hd1 hl hq
/-! ToOneCrumb$Party.desertsOf(I)I -/
theorem dX3_desertsOf_0 : decode cX3_desertsOf 0 = .ok (.iconst 0, 1) := by decide +kernel
theorem dX3_desertsOf_1 : decode cX3_desertsOf 1 = .ok (.istore_n 2, 1) := by decide +kernel
theorem dX3_desertsOf_2 : decode cX3_desertsOf 2 = .ok (.iconst 0, 1) := by decide +kernel
theorem dX3_desertsOf_3 : decode cX3_desertsOf 3 = .ok (.istore_n 3, 1) := by decide +kernel
theorem dX3_desertsOf_4 : decode cX3_desertsOf 4 = .ok (.iload_n 3, 1) := by decide +kernel
theorem dX3_desertsOf_5 : decode cX3_desertsOf 5 = .ok (.aload_n 0, 1) := by decide +kernel
theorem dX3_desertsOf_6 : decode cX3_desertsOf 6 = .ok (.getfield 31, 3) := by decide +kernel
theorem dX3_desertsOf_9 : decode cX3_desertsOf 9 = .ok (.if_icmp .ge 26, 3) := by decide +kernel
theorem dX3_desertsOf_12 : decode cX3_desertsOf 12 = .ok (.iload_n 1, 1) := by decide +kernel
theorem dX3_desertsOf_13 : decode cX3_desertsOf 13 = .ok (.iload_n 3, 1) := by decide +kernel
theorem dX3_desertsOf_14 : decode cX3_desertsOf 14 = .ok (.ishr, 1) := by decide +kernel
theorem dX3_desertsOf_15 : decode cX3_desertsOf 15 = .ok (.iconst 1, 1) := by decide +kernel
theorem dX3_desertsOf_16 : decode cX3_desertsOf 16 = .ok (.iand, 1) := by decide +kernel
theorem dX3_desertsOf_17 : decode cX3_desertsOf 17 = .ok (.ifCond .eq 12, 3) := by decide +kernel
theorem dX3_desertsOf_20 : decode cX3_desertsOf 20 = .ok (.iload_n 2, 1) := by decide +kernel
theorem dX3_desertsOf_21 : decode cX3_desertsOf 21 = .ok (.aload_n 0, 1) := by decide +kernel
theorem dX3_desertsOf_22 : decode cX3_desertsOf 22 = .ok (.getfield 15, 3) := by decide +kernel
theorem dX3_desertsOf_25 : decode cX3_desertsOf 25 = .ok (.iload_n 3, 1) := by decide +kernel
theorem dX3_desertsOf_26 : decode cX3_desertsOf 26 = .ok (.iaload, 1) := by decide +kernel
theorem dX3_desertsOf_27 : decode cX3_desertsOf 27 = .ok (.iadd, 1) := by decide +kernel
theorem dX3_desertsOf_28 : decode cX3_desertsOf 28 = .ok (.istore_n 2, 1) := by decide +kernel
theorem dX3_desertsOf_29 : decode cX3_desertsOf 29 = .ok (.iinc 3 1, 3) := by decide +kernel
theorem dX3_desertsOf_32 : decode cX3_desertsOf 32 = .ok (.goto (-28), 3) := by decide +kernel
theorem dX3_desertsOf_35 : decode cX3_desertsOf 35 = .ok (.iload_n 2, 1) := by decide +kernel
theorem dX3_desertsOf_36 : decode cX3_desertsOf 36 = .ok (.ireturn, 1) := by decide +kernel
def xX3_desertsOf_35 (J4 : zq_P) (Q : zq_Q) (ls : zq_L) (st : List Value) (h : zq_H) : Prop := (zi_iload 2 (zi_iret Q)) ls st h
theorem kX3_desertsOf_35 {X : zq_X} {d : Nat} (C : zq_C X cX3_desertsOf 4 RX3 d) {J4 : zq_P} (j4 : zq_ok X 4 4 J4) {Q : zq_Q} (hq : zq_R X (some .int) 1 Q) : zq_ok X 4 35 (xX3_desertsOf_35 J4 Q) := by
  refine zs_iload_n C dX3_desertsOf_35 rfl ?_
  exact zs_iret C hq dX3_desertsOf_36
def xX3_desertsOf_29 (J4 : zq_P) (Q : zq_Q) (ls : zq_L) (st : List Value) (h : zq_H) : Prop := (zi_iinc 3 1 (J4)) ls st h
theorem kX3_desertsOf_29 {X : zq_X} {d : Nat} (C : zq_C X cX3_desertsOf 4 RX3 d) {J4 : zq_P} (j4 : zq_ok X 4 4 J4) {Q : zq_Q} (hq : zq_R X (some .int) 1 Q) : zq_ok X 4 29 (xX3_desertsOf_29 J4 Q) := by
  refine zs_iinc C dX3_desertsOf_29 (by decide) (by decide) ?_
  exact zs_goto C dX3_desertsOf_32 (by decide) (j4)
def xX3_desertsOf_20 (J4 : zq_P) (Q : zq_Q) (ls : zq_L) (st : List Value) (h : zq_H) : Prop := (zi_iload 2 (zi_aload 0 (zi_getR 5 7 (zi_iload 3 (zi_aldI 7 6 (zi_i2 (fun x y => x + y) (zi_istore 2 ((xX3_desertsOf_29 J4 Q))))))))) ls st h
theorem kX3_desertsOf_20 {X : zq_X} {d : Nat} (C : zq_C X cX3_desertsOf 4 RX3 d) {J4 : zq_P} (j4 : zq_ok X 4 4 J4) {Q : zq_Q} (hq : zq_R X (some .int) 1 Q) : zq_ok X 4 20 (xX3_desertsOf_20 J4 Q) := by
  refine zs_iload_n C dX3_desertsOf_20 rfl ?_
  refine zs_aload_n C dX3_desertsOf_21 rfl ?_
  refine zs_getR C zp_5 zF3 (j := 1) ⟨by decide, rfl⟩ zw_80 dX3_desertsOf_22 ?_
  refine zs_iload_n C dX3_desertsOf_25 rfl ?_
  refine zs_iaload C zp_7 dX3_desertsOf_26 ?_
  refine zs_iadd C dX3_desertsOf_27 ?_
  refine zs_istore_n C dX3_desertsOf_28 rfl (by decide) ?_
  exact kX3_desertsOf_29 C j4 hq
def xX3_desertsOf_12 (J4 : zq_P) (Q : zq_Q) (ls : zq_L) (st : List Value) (h : zq_H) : Prop := (zi_iload 1 (zi_iload 3 (zi_i2 zf_shr (zi_push (.int 1) (zi_i2 (fun x y => x &&& y) (zi_if1 (fun x => x = 0) (xX3_desertsOf_29 J4 Q) (xX3_desertsOf_20 J4 Q))))))) ls st h
theorem kX3_desertsOf_12 {X : zq_X} {d : Nat} (C : zq_C X cX3_desertsOf 4 RX3 d) {J4 : zq_P} (j4 : zq_ok X 4 4 J4) {Q : zq_Q} (hq : zq_R X (some .int) 1 Q) : zq_ok X 4 12 (xX3_desertsOf_12 J4 Q) := by
  refine zs_iload_n C dX3_desertsOf_12 rfl ?_
  refine zs_iload_n C dX3_desertsOf_13 rfl ?_
  refine zs_ishr C dX3_desertsOf_14 ?_
  refine zs_iconst C dX3_desertsOf_15 (by decide) ?_
  refine zs_iand C dX3_desertsOf_16 ?_
  exact zs_if_eq C dX3_desertsOf_17 (by decide) (kX3_desertsOf_29 C j4 hq) (kX3_desertsOf_20 C j4 hq)
def xX3_desertsOf_4 (J4 : zq_P) (Q : zq_Q) (ls : zq_L) (st : List Value) (h : zq_H) : Prop := (zi_iload 3 (zi_aload 0 (zi_getI 5 3 (zi_if2 (fun x y => y ≤ x) (xX3_desertsOf_35 J4 Q) (xX3_desertsOf_12 J4 Q))))) ls st h
theorem kX3_desertsOf_4 {X : zq_X} {d : Nat} (C : zq_C X cX3_desertsOf 4 RX3 d) {J4 : zq_P} (j4 : zq_ok X 4 4 J4) {Q : zq_Q} (hq : zq_R X (some .int) 1 Q) : zq_ok X 4 4 (xX3_desertsOf_4 J4 Q) := by
  refine zs_iload_n C dX3_desertsOf_4 rfl ?_
  refine zs_aload_n C dX3_desertsOf_5 rfl ?_
  refine zs_getI C zp_5 zF3 (j := 3) ⟨by decide, rfl⟩ zw_84 dX3_desertsOf_6 ?_
  exact zs_icmp_ge C dX3_desertsOf_9 (by decide) (kX3_desertsOf_35 C j4 hq) (kX3_desertsOf_12 C j4 hq)
def xX3_desertsOf_0 (J4 : zq_P) (Q : zq_Q) (ls : zq_L) (st : List Value) (h : zq_H) : Prop := (zi_push (.int 0) (zi_istore 2 (zi_push (.int 0) (zi_istore 3 (J4))))) ls st h
theorem kX3_desertsOf_0 {X : zq_X} {d : Nat} (C : zq_C X cX3_desertsOf 4 RX3 d) {J4 : zq_P} (j4 : zq_ok X 4 4 J4) {Q : zq_Q} (hq : zq_R X (some .int) 1 Q) : zq_ok X 4 0 (xX3_desertsOf_0 J4 Q) := by
  refine zs_iconst C dX3_desertsOf_0 (by decide) ?_
  refine zs_istore_n C dX3_desertsOf_1 rfl (by decide) ?_
  refine zs_iconst C dX3_desertsOf_2 (by decide) ?_
  refine zs_istore_n C dX3_desertsOf_3 rfl (by decide) ?_
  exact j4
theorem mX3_desertsOf {d : Nat} {spec : zq_Sp} {σ4 : Type} (μ4 : σ4 → Nat) (I4 : zq_Q → σ4 → zq_P) (v : ∀ args h Q, spec args h Q → (zq_a args).length ≤ 4 ∧ xX3_desertsOf_0 (fun ls st h => ∃ b, I4 Q b ls st h) Q (zq_l0 4 args) [] h) (v4 : ∀ Q a ls st h, I4 Q a ls st h → xX3_desertsOf_4 (fun ls st h => ∃ b, μ4 b < μ4 a ∧ I4 Q b ls st h) Q ls st h) : zq_M yX3_desertsOf cX3_desertsOf 4 (some .int) 1 d spec := by
  refine zq_met (by decide +kernel) (by decide) (fun X Q args h C hq hs => ⟨(v args h Q hs).1, _, ?_, (v args h Q hs).2⟩)
  have hl := zq_loop1 (X := X) (nL := 4) (pc1 := 4) μ4 (I4 Q) (fun J4 => xX3_desertsOf_4 J4 Q) (fun j4 => kX3_desertsOf_4 C j4 hq) (v4 Q)
  exact kX3_desertsOf_0 C hl hq
/-! ToOneCrumb$Party.allDeserts()I -/
theorem dX3_allDeserts_0 : decode cX3_allDeserts 0 = .ok (.aload_n 0, 1) := by decide +kernel
theorem dX3_allDeserts_1 : decode cX3_allDeserts 1 = .ok (.iconst 1, 1) := by decide +kernel
theorem dX3_allDeserts_2 : decode cX3_allDeserts 2 = .ok (.aload_n 0, 1) := by decide +kernel
theorem dX3_allDeserts_3 : decode cX3_allDeserts 3 = .ok (.getfield 31, 3) := by decide +kernel
theorem dX3_allDeserts_6 : decode cX3_allDeserts 6 = .ok (.ishl, 1) := by decide +kernel
theorem dX3_allDeserts_7 : decode cX3_allDeserts 7 = .ok (.iconst 1, 1) := by decide +kernel
theorem dX3_allDeserts_8 : decode cX3_allDeserts 8 = .ok (.isub, 1) := by decide +kernel
theorem dX3_allDeserts_9 : decode cX3_allDeserts 9 = .ok (.invokevirtual 66, 3) := by decide +kernel
theorem dX3_allDeserts_12 : decode cX3_allDeserts 12 = .ok (.ireturn, 1) := by decide +kernel
def xX3_allDeserts_0 (s_X3_desertsOf : zq_Sp) (Q : zq_Q) (ls : zq_L) (st : List Value) (h : zq_H) : Prop := (zi_aload 0 (zi_push (.int 1) (zi_aload 0 (zi_getI 5 3 (zi_i2 zf_shl (zi_push (.int 1) (zi_i2 (fun x y => x - y) (zi_callV 1 5 s_X3_desertsOf (zi_iret Q))))))))) ls st h
theorem kX3_allDeserts_0 {X : zq_X} {d : Nat} (C : zq_C X cX3_allDeserts 1 RX3 d) {d_X3_desertsOf : Nat} {s_X3_desertsOf : zq_Sp} (h_X3_desertsOf : zq_M yX3_desertsOf cX3_desertsOf 4 (some .int) 1 d_X3_desertsOf s_X3_desertsOf) (g_X3_desertsOf : d_X3_desertsOf + 1 ≤ d) {Q : zq_Q} (hq : zq_R X (some .int) 1 Q) : zq_ok X 1 0 (xX3_allDeserts_0 s_X3_desertsOf Q) := by
  refine zs_aload_n C dX3_allDeserts_0 rfl ?_
  refine zs_iconst C dX3_allDeserts_1 (by decide) ?_
  refine zs_aload_n C dX3_allDeserts_2 rfl ?_
  refine zs_getI C zp_5 zF3 (j := 3) ⟨by decide, rfl⟩ zw_84 dX3_allDeserts_3 ?_
  refine zs_ishl C dX3_allDeserts_6 ?_
  refine zs_iconst C dX3_allDeserts_7 (by decide) ?_
  refine zs_isub C dX3_allDeserts_8 ?_
  refine zs_callV C h_X3_desertsOf g_X3_desertsOf zy_X3_desertsOf zp_5 (show vwCl[3]? = some (RX3, TX3, 4) from rfl) zw_498 zw_499 zs9_X3_desertsOf dX3_allDeserts_9 ?_
  exact zs_iret C hq dX3_allDeserts_12
theorem mX3_allDeserts {d : Nat} {spec : zq_Sp} {d_X3_desertsOf : Nat} {s_X3_desertsOf : zq_Sp} (h_X3_desertsOf : zq_M yX3_desertsOf cX3_desertsOf 4 (some .int) 1 d_X3_desertsOf s_X3_desertsOf) (g_X3_desertsOf : d_X3_desertsOf + 1 ≤ d) (v : ∀ args h Q, spec args h Q → (zq_a args).length ≤ 1 ∧ xX3_allDeserts_0 s_X3_desertsOf Q (zq_l0 1 args) [] h) : zq_M yX3_allDeserts cX3_allDeserts 1 (some .int) 1 d spec := by
  refine zq_met (by decide +kernel) (by decide) (fun X Q args h C hq hs => ⟨(v args h Q hs).1, _, ?_, (v args h Q hs).2⟩)
  exact kX3_allDeserts_0 C h_X3_desertsOf g_X3_desertsOf hq
/-! ToOneCrumb$Party.canPart(II)Z -/
theorem dX3_canPart_0 : decode cX3_canPart 0 = .ok (.iconst 0, 1) := by decide +kernel
theorem dX3_canPart_1 : decode cX3_canPart 1 = .ok (.istore_n 3, 1) := by decide +kernel
theorem dX3_canPart_2 : decode cX3_canPart 2 = .ok (.iload_n 3, 1) := by decide +kernel
theorem dX3_canPart_3 : decode cX3_canPart 3 = .ok (.aload_n 0, 1) := by decide +kernel
theorem dX3_canPart_4 : decode cX3_canPart 4 = .ok (.getfield 31, 3) := by decide +kernel
theorem dX3_canPart_7 : decode cX3_canPart 7 = .ok (.if_icmp .ge 33, 3) := by decide +kernel
theorem dX3_canPart_10 : decode cX3_canPart 10 = .ok (.iload_n 2, 1) := by decide +kernel
theorem dX3_canPart_11 : decode cX3_canPart 11 = .ok (.ifCond .le 29, 3) := by decide +kernel
theorem dX3_canPart_14 : decode cX3_canPart 14 = .ok (.iload_n 1, 1) := by decide +kernel
theorem dX3_canPart_15 : decode cX3_canPart 15 = .ok (.i2l, 1) := by decide +kernel
theorem dX3_canPart_16 : decode cX3_canPart 16 = .ok (.aload_n 0, 1) := by decide +kernel
theorem dX3_canPart_17 : decode cX3_canPart 17 = .ok (.getfield 15, 3) := by decide +kernel
theorem dX3_canPart_20 : decode cX3_canPart 20 = .ok (.iload_n 3, 1) := by decide +kernel
theorem dX3_canPart_21 : decode cX3_canPart 21 = .ok (.iaload, 1) := by decide +kernel
theorem dX3_canPart_22 : decode cX3_canPart 22 = .ok (.i2l, 1) := by decide +kernel
theorem dX3_canPart_23 : decode cX3_canPart 23 = .ok (.lmul, 1) := by decide +kernel
theorem dX3_canPart_24 : decode cX3_canPart 24 = .ok (.iload_n 2, 1) := by decide +kernel
theorem dX3_canPart_25 : decode cX3_canPart 25 = .ok (.i2l, 1) := by decide +kernel
theorem dX3_canPart_26 : decode cX3_canPart 26 = .ok (.lrem, 1) := by decide +kernel
theorem dX3_canPart_27 : decode cX3_canPart 27 = .ok (.lconst 0, 1) := by decide +kernel
theorem dX3_canPart_28 : decode cX3_canPart 28 = .ok (.lcmp, 1) := by decide +kernel
theorem dX3_canPart_29 : decode cX3_canPart 29 = .ok (.ifCond .eq 5, 3) := by decide +kernel
theorem dX3_canPart_32 : decode cX3_canPart 32 = .ok (.iconst 0, 1) := by decide +kernel
theorem dX3_canPart_33 : decode cX3_canPart 33 = .ok (.ireturn, 1) := by decide +kernel
theorem dX3_canPart_34 : decode cX3_canPart 34 = .ok (.iinc 3 1, 3) := by decide +kernel
theorem dX3_canPart_37 : decode cX3_canPart 37 = .ok (.goto (-35), 3) := by decide +kernel
theorem dX3_canPart_40 : decode cX3_canPart 40 = .ok (.iload_n 2, 1) := by decide +kernel
theorem dX3_canPart_41 : decode cX3_canPart 41 = .ok (.ifCond .le 7, 3) := by decide +kernel
theorem dX3_canPart_44 : decode cX3_canPart 44 = .ok (.iconst 1, 1) := by decide +kernel
theorem dX3_canPart_45 : decode cX3_canPart 45 = .ok (.goto 4, 3) := by decide +kernel
theorem dX3_canPart_48 : decode cX3_canPart 48 = .ok (.iconst 0, 1) := by decide +kernel
theorem dX3_canPart_49 : decode cX3_canPart 49 = .ok (.ireturn, 1) := by decide +kernel
def xX3_canPart_49 (J2 : zq_P) (Q : zq_Q) (ls : zq_L) (st : List Value) (h : zq_H) : Prop := (zi_zret Q) ls st h
theorem kX3_canPart_49 {X : zq_X} {d : Nat} (C : zq_C X cX3_canPart 4 RX3 d) {J2 : zq_P} (j2 : zq_ok X 4 2 J2) {Q : zq_Q} (hq : zq_R X (some .boolean) 1 Q) : zq_ok X 4 49 (xX3_canPart_49 J2 Q) := by
  exact zs_zret C hq dX3_canPart_49
def xX3_canPart_48 (J2 : zq_P) (Q : zq_Q) (ls : zq_L) (st : List Value) (h : zq_H) : Prop := (zi_push (.int 0) ((xX3_canPart_49 J2 Q))) ls st h
theorem kX3_canPart_48 {X : zq_X} {d : Nat} (C : zq_C X cX3_canPart 4 RX3 d) {J2 : zq_P} (j2 : zq_ok X 4 2 J2) {Q : zq_Q} (hq : zq_R X (some .boolean) 1 Q) : zq_ok X 4 48 (xX3_canPart_48 J2 Q) := by
  refine zs_iconst C dX3_canPart_48 (by decide) ?_
  exact kX3_canPart_49 C j2 hq
def xX3_canPart_44 (J2 : zq_P) (Q : zq_Q) (ls : zq_L) (st : List Value) (h : zq_H) : Prop := (zi_push (.int 1) ((xX3_canPart_49 J2 Q))) ls st h
theorem kX3_canPart_44 {X : zq_X} {d : Nat} (C : zq_C X cX3_canPart 4 RX3 d) {J2 : zq_P} (j2 : zq_ok X 4 2 J2) {Q : zq_Q} (hq : zq_R X (some .boolean) 1 Q) : zq_ok X 4 44 (xX3_canPart_44 J2 Q) := by
  refine zs_iconst C dX3_canPart_44 (by decide) ?_
  exact zs_goto C dX3_canPart_45 (by decide) (kX3_canPart_49 C j2 hq)
def xX3_canPart_40 (J2 : zq_P) (Q : zq_Q) (ls : zq_L) (st : List Value) (h : zq_H) : Prop := (zi_iload 2 (zi_if1 (fun x => x ≤ 0) (xX3_canPart_48 J2 Q) (xX3_canPart_44 J2 Q))) ls st h
theorem kX3_canPart_40 {X : zq_X} {d : Nat} (C : zq_C X cX3_canPart 4 RX3 d) {J2 : zq_P} (j2 : zq_ok X 4 2 J2) {Q : zq_Q} (hq : zq_R X (some .boolean) 1 Q) : zq_ok X 4 40 (xX3_canPart_40 J2 Q) := by
  refine zs_iload_n C dX3_canPart_40 rfl ?_
  exact zs_if_le C dX3_canPart_41 (by decide) (kX3_canPart_48 C j2 hq) (kX3_canPart_44 C j2 hq)
def xX3_canPart_34 (J2 : zq_P) (Q : zq_Q) (ls : zq_L) (st : List Value) (h : zq_H) : Prop := (zi_iinc 3 1 (J2)) ls st h
theorem kX3_canPart_34 {X : zq_X} {d : Nat} (C : zq_C X cX3_canPart 4 RX3 d) {J2 : zq_P} (j2 : zq_ok X 4 2 J2) {Q : zq_Q} (hq : zq_R X (some .boolean) 1 Q) : zq_ok X 4 34 (xX3_canPart_34 J2 Q) := by
  refine zs_iinc C dX3_canPart_34 (by decide) (by decide) ?_
  exact zs_goto C dX3_canPart_37 (by decide) (j2)
def xX3_canPart_32 (J2 : zq_P) (Q : zq_Q) (ls : zq_L) (st : List Value) (h : zq_H) : Prop := (zi_push (.int 0) (zi_zret Q)) ls st h
theorem kX3_canPart_32 {X : zq_X} {d : Nat} (C : zq_C X cX3_canPart 4 RX3 d) {J2 : zq_P} (j2 : zq_ok X 4 2 J2) {Q : zq_Q} (hq : zq_R X (some .boolean) 1 Q) : zq_ok X 4 32 (xX3_canPart_32 J2 Q) := by
  refine zs_iconst C dX3_canPart_32 (by decide) ?_
  exact zs_zret C hq dX3_canPart_33
def xX3_canPart_14 (J2 : zq_P) (Q : zq_Q) (ls : zq_L) (st : List Value) (h : zq_H) : Prop := (zi_iload 1 (zi_i2l (zi_aload 0 (zi_getR 5 7 (zi_iload 3 (zi_aldI 7 6 (zi_i2l (zi_l2 (fun x y => x * y) (zi_iload 2 (zi_i2l (zi_ldv zf_lrem (zi_push (.long 0) (zi_lcmp (zi_if1 (fun x => x = 0) (xX3_canPart_34 J2 Q) (xX3_canPart_32 J2 Q))))))))))))))) ls st h
theorem kX3_canPart_14 {X : zq_X} {d : Nat} (C : zq_C X cX3_canPart 4 RX3 d) {J2 : zq_P} (j2 : zq_ok X 4 2 J2) {Q : zq_Q} (hq : zq_R X (some .boolean) 1 Q) : zq_ok X 4 14 (xX3_canPart_14 J2 Q) := by
  refine zs_iload_n C dX3_canPart_14 rfl ?_
  refine zs_i2l C dX3_canPart_15 ?_
  refine zs_aload_n C dX3_canPart_16 rfl ?_
  refine zs_getR C zp_5 zF3 (j := 1) ⟨by decide, rfl⟩ zw_80 dX3_canPart_17 ?_
  refine zs_iload_n C dX3_canPart_20 rfl ?_
  refine zs_iaload C zp_7 dX3_canPart_21 ?_
  refine zs_i2l C dX3_canPart_22 ?_
  refine zs_lmul C dX3_canPart_23 ?_
  refine zs_iload_n C dX3_canPart_24 rfl ?_
  refine zs_i2l C dX3_canPart_25 ?_
  refine zs_lrem C dX3_canPart_26 ?_
  refine zs_lconst C dX3_canPart_27 (by decide) ?_
  refine zs_lcmp C dX3_canPart_28 ?_
  exact zs_if_eq C dX3_canPart_29 (by decide) (kX3_canPart_34 C j2 hq) (kX3_canPart_32 C j2 hq)
def xX3_canPart_10 (J2 : zq_P) (Q : zq_Q) (ls : zq_L) (st : List Value) (h : zq_H) : Prop := (zi_iload 2 (zi_if1 (fun x => x ≤ 0) (xX3_canPart_40 J2 Q) (xX3_canPart_14 J2 Q))) ls st h
theorem kX3_canPart_10 {X : zq_X} {d : Nat} (C : zq_C X cX3_canPart 4 RX3 d) {J2 : zq_P} (j2 : zq_ok X 4 2 J2) {Q : zq_Q} (hq : zq_R X (some .boolean) 1 Q) : zq_ok X 4 10 (xX3_canPart_10 J2 Q) := by
  refine zs_iload_n C dX3_canPart_10 rfl ?_
  exact zs_if_le C dX3_canPart_11 (by decide) (kX3_canPart_40 C j2 hq) (kX3_canPart_14 C j2 hq)
def xX3_canPart_2 (J2 : zq_P) (Q : zq_Q) (ls : zq_L) (st : List Value) (h : zq_H) : Prop := (zi_iload 3 (zi_aload 0 (zi_getI 5 3 (zi_if2 (fun x y => y ≤ x) (xX3_canPart_40 J2 Q) (xX3_canPart_10 J2 Q))))) ls st h
theorem kX3_canPart_2 {X : zq_X} {d : Nat} (C : zq_C X cX3_canPart 4 RX3 d) {J2 : zq_P} (j2 : zq_ok X 4 2 J2) {Q : zq_Q} (hq : zq_R X (some .boolean) 1 Q) : zq_ok X 4 2 (xX3_canPart_2 J2 Q) := by
  refine zs_iload_n C dX3_canPart_2 rfl ?_
  refine zs_aload_n C dX3_canPart_3 rfl ?_
  refine zs_getI C zp_5 zF3 (j := 3) ⟨by decide, rfl⟩ zw_84 dX3_canPart_4 ?_
  exact zs_icmp_ge C dX3_canPart_7 (by decide) (kX3_canPart_40 C j2 hq) (kX3_canPart_10 C j2 hq)
def xX3_canPart_0 (J2 : zq_P) (Q : zq_Q) (ls : zq_L) (st : List Value) (h : zq_H) : Prop := (zi_push (.int 0) (zi_istore 3 (J2))) ls st h
theorem kX3_canPart_0 {X : zq_X} {d : Nat} (C : zq_C X cX3_canPart 4 RX3 d) {J2 : zq_P} (j2 : zq_ok X 4 2 J2) {Q : zq_Q} (hq : zq_R X (some .boolean) 1 Q) : zq_ok X 4 0 (xX3_canPart_0 J2 Q) := by
  refine zs_iconst C dX3_canPart_0 (by decide) ?_
  refine zs_istore_n C dX3_canPart_1 rfl (by decide) ?_
  exact j2
theorem mX3_canPart {d : Nat} {spec : zq_Sp} {σ2 : Type} (μ2 : σ2 → Nat) (I2 : zq_Q → σ2 → zq_P) (v : ∀ args h Q, spec args h Q → (zq_a args).length ≤ 4 ∧ xX3_canPart_0 (fun ls st h => ∃ b, I2 Q b ls st h) Q (zq_l0 4 args) [] h) (v2 : ∀ Q a ls st h, I2 Q a ls st h → xX3_canPart_2 (fun ls st h => ∃ b, μ2 b < μ2 a ∧ I2 Q b ls st h) Q ls st h) : zq_M yX3_canPart cX3_canPart 4 (some .boolean) 1 d spec := by
  refine zq_met (by decide +kernel) (by decide) (fun X Q args h C hq hs => ⟨(v args h Q hs).1, _, ?_, (v args h Q hs).2⟩)
  have hl := zq_loop1 (X := X) (nL := 4) (pc1 := 2) μ2 (I2 Q) (fun J2 => xX3_canPart_2 J2 Q) (fun j2 => kX3_canPart_2 C j2 hq) (v2 Q)
  exact kX3_canPart_0 C hl hq
/-! ToOneCrumb$Party.chanceOf(II)J -/
theorem dX3_chanceOf_0 : decode cX3_chanceOf 0 = .ok (.lconst 0, 1) := by decide +kernel
theorem dX3_chanceOf_1 : decode cX3_chanceOf 1 = .ok (.lstore_n 3, 1) := by decide +kernel
theorem dX3_chanceOf_2 : decode cX3_chanceOf 2 = .ok (.iconst 0, 1) := by decide +kernel
theorem dX3_chanceOf_3 : decode cX3_chanceOf 3 = .ok (.istore 5, 2) := by decide +kernel
theorem dX3_chanceOf_5 : decode cX3_chanceOf 5 = .ok (.iload 5, 2) := by decide +kernel
theorem dX3_chanceOf_7 : decode cX3_chanceOf 7 = .ok (.iconst 1, 1) := by decide +kernel
theorem dX3_chanceOf_8 : decode cX3_chanceOf 8 = .ok (.aload_n 0, 1) := by decide +kernel
theorem dX3_chanceOf_9 : decode cX3_chanceOf 9 = .ok (.getfield 31, 3) := by decide +kernel
theorem dX3_chanceOf_12 : decode cX3_chanceOf 12 = .ok (.ishl, 1) := by decide +kernel
theorem dX3_chanceOf_13 : decode cX3_chanceOf 13 = .ok (.if_icmp .ge 70, 3) := by decide +kernel
theorem dX3_chanceOf_16 : decode cX3_chanceOf 16 = .ok (.aload_n 0, 1) := by decide +kernel
theorem dX3_chanceOf_17 : decode cX3_chanceOf 17 = .ok (.iload 5, 2) := by decide +kernel
theorem dX3_chanceOf_19 : decode cX3_chanceOf 19 = .ok (.invokevirtual 66, 3) := by decide +kernel
theorem dX3_chanceOf_22 : decode cX3_chanceOf 22 = .ok (.iload_n 2, 1) := by decide +kernel
theorem dX3_chanceOf_23 : decode cX3_chanceOf 23 = .ok (.if_icmp .gt 54, 3) := by decide +kernel
theorem dX3_chanceOf_26 : decode cX3_chanceOf 26 = .ok (.lconst 1, 1) := by decide +kernel
theorem dX3_chanceOf_27 : decode cX3_chanceOf 27 = .ok (.lstore 6, 2) := by decide +kernel
theorem dX3_chanceOf_29 : decode cX3_chanceOf 29 = .ok (.iconst 0, 1) := by decide +kernel
theorem dX3_chanceOf_30 : decode cX3_chanceOf 30 = .ok (.istore 8, 2) := by decide +kernel
theorem dX3_chanceOf_32 : decode cX3_chanceOf 32 = .ok (.iload 8, 2) := by decide +kernel
theorem dX3_chanceOf_34 : decode cX3_chanceOf 34 = .ok (.aload_n 0, 1) := by decide +kernel
theorem dX3_chanceOf_35 : decode cX3_chanceOf 35 = .ok (.getfield 31, 3) := by decide +kernel
theorem dX3_chanceOf_38 : decode cX3_chanceOf 38 = .ok (.if_icmp .ge 34, 3) := by decide +kernel
theorem dX3_chanceOf_41 : decode cX3_chanceOf 41 = .ok (.lload 6, 2) := by decide +kernel
theorem dX3_chanceOf_43 : decode cX3_chanceOf 43 = .ok (.iload 5, 2) := by decide +kernel
theorem dX3_chanceOf_45 : decode cX3_chanceOf 45 = .ok (.iload 8, 2) := by decide +kernel
theorem dX3_chanceOf_47 : decode cX3_chanceOf 47 = .ok (.ishr, 1) := by decide +kernel
theorem dX3_chanceOf_48 : decode cX3_chanceOf 48 = .ok (.iconst 1, 1) := by decide +kernel
theorem dX3_chanceOf_49 : decode cX3_chanceOf 49 = .ok (.iand, 1) := by decide +kernel
theorem dX3_chanceOf_50 : decode cX3_chanceOf 50 = .ok (.ifCond .eq 8, 3) := by decide +kernel
theorem dX3_chanceOf_53 : decode cX3_chanceOf 53 = .ok (.iload_n 1, 1) := by decide +kernel
theorem dX3_chanceOf_54 : decode cX3_chanceOf 54 = .ok (.i2l, 1) := by decide +kernel
theorem dX3_chanceOf_55 : decode cX3_chanceOf 55 = .ok (.goto 8, 3) := by decide +kernel
theorem dX3_chanceOf_58 : decode cX3_chanceOf 58 = .ok (.bipush 10, 2) := by decide +kernel
theorem dX3_chanceOf_60 : decode cX3_chanceOf 60 = .ok (.iload_n 1, 1) := by decide +kernel
theorem dX3_chanceOf_61 : decode cX3_chanceOf 61 = .ok (.isub, 1) := by decide +kernel
theorem dX3_chanceOf_62 : decode cX3_chanceOf 62 = .ok (.i2l, 1) := by decide +kernel
theorem dX3_chanceOf_63 : decode cX3_chanceOf 63 = .ok (.lmul, 1) := by decide +kernel
theorem dX3_chanceOf_64 : decode cX3_chanceOf 64 = .ok (.lstore 6, 2) := by decide +kernel
theorem dX3_chanceOf_66 : decode cX3_chanceOf 66 = .ok (.iinc 8 1, 3) := by decide +kernel
theorem dX3_chanceOf_69 : decode cX3_chanceOf 69 = .ok (.goto (-37), 3) := by decide +kernel
theorem dX3_chanceOf_72 : decode cX3_chanceOf 72 = .ok (.lload_n 3, 1) := by decide +kernel
theorem dX3_chanceOf_73 : decode cX3_chanceOf 73 = .ok (.lload 6, 2) := by decide +kernel
theorem dX3_chanceOf_75 : decode cX3_chanceOf 75 = .ok (.ladd, 1) := by decide +kernel
theorem dX3_chanceOf_76 : decode cX3_chanceOf 76 = .ok (.lstore_n 3, 1) := by decide +kernel
theorem dX3_chanceOf_77 : decode cX3_chanceOf 77 = .ok (.iinc 5 1, 3) := by decide +kernel
theorem dX3_chanceOf_80 : decode cX3_chanceOf 80 = .ok (.goto (-75), 3) := by decide +kernel
theorem dX3_chanceOf_83 : decode cX3_chanceOf 83 = .ok (.lload_n 3, 1) := by decide +kernel
theorem dX3_chanceOf_84 : decode cX3_chanceOf 84 = .ok (.lreturn, 1) := by decide +kernel
def xX3_chanceOf_83 (s_X3_desertsOf : zq_Sp) (J5 : zq_P) (J32 : zq_P) (Q : zq_Q) (ls : zq_L) (st : List Value) (h : zq_H) : Prop := (zi_lload 3 (zi_lret Q)) ls st h
theorem kX3_chanceOf_83 {X : zq_X} {d : Nat} (C : zq_C X cX3_chanceOf 9 RX3 d) {d_X3_desertsOf : Nat} {s_X3_desertsOf : zq_Sp} (h_X3_desertsOf : zq_M yX3_desertsOf cX3_desertsOf 4 (some .int) 1 d_X3_desertsOf s_X3_desertsOf) (g_X3_desertsOf : d_X3_desertsOf + 1 ≤ d) {J5 : zq_P} (j5 : zq_ok X 9 5 J5) {J32 : zq_P} (j32 : zq_ok X 9 32 J32) {Q : zq_Q} (hq : zq_R X (some .long) 2 Q) : zq_ok X 9 83 (xX3_chanceOf_83 s_X3_desertsOf J5 J32 Q) := by
  refine zs_lload_n C dX3_chanceOf_83 rfl ?_
  exact zs_lret C hq dX3_chanceOf_84
def xX3_chanceOf_77 (s_X3_desertsOf : zq_Sp) (J5 : zq_P) (J32 : zq_P) (Q : zq_Q) (ls : zq_L) (st : List Value) (h : zq_H) : Prop := (zi_iinc 5 1 (J5)) ls st h
theorem kX3_chanceOf_77 {X : zq_X} {d : Nat} (C : zq_C X cX3_chanceOf 9 RX3 d) {d_X3_desertsOf : Nat} {s_X3_desertsOf : zq_Sp} (h_X3_desertsOf : zq_M yX3_desertsOf cX3_desertsOf 4 (some .int) 1 d_X3_desertsOf s_X3_desertsOf) (g_X3_desertsOf : d_X3_desertsOf + 1 ≤ d) {J5 : zq_P} (j5 : zq_ok X 9 5 J5) {J32 : zq_P} (j32 : zq_ok X 9 32 J32) {Q : zq_Q} (hq : zq_R X (some .long) 2 Q) : zq_ok X 9 77 (xX3_chanceOf_77 s_X3_desertsOf J5 J32 Q) := by
  refine zs_iinc C dX3_chanceOf_77 (by decide) (by decide) ?_
  exact zs_goto C dX3_chanceOf_80 (by decide) (j5)
def xX3_chanceOf_72 (s_X3_desertsOf : zq_Sp) (J5 : zq_P) (J32 : zq_P) (Q : zq_Q) (ls : zq_L) (st : List Value) (h : zq_H) : Prop := (zi_lload 3 (zi_lload 6 (zi_l2 (fun x y => x + y) (zi_lstore 3 ((xX3_chanceOf_77 s_X3_desertsOf J5 J32 Q)))))) ls st h
theorem kX3_chanceOf_72 {X : zq_X} {d : Nat} (C : zq_C X cX3_chanceOf 9 RX3 d) {d_X3_desertsOf : Nat} {s_X3_desertsOf : zq_Sp} (h_X3_desertsOf : zq_M yX3_desertsOf cX3_desertsOf 4 (some .int) 1 d_X3_desertsOf s_X3_desertsOf) (g_X3_desertsOf : d_X3_desertsOf + 1 ≤ d) {J5 : zq_P} (j5 : zq_ok X 9 5 J5) {J32 : zq_P} (j32 : zq_ok X 9 32 J32) {Q : zq_Q} (hq : zq_R X (some .long) 2 Q) : zq_ok X 9 72 (xX3_chanceOf_72 s_X3_desertsOf J5 J32 Q) := by
  refine zs_lload_n C dX3_chanceOf_72 rfl ?_
  refine zs_lload C dX3_chanceOf_73 ?_
  refine zs_ladd C dX3_chanceOf_75 ?_
  refine zs_lstore_n C dX3_chanceOf_76 rfl (by decide) ?_
  exact kX3_chanceOf_77 C h_X3_desertsOf g_X3_desertsOf j5 j32 hq
def xX3_chanceOf_63 (s_X3_desertsOf : zq_Sp) (J5 : zq_P) (J32 : zq_P) (Q : zq_Q) (ls : zq_L) (st : List Value) (h : zq_H) : Prop := (zi_l2 (fun x y => x * y) (zi_lstore 6 (zi_iinc 8 1 (J32)))) ls st h
theorem kX3_chanceOf_63 {X : zq_X} {d : Nat} (C : zq_C X cX3_chanceOf 9 RX3 d) {d_X3_desertsOf : Nat} {s_X3_desertsOf : zq_Sp} (h_X3_desertsOf : zq_M yX3_desertsOf cX3_desertsOf 4 (some .int) 1 d_X3_desertsOf s_X3_desertsOf) (g_X3_desertsOf : d_X3_desertsOf + 1 ≤ d) {J5 : zq_P} (j5 : zq_ok X 9 5 J5) {J32 : zq_P} (j32 : zq_ok X 9 32 J32) {Q : zq_Q} (hq : zq_R X (some .long) 2 Q) : zq_ok X 9 63 (xX3_chanceOf_63 s_X3_desertsOf J5 J32 Q) := by
  refine zs_lmul C dX3_chanceOf_63 ?_
  refine zs_lstore C dX3_chanceOf_64 (by decide) ?_
  refine zs_iinc C dX3_chanceOf_66 (by decide) (by decide) ?_
  exact zs_goto C dX3_chanceOf_69 (by decide) (j32)
def xX3_chanceOf_58 (s_X3_desertsOf : zq_Sp) (J5 : zq_P) (J32 : zq_P) (Q : zq_Q) (ls : zq_L) (st : List Value) (h : zq_H) : Prop := (zi_push (.int 10) (zi_iload 1 (zi_i2 (fun x y => x - y) (zi_i2l ((xX3_chanceOf_63 s_X3_desertsOf J5 J32 Q)))))) ls st h
theorem kX3_chanceOf_58 {X : zq_X} {d : Nat} (C : zq_C X cX3_chanceOf 9 RX3 d) {d_X3_desertsOf : Nat} {s_X3_desertsOf : zq_Sp} (h_X3_desertsOf : zq_M yX3_desertsOf cX3_desertsOf 4 (some .int) 1 d_X3_desertsOf s_X3_desertsOf) (g_X3_desertsOf : d_X3_desertsOf + 1 ≤ d) {J5 : zq_P} (j5 : zq_ok X 9 5 J5) {J32 : zq_P} (j32 : zq_ok X 9 32 J32) {Q : zq_Q} (hq : zq_R X (some .long) 2 Q) : zq_ok X 9 58 (xX3_chanceOf_58 s_X3_desertsOf J5 J32 Q) := by
  refine zs_bipush C dX3_chanceOf_58 (by decide) ?_
  refine zs_iload_n C dX3_chanceOf_60 rfl ?_
  refine zs_isub C dX3_chanceOf_61 ?_
  refine zs_i2l C dX3_chanceOf_62 ?_
  exact kX3_chanceOf_63 C h_X3_desertsOf g_X3_desertsOf j5 j32 hq
def xX3_chanceOf_53 (s_X3_desertsOf : zq_Sp) (J5 : zq_P) (J32 : zq_P) (Q : zq_Q) (ls : zq_L) (st : List Value) (h : zq_H) : Prop := (zi_iload 1 (zi_i2l ((xX3_chanceOf_63 s_X3_desertsOf J5 J32 Q)))) ls st h
theorem kX3_chanceOf_53 {X : zq_X} {d : Nat} (C : zq_C X cX3_chanceOf 9 RX3 d) {d_X3_desertsOf : Nat} {s_X3_desertsOf : zq_Sp} (h_X3_desertsOf : zq_M yX3_desertsOf cX3_desertsOf 4 (some .int) 1 d_X3_desertsOf s_X3_desertsOf) (g_X3_desertsOf : d_X3_desertsOf + 1 ≤ d) {J5 : zq_P} (j5 : zq_ok X 9 5 J5) {J32 : zq_P} (j32 : zq_ok X 9 32 J32) {Q : zq_Q} (hq : zq_R X (some .long) 2 Q) : zq_ok X 9 53 (xX3_chanceOf_53 s_X3_desertsOf J5 J32 Q) := by
  refine zs_iload_n C dX3_chanceOf_53 rfl ?_
  refine zs_i2l C dX3_chanceOf_54 ?_
  exact zs_goto C dX3_chanceOf_55 (by decide) (kX3_chanceOf_63 C h_X3_desertsOf g_X3_desertsOf j5 j32 hq)
def xX3_chanceOf_41 (s_X3_desertsOf : zq_Sp) (J5 : zq_P) (J32 : zq_P) (Q : zq_Q) (ls : zq_L) (st : List Value) (h : zq_H) : Prop := (zi_lload 6 (zi_iload 5 (zi_iload 8 (zi_i2 zf_shr (zi_push (.int 1) (zi_i2 (fun x y => x &&& y) (zi_if1 (fun x => x = 0) (xX3_chanceOf_58 s_X3_desertsOf J5 J32 Q) (xX3_chanceOf_53 s_X3_desertsOf J5 J32 Q)))))))) ls st h
theorem kX3_chanceOf_41 {X : zq_X} {d : Nat} (C : zq_C X cX3_chanceOf 9 RX3 d) {d_X3_desertsOf : Nat} {s_X3_desertsOf : zq_Sp} (h_X3_desertsOf : zq_M yX3_desertsOf cX3_desertsOf 4 (some .int) 1 d_X3_desertsOf s_X3_desertsOf) (g_X3_desertsOf : d_X3_desertsOf + 1 ≤ d) {J5 : zq_P} (j5 : zq_ok X 9 5 J5) {J32 : zq_P} (j32 : zq_ok X 9 32 J32) {Q : zq_Q} (hq : zq_R X (some .long) 2 Q) : zq_ok X 9 41 (xX3_chanceOf_41 s_X3_desertsOf J5 J32 Q) := by
  refine zs_lload C dX3_chanceOf_41 ?_
  refine zs_iload C dX3_chanceOf_43 ?_
  refine zs_iload C dX3_chanceOf_45 ?_
  refine zs_ishr C dX3_chanceOf_47 ?_
  refine zs_iconst C dX3_chanceOf_48 (by decide) ?_
  refine zs_iand C dX3_chanceOf_49 ?_
  exact zs_if_eq C dX3_chanceOf_50 (by decide) (kX3_chanceOf_58 C h_X3_desertsOf g_X3_desertsOf j5 j32 hq) (kX3_chanceOf_53 C h_X3_desertsOf g_X3_desertsOf j5 j32 hq)
def xX3_chanceOf_32 (s_X3_desertsOf : zq_Sp) (J5 : zq_P) (J32 : zq_P) (Q : zq_Q) (ls : zq_L) (st : List Value) (h : zq_H) : Prop := (zi_iload 8 (zi_aload 0 (zi_getI 5 3 (zi_if2 (fun x y => y ≤ x) (xX3_chanceOf_72 s_X3_desertsOf J5 J32 Q) (xX3_chanceOf_41 s_X3_desertsOf J5 J32 Q))))) ls st h
theorem kX3_chanceOf_32 {X : zq_X} {d : Nat} (C : zq_C X cX3_chanceOf 9 RX3 d) {d_X3_desertsOf : Nat} {s_X3_desertsOf : zq_Sp} (h_X3_desertsOf : zq_M yX3_desertsOf cX3_desertsOf 4 (some .int) 1 d_X3_desertsOf s_X3_desertsOf) (g_X3_desertsOf : d_X3_desertsOf + 1 ≤ d) {J5 : zq_P} (j5 : zq_ok X 9 5 J5) {J32 : zq_P} (j32 : zq_ok X 9 32 J32) {Q : zq_Q} (hq : zq_R X (some .long) 2 Q) : zq_ok X 9 32 (xX3_chanceOf_32 s_X3_desertsOf J5 J32 Q) := by
  refine zs_iload C dX3_chanceOf_32 ?_
  refine zs_aload_n C dX3_chanceOf_34 rfl ?_
  refine zs_getI C zp_5 zF3 (j := 3) ⟨by decide, rfl⟩ zw_84 dX3_chanceOf_35 ?_
  exact zs_icmp_ge C dX3_chanceOf_38 (by decide) (kX3_chanceOf_72 C h_X3_desertsOf g_X3_desertsOf j5 j32 hq) (kX3_chanceOf_41 C h_X3_desertsOf g_X3_desertsOf j5 j32 hq)
def xX3_chanceOf_26 (s_X3_desertsOf : zq_Sp) (J5 : zq_P) (J32 : zq_P) (Q : zq_Q) (ls : zq_L) (st : List Value) (h : zq_H) : Prop := (zi_push (.long 1) (zi_lstore 6 (zi_push (.int 0) (zi_istore 8 (J32))))) ls st h
theorem kX3_chanceOf_26 {X : zq_X} {d : Nat} (C : zq_C X cX3_chanceOf 9 RX3 d) {d_X3_desertsOf : Nat} {s_X3_desertsOf : zq_Sp} (h_X3_desertsOf : zq_M yX3_desertsOf cX3_desertsOf 4 (some .int) 1 d_X3_desertsOf s_X3_desertsOf) (g_X3_desertsOf : d_X3_desertsOf + 1 ≤ d) {J5 : zq_P} (j5 : zq_ok X 9 5 J5) {J32 : zq_P} (j32 : zq_ok X 9 32 J32) {Q : zq_Q} (hq : zq_R X (some .long) 2 Q) : zq_ok X 9 26 (xX3_chanceOf_26 s_X3_desertsOf J5 J32 Q) := by
  refine zs_lconst C dX3_chanceOf_26 (by decide) ?_
  refine zs_lstore C dX3_chanceOf_27 (by decide) ?_
  refine zs_iconst C dX3_chanceOf_29 (by decide) ?_
  refine zs_istore C dX3_chanceOf_30 (by decide) ?_
  exact j32
def xX3_chanceOf_16 (s_X3_desertsOf : zq_Sp) (J5 : zq_P) (J32 : zq_P) (Q : zq_Q) (ls : zq_L) (st : List Value) (h : zq_H) : Prop := (zi_aload 0 (zi_iload 5 (zi_callV 1 5 s_X3_desertsOf (zi_iload 2 (zi_if2 (fun x y => y < x) (xX3_chanceOf_77 s_X3_desertsOf J5 J32 Q) (xX3_chanceOf_26 s_X3_desertsOf J5 J32 Q)))))) ls st h
theorem kX3_chanceOf_16 {X : zq_X} {d : Nat} (C : zq_C X cX3_chanceOf 9 RX3 d) {d_X3_desertsOf : Nat} {s_X3_desertsOf : zq_Sp} (h_X3_desertsOf : zq_M yX3_desertsOf cX3_desertsOf 4 (some .int) 1 d_X3_desertsOf s_X3_desertsOf) (g_X3_desertsOf : d_X3_desertsOf + 1 ≤ d) {J5 : zq_P} (j5 : zq_ok X 9 5 J5) {J32 : zq_P} (j32 : zq_ok X 9 32 J32) {Q : zq_Q} (hq : zq_R X (some .long) 2 Q) : zq_ok X 9 16 (xX3_chanceOf_16 s_X3_desertsOf J5 J32 Q) := by
  refine zs_aload_n C dX3_chanceOf_16 rfl ?_
  refine zs_iload C dX3_chanceOf_17 ?_
  refine zs_callV C h_X3_desertsOf g_X3_desertsOf zy_X3_desertsOf zp_5 (show vwCl[3]? = some (RX3, TX3, 4) from rfl) zw_498 zw_499 zs9_X3_desertsOf dX3_chanceOf_19 ?_
  refine zs_iload_n C dX3_chanceOf_22 rfl ?_
  exact zs_icmp_gt C dX3_chanceOf_23 (by decide) (kX3_chanceOf_77 C h_X3_desertsOf g_X3_desertsOf j5 j32 hq) (kX3_chanceOf_26 C h_X3_desertsOf g_X3_desertsOf j5 j32 hq)
def xX3_chanceOf_5 (s_X3_desertsOf : zq_Sp) (J5 : zq_P) (J32 : zq_P) (Q : zq_Q) (ls : zq_L) (st : List Value) (h : zq_H) : Prop := (zi_iload 5 (zi_push (.int 1) (zi_aload 0 (zi_getI 5 3 (zi_i2 zf_shl (zi_if2 (fun x y => y ≤ x) (xX3_chanceOf_83 s_X3_desertsOf J5 J32 Q) (xX3_chanceOf_16 s_X3_desertsOf J5 J32 Q))))))) ls st h
theorem kX3_chanceOf_5 {X : zq_X} {d : Nat} (C : zq_C X cX3_chanceOf 9 RX3 d) {d_X3_desertsOf : Nat} {s_X3_desertsOf : zq_Sp} (h_X3_desertsOf : zq_M yX3_desertsOf cX3_desertsOf 4 (some .int) 1 d_X3_desertsOf s_X3_desertsOf) (g_X3_desertsOf : d_X3_desertsOf + 1 ≤ d) {J5 : zq_P} (j5 : zq_ok X 9 5 J5) {J32 : zq_P} (j32 : zq_ok X 9 32 J32) {Q : zq_Q} (hq : zq_R X (some .long) 2 Q) : zq_ok X 9 5 (xX3_chanceOf_5 s_X3_desertsOf J5 J32 Q) := by
  refine zs_iload C dX3_chanceOf_5 ?_
  refine zs_iconst C dX3_chanceOf_7 (by decide) ?_
  refine zs_aload_n C dX3_chanceOf_8 rfl ?_
  refine zs_getI C zp_5 zF3 (j := 3) ⟨by decide, rfl⟩ zw_84 dX3_chanceOf_9 ?_
  refine zs_ishl C dX3_chanceOf_12 ?_
  exact zs_icmp_ge C dX3_chanceOf_13 (by decide) (kX3_chanceOf_83 C h_X3_desertsOf g_X3_desertsOf j5 j32 hq) (kX3_chanceOf_16 C h_X3_desertsOf g_X3_desertsOf j5 j32 hq)
def xX3_chanceOf_0 (s_X3_desertsOf : zq_Sp) (J5 : zq_P) (J32 : zq_P) (Q : zq_Q) (ls : zq_L) (st : List Value) (h : zq_H) : Prop := (zi_push (.long 0) (zi_lstore 3 (zi_push (.int 0) (zi_istore 5 (J5))))) ls st h
theorem kX3_chanceOf_0 {X : zq_X} {d : Nat} (C : zq_C X cX3_chanceOf 9 RX3 d) {d_X3_desertsOf : Nat} {s_X3_desertsOf : zq_Sp} (h_X3_desertsOf : zq_M yX3_desertsOf cX3_desertsOf 4 (some .int) 1 d_X3_desertsOf s_X3_desertsOf) (g_X3_desertsOf : d_X3_desertsOf + 1 ≤ d) {J5 : zq_P} (j5 : zq_ok X 9 5 J5) {J32 : zq_P} (j32 : zq_ok X 9 32 J32) {Q : zq_Q} (hq : zq_R X (some .long) 2 Q) : zq_ok X 9 0 (xX3_chanceOf_0 s_X3_desertsOf J5 J32 Q) := by
  refine zs_lconst C dX3_chanceOf_0 (by decide) ?_
  refine zs_lstore_n C dX3_chanceOf_1 rfl (by decide) ?_
  refine zs_iconst C dX3_chanceOf_2 (by decide) ?_
  refine zs_istore C dX3_chanceOf_3 (by decide) ?_
  exact j5
theorem mX3_chanceOf {d : Nat} {spec : zq_Sp} {σ5 : Type} {σ32 : Type} {d_X3_desertsOf : Nat} {s_X3_desertsOf : zq_Sp} (h_X3_desertsOf : zq_M yX3_desertsOf cX3_desertsOf 4 (some .int) 1 d_X3_desertsOf s_X3_desertsOf) (g_X3_desertsOf : d_X3_desertsOf + 1 ≤ d) (μ5 : σ5 → Nat) (I5 : zq_Q → σ5 → zq_P) (μ32 : σ32 → Nat) (I32 : zq_Q → σ32 → zq_P) (v : ∀ args h Q, spec args h Q → (zq_a args).length ≤ 9 ∧ xX3_chanceOf_0 s_X3_desertsOf (fun ls st h => ∃ b, I5 Q b ls st h) (fun ls st h => ∃ b, I32 Q b ls st h) Q (zq_l0 9 args) [] h) (v5 : ∀ Q a ls st h, I5 Q a ls st h → xX3_chanceOf_5 s_X3_desertsOf (fun ls st h => ∃ b, μ5 b < μ5 a ∧ I5 Q b ls st h) (fun ls st h => ∃ b, μ32 b < μ5 a ∧ I32 Q b ls st h) Q ls st h) (v32 : ∀ Q a ls st h, I32 Q a ls st h → xX3_chanceOf_32 s_X3_desertsOf (fun ls st h => ∃ b, μ5 b < μ32 a ∧ I5 Q b ls st h) (fun ls st h => ∃ b, μ32 b < μ32 a ∧ I32 Q b ls st h) Q ls st h) : zq_M yX3_chanceOf cX3_chanceOf 9 (some .long) 2 d spec := by
  refine zq_met (by decide +kernel) (by decide) (fun X Q args h C hq hs => ⟨(v args h Q hs).1, _, ?_, (v args h Q hs).2⟩)
  have hl := zq_loop2 (X := X) (nL := 9) (pc1 := 5) (pc2 := 32) μ5 μ32 (I5 Q) (I32 Q) (fun J5 J32 => xX3_chanceOf_5 s_X3_desertsOf J5 J32 Q) (fun J5 J32 => xX3_chanceOf_32 s_X3_desertsOf J5 J32 Q) (fun j5 j32 => kX3_chanceOf_5 C h_X3_desertsOf g_X3_desertsOf j5 j32 hq) (fun j5 j32 => kX3_chanceOf_32 C h_X3_desertsOf g_X3_desertsOf j5 j32 hq) (v5 Q) (v32 Q)
  exact kX3_chanceOf_0 C h_X3_desertsOf g_X3_desertsOf hl.1 hl.2 hq
/-! ToOneCrumb$Party.allChances()J -/
theorem dX3_allChances_0 : decode cX3_allChances 0 = .ok (.lconst 1, 1) := by decide +kernel
theorem dX3_allChances_1 : decode cX3_allChances 1 = .ok (.lstore_n 1, 1) := by decide +kernel
theorem dX3_allChances_2 : decode cX3_allChances 2 = .ok (.iconst 0, 1) := by decide +kernel
theorem dX3_allChances_3 : decode cX3_allChances 3 = .ok (.istore_n 3, 1) := by decide +kernel
theorem dX3_allChances_4 : decode cX3_allChances 4 = .ok (.iload_n 3, 1) := by decide +kernel
theorem dX3_allChances_5 : decode cX3_allChances 5 = .ok (.aload_n 0, 1) := by decide +kernel
theorem dX3_allChances_6 : decode cX3_allChances 6 = .ok (.getfield 31, 3) := by decide +kernel
theorem dX3_allChances_9 : decode cX3_allChances 9 = .ok (.if_icmp .ge 15, 3) := by decide +kernel
theorem dX3_allChances_12 : decode cX3_allChances 12 = .ok (.lload_n 1, 1) := by decide +kernel
theorem dX3_allChances_13 : decode cX3_allChances 13 = .ok (.ldc2_w 69, 3) := by decide +kernel
theorem dX3_allChances_16 : decode cX3_allChances 16 = .ok (.lmul, 1) := by decide +kernel
theorem dX3_allChances_17 : decode cX3_allChances 17 = .ok (.lstore_n 1, 1) := by decide +kernel
theorem dX3_allChances_18 : decode cX3_allChances 18 = .ok (.iinc 3 1, 3) := by decide +kernel
theorem dX3_allChances_21 : decode cX3_allChances 21 = .ok (.goto (-17), 3) := by decide +kernel
theorem dX3_allChances_24 : decode cX3_allChances 24 = .ok (.lload_n 1, 1) := by decide +kernel
theorem dX3_allChances_25 : decode cX3_allChances 25 = .ok (.lreturn, 1) := by decide +kernel
def xX3_allChances_24 (J4 : zq_P) (Q : zq_Q) (ls : zq_L) (st : List Value) (h : zq_H) : Prop := (zi_lload 1 (zi_lret Q)) ls st h
theorem kX3_allChances_24 {X : zq_X} {d : Nat} (C : zq_C X cX3_allChances 4 RX3 d) {J4 : zq_P} (j4 : zq_ok X 4 4 J4) {Q : zq_Q} (hq : zq_R X (some .long) 2 Q) : zq_ok X 4 24 (xX3_allChances_24 J4 Q) := by
  refine zs_lload_n C dX3_allChances_24 rfl ?_
  exact zs_lret C hq dX3_allChances_25
def xX3_allChances_12 (J4 : zq_P) (Q : zq_Q) (ls : zq_L) (st : List Value) (h : zq_H) : Prop := (zi_lload 1 (zi_push (.long 10) (zi_l2 (fun x y => x * y) (zi_lstore 1 (zi_iinc 3 1 (J4)))))) ls st h
theorem kX3_allChances_12 {X : zq_X} {d : Nat} (C : zq_C X cX3_allChances 4 RX3 d) {J4 : zq_P} (j4 : zq_ok X 4 4 J4) {Q : zq_Q} (hq : zq_R X (some .long) 2 Q) : zq_ok X 4 12 (xX3_allChances_12 J4 Q) := by
  refine zs_lload_n C dX3_allChances_12 rfl ?_
  refine zs_ldc2 C dX3_allChances_13 zw_970 ?_
  refine zs_lmul C dX3_allChances_16 ?_
  refine zs_lstore_n C dX3_allChances_17 rfl (by decide) ?_
  refine zs_iinc C dX3_allChances_18 (by decide) (by decide) ?_
  exact zs_goto C dX3_allChances_21 (by decide) (j4)
def xX3_allChances_4 (J4 : zq_P) (Q : zq_Q) (ls : zq_L) (st : List Value) (h : zq_H) : Prop := (zi_iload 3 (zi_aload 0 (zi_getI 5 3 (zi_if2 (fun x y => y ≤ x) (xX3_allChances_24 J4 Q) (xX3_allChances_12 J4 Q))))) ls st h
theorem kX3_allChances_4 {X : zq_X} {d : Nat} (C : zq_C X cX3_allChances 4 RX3 d) {J4 : zq_P} (j4 : zq_ok X 4 4 J4) {Q : zq_Q} (hq : zq_R X (some .long) 2 Q) : zq_ok X 4 4 (xX3_allChances_4 J4 Q) := by
  refine zs_iload_n C dX3_allChances_4 rfl ?_
  refine zs_aload_n C dX3_allChances_5 rfl ?_
  refine zs_getI C zp_5 zF3 (j := 3) ⟨by decide, rfl⟩ zw_84 dX3_allChances_6 ?_
  exact zs_icmp_ge C dX3_allChances_9 (by decide) (kX3_allChances_24 C j4 hq) (kX3_allChances_12 C j4 hq)
def xX3_allChances_0 (J4 : zq_P) (Q : zq_Q) (ls : zq_L) (st : List Value) (h : zq_H) : Prop := (zi_push (.long 1) (zi_lstore 1 (zi_push (.int 0) (zi_istore 3 (J4))))) ls st h
theorem kX3_allChances_0 {X : zq_X} {d : Nat} (C : zq_C X cX3_allChances 4 RX3 d) {J4 : zq_P} (j4 : zq_ok X 4 4 J4) {Q : zq_Q} (hq : zq_R X (some .long) 2 Q) : zq_ok X 4 0 (xX3_allChances_0 J4 Q) := by
  refine zs_lconst C dX3_allChances_0 (by decide) ?_
  refine zs_lstore_n C dX3_allChances_1 rfl (by decide) ?_
  refine zs_iconst C dX3_allChances_2 (by decide) ?_
  refine zs_istore_n C dX3_allChances_3 rfl (by decide) ?_
  exact j4
theorem mX3_allChances {d : Nat} {spec : zq_Sp} {σ4 : Type} (μ4 : σ4 → Nat) (I4 : zq_Q → σ4 → zq_P) (v : ∀ args h Q, spec args h Q → (zq_a args).length ≤ 4 ∧ xX3_allChances_0 (fun ls st h => ∃ b, I4 Q b ls st h) Q (zq_l0 4 args) [] h) (v4 : ∀ Q a ls st h, I4 Q a ls st h → xX3_allChances_4 (fun ls st h => ∃ b, μ4 b < μ4 a ∧ I4 Q b ls st h) Q ls st h) : zq_M yX3_allChances cX3_allChances 4 (some .long) 2 d spec := by
  refine zq_met (by decide +kernel) (by decide) (fun X Q args h C hq hs => ⟨(v args h Q hs).1, _, ?_, (v args h Q hs).2⟩)
  have hl := zq_loop1 (X := X) (nL := 4) (pc1 := 4) μ4 (I4 Q) (fun J4 => xX3_allChances_4 J4 Q) (fun j4 => kX3_allChances_4 C j4 hq) (v4 Q)
  exact kX3_allChances_0 C hl hq
/-! ToOneCrumb$Rule.read(LToOneCrumb$Text;)Z -/
theorem dX6_read_0 : decode cX6_read 0 = .ok (.aload_n 0, 1) := by decide +kernel
theorem dX6_read_1 : decode cX6_read 1 = .ok (.iconst 0, 1) := by decide +kernel
theorem dX6_read_2 : decode cX6_read 2 = .ok (.putfield 21, 3) := by decide +kernel
theorem dX6_read_5 : decode cX6_read 5 = .ok (.aload_n 0, 1) := by decide +kernel
theorem dX6_read_6 : decode cX6_read 6 = .ok (.iconst 0, 1) := by decide +kernel
theorem dX6_read_7 : decode cX6_read 7 = .ok (.putfield 25, 3) := by decide +kernel
theorem dX6_read_10 : decode cX6_read 10 = .ok (.aload_n 0, 1) := by decide +kernel
theorem dX6_read_11 : decode cX6_read 11 = .ok (.iconst 0, 1) := by decide +kernel
theorem dX6_read_12 : decode cX6_read 12 = .ok (.putfield 28, 3) := by decide +kernel
theorem dX6_read_15 : decode cX6_read 15 = .ok (.aload_n 0, 1) := by decide +kernel
theorem dX6_read_16 : decode cX6_read 16 = .ok (.iconst 0, 1) := by decide +kernel
theorem dX6_read_17 : decode cX6_read 17 = .ok (.putfield 31, 3) := by decide +kernel
theorem dX6_read_20 : decode cX6_read 20 = .ok (.aload_n 0, 1) := by decide +kernel
theorem dX6_read_21 : decode cX6_read 21 = .ok (.iconst 1, 1) := by decide +kernel
theorem dX6_read_22 : decode cX6_read 22 = .ok (.putfield 34, 3) := by decide +kernel
theorem dX6_read_25 : decode cX6_read 25 = .ok (.aload_n 1, 1) := by decide +kernel
theorem dX6_read_26 : decode cX6_read 26 = .ok (.bipush 40, 2) := by decide +kernel
theorem dX6_read_28 : decode cX6_read 28 = .ok (.invokevirtual 38, 3) := by decide +kernel
theorem dX6_read_31 : decode cX6_read 31 = .ok (.aload_n 1, 1) := by decide +kernel
theorem dX6_read_32 : decode cX6_read 32 = .ok (.invokevirtual 44, 3) := by decide +kernel
theorem dX6_read_35 : decode cX6_read 35 = .ok (.ifCond .eq 5, 3) := by decide +kernel
theorem dX6_read_38 : decode cX6_read 38 = .ok (.iconst 1, 1) := by decide +kernel
theorem dX6_read_39 : decode cX6_read 39 = .ok (.ireturn, 1) := by decide +kernel
theorem dX6_read_40 : decode cX6_read 40 = .ok (.iconst 0, 1) := by decide +kernel
theorem dX6_read_41 : decode cX6_read 41 = .ok (.istore_n 2, 1) := by decide +kernel
theorem dX6_read_42 : decode cX6_read 42 = .ok (.iload_n 2, 1) := by decide +kernel
theorem dX6_read_43 : decode cX6_read 43 = .ok (.bipush 40, 2) := by decide +kernel
theorem dX6_read_45 : decode cX6_read 45 = .ok (.if_icmp .ge 43, 3) := by decide +kernel
theorem dX6_read_48 : decode cX6_read 48 = .ok (.aload_n 1, 1) := by decide +kernel
theorem dX6_read_49 : decode cX6_read 49 = .ok (.invokevirtual 48, 3) := by decide +kernel
theorem dX6_read_52 : decode cX6_read 52 = .ok (.ifCond .lt 36, 3) := by decide +kernel
theorem dX6_read_55 : decode cX6_read 55 = .ok (.aload_n 0, 1) := by decide +kernel
theorem dX6_read_56 : decode cX6_read 56 = .ok (.getfield 34, 3) := by decide +kernel
theorem dX6_read_59 : decode cX6_read 59 = .ok (.ifCond .eq 11, 3) := by decide +kernel
theorem dX6_read_62 : decode cX6_read 62 = .ok (.aload_n 0, 1) := by decide +kernel
theorem dX6_read_63 : decode cX6_read 63 = .ok (.aload_n 1, 1) := by decide +kernel
theorem dX6_read_64 : decode cX6_read 64 = .ok (.invokevirtual 52, 3) := by decide +kernel
theorem dX6_read_67 : decode cX6_read 67 = .ok (.goto 8, 3) := by decide +kernel
theorem dX6_read_70 : decode cX6_read 70 = .ok (.aload_n 0, 1) := by decide +kernel
theorem dX6_read_71 : decode cX6_read 71 = .ok (.aload_n 1, 1) := by decide +kernel
theorem dX6_read_72 : decode cX6_read 72 = .ok (.invokevirtual 56, 3) := by decide +kernel
theorem dX6_read_75 : decode cX6_read 75 = .ok (.istore_n 3, 1) := by decide +kernel
theorem dX6_read_76 : decode cX6_read 76 = .ok (.iload_n 3, 1) := by decide +kernel
theorem dX6_read_77 : decode cX6_read 77 = .ok (.ifCond .ne 5, 3) := by decide +kernel
theorem dX6_read_80 : decode cX6_read 80 = .ok (.iconst 0, 1) := by decide +kernel
theorem dX6_read_81 : decode cX6_read 81 = .ok (.ireturn, 1) := by decide +kernel
theorem dX6_read_82 : decode cX6_read 82 = .ok (.iinc 2 1, 3) := by decide +kernel
theorem dX6_read_85 : decode cX6_read 85 = .ok (.goto (-43), 3) := by decide +kernel
theorem dX6_read_88 : decode cX6_read 88 = .ok (.aload_n 0, 1) := by decide +kernel
theorem dX6_read_89 : decode cX6_read 89 = .ok (.getfield 34, 3) := by decide +kernel
theorem dX6_read_92 : decode cX6_read 92 = .ok (.ifCond .ne 17, 3) := by decide +kernel
theorem dX6_read_95 : decode cX6_read 95 = .ok (.aload_n 0, 1) := by decide +kernel
theorem dX6_read_96 : decode cX6_read 96 = .ok (.getfield 28, 3) := by decide +kernel
theorem dX6_read_99 : decode cX6_read 99 = .ok (.ifCond .gt 10, 3) := by decide +kernel
theorem dX6_read_102 : decode cX6_read 102 = .ok (.aload_n 1, 1) := by decide +kernel
theorem dX6_read_103 : decode cX6_read 103 = .ok (.invokevirtual 44, 3) := by decide +kernel
theorem dX6_read_106 : decode cX6_read 106 = .ok (.ifCond .ne 5, 3) := by decide +kernel
theorem dX6_read_109 : decode cX6_read 109 = .ok (.iconst 0, 1) := by decide +kernel
theorem dX6_read_110 : decode cX6_read 110 = .ok (.ireturn, 1) := by decide +kernel
theorem dX6_read_111 : decode cX6_read 111 = .ok (.aload_n 0, 1) := by decide +kernel
theorem dX6_read_112 : decode cX6_read 112 = .ok (.iconst 1, 1) := by decide +kernel
theorem dX6_read_113 : decode cX6_read 113 = .ok (.invokevirtual 59, 3) := by decide +kernel
theorem dX6_read_116 : decode cX6_read 116 = .ok (.iconst 1, 1) := by decide +kernel
theorem dX6_read_117 : decode cX6_read 117 = .ok (.ireturn, 1) := by decide +kernel
def xX6_read_111 (s_X8_start : zq_Sp) (s_X8_isFinished : zq_Sp) (s_X8_next : zq_Sp) (s_X6_readThing : zq_Sp) (s_X6_readJoint : zq_Sp) (s_X6_release : zq_Sp) (J42 : zq_P) (Q : zq_Q) (ls : zq_L) (st : List Value) (h : zq_H) : Prop := (zi_aload 0 (zi_push (.int 1) (zi_callV 1 52 s_X6_release (zi_push (.int 1) (zi_zret Q))))) ls st h
theorem kX6_read_111 {X : zq_X} {d : Nat} (C : zq_C X cX6_read 4 RX6 d) {d_X8_start : Nat} {s_X8_start : zq_Sp} (h_X8_start : zq_M yX8_start cX8_start 2 none 0 d_X8_start s_X8_start) (g_X8_start : d_X8_start + 1 ≤ d) {d_X8_isFinished : Nat} {s_X8_isFinished : zq_Sp} (h_X8_isFinished : zq_M yX8_isFinished cX8_isFinished 1 (some .boolean) 1 d_X8_isFinished s_X8_isFinished) (g_X8_isFinished : d_X8_isFinished + 1 ≤ d) {d_X8_next : Nat} {s_X8_next : zq_Sp} (h_X8_next : zq_M yX8_next cX8_next 1 (some .int) 1 d_X8_next s_X8_next) (g_X8_next : d_X8_next + 1 ≤ d) {d_X6_readThing : Nat} {s_X6_readThing : zq_Sp} (h_X6_readThing : zq_M yX6_readThing cX6_readThing 4 (some .boolean) 1 d_X6_readThing s_X6_readThing) (g_X6_readThing : d_X6_readThing + 1 ≤ d) {d_X6_readJoint : Nat} {s_X6_readJoint : zq_Sp} (h_X6_readJoint : zq_M yX6_readJoint cX6_readJoint 4 (some .boolean) 1 d_X6_readJoint s_X6_readJoint) (g_X6_readJoint : d_X6_readJoint + 1 ≤ d) {d_X6_release : Nat} {s_X6_release : zq_Sp} (h_X6_release : zq_M yX6_release cX6_release 2 none 0 d_X6_release s_X6_release) (g_X6_release : d_X6_release + 1 ≤ d) {J42 : zq_P} (j42 : zq_ok X 4 42 J42) {Q : zq_Q} (hq : zq_R X (some .boolean) 1 Q) : zq_ok X 4 111 (xX6_read_111 s_X8_start s_X8_isFinished s_X8_next s_X6_readThing s_X6_readJoint s_X6_release J42 Q) := by
  refine zs_aload_n C dX6_read_111 rfl ?_
  refine zs_iconst C dX6_read_112 (by decide) ?_
  refine zs_callV C h_X6_release g_X6_release zy_X6_release zp_52 (show vwCl[6]? = some (RX6, TX6, 8) from rfl) zw_538 zw_540 zs9_X6_release dX6_read_113 ?_
  refine zs_iconst C dX6_read_116 (by decide) ?_
  exact zs_zret C hq dX6_read_117
def xX6_read_109 (s_X8_start : zq_Sp) (s_X8_isFinished : zq_Sp) (s_X8_next : zq_Sp) (s_X6_readThing : zq_Sp) (s_X6_readJoint : zq_Sp) (s_X6_release : zq_Sp) (J42 : zq_P) (Q : zq_Q) (ls : zq_L) (st : List Value) (h : zq_H) : Prop := (zi_push (.int 0) (zi_zret Q)) ls st h
theorem kX6_read_109 {X : zq_X} {d : Nat} (C : zq_C X cX6_read 4 RX6 d) {d_X8_start : Nat} {s_X8_start : zq_Sp} (h_X8_start : zq_M yX8_start cX8_start 2 none 0 d_X8_start s_X8_start) (g_X8_start : d_X8_start + 1 ≤ d) {d_X8_isFinished : Nat} {s_X8_isFinished : zq_Sp} (h_X8_isFinished : zq_M yX8_isFinished cX8_isFinished 1 (some .boolean) 1 d_X8_isFinished s_X8_isFinished) (g_X8_isFinished : d_X8_isFinished + 1 ≤ d) {d_X8_next : Nat} {s_X8_next : zq_Sp} (h_X8_next : zq_M yX8_next cX8_next 1 (some .int) 1 d_X8_next s_X8_next) (g_X8_next : d_X8_next + 1 ≤ d) {d_X6_readThing : Nat} {s_X6_readThing : zq_Sp} (h_X6_readThing : zq_M yX6_readThing cX6_readThing 4 (some .boolean) 1 d_X6_readThing s_X6_readThing) (g_X6_readThing : d_X6_readThing + 1 ≤ d) {d_X6_readJoint : Nat} {s_X6_readJoint : zq_Sp} (h_X6_readJoint : zq_M yX6_readJoint cX6_readJoint 4 (some .boolean) 1 d_X6_readJoint s_X6_readJoint) (g_X6_readJoint : d_X6_readJoint + 1 ≤ d) {d_X6_release : Nat} {s_X6_release : zq_Sp} (h_X6_release : zq_M yX6_release cX6_release 2 none 0 d_X6_release s_X6_release) (g_X6_release : d_X6_release + 1 ≤ d) {J42 : zq_P} (j42 : zq_ok X 4 42 J42) {Q : zq_Q} (hq : zq_R X (some .boolean) 1 Q) : zq_ok X 4 109 (xX6_read_109 s_X8_start s_X8_isFinished s_X8_next s_X6_readThing s_X6_readJoint s_X6_release J42 Q) := by
  refine zs_iconst C dX6_read_109 (by decide) ?_
  exact zs_zret C hq dX6_read_110
def xX6_read_102 (s_X8_start : zq_Sp) (s_X8_isFinished : zq_Sp) (s_X8_next : zq_Sp) (s_X6_readThing : zq_Sp) (s_X6_readJoint : zq_Sp) (s_X6_release : zq_Sp) (J42 : zq_P) (Q : zq_Q) (ls : zq_L) (st : List Value) (h : zq_H) : Prop := (zi_aload 1 (zi_callV 0 1 s_X8_isFinished (zi_if1 (fun x => x = 0) (xX6_read_109 s_X8_start s_X8_isFinished s_X8_next s_X6_readThing s_X6_readJoint s_X6_release J42 Q) (xX6_read_111 s_X8_start s_X8_isFinished s_X8_next s_X6_readThing s_X6_readJoint s_X6_release J42 Q)))) ls st h
theorem kX6_read_102 {X : zq_X} {d : Nat} (C : zq_C X cX6_read 4 RX6 d) {d_X8_start : Nat} {s_X8_start : zq_Sp} (h_X8_start : zq_M yX8_start cX8_start 2 none 0 d_X8_start s_X8_start) (g_X8_start : d_X8_start + 1 ≤ d) {d_X8_isFinished : Nat} {s_X8_isFinished : zq_Sp} (h_X8_isFinished : zq_M yX8_isFinished cX8_isFinished 1 (some .boolean) 1 d_X8_isFinished s_X8_isFinished) (g_X8_isFinished : d_X8_isFinished + 1 ≤ d) {d_X8_next : Nat} {s_X8_next : zq_Sp} (h_X8_next : zq_M yX8_next cX8_next 1 (some .int) 1 d_X8_next s_X8_next) (g_X8_next : d_X8_next + 1 ≤ d) {d_X6_readThing : Nat} {s_X6_readThing : zq_Sp} (h_X6_readThing : zq_M yX6_readThing cX6_readThing 4 (some .boolean) 1 d_X6_readThing s_X6_readThing) (g_X6_readThing : d_X6_readThing + 1 ≤ d) {d_X6_readJoint : Nat} {s_X6_readJoint : zq_Sp} (h_X6_readJoint : zq_M yX6_readJoint cX6_readJoint 4 (some .boolean) 1 d_X6_readJoint s_X6_readJoint) (g_X6_readJoint : d_X6_readJoint + 1 ≤ d) {d_X6_release : Nat} {s_X6_release : zq_Sp} (h_X6_release : zq_M yX6_release cX6_release 2 none 0 d_X6_release s_X6_release) (g_X6_release : d_X6_release + 1 ≤ d) {J42 : zq_P} (j42 : zq_ok X 4 42 J42) {Q : zq_Q} (hq : zq_R X (some .boolean) 1 Q) : zq_ok X 4 102 (xX6_read_102 s_X8_start s_X8_isFinished s_X8_next s_X6_readThing s_X6_readJoint s_X6_release J42 Q) := by
  refine zs_aload_n C dX6_read_102 rfl ?_
  refine zs_callV C h_X8_isFinished g_X8_isFinished zy_X8_isFinished zp_1 (show vwCl[8]? = some (RX8, TX8, 4) from rfl) zw_511 zw_396 zs9_X8_isFinished dX6_read_103 ?_
  exact zs_if_ne C dX6_read_106 (by decide) (kX6_read_111 C h_X8_start g_X8_start h_X8_isFinished g_X8_isFinished h_X8_next g_X8_next h_X6_readThing g_X6_readThing h_X6_readJoint g_X6_readJoint h_X6_release g_X6_release j42 hq) (kX6_read_109 C h_X8_start g_X8_start h_X8_isFinished g_X8_isFinished h_X8_next g_X8_next h_X6_readThing g_X6_readThing h_X6_readJoint g_X6_readJoint h_X6_release g_X6_release j42 hq)
def xX6_read_95 (s_X8_start : zq_Sp) (s_X8_isFinished : zq_Sp) (s_X8_next : zq_Sp) (s_X6_readThing : zq_Sp) (s_X6_readJoint : zq_Sp) (s_X6_release : zq_Sp) (J42 : zq_P) (Q : zq_Q) (ls : zq_L) (st : List Value) (h : zq_H) : Prop := (zi_aload 0 (zi_getI 52 5 (zi_if1 (fun x => 0 < x) (xX6_read_109 s_X8_start s_X8_isFinished s_X8_next s_X6_readThing s_X6_readJoint s_X6_release J42 Q) (xX6_read_102 s_X8_start s_X8_isFinished s_X8_next s_X6_readThing s_X6_readJoint s_X6_release J42 Q)))) ls st h
theorem kX6_read_95 {X : zq_X} {d : Nat} (C : zq_C X cX6_read 4 RX6 d) {d_X8_start : Nat} {s_X8_start : zq_Sp} (h_X8_start : zq_M yX8_start cX8_start 2 none 0 d_X8_start s_X8_start) (g_X8_start : d_X8_start + 1 ≤ d) {d_X8_isFinished : Nat} {s_X8_isFinished : zq_Sp} (h_X8_isFinished : zq_M yX8_isFinished cX8_isFinished 1 (some .boolean) 1 d_X8_isFinished s_X8_isFinished) (g_X8_isFinished : d_X8_isFinished + 1 ≤ d) {d_X8_next : Nat} {s_X8_next : zq_Sp} (h_X8_next : zq_M yX8_next cX8_next 1 (some .int) 1 d_X8_next s_X8_next) (g_X8_next : d_X8_next + 1 ≤ d) {d_X6_readThing : Nat} {s_X6_readThing : zq_Sp} (h_X6_readThing : zq_M yX6_readThing cX6_readThing 4 (some .boolean) 1 d_X6_readThing s_X6_readThing) (g_X6_readThing : d_X6_readThing + 1 ≤ d) {d_X6_readJoint : Nat} {s_X6_readJoint : zq_Sp} (h_X6_readJoint : zq_M yX6_readJoint cX6_readJoint 4 (some .boolean) 1 d_X6_readJoint s_X6_readJoint) (g_X6_readJoint : d_X6_readJoint + 1 ≤ d) {d_X6_release : Nat} {s_X6_release : zq_Sp} (h_X6_release : zq_M yX6_release cX6_release 2 none 0 d_X6_release s_X6_release) (g_X6_release : d_X6_release + 1 ≤ d) {J42 : zq_P} (j42 : zq_ok X 4 42 J42) {Q : zq_Q} (hq : zq_R X (some .boolean) 1 Q) : zq_ok X 4 95 (xX6_read_95 s_X8_start s_X8_isFinished s_X8_next s_X6_readThing s_X6_readJoint s_X6_release J42 Q) := by
  refine zs_aload_n C dX6_read_95 rfl ?_
  refine zs_getI C zp_52 zF6 (j := 5) ⟨by decide, rfl⟩ zw_295 dX6_read_96 ?_
  exact zs_if_gt C dX6_read_99 (by decide) (kX6_read_109 C h_X8_start g_X8_start h_X8_isFinished g_X8_isFinished h_X8_next g_X8_next h_X6_readThing g_X6_readThing h_X6_readJoint g_X6_readJoint h_X6_release g_X6_release j42 hq) (kX6_read_102 C h_X8_start g_X8_start h_X8_isFinished g_X8_isFinished h_X8_next g_X8_next h_X6_readThing g_X6_readThing h_X6_readJoint g_X6_readJoint h_X6_release g_X6_release j42 hq)
def xX6_read_88 (s_X8_start : zq_Sp) (s_X8_isFinished : zq_Sp) (s_X8_next : zq_Sp) (s_X6_readThing : zq_Sp) (s_X6_readJoint : zq_Sp) (s_X6_release : zq_Sp) (J42 : zq_P) (Q : zq_Q) (ls : zq_L) (st : List Value) (h : zq_H) : Prop := (zi_aload 0 (zi_getI 52 7 (zi_if1 (fun x => x = 0) (xX6_read_95 s_X8_start s_X8_isFinished s_X8_next s_X6_readThing s_X6_readJoint s_X6_release J42 Q) (xX6_read_109 s_X8_start s_X8_isFinished s_X8_next s_X6_readThing s_X6_readJoint s_X6_release J42 Q)))) ls st h
theorem kX6_read_88 {X : zq_X} {d : Nat} (C : zq_C X cX6_read 4 RX6 d) {d_X8_start : Nat} {s_X8_start : zq_Sp} (h_X8_start : zq_M yX8_start cX8_start 2 none 0 d_X8_start s_X8_start) (g_X8_start : d_X8_start + 1 ≤ d) {d_X8_isFinished : Nat} {s_X8_isFinished : zq_Sp} (h_X8_isFinished : zq_M yX8_isFinished cX8_isFinished 1 (some .boolean) 1 d_X8_isFinished s_X8_isFinished) (g_X8_isFinished : d_X8_isFinished + 1 ≤ d) {d_X8_next : Nat} {s_X8_next : zq_Sp} (h_X8_next : zq_M yX8_next cX8_next 1 (some .int) 1 d_X8_next s_X8_next) (g_X8_next : d_X8_next + 1 ≤ d) {d_X6_readThing : Nat} {s_X6_readThing : zq_Sp} (h_X6_readThing : zq_M yX6_readThing cX6_readThing 4 (some .boolean) 1 d_X6_readThing s_X6_readThing) (g_X6_readThing : d_X6_readThing + 1 ≤ d) {d_X6_readJoint : Nat} {s_X6_readJoint : zq_Sp} (h_X6_readJoint : zq_M yX6_readJoint cX6_readJoint 4 (some .boolean) 1 d_X6_readJoint s_X6_readJoint) (g_X6_readJoint : d_X6_readJoint + 1 ≤ d) {d_X6_release : Nat} {s_X6_release : zq_Sp} (h_X6_release : zq_M yX6_release cX6_release 2 none 0 d_X6_release s_X6_release) (g_X6_release : d_X6_release + 1 ≤ d) {J42 : zq_P} (j42 : zq_ok X 4 42 J42) {Q : zq_Q} (hq : zq_R X (some .boolean) 1 Q) : zq_ok X 4 88 (xX6_read_88 s_X8_start s_X8_isFinished s_X8_next s_X6_readThing s_X6_readJoint s_X6_release J42 Q) := by
  refine zs_aload_n C dX6_read_88 rfl ?_
  refine zs_getI C zp_52 zF6 (j := 7) ⟨by decide, rfl⟩ zw_297 dX6_read_89 ?_
  exact zs_if_ne C dX6_read_92 (by decide) (kX6_read_109 C h_X8_start g_X8_start h_X8_isFinished g_X8_isFinished h_X8_next g_X8_next h_X6_readThing g_X6_readThing h_X6_readJoint g_X6_readJoint h_X6_release g_X6_release j42 hq) (kX6_read_95 C h_X8_start g_X8_start h_X8_isFinished g_X8_isFinished h_X8_next g_X8_next h_X6_readThing g_X6_readThing h_X6_readJoint g_X6_readJoint h_X6_release g_X6_release j42 hq)
def xX6_read_82 (s_X8_start : zq_Sp) (s_X8_isFinished : zq_Sp) (s_X8_next : zq_Sp) (s_X6_readThing : zq_Sp) (s_X6_readJoint : zq_Sp) (s_X6_release : zq_Sp) (J42 : zq_P) (Q : zq_Q) (ls : zq_L) (st : List Value) (h : zq_H) : Prop := (zi_iinc 2 1 (J42)) ls st h
theorem kX6_read_82 {X : zq_X} {d : Nat} (C : zq_C X cX6_read 4 RX6 d) {d_X8_start : Nat} {s_X8_start : zq_Sp} (h_X8_start : zq_M yX8_start cX8_start 2 none 0 d_X8_start s_X8_start) (g_X8_start : d_X8_start + 1 ≤ d) {d_X8_isFinished : Nat} {s_X8_isFinished : zq_Sp} (h_X8_isFinished : zq_M yX8_isFinished cX8_isFinished 1 (some .boolean) 1 d_X8_isFinished s_X8_isFinished) (g_X8_isFinished : d_X8_isFinished + 1 ≤ d) {d_X8_next : Nat} {s_X8_next : zq_Sp} (h_X8_next : zq_M yX8_next cX8_next 1 (some .int) 1 d_X8_next s_X8_next) (g_X8_next : d_X8_next + 1 ≤ d) {d_X6_readThing : Nat} {s_X6_readThing : zq_Sp} (h_X6_readThing : zq_M yX6_readThing cX6_readThing 4 (some .boolean) 1 d_X6_readThing s_X6_readThing) (g_X6_readThing : d_X6_readThing + 1 ≤ d) {d_X6_readJoint : Nat} {s_X6_readJoint : zq_Sp} (h_X6_readJoint : zq_M yX6_readJoint cX6_readJoint 4 (some .boolean) 1 d_X6_readJoint s_X6_readJoint) (g_X6_readJoint : d_X6_readJoint + 1 ≤ d) {d_X6_release : Nat} {s_X6_release : zq_Sp} (h_X6_release : zq_M yX6_release cX6_release 2 none 0 d_X6_release s_X6_release) (g_X6_release : d_X6_release + 1 ≤ d) {J42 : zq_P} (j42 : zq_ok X 4 42 J42) {Q : zq_Q} (hq : zq_R X (some .boolean) 1 Q) : zq_ok X 4 82 (xX6_read_82 s_X8_start s_X8_isFinished s_X8_next s_X6_readThing s_X6_readJoint s_X6_release J42 Q) := by
  refine zs_iinc C dX6_read_82 (by decide) (by decide) ?_
  exact zs_goto C dX6_read_85 (by decide) (j42)
def xX6_read_80 (s_X8_start : zq_Sp) (s_X8_isFinished : zq_Sp) (s_X8_next : zq_Sp) (s_X6_readThing : zq_Sp) (s_X6_readJoint : zq_Sp) (s_X6_release : zq_Sp) (J42 : zq_P) (Q : zq_Q) (ls : zq_L) (st : List Value) (h : zq_H) : Prop := (zi_push (.int 0) (zi_zret Q)) ls st h
theorem kX6_read_80 {X : zq_X} {d : Nat} (C : zq_C X cX6_read 4 RX6 d) {d_X8_start : Nat} {s_X8_start : zq_Sp} (h_X8_start : zq_M yX8_start cX8_start 2 none 0 d_X8_start s_X8_start) (g_X8_start : d_X8_start + 1 ≤ d) {d_X8_isFinished : Nat} {s_X8_isFinished : zq_Sp} (h_X8_isFinished : zq_M yX8_isFinished cX8_isFinished 1 (some .boolean) 1 d_X8_isFinished s_X8_isFinished) (g_X8_isFinished : d_X8_isFinished + 1 ≤ d) {d_X8_next : Nat} {s_X8_next : zq_Sp} (h_X8_next : zq_M yX8_next cX8_next 1 (some .int) 1 d_X8_next s_X8_next) (g_X8_next : d_X8_next + 1 ≤ d) {d_X6_readThing : Nat} {s_X6_readThing : zq_Sp} (h_X6_readThing : zq_M yX6_readThing cX6_readThing 4 (some .boolean) 1 d_X6_readThing s_X6_readThing) (g_X6_readThing : d_X6_readThing + 1 ≤ d) {d_X6_readJoint : Nat} {s_X6_readJoint : zq_Sp} (h_X6_readJoint : zq_M yX6_readJoint cX6_readJoint 4 (some .boolean) 1 d_X6_readJoint s_X6_readJoint) (g_X6_readJoint : d_X6_readJoint + 1 ≤ d) {d_X6_release : Nat} {s_X6_release : zq_Sp} (h_X6_release : zq_M yX6_release cX6_release 2 none 0 d_X6_release s_X6_release) (g_X6_release : d_X6_release + 1 ≤ d) {J42 : zq_P} (j42 : zq_ok X 4 42 J42) {Q : zq_Q} (hq : zq_R X (some .boolean) 1 Q) : zq_ok X 4 80 (xX6_read_80 s_X8_start s_X8_isFinished s_X8_next s_X6_readThing s_X6_readJoint s_X6_release J42 Q) := by
  refine zs_iconst C dX6_read_80 (by decide) ?_
  exact zs_zret C hq dX6_read_81
def xX6_read_75 (s_X8_start : zq_Sp) (s_X8_isFinished : zq_Sp) (s_X8_next : zq_Sp) (s_X6_readThing : zq_Sp) (s_X6_readJoint : zq_Sp) (s_X6_release : zq_Sp) (J42 : zq_P) (Q : zq_Q) (ls : zq_L) (st : List Value) (h : zq_H) : Prop := (zi_istore 3 (zi_iload 3 (zi_if1 (fun x => x = 0) (xX6_read_80 s_X8_start s_X8_isFinished s_X8_next s_X6_readThing s_X6_readJoint s_X6_release J42 Q) (xX6_read_82 s_X8_start s_X8_isFinished s_X8_next s_X6_readThing s_X6_readJoint s_X6_release J42 Q)))) ls st h
theorem kX6_read_75 {X : zq_X} {d : Nat} (C : zq_C X cX6_read 4 RX6 d) {d_X8_start : Nat} {s_X8_start : zq_Sp} (h_X8_start : zq_M yX8_start cX8_start 2 none 0 d_X8_start s_X8_start) (g_X8_start : d_X8_start + 1 ≤ d) {d_X8_isFinished : Nat} {s_X8_isFinished : zq_Sp} (h_X8_isFinished : zq_M yX8_isFinished cX8_isFinished 1 (some .boolean) 1 d_X8_isFinished s_X8_isFinished) (g_X8_isFinished : d_X8_isFinished + 1 ≤ d) {d_X8_next : Nat} {s_X8_next : zq_Sp} (h_X8_next : zq_M yX8_next cX8_next 1 (some .int) 1 d_X8_next s_X8_next) (g_X8_next : d_X8_next + 1 ≤ d) {d_X6_readThing : Nat} {s_X6_readThing : zq_Sp} (h_X6_readThing : zq_M yX6_readThing cX6_readThing 4 (some .boolean) 1 d_X6_readThing s_X6_readThing) (g_X6_readThing : d_X6_readThing + 1 ≤ d) {d_X6_readJoint : Nat} {s_X6_readJoint : zq_Sp} (h_X6_readJoint : zq_M yX6_readJoint cX6_readJoint 4 (some .boolean) 1 d_X6_readJoint s_X6_readJoint) (g_X6_readJoint : d_X6_readJoint + 1 ≤ d) {d_X6_release : Nat} {s_X6_release : zq_Sp} (h_X6_release : zq_M yX6_release cX6_release 2 none 0 d_X6_release s_X6_release) (g_X6_release : d_X6_release + 1 ≤ d) {J42 : zq_P} (j42 : zq_ok X 4 42 J42) {Q : zq_Q} (hq : zq_R X (some .boolean) 1 Q) : zq_ok X 4 75 (xX6_read_75 s_X8_start s_X8_isFinished s_X8_next s_X6_readThing s_X6_readJoint s_X6_release J42 Q) := by
  refine zs_istore_n C dX6_read_75 rfl (by decide) ?_
  refine zs_iload_n C dX6_read_76 rfl ?_
  exact zs_if_ne C dX6_read_77 (by decide) (kX6_read_82 C h_X8_start g_X8_start h_X8_isFinished g_X8_isFinished h_X8_next g_X8_next h_X6_readThing g_X6_readThing h_X6_readJoint g_X6_readJoint h_X6_release g_X6_release j42 hq) (kX6_read_80 C h_X8_start g_X8_start h_X8_isFinished g_X8_isFinished h_X8_next g_X8_next h_X6_readThing g_X6_readThing h_X6_readJoint g_X6_readJoint h_X6_release g_X6_release j42 hq)
def xX6_read_70 (s_X8_start : zq_Sp) (s_X8_isFinished : zq_Sp) (s_X8_next : zq_Sp) (s_X6_readThing : zq_Sp) (s_X6_readJoint : zq_Sp) (s_X6_release : zq_Sp) (J42 : zq_P) (Q : zq_Q) (ls : zq_L) (st : List Value) (h : zq_H) : Prop := (zi_aload 0 (zi_aload 1 (zi_callV 1 52 s_X6_readJoint ((xX6_read_75 s_X8_start s_X8_isFinished s_X8_next s_X6_readThing s_X6_readJoint s_X6_release J42 Q))))) ls st h
theorem kX6_read_70 {X : zq_X} {d : Nat} (C : zq_C X cX6_read 4 RX6 d) {d_X8_start : Nat} {s_X8_start : zq_Sp} (h_X8_start : zq_M yX8_start cX8_start 2 none 0 d_X8_start s_X8_start) (g_X8_start : d_X8_start + 1 ≤ d) {d_X8_isFinished : Nat} {s_X8_isFinished : zq_Sp} (h_X8_isFinished : zq_M yX8_isFinished cX8_isFinished 1 (some .boolean) 1 d_X8_isFinished s_X8_isFinished) (g_X8_isFinished : d_X8_isFinished + 1 ≤ d) {d_X8_next : Nat} {s_X8_next : zq_Sp} (h_X8_next : zq_M yX8_next cX8_next 1 (some .int) 1 d_X8_next s_X8_next) (g_X8_next : d_X8_next + 1 ≤ d) {d_X6_readThing : Nat} {s_X6_readThing : zq_Sp} (h_X6_readThing : zq_M yX6_readThing cX6_readThing 4 (some .boolean) 1 d_X6_readThing s_X6_readThing) (g_X6_readThing : d_X6_readThing + 1 ≤ d) {d_X6_readJoint : Nat} {s_X6_readJoint : zq_Sp} (h_X6_readJoint : zq_M yX6_readJoint cX6_readJoint 4 (some .boolean) 1 d_X6_readJoint s_X6_readJoint) (g_X6_readJoint : d_X6_readJoint + 1 ≤ d) {d_X6_release : Nat} {s_X6_release : zq_Sp} (h_X6_release : zq_M yX6_release cX6_release 2 none 0 d_X6_release s_X6_release) (g_X6_release : d_X6_release + 1 ≤ d) {J42 : zq_P} (j42 : zq_ok X 4 42 J42) {Q : zq_Q} (hq : zq_R X (some .boolean) 1 Q) : zq_ok X 4 70 (xX6_read_70 s_X8_start s_X8_isFinished s_X8_next s_X6_readThing s_X6_readJoint s_X6_release J42 Q) := by
  refine zs_aload_n C dX6_read_70 rfl ?_
  refine zs_aload_n C dX6_read_71 rfl ?_
  refine zs_callV C h_X6_readJoint g_X6_readJoint zy_X6_readJoint zp_52 (show vwCl[6]? = some (RX6, TX6, 8) from rfl) zw_534 zw_536 zs9_X6_readJoint dX6_read_72 ?_
  exact kX6_read_75 C h_X8_start g_X8_start h_X8_isFinished g_X8_isFinished h_X8_next g_X8_next h_X6_readThing g_X6_readThing h_X6_readJoint g_X6_readJoint h_X6_release g_X6_release j42 hq
def xX6_read_62 (s_X8_start : zq_Sp) (s_X8_isFinished : zq_Sp) (s_X8_next : zq_Sp) (s_X6_readThing : zq_Sp) (s_X6_readJoint : zq_Sp) (s_X6_release : zq_Sp) (J42 : zq_P) (Q : zq_Q) (ls : zq_L) (st : List Value) (h : zq_H) : Prop := (zi_aload 0 (zi_aload 1 (zi_callV 1 52 s_X6_readThing ((xX6_read_75 s_X8_start s_X8_isFinished s_X8_next s_X6_readThing s_X6_readJoint s_X6_release J42 Q))))) ls st h
theorem kX6_read_62 {X : zq_X} {d : Nat} (C : zq_C X cX6_read 4 RX6 d) {d_X8_start : Nat} {s_X8_start : zq_Sp} (h_X8_start : zq_M yX8_start cX8_start 2 none 0 d_X8_start s_X8_start) (g_X8_start : d_X8_start + 1 ≤ d) {d_X8_isFinished : Nat} {s_X8_isFinished : zq_Sp} (h_X8_isFinished : zq_M yX8_isFinished cX8_isFinished 1 (some .boolean) 1 d_X8_isFinished s_X8_isFinished) (g_X8_isFinished : d_X8_isFinished + 1 ≤ d) {d_X8_next : Nat} {s_X8_next : zq_Sp} (h_X8_next : zq_M yX8_next cX8_next 1 (some .int) 1 d_X8_next s_X8_next) (g_X8_next : d_X8_next + 1 ≤ d) {d_X6_readThing : Nat} {s_X6_readThing : zq_Sp} (h_X6_readThing : zq_M yX6_readThing cX6_readThing 4 (some .boolean) 1 d_X6_readThing s_X6_readThing) (g_X6_readThing : d_X6_readThing + 1 ≤ d) {d_X6_readJoint : Nat} {s_X6_readJoint : zq_Sp} (h_X6_readJoint : zq_M yX6_readJoint cX6_readJoint 4 (some .boolean) 1 d_X6_readJoint s_X6_readJoint) (g_X6_readJoint : d_X6_readJoint + 1 ≤ d) {d_X6_release : Nat} {s_X6_release : zq_Sp} (h_X6_release : zq_M yX6_release cX6_release 2 none 0 d_X6_release s_X6_release) (g_X6_release : d_X6_release + 1 ≤ d) {J42 : zq_P} (j42 : zq_ok X 4 42 J42) {Q : zq_Q} (hq : zq_R X (some .boolean) 1 Q) : zq_ok X 4 62 (xX6_read_62 s_X8_start s_X8_isFinished s_X8_next s_X6_readThing s_X6_readJoint s_X6_release J42 Q) := by
  refine zs_aload_n C dX6_read_62 rfl ?_
  refine zs_aload_n C dX6_read_63 rfl ?_
  refine zs_callV C h_X6_readThing g_X6_readThing zy_X6_readThing zp_52 (show vwCl[6]? = some (RX6, TX6, 8) from rfl) zw_513 zw_515 zs9_X6_readThing dX6_read_64 ?_
  exact zs_goto C dX6_read_67 (by decide) (kX6_read_75 C h_X8_start g_X8_start h_X8_isFinished g_X8_isFinished h_X8_next g_X8_next h_X6_readThing g_X6_readThing h_X6_readJoint g_X6_readJoint h_X6_release g_X6_release j42 hq)
def xX6_read_55 (s_X8_start : zq_Sp) (s_X8_isFinished : zq_Sp) (s_X8_next : zq_Sp) (s_X6_readThing : zq_Sp) (s_X6_readJoint : zq_Sp) (s_X6_release : zq_Sp) (J42 : zq_P) (Q : zq_Q) (ls : zq_L) (st : List Value) (h : zq_H) : Prop := (zi_aload 0 (zi_getI 52 7 (zi_if1 (fun x => x = 0) (xX6_read_70 s_X8_start s_X8_isFinished s_X8_next s_X6_readThing s_X6_readJoint s_X6_release J42 Q) (xX6_read_62 s_X8_start s_X8_isFinished s_X8_next s_X6_readThing s_X6_readJoint s_X6_release J42 Q)))) ls st h
theorem kX6_read_55 {X : zq_X} {d : Nat} (C : zq_C X cX6_read 4 RX6 d) {d_X8_start : Nat} {s_X8_start : zq_Sp} (h_X8_start : zq_M yX8_start cX8_start 2 none 0 d_X8_start s_X8_start) (g_X8_start : d_X8_start + 1 ≤ d) {d_X8_isFinished : Nat} {s_X8_isFinished : zq_Sp} (h_X8_isFinished : zq_M yX8_isFinished cX8_isFinished 1 (some .boolean) 1 d_X8_isFinished s_X8_isFinished) (g_X8_isFinished : d_X8_isFinished + 1 ≤ d) {d_X8_next : Nat} {s_X8_next : zq_Sp} (h_X8_next : zq_M yX8_next cX8_next 1 (some .int) 1 d_X8_next s_X8_next) (g_X8_next : d_X8_next + 1 ≤ d) {d_X6_readThing : Nat} {s_X6_readThing : zq_Sp} (h_X6_readThing : zq_M yX6_readThing cX6_readThing 4 (some .boolean) 1 d_X6_readThing s_X6_readThing) (g_X6_readThing : d_X6_readThing + 1 ≤ d) {d_X6_readJoint : Nat} {s_X6_readJoint : zq_Sp} (h_X6_readJoint : zq_M yX6_readJoint cX6_readJoint 4 (some .boolean) 1 d_X6_readJoint s_X6_readJoint) (g_X6_readJoint : d_X6_readJoint + 1 ≤ d) {d_X6_release : Nat} {s_X6_release : zq_Sp} (h_X6_release : zq_M yX6_release cX6_release 2 none 0 d_X6_release s_X6_release) (g_X6_release : d_X6_release + 1 ≤ d) {J42 : zq_P} (j42 : zq_ok X 4 42 J42) {Q : zq_Q} (hq : zq_R X (some .boolean) 1 Q) : zq_ok X 4 55 (xX6_read_55 s_X8_start s_X8_isFinished s_X8_next s_X6_readThing s_X6_readJoint s_X6_release J42 Q) := by
  refine zs_aload_n C dX6_read_55 rfl ?_
  refine zs_getI C zp_52 zF6 (j := 7) ⟨by decide, rfl⟩ zw_297 dX6_read_56 ?_
  exact zs_if_eq C dX6_read_59 (by decide) (kX6_read_70 C h_X8_start g_X8_start h_X8_isFinished g_X8_isFinished h_X8_next g_X8_next h_X6_readThing g_X6_readThing h_X6_readJoint g_X6_readJoint h_X6_release g_X6_release j42 hq) (kX6_read_62 C h_X8_start g_X8_start h_X8_isFinished g_X8_isFinished h_X8_next g_X8_next h_X6_readThing g_X6_readThing h_X6_readJoint g_X6_readJoint h_X6_release g_X6_release j42 hq)
def xX6_read_48 (s_X8_start : zq_Sp) (s_X8_isFinished : zq_Sp) (s_X8_next : zq_Sp) (s_X6_readThing : zq_Sp) (s_X6_readJoint : zq_Sp) (s_X6_release : zq_Sp) (J42 : zq_P) (Q : zq_Q) (ls : zq_L) (st : List Value) (h : zq_H) : Prop := (zi_aload 1 (zi_callV 0 1 s_X8_next (zi_if1 (fun x => x < 0) (xX6_read_88 s_X8_start s_X8_isFinished s_X8_next s_X6_readThing s_X6_readJoint s_X6_release J42 Q) (xX6_read_55 s_X8_start s_X8_isFinished s_X8_next s_X6_readThing s_X6_readJoint s_X6_release J42 Q)))) ls st h
theorem kX6_read_48 {X : zq_X} {d : Nat} (C : zq_C X cX6_read 4 RX6 d) {d_X8_start : Nat} {s_X8_start : zq_Sp} (h_X8_start : zq_M yX8_start cX8_start 2 none 0 d_X8_start s_X8_start) (g_X8_start : d_X8_start + 1 ≤ d) {d_X8_isFinished : Nat} {s_X8_isFinished : zq_Sp} (h_X8_isFinished : zq_M yX8_isFinished cX8_isFinished 1 (some .boolean) 1 d_X8_isFinished s_X8_isFinished) (g_X8_isFinished : d_X8_isFinished + 1 ≤ d) {d_X8_next : Nat} {s_X8_next : zq_Sp} (h_X8_next : zq_M yX8_next cX8_next 1 (some .int) 1 d_X8_next s_X8_next) (g_X8_next : d_X8_next + 1 ≤ d) {d_X6_readThing : Nat} {s_X6_readThing : zq_Sp} (h_X6_readThing : zq_M yX6_readThing cX6_readThing 4 (some .boolean) 1 d_X6_readThing s_X6_readThing) (g_X6_readThing : d_X6_readThing + 1 ≤ d) {d_X6_readJoint : Nat} {s_X6_readJoint : zq_Sp} (h_X6_readJoint : zq_M yX6_readJoint cX6_readJoint 4 (some .boolean) 1 d_X6_readJoint s_X6_readJoint) (g_X6_readJoint : d_X6_readJoint + 1 ≤ d) {d_X6_release : Nat} {s_X6_release : zq_Sp} (h_X6_release : zq_M yX6_release cX6_release 2 none 0 d_X6_release s_X6_release) (g_X6_release : d_X6_release + 1 ≤ d) {J42 : zq_P} (j42 : zq_ok X 4 42 J42) {Q : zq_Q} (hq : zq_R X (some .boolean) 1 Q) : zq_ok X 4 48 (xX6_read_48 s_X8_start s_X8_isFinished s_X8_next s_X6_readThing s_X6_readJoint s_X6_release J42 Q) := by
  refine zs_aload_n C dX6_read_48 rfl ?_
  refine zs_callV C h_X8_next g_X8_next zy_X8_next zp_1 (show vwCl[8]? = some (RX8, TX8, 4) from rfl) zw_512 zw_404 zs9_X8_next dX6_read_49 ?_
  exact zs_if_lt C dX6_read_52 (by decide) (kX6_read_88 C h_X8_start g_X8_start h_X8_isFinished g_X8_isFinished h_X8_next g_X8_next h_X6_readThing g_X6_readThing h_X6_readJoint g_X6_readJoint h_X6_release g_X6_release j42 hq) (kX6_read_55 C h_X8_start g_X8_start h_X8_isFinished g_X8_isFinished h_X8_next g_X8_next h_X6_readThing g_X6_readThing h_X6_readJoint g_X6_readJoint h_X6_release g_X6_release j42 hq)
def xX6_read_42 (s_X8_start : zq_Sp) (s_X8_isFinished : zq_Sp) (s_X8_next : zq_Sp) (s_X6_readThing : zq_Sp) (s_X6_readJoint : zq_Sp) (s_X6_release : zq_Sp) (J42 : zq_P) (Q : zq_Q) (ls : zq_L) (st : List Value) (h : zq_H) : Prop := (zi_iload 2 (zi_push (.int 40) (zi_if2 (fun x y => y ≤ x) (xX6_read_88 s_X8_start s_X8_isFinished s_X8_next s_X6_readThing s_X6_readJoint s_X6_release J42 Q) (xX6_read_48 s_X8_start s_X8_isFinished s_X8_next s_X6_readThing s_X6_readJoint s_X6_release J42 Q)))) ls st h
theorem kX6_read_42 {X : zq_X} {d : Nat} (C : zq_C X cX6_read 4 RX6 d) {d_X8_start : Nat} {s_X8_start : zq_Sp} (h_X8_start : zq_M yX8_start cX8_start 2 none 0 d_X8_start s_X8_start) (g_X8_start : d_X8_start + 1 ≤ d) {d_X8_isFinished : Nat} {s_X8_isFinished : zq_Sp} (h_X8_isFinished : zq_M yX8_isFinished cX8_isFinished 1 (some .boolean) 1 d_X8_isFinished s_X8_isFinished) (g_X8_isFinished : d_X8_isFinished + 1 ≤ d) {d_X8_next : Nat} {s_X8_next : zq_Sp} (h_X8_next : zq_M yX8_next cX8_next 1 (some .int) 1 d_X8_next s_X8_next) (g_X8_next : d_X8_next + 1 ≤ d) {d_X6_readThing : Nat} {s_X6_readThing : zq_Sp} (h_X6_readThing : zq_M yX6_readThing cX6_readThing 4 (some .boolean) 1 d_X6_readThing s_X6_readThing) (g_X6_readThing : d_X6_readThing + 1 ≤ d) {d_X6_readJoint : Nat} {s_X6_readJoint : zq_Sp} (h_X6_readJoint : zq_M yX6_readJoint cX6_readJoint 4 (some .boolean) 1 d_X6_readJoint s_X6_readJoint) (g_X6_readJoint : d_X6_readJoint + 1 ≤ d) {d_X6_release : Nat} {s_X6_release : zq_Sp} (h_X6_release : zq_M yX6_release cX6_release 2 none 0 d_X6_release s_X6_release) (g_X6_release : d_X6_release + 1 ≤ d) {J42 : zq_P} (j42 : zq_ok X 4 42 J42) {Q : zq_Q} (hq : zq_R X (some .boolean) 1 Q) : zq_ok X 4 42 (xX6_read_42 s_X8_start s_X8_isFinished s_X8_next s_X6_readThing s_X6_readJoint s_X6_release J42 Q) := by
  refine zs_iload_n C dX6_read_42 rfl ?_
  refine zs_bipush C dX6_read_43 (by decide) ?_
  exact zs_icmp_ge C dX6_read_45 (by decide) (kX6_read_88 C h_X8_start g_X8_start h_X8_isFinished g_X8_isFinished h_X8_next g_X8_next h_X6_readThing g_X6_readThing h_X6_readJoint g_X6_readJoint h_X6_release g_X6_release j42 hq) (kX6_read_48 C h_X8_start g_X8_start h_X8_isFinished g_X8_isFinished h_X8_next g_X8_next h_X6_readThing g_X6_readThing h_X6_readJoint g_X6_readJoint h_X6_release g_X6_release j42 hq)
def xX6_read_40 (s_X8_start : zq_Sp) (s_X8_isFinished : zq_Sp) (s_X8_next : zq_Sp) (s_X6_readThing : zq_Sp) (s_X6_readJoint : zq_Sp) (s_X6_release : zq_Sp) (J42 : zq_P) (Q : zq_Q) (ls : zq_L) (st : List Value) (h : zq_H) : Prop := (zi_push (.int 0) (zi_istore 2 (J42))) ls st h
theorem kX6_read_40 {X : zq_X} {d : Nat} (C : zq_C X cX6_read 4 RX6 d) {d_X8_start : Nat} {s_X8_start : zq_Sp} (h_X8_start : zq_M yX8_start cX8_start 2 none 0 d_X8_start s_X8_start) (g_X8_start : d_X8_start + 1 ≤ d) {d_X8_isFinished : Nat} {s_X8_isFinished : zq_Sp} (h_X8_isFinished : zq_M yX8_isFinished cX8_isFinished 1 (some .boolean) 1 d_X8_isFinished s_X8_isFinished) (g_X8_isFinished : d_X8_isFinished + 1 ≤ d) {d_X8_next : Nat} {s_X8_next : zq_Sp} (h_X8_next : zq_M yX8_next cX8_next 1 (some .int) 1 d_X8_next s_X8_next) (g_X8_next : d_X8_next + 1 ≤ d) {d_X6_readThing : Nat} {s_X6_readThing : zq_Sp} (h_X6_readThing : zq_M yX6_readThing cX6_readThing 4 (some .boolean) 1 d_X6_readThing s_X6_readThing) (g_X6_readThing : d_X6_readThing + 1 ≤ d) {d_X6_readJoint : Nat} {s_X6_readJoint : zq_Sp} (h_X6_readJoint : zq_M yX6_readJoint cX6_readJoint 4 (some .boolean) 1 d_X6_readJoint s_X6_readJoint) (g_X6_readJoint : d_X6_readJoint + 1 ≤ d) {d_X6_release : Nat} {s_X6_release : zq_Sp} (h_X6_release : zq_M yX6_release cX6_release 2 none 0 d_X6_release s_X6_release) (g_X6_release : d_X6_release + 1 ≤ d) {J42 : zq_P} (j42 : zq_ok X 4 42 J42) {Q : zq_Q} (hq : zq_R X (some .boolean) 1 Q) : zq_ok X 4 40 (xX6_read_40 s_X8_start s_X8_isFinished s_X8_next s_X6_readThing s_X6_readJoint s_X6_release J42 Q) := by
  refine zs_iconst C dX6_read_40 (by decide) ?_
  refine zs_istore_n C dX6_read_41 rfl (by decide) ?_
  exact j42
def xX6_read_38 (s_X8_start : zq_Sp) (s_X8_isFinished : zq_Sp) (s_X8_next : zq_Sp) (s_X6_readThing : zq_Sp) (s_X6_readJoint : zq_Sp) (s_X6_release : zq_Sp) (J42 : zq_P) (Q : zq_Q) (ls : zq_L) (st : List Value) (h : zq_H) : Prop := (zi_push (.int 1) (zi_zret Q)) ls st h
theorem kX6_read_38 {X : zq_X} {d : Nat} (C : zq_C X cX6_read 4 RX6 d) {d_X8_start : Nat} {s_X8_start : zq_Sp} (h_X8_start : zq_M yX8_start cX8_start 2 none 0 d_X8_start s_X8_start) (g_X8_start : d_X8_start + 1 ≤ d) {d_X8_isFinished : Nat} {s_X8_isFinished : zq_Sp} (h_X8_isFinished : zq_M yX8_isFinished cX8_isFinished 1 (some .boolean) 1 d_X8_isFinished s_X8_isFinished) (g_X8_isFinished : d_X8_isFinished + 1 ≤ d) {d_X8_next : Nat} {s_X8_next : zq_Sp} (h_X8_next : zq_M yX8_next cX8_next 1 (some .int) 1 d_X8_next s_X8_next) (g_X8_next : d_X8_next + 1 ≤ d) {d_X6_readThing : Nat} {s_X6_readThing : zq_Sp} (h_X6_readThing : zq_M yX6_readThing cX6_readThing 4 (some .boolean) 1 d_X6_readThing s_X6_readThing) (g_X6_readThing : d_X6_readThing + 1 ≤ d) {d_X6_readJoint : Nat} {s_X6_readJoint : zq_Sp} (h_X6_readJoint : zq_M yX6_readJoint cX6_readJoint 4 (some .boolean) 1 d_X6_readJoint s_X6_readJoint) (g_X6_readJoint : d_X6_readJoint + 1 ≤ d) {d_X6_release : Nat} {s_X6_release : zq_Sp} (h_X6_release : zq_M yX6_release cX6_release 2 none 0 d_X6_release s_X6_release) (g_X6_release : d_X6_release + 1 ≤ d) {J42 : zq_P} (j42 : zq_ok X 4 42 J42) {Q : zq_Q} (hq : zq_R X (some .boolean) 1 Q) : zq_ok X 4 38 (xX6_read_38 s_X8_start s_X8_isFinished s_X8_next s_X6_readThing s_X6_readJoint s_X6_release J42 Q) := by
  refine zs_iconst C dX6_read_38 (by decide) ?_
  exact zs_zret C hq dX6_read_39
def xX6_read_0 (s_X8_start : zq_Sp) (s_X8_isFinished : zq_Sp) (s_X8_next : zq_Sp) (s_X6_readThing : zq_Sp) (s_X6_readJoint : zq_Sp) (s_X6_release : zq_Sp) (J42 : zq_P) (Q : zq_Q) (ls : zq_L) (st : List Value) (h : zq_H) : Prop := (zi_aload 0 (zi_push (.int 0) (zi_putI 52 3 (zi_aload 0 (zi_push (.int 0) (zi_putI 52 4 (zi_aload 0 (zi_push (.int 0) (zi_putI 52 5 (zi_aload 0 (zi_push (.int 0) (zi_putI 52 6 (zi_aload 0 (zi_push (.int 1) (zi_putZ 52 7 (zi_aload 1 (zi_push (.int 40) (zi_callV 1 1 s_X8_start (zi_aload 1 (zi_callV 0 1 s_X8_isFinished (zi_if1 (fun x => x = 0) (xX6_read_40 s_X8_start s_X8_isFinished s_X8_next s_X6_readThing s_X6_readJoint s_X6_release J42 Q) (xX6_read_38 s_X8_start s_X8_isFinished s_X8_next s_X6_readThing s_X6_readJoint s_X6_release J42 Q)))))))))))))))))))))) ls st h
theorem kX6_read_0 {X : zq_X} {d : Nat} (C : zq_C X cX6_read 4 RX6 d) {d_X8_start : Nat} {s_X8_start : zq_Sp} (h_X8_start : zq_M yX8_start cX8_start 2 none 0 d_X8_start s_X8_start) (g_X8_start : d_X8_start + 1 ≤ d) {d_X8_isFinished : Nat} {s_X8_isFinished : zq_Sp} (h_X8_isFinished : zq_M yX8_isFinished cX8_isFinished 1 (some .boolean) 1 d_X8_isFinished s_X8_isFinished) (g_X8_isFinished : d_X8_isFinished + 1 ≤ d) {d_X8_next : Nat} {s_X8_next : zq_Sp} (h_X8_next : zq_M yX8_next cX8_next 1 (some .int) 1 d_X8_next s_X8_next) (g_X8_next : d_X8_next + 1 ≤ d) {d_X6_readThing : Nat} {s_X6_readThing : zq_Sp} (h_X6_readThing : zq_M yX6_readThing cX6_readThing 4 (some .boolean) 1 d_X6_readThing s_X6_readThing) (g_X6_readThing : d_X6_readThing + 1 ≤ d) {d_X6_readJoint : Nat} {s_X6_readJoint : zq_Sp} (h_X6_readJoint : zq_M yX6_readJoint cX6_readJoint 4 (some .boolean) 1 d_X6_readJoint s_X6_readJoint) (g_X6_readJoint : d_X6_readJoint + 1 ≤ d) {d_X6_release : Nat} {s_X6_release : zq_Sp} (h_X6_release : zq_M yX6_release cX6_release 2 none 0 d_X6_release s_X6_release) (g_X6_release : d_X6_release + 1 ≤ d) {J42 : zq_P} (j42 : zq_ok X 4 42 J42) {Q : zq_Q} (hq : zq_R X (some .boolean) 1 Q) : zq_ok X 4 0 (xX6_read_0 s_X8_start s_X8_isFinished s_X8_next s_X6_readThing s_X6_readJoint s_X6_release J42 Q) := by
  refine zs_aload_n C dX6_read_0 rfl ?_
  refine zs_iconst C dX6_read_1 (by decide) ?_
  refine zs_putI C zp_52 zF6 (j := 3) ⟨by decide, rfl⟩ ⟨rfl, by decide +kernel⟩ zw_293 dX6_read_2 ?_
  refine zs_aload_n C dX6_read_5 rfl ?_
  refine zs_iconst C dX6_read_6 (by decide) ?_
  refine zs_putI C zp_52 zF6 (j := 4) ⟨by decide, rfl⟩ ⟨rfl, by decide +kernel⟩ zw_294 dX6_read_7 ?_
  refine zs_aload_n C dX6_read_10 rfl ?_
  refine zs_iconst C dX6_read_11 (by decide) ?_
  refine zs_putI C zp_52 zF6 (j := 5) ⟨by decide, rfl⟩ ⟨rfl, by decide +kernel⟩ zw_295 dX6_read_12 ?_
  refine zs_aload_n C dX6_read_15 rfl ?_
  refine zs_iconst C dX6_read_16 (by decide) ?_
  refine zs_putI C zp_52 zF6 (j := 6) ⟨by decide, rfl⟩ ⟨rfl, by decide +kernel⟩ zw_296 dX6_read_17 ?_
  refine zs_aload_n C dX6_read_20 rfl ?_
  refine zs_iconst C dX6_read_21 (by decide) ?_
  refine zs_putZ C zp_52 zF6 (j := 7) ⟨by decide, rfl⟩ ⟨rfl, by decide +kernel⟩ zw_297 dX6_read_22 ?_
  refine zs_aload_n C dX6_read_25 rfl ?_
  refine zs_bipush C dX6_read_26 (by decide) ?_
  refine zs_callV C h_X8_start g_X8_start zy_X8_start zp_1 (show vwCl[8]? = some (RX8, TX8, 4) from rfl) zw_510 zw_389 zs9_X8_start dX6_read_28 ?_
  refine zs_aload_n C dX6_read_31 rfl ?_
  refine zs_callV C h_X8_isFinished g_X8_isFinished zy_X8_isFinished zp_1 (show vwCl[8]? = some (RX8, TX8, 4) from rfl) zw_511 zw_396 zs9_X8_isFinished dX6_read_32 ?_
  exact zs_if_eq C dX6_read_35 (by decide) (kX6_read_40 C h_X8_start g_X8_start h_X8_isFinished g_X8_isFinished h_X8_next g_X8_next h_X6_readThing g_X6_readThing h_X6_readJoint g_X6_readJoint h_X6_release g_X6_release j42 hq) (kX6_read_38 C h_X8_start g_X8_start h_X8_isFinished g_X8_isFinished h_X8_next g_X8_next h_X6_readThing g_X6_readThing h_X6_readJoint g_X6_readJoint h_X6_release g_X6_release j42 hq)
theorem mX6_read {d : Nat} {spec : zq_Sp} {σ42 : Type} {d_X8_start : Nat} {s_X8_start : zq_Sp} (h_X8_start : zq_M yX8_start cX8_start 2 none 0 d_X8_start s_X8_start) (g_X8_start : d_X8_start + 1 ≤ d) {d_X8_isFinished : Nat} {s_X8_isFinished : zq_Sp} (h_X8_isFinished : zq_M yX8_isFinished cX8_isFinished 1 (some .boolean) 1 d_X8_isFinished s_X8_isFinished) (g_X8_isFinished : d_X8_isFinished + 1 ≤ d) {d_X8_next : Nat} {s_X8_next : zq_Sp} (h_X8_next : zq_M yX8_next cX8_next 1 (some .int) 1 d_X8_next s_X8_next) (g_X8_next : d_X8_next + 1 ≤ d) {d_X6_readThing : Nat} {s_X6_readThing : zq_Sp} (h_X6_readThing : zq_M yX6_readThing cX6_readThing 4 (some .boolean) 1 d_X6_readThing s_X6_readThing) (g_X6_readThing : d_X6_readThing + 1 ≤ d) {d_X6_readJoint : Nat} {s_X6_readJoint : zq_Sp} (h_X6_readJoint : zq_M yX6_readJoint cX6_readJoint 4 (some .boolean) 1 d_X6_readJoint s_X6_readJoint) (g_X6_readJoint : d_X6_readJoint + 1 ≤ d) {d_X6_release : Nat} {s_X6_release : zq_Sp} (h_X6_release : zq_M yX6_release cX6_release 2 none 0 d_X6_release s_X6_release) (g_X6_release : d_X6_release + 1 ≤ d) (μ42 : σ42 → Nat) (I42 : zq_Q → σ42 → zq_P) (v : ∀ args h Q, spec args h Q → (zq_a args).length ≤ 4 ∧ xX6_read_0 s_X8_start s_X8_isFinished s_X8_next s_X6_readThing s_X6_readJoint s_X6_release (fun ls st h => ∃ b, I42 Q b ls st h) Q (zq_l0 4 args) [] h) (v42 : ∀ Q a ls st h, I42 Q a ls st h → xX6_read_42 s_X8_start s_X8_isFinished s_X8_next s_X6_readThing s_X6_readJoint s_X6_release (fun ls st h => ∃ b, μ42 b < μ42 a ∧ I42 Q b ls st h) Q ls st h) : zq_M yX6_read cX6_read 4 (some .boolean) 1 d spec := by
  refine zq_met (by decide +kernel) (by decide) (fun X Q args h C hq hs => ⟨(v args h Q hs).1, _, ?_, (v args h Q hs).2⟩)
  have hl := zq_loop1 (X := X) (nL := 4) (pc1 := 42) μ42 (I42 Q) (fun J42 => xX6_read_42 s_X8_start s_X8_isFinished s_X8_next s_X6_readThing s_X6_readJoint s_X6_release J42 Q) (fun j42 => kX6_read_42 C h_X8_start g_X8_start h_X8_isFinished g_X8_isFinished h_X8_next g_X8_next h_X6_readThing g_X6_readThing h_X6_readJoint g_X6_readJoint h_X6_release g_X6_release j42 hq) (v42 Q)
  exact kX6_read_0 C h_X8_start g_X8_start h_X8_isFinished g_X8_isFinished h_X8_next g_X8_next h_X6_readThing g_X6_readThing h_X6_readJoint g_X6_readJoint h_X6_release g_X6_release hl hq
/-! ToOneCrumb$Rule.readThing(LToOneCrumb$Text;)Z -/
theorem dX6_readThing_0 : decode cX6_readThing 0 = .ok (.aload_n 1, 1) := by decide +kernel
theorem dX6_readThing_1 : decode cX6_readThing 1 = .ok (.iconst 3, 1) := by decide +kernel
theorem dX6_readThing_2 : decode cX6_readThing 2 = .ok (.invokevirtual 62, 3) := by decide +kernel
theorem dX6_readThing_5 : decode cX6_readThing 5 = .ok (.istore_n 2, 1) := by decide +kernel
theorem dX6_readThing_6 : decode cX6_readThing 6 = .ok (.iload_n 2, 1) := by decide +kernel
theorem dX6_readThing_7 : decode cX6_readThing 7 = .ok (.ifCond .lt 15, 3) := by decide +kernel
theorem dX6_readThing_10 : decode cX6_readThing 10 = .ok (.aload_n 0, 1) := by decide +kernel
theorem dX6_readThing_11 : decode cX6_readThing 11 = .ok (.iload_n 2, 1) := by decide +kernel
theorem dX6_readThing_12 : decode cX6_readThing 12 = .ok (.invokevirtual 66, 3) := by decide +kernel
theorem dX6_readThing_15 : decode cX6_readThing 15 = .ok (.aload_n 0, 1) := by decide +kernel
theorem dX6_readThing_16 : decode cX6_readThing 16 = .ok (.iconst 0, 1) := by decide +kernel
theorem dX6_readThing_17 : decode cX6_readThing 17 = .ok (.putfield 34, 3) := by decide +kernel
theorem dX6_readThing_20 : decode cX6_readThing 20 = .ok (.iconst 1, 1) := by decide +kernel
theorem dX6_readThing_21 : decode cX6_readThing 21 = .ok (.ireturn, 1) := by decide +kernel
theorem dX6_readThing_22 : decode cX6_readThing 22 = .ok (.aload_n 1, 1) := by decide +kernel
theorem dX6_readThing_23 : decode cX6_readThing 23 = .ok (.invokevirtual 48, 3) := by decide +kernel
theorem dX6_readThing_26 : decode cX6_readThing 26 = .ok (.istore_n 3, 1) := by decide +kernel
theorem dX6_readThing_27 : decode cX6_readThing 27 = .ok (.iload_n 3, 1) := by decide +kernel
theorem dX6_readThing_28 : decode cX6_readThing 28 = .ok (.bipush 45, 2) := by decide +kernel
theorem dX6_readThing_30 : decode cX6_readThing 30 = .ok (.if_icmp .ne 13, 3) := by decide +kernel
theorem dX6_readThing_33 : decode cX6_readThing 33 = .ok (.aload_n 0, 1) := by decide +kernel
theorem dX6_readThing_34 : decode cX6_readThing 34 = .ok (.sipush 256, 3) := by decide +kernel
theorem dX6_readThing_37 : decode cX6_readThing 37 = .ok (.invokevirtual 69, 3) := by decide +kernel
theorem dX6_readThing_40 : decode cX6_readThing 40 = .ok (.goto 78, 3) := by decide +kernel
theorem dX6_readThing_43 : decode cX6_readThing 43 = .ok (.iload_n 3, 1) := by decide +kernel
theorem dX6_readThing_44 : decode cX6_readThing 44 = .ok (.bipush 40, 2) := by decide +kernel
theorem dX6_readThing_46 : decode cX6_readThing 46 = .ok (.if_icmp .ne 46, 3) := by decide +kernel
theorem dX6_readThing_49 : decode cX6_readThing 49 = .ok (.aload_n 0, 1) := by decide +kernel
theorem dX6_readThing_50 : decode cX6_readThing 50 = .ok (.getfield 28, 3) := by decide +kernel
theorem dX6_readThing_53 : decode cX6_readThing 53 = .ok (.iconst 4, 1) := by decide +kernel
theorem dX6_readThing_54 : decode cX6_readThing 54 = .ok (.if_icmp .ge 38, 3) := by decide +kernel
theorem dX6_readThing_57 : decode cX6_readThing 57 = .ok (.aload_n 0, 1) := by decide +kernel
theorem dX6_readThing_58 : decode cX6_readThing 58 = .ok (.iload_n 3, 1) := by decide +kernel
theorem dX6_readThing_59 : decode cX6_readThing 59 = .ok (.invokevirtual 69, 3) := by decide +kernel
theorem dX6_readThing_62 : decode cX6_readThing 62 = .ok (.aload_n 0, 1) := by decide +kernel
theorem dX6_readThing_63 : decode cX6_readThing 63 = .ok (.dup, 1) := by decide +kernel
theorem dX6_readThing_64 : decode cX6_readThing 64 = .ok (.getfield 28, 3) := by decide +kernel
theorem dX6_readThing_67 : decode cX6_readThing 67 = .ok (.iconst 1, 1) := by decide +kernel
theorem dX6_readThing_68 : decode cX6_readThing 68 = .ok (.iadd, 1) := by decide +kernel
theorem dX6_readThing_69 : decode cX6_readThing 69 = .ok (.putfield 28, 3) := by decide +kernel
theorem dX6_readThing_72 : decode cX6_readThing 72 = .ok (.aload_n 0, 1) := by decide +kernel
theorem dX6_readThing_73 : decode cX6_readThing 73 = .ok (.dup, 1) := by decide +kernel
theorem dX6_readThing_74 : decode cX6_readThing 74 = .ok (.getfield 31, 3) := by decide +kernel
theorem dX6_readThing_77 : decode cX6_readThing 77 = .ok (.iconst 1, 1) := by decide +kernel
theorem dX6_readThing_78 : decode cX6_readThing 78 = .ok (.aload_n 0, 1) := by decide +kernel
theorem dX6_readThing_79 : decode cX6_readThing 79 = .ok (.getfield 28, 3) := by decide +kernel
theorem dX6_readThing_82 : decode cX6_readThing 82 = .ok (.ishl, 1) := by decide +kernel
theorem dX6_readThing_83 : decode cX6_readThing 83 = .ok (.iconst (-1), 1) := by decide +kernel
theorem dX6_readThing_84 : decode cX6_readThing 84 = .ok (.ixor, 1) := by decide +kernel
theorem dX6_readThing_85 : decode cX6_readThing 85 = .ok (.iand, 1) := by decide +kernel
theorem dX6_readThing_86 : decode cX6_readThing 86 = .ok (.putfield 31, 3) := by decide +kernel
theorem dX6_readThing_89 : decode cX6_readThing 89 = .ok (.goto 29, 3) := by decide +kernel
theorem dX6_readThing_92 : decode cX6_readThing 92 = .ok (.iload_n 3, 1) := by decide +kernel
theorem dX6_readThing_93 : decode cX6_readThing 93 = .ok (.invokestatic 72, 3) := by decide +kernel
theorem dX6_readThing_96 : decode cX6_readThing 96 = .ok (.ifCond .eq 20, 3) := by decide +kernel
theorem dX6_readThing_99 : decode cX6_readThing 99 = .ok (.aload_n 0, 1) := by decide +kernel
theorem dX6_readThing_100 : decode cX6_readThing 100 = .ok (.sipush 1000, 3) := by decide +kernel
theorem dX6_readThing_103 : decode cX6_readThing 103 = .ok (.iload_n 3, 1) := by decide +kernel
theorem dX6_readThing_104 : decode cX6_readThing 104 = .ok (.iadd, 1) := by decide +kernel
theorem dX6_readThing_105 : decode cX6_readThing 105 = .ok (.invokevirtual 66, 3) := by decide +kernel
theorem dX6_readThing_108 : decode cX6_readThing 108 = .ok (.aload_n 0, 1) := by decide +kernel
theorem dX6_readThing_109 : decode cX6_readThing 109 = .ok (.iconst 0, 1) := by decide +kernel
theorem dX6_readThing_110 : decode cX6_readThing 110 = .ok (.putfield 34, 3) := by decide +kernel
theorem dX6_readThing_113 : decode cX6_readThing 113 = .ok (.goto 5, 3) := by decide +kernel
theorem dX6_readThing_116 : decode cX6_readThing 116 = .ok (.iconst 0, 1) := by decide +kernel
theorem dX6_readThing_117 : decode cX6_readThing 117 = .ok (.ireturn, 1) := by decide +kernel
theorem dX6_readThing_118 : decode cX6_readThing 118 = .ok (.aload_n 1, 1) := by decide +kernel
theorem dX6_readThing_119 : decode cX6_readThing 119 = .ok (.iload_n 3, 1) := by decide +kernel
theorem dX6_readThing_120 : decode cX6_readThing 120 = .ok (.invokevirtual 76, 3) := by decide +kernel
theorem dX6_readThing_123 : decode cX6_readThing 123 = .ok (.ireturn, 1) := by decide +kernel
def xX6_readThing_118 (s_X8_takeNumber : zq_Sp) (s_X6_addStep : zq_Sp) (s_X8_next : zq_Sp) (s_X6_hold : zq_Sp) (s_X8_skip : zq_Sp) (s_X6_isLetter : zq_Sp) (Q : zq_Q) (ls : zq_L) (st : List Value) (h : zq_H) : Prop := (zi_aload 1 (zi_iload 3 (zi_callV 1 1 s_X8_skip (zi_zret Q)))) ls st h
theorem kX6_readThing_118 {X : zq_X} {d : Nat} (C : zq_C X cX6_readThing 4 RX6 d) {d_X8_takeNumber : Nat} {s_X8_takeNumber : zq_Sp} (h_X8_takeNumber : zq_M yX8_takeNumber cX8_takeNumber 5 (some .int) 1 d_X8_takeNumber s_X8_takeNumber) (g_X8_takeNumber : d_X8_takeNumber + 1 ≤ d) {d_X6_addStep : Nat} {s_X6_addStep : zq_Sp} (h_X6_addStep : zq_M yX6_addStep cX6_addStep 2 none 0 d_X6_addStep s_X6_addStep) (g_X6_addStep : d_X6_addStep + 1 ≤ d) {d_X8_next : Nat} {s_X8_next : zq_Sp} (h_X8_next : zq_M yX8_next cX8_next 1 (some .int) 1 d_X8_next s_X8_next) (g_X8_next : d_X8_next + 1 ≤ d) {d_X6_hold : Nat} {s_X6_hold : zq_Sp} (h_X6_hold : zq_M yX6_hold cX6_hold 2 none 0 d_X6_hold s_X6_hold) (g_X6_hold : d_X6_hold + 1 ≤ d) {d_X8_skip : Nat} {s_X8_skip : zq_Sp} (h_X8_skip : zq_M yX8_skip cX8_skip 2 (some .boolean) 1 d_X8_skip s_X8_skip) (g_X8_skip : d_X8_skip + 1 ≤ d) {d_X6_isLetter : Nat} {s_X6_isLetter : zq_Sp} (h_X6_isLetter : zq_M yX6_isLetter cX6_isLetter 1 (some .boolean) 1 d_X6_isLetter s_X6_isLetter) (g_X6_isLetter : d_X6_isLetter + 1 ≤ d) {Q : zq_Q} (hq : zq_R X (some .boolean) 1 Q) : zq_ok X 4 118 (xX6_readThing_118 s_X8_takeNumber s_X6_addStep s_X8_next s_X6_hold s_X8_skip s_X6_isLetter Q) := by
  refine zs_aload_n C dX6_readThing_118 rfl ?_
  refine zs_iload_n C dX6_readThing_119 rfl ?_
  refine zs_callV C h_X8_skip g_X8_skip zy_X8_skip zp_1 (show vwCl[8]? = some (RX8, TX8, 4) from rfl) zw_533 zw_412 zs9_X8_skip dX6_readThing_120 ?_
  exact zs_zret C hq dX6_readThing_123
def xX6_readThing_116 (s_X8_takeNumber : zq_Sp) (s_X6_addStep : zq_Sp) (s_X8_next : zq_Sp) (s_X6_hold : zq_Sp) (s_X8_skip : zq_Sp) (s_X6_isLetter : zq_Sp) (Q : zq_Q) (ls : zq_L) (st : List Value) (h : zq_H) : Prop := (zi_push (.int 0) (zi_zret Q)) ls st h
theorem kX6_readThing_116 {X : zq_X} {d : Nat} (C : zq_C X cX6_readThing 4 RX6 d) {d_X8_takeNumber : Nat} {s_X8_takeNumber : zq_Sp} (h_X8_takeNumber : zq_M yX8_takeNumber cX8_takeNumber 5 (some .int) 1 d_X8_takeNumber s_X8_takeNumber) (g_X8_takeNumber : d_X8_takeNumber + 1 ≤ d) {d_X6_addStep : Nat} {s_X6_addStep : zq_Sp} (h_X6_addStep : zq_M yX6_addStep cX6_addStep 2 none 0 d_X6_addStep s_X6_addStep) (g_X6_addStep : d_X6_addStep + 1 ≤ d) {d_X8_next : Nat} {s_X8_next : zq_Sp} (h_X8_next : zq_M yX8_next cX8_next 1 (some .int) 1 d_X8_next s_X8_next) (g_X8_next : d_X8_next + 1 ≤ d) {d_X6_hold : Nat} {s_X6_hold : zq_Sp} (h_X6_hold : zq_M yX6_hold cX6_hold 2 none 0 d_X6_hold s_X6_hold) (g_X6_hold : d_X6_hold + 1 ≤ d) {d_X8_skip : Nat} {s_X8_skip : zq_Sp} (h_X8_skip : zq_M yX8_skip cX8_skip 2 (some .boolean) 1 d_X8_skip s_X8_skip) (g_X8_skip : d_X8_skip + 1 ≤ d) {d_X6_isLetter : Nat} {s_X6_isLetter : zq_Sp} (h_X6_isLetter : zq_M yX6_isLetter cX6_isLetter 1 (some .boolean) 1 d_X6_isLetter s_X6_isLetter) (g_X6_isLetter : d_X6_isLetter + 1 ≤ d) {Q : zq_Q} (hq : zq_R X (some .boolean) 1 Q) : zq_ok X 4 116 (xX6_readThing_116 s_X8_takeNumber s_X6_addStep s_X8_next s_X6_hold s_X8_skip s_X6_isLetter Q) := by
  refine zs_iconst C dX6_readThing_116 (by decide) ?_
  exact zs_zret C hq dX6_readThing_117
def xX6_readThing_99 (s_X8_takeNumber : zq_Sp) (s_X6_addStep : zq_Sp) (s_X8_next : zq_Sp) (s_X6_hold : zq_Sp) (s_X8_skip : zq_Sp) (s_X6_isLetter : zq_Sp) (Q : zq_Q) (ls : zq_L) (st : List Value) (h : zq_H) : Prop := (zi_aload 0 (zi_push (.int 1000) (zi_iload 3 (zi_i2 (fun x y => x + y) (zi_callV 1 52 s_X6_addStep (zi_aload 0 (zi_push (.int 0) (zi_putZ 52 7 ((xX6_readThing_118 s_X8_takeNumber s_X6_addStep s_X8_next s_X6_hold s_X8_skip s_X6_isLetter Q)))))))))) ls st h
theorem kX6_readThing_99 {X : zq_X} {d : Nat} (C : zq_C X cX6_readThing 4 RX6 d) {d_X8_takeNumber : Nat} {s_X8_takeNumber : zq_Sp} (h_X8_takeNumber : zq_M yX8_takeNumber cX8_takeNumber 5 (some .int) 1 d_X8_takeNumber s_X8_takeNumber) (g_X8_takeNumber : d_X8_takeNumber + 1 ≤ d) {d_X6_addStep : Nat} {s_X6_addStep : zq_Sp} (h_X6_addStep : zq_M yX6_addStep cX6_addStep 2 none 0 d_X6_addStep s_X6_addStep) (g_X6_addStep : d_X6_addStep + 1 ≤ d) {d_X8_next : Nat} {s_X8_next : zq_Sp} (h_X8_next : zq_M yX8_next cX8_next 1 (some .int) 1 d_X8_next s_X8_next) (g_X8_next : d_X8_next + 1 ≤ d) {d_X6_hold : Nat} {s_X6_hold : zq_Sp} (h_X6_hold : zq_M yX6_hold cX6_hold 2 none 0 d_X6_hold s_X6_hold) (g_X6_hold : d_X6_hold + 1 ≤ d) {d_X8_skip : Nat} {s_X8_skip : zq_Sp} (h_X8_skip : zq_M yX8_skip cX8_skip 2 (some .boolean) 1 d_X8_skip s_X8_skip) (g_X8_skip : d_X8_skip + 1 ≤ d) {d_X6_isLetter : Nat} {s_X6_isLetter : zq_Sp} (h_X6_isLetter : zq_M yX6_isLetter cX6_isLetter 1 (some .boolean) 1 d_X6_isLetter s_X6_isLetter) (g_X6_isLetter : d_X6_isLetter + 1 ≤ d) {Q : zq_Q} (hq : zq_R X (some .boolean) 1 Q) : zq_ok X 4 99 (xX6_readThing_99 s_X8_takeNumber s_X6_addStep s_X8_next s_X6_hold s_X8_skip s_X6_isLetter Q) := by
  refine zs_aload_n C dX6_readThing_99 rfl ?_
  refine zs_sipush C dX6_readThing_100 (by decide) ?_
  refine zs_iload_n C dX6_readThing_103 rfl ?_
  refine zs_iadd C dX6_readThing_104 ?_
  refine zs_callV C h_X6_addStep g_X6_addStep zy_X6_addStep zp_52 (show vwCl[6]? = some (RX6, TX6, 8) from rfl) zw_522 zw_524 zs9_X6_addStep dX6_readThing_105 ?_
  refine zs_aload_n C dX6_readThing_108 rfl ?_
  refine zs_iconst C dX6_readThing_109 (by decide) ?_
  refine zs_putZ C zp_52 zF6 (j := 7) ⟨by decide, rfl⟩ ⟨rfl, by decide +kernel⟩ zw_297 dX6_readThing_110 ?_
  exact zs_goto C dX6_readThing_113 (by decide) (kX6_readThing_118 C h_X8_takeNumber g_X8_takeNumber h_X6_addStep g_X6_addStep h_X8_next g_X8_next h_X6_hold g_X6_hold h_X8_skip g_X8_skip h_X6_isLetter g_X6_isLetter hq)
def xX6_readThing_92 (s_X8_takeNumber : zq_Sp) (s_X6_addStep : zq_Sp) (s_X8_next : zq_Sp) (s_X6_hold : zq_Sp) (s_X8_skip : zq_Sp) (s_X6_isLetter : zq_Sp) (Q : zq_Q) (ls : zq_L) (st : List Value) (h : zq_H) : Prop := (zi_iload 3 (zi_callS 1 s_X6_isLetter (zi_if1 (fun x => x = 0) (xX6_readThing_116 s_X8_takeNumber s_X6_addStep s_X8_next s_X6_hold s_X8_skip s_X6_isLetter Q) (xX6_readThing_99 s_X8_takeNumber s_X6_addStep s_X8_next s_X6_hold s_X8_skip s_X6_isLetter Q)))) ls st h
theorem kX6_readThing_92 {X : zq_X} {d : Nat} (C : zq_C X cX6_readThing 4 RX6 d) {d_X8_takeNumber : Nat} {s_X8_takeNumber : zq_Sp} (h_X8_takeNumber : zq_M yX8_takeNumber cX8_takeNumber 5 (some .int) 1 d_X8_takeNumber s_X8_takeNumber) (g_X8_takeNumber : d_X8_takeNumber + 1 ≤ d) {d_X6_addStep : Nat} {s_X6_addStep : zq_Sp} (h_X6_addStep : zq_M yX6_addStep cX6_addStep 2 none 0 d_X6_addStep s_X6_addStep) (g_X6_addStep : d_X6_addStep + 1 ≤ d) {d_X8_next : Nat} {s_X8_next : zq_Sp} (h_X8_next : zq_M yX8_next cX8_next 1 (some .int) 1 d_X8_next s_X8_next) (g_X8_next : d_X8_next + 1 ≤ d) {d_X6_hold : Nat} {s_X6_hold : zq_Sp} (h_X6_hold : zq_M yX6_hold cX6_hold 2 none 0 d_X6_hold s_X6_hold) (g_X6_hold : d_X6_hold + 1 ≤ d) {d_X8_skip : Nat} {s_X8_skip : zq_Sp} (h_X8_skip : zq_M yX8_skip cX8_skip 2 (some .boolean) 1 d_X8_skip s_X8_skip) (g_X8_skip : d_X8_skip + 1 ≤ d) {d_X6_isLetter : Nat} {s_X6_isLetter : zq_Sp} (h_X6_isLetter : zq_M yX6_isLetter cX6_isLetter 1 (some .boolean) 1 d_X6_isLetter s_X6_isLetter) (g_X6_isLetter : d_X6_isLetter + 1 ≤ d) {Q : zq_Q} (hq : zq_R X (some .boolean) 1 Q) : zq_ok X 4 92 (xX6_readThing_92 s_X8_takeNumber s_X6_addStep s_X8_next s_X6_hold s_X8_skip s_X6_isLetter Q) := by
  refine zs_iload_n C dX6_readThing_92 rfl ?_
  refine zs_callS C h_X6_isLetter g_X6_isLetter zy_X6_isLetter zw_530 zw_531 dX6_readThing_93 ?_
  exact zs_if_eq C dX6_readThing_96 (by decide) (kX6_readThing_116 C h_X8_takeNumber g_X8_takeNumber h_X6_addStep g_X6_addStep h_X8_next g_X8_next h_X6_hold g_X6_hold h_X8_skip g_X8_skip h_X6_isLetter g_X6_isLetter hq) (kX6_readThing_99 C h_X8_takeNumber g_X8_takeNumber h_X6_addStep g_X6_addStep h_X8_next g_X8_next h_X6_hold g_X6_hold h_X8_skip g_X8_skip h_X6_isLetter g_X6_isLetter hq)
def xX6_readThing_57 (s_X8_takeNumber : zq_Sp) (s_X6_addStep : zq_Sp) (s_X8_next : zq_Sp) (s_X6_hold : zq_Sp) (s_X8_skip : zq_Sp) (s_X6_isLetter : zq_Sp) (Q : zq_Q) (ls : zq_L) (st : List Value) (h : zq_H) : Prop := (zi_aload 0 (zi_iload 3 (zi_callV 1 52 s_X6_hold (zi_aload 0 (zi_dup (zi_getI 52 5 (zi_push (.int 1) (zi_i2 (fun x y => x + y) (zi_putI 52 5 (zi_aload 0 (zi_dup (zi_getI 52 6 (zi_push (.int 1) (zi_aload 0 (zi_getI 52 5 (zi_i2 zf_shl (zi_push (.int (-1)) (zi_i2 (fun x y => x ^^^ y) (zi_i2 (fun x y => x &&& y) (zi_putI 52 6 ((xX6_readThing_118 s_X8_takeNumber s_X6_addStep s_X8_next s_X6_hold s_X8_skip s_X6_isLetter Q)))))))))))))))))))))) ls st h
theorem kX6_readThing_57 {X : zq_X} {d : Nat} (C : zq_C X cX6_readThing 4 RX6 d) {d_X8_takeNumber : Nat} {s_X8_takeNumber : zq_Sp} (h_X8_takeNumber : zq_M yX8_takeNumber cX8_takeNumber 5 (some .int) 1 d_X8_takeNumber s_X8_takeNumber) (g_X8_takeNumber : d_X8_takeNumber + 1 ≤ d) {d_X6_addStep : Nat} {s_X6_addStep : zq_Sp} (h_X6_addStep : zq_M yX6_addStep cX6_addStep 2 none 0 d_X6_addStep s_X6_addStep) (g_X6_addStep : d_X6_addStep + 1 ≤ d) {d_X8_next : Nat} {s_X8_next : zq_Sp} (h_X8_next : zq_M yX8_next cX8_next 1 (some .int) 1 d_X8_next s_X8_next) (g_X8_next : d_X8_next + 1 ≤ d) {d_X6_hold : Nat} {s_X6_hold : zq_Sp} (h_X6_hold : zq_M yX6_hold cX6_hold 2 none 0 d_X6_hold s_X6_hold) (g_X6_hold : d_X6_hold + 1 ≤ d) {d_X8_skip : Nat} {s_X8_skip : zq_Sp} (h_X8_skip : zq_M yX8_skip cX8_skip 2 (some .boolean) 1 d_X8_skip s_X8_skip) (g_X8_skip : d_X8_skip + 1 ≤ d) {d_X6_isLetter : Nat} {s_X6_isLetter : zq_Sp} (h_X6_isLetter : zq_M yX6_isLetter cX6_isLetter 1 (some .boolean) 1 d_X6_isLetter s_X6_isLetter) (g_X6_isLetter : d_X6_isLetter + 1 ≤ d) {Q : zq_Q} (hq : zq_R X (some .boolean) 1 Q) : zq_ok X 4 57 (xX6_readThing_57 s_X8_takeNumber s_X6_addStep s_X8_next s_X6_hold s_X8_skip s_X6_isLetter Q) := by
  refine zs_aload_n C dX6_readThing_57 rfl ?_
  refine zs_iload_n C dX6_readThing_58 rfl ?_
  refine zs_callV C h_X6_hold g_X6_hold zy_X6_hold zp_52 (show vwCl[6]? = some (RX6, TX6, 8) from rfl) zw_526 zw_528 zs9_X6_hold dX6_readThing_59 ?_
  refine zs_aload_n C dX6_readThing_62 rfl ?_
  refine zs_dup C dX6_readThing_63 ?_
  refine zs_getI C zp_52 zF6 (j := 5) ⟨by decide, rfl⟩ zw_295 dX6_readThing_64 ?_
  refine zs_iconst C dX6_readThing_67 (by decide) ?_
  refine zs_iadd C dX6_readThing_68 ?_
  refine zs_putI C zp_52 zF6 (j := 5) ⟨by decide, rfl⟩ ⟨rfl, by decide +kernel⟩ zw_295 dX6_readThing_69 ?_
  refine zs_aload_n C dX6_readThing_72 rfl ?_
  refine zs_dup C dX6_readThing_73 ?_
  refine zs_getI C zp_52 zF6 (j := 6) ⟨by decide, rfl⟩ zw_296 dX6_readThing_74 ?_
  refine zs_iconst C dX6_readThing_77 (by decide) ?_
  refine zs_aload_n C dX6_readThing_78 rfl ?_
  refine zs_getI C zp_52 zF6 (j := 5) ⟨by decide, rfl⟩ zw_295 dX6_readThing_79 ?_
  refine zs_ishl C dX6_readThing_82 ?_
  refine zs_iconst C dX6_readThing_83 (by decide) ?_
  refine zs_ixor C dX6_readThing_84 ?_
  refine zs_iand C dX6_readThing_85 ?_
  refine zs_putI C zp_52 zF6 (j := 6) ⟨by decide, rfl⟩ ⟨rfl, by decide +kernel⟩ zw_296 dX6_readThing_86 ?_
  exact zs_goto C dX6_readThing_89 (by decide) (kX6_readThing_118 C h_X8_takeNumber g_X8_takeNumber h_X6_addStep g_X6_addStep h_X8_next g_X8_next h_X6_hold g_X6_hold h_X8_skip g_X8_skip h_X6_isLetter g_X6_isLetter hq)
def xX6_readThing_49 (s_X8_takeNumber : zq_Sp) (s_X6_addStep : zq_Sp) (s_X8_next : zq_Sp) (s_X6_hold : zq_Sp) (s_X8_skip : zq_Sp) (s_X6_isLetter : zq_Sp) (Q : zq_Q) (ls : zq_L) (st : List Value) (h : zq_H) : Prop := (zi_aload 0 (zi_getI 52 5 (zi_push (.int 4) (zi_if2 (fun x y => y ≤ x) (xX6_readThing_92 s_X8_takeNumber s_X6_addStep s_X8_next s_X6_hold s_X8_skip s_X6_isLetter Q) (xX6_readThing_57 s_X8_takeNumber s_X6_addStep s_X8_next s_X6_hold s_X8_skip s_X6_isLetter Q))))) ls st h
theorem kX6_readThing_49 {X : zq_X} {d : Nat} (C : zq_C X cX6_readThing 4 RX6 d) {d_X8_takeNumber : Nat} {s_X8_takeNumber : zq_Sp} (h_X8_takeNumber : zq_M yX8_takeNumber cX8_takeNumber 5 (some .int) 1 d_X8_takeNumber s_X8_takeNumber) (g_X8_takeNumber : d_X8_takeNumber + 1 ≤ d) {d_X6_addStep : Nat} {s_X6_addStep : zq_Sp} (h_X6_addStep : zq_M yX6_addStep cX6_addStep 2 none 0 d_X6_addStep s_X6_addStep) (g_X6_addStep : d_X6_addStep + 1 ≤ d) {d_X8_next : Nat} {s_X8_next : zq_Sp} (h_X8_next : zq_M yX8_next cX8_next 1 (some .int) 1 d_X8_next s_X8_next) (g_X8_next : d_X8_next + 1 ≤ d) {d_X6_hold : Nat} {s_X6_hold : zq_Sp} (h_X6_hold : zq_M yX6_hold cX6_hold 2 none 0 d_X6_hold s_X6_hold) (g_X6_hold : d_X6_hold + 1 ≤ d) {d_X8_skip : Nat} {s_X8_skip : zq_Sp} (h_X8_skip : zq_M yX8_skip cX8_skip 2 (some .boolean) 1 d_X8_skip s_X8_skip) (g_X8_skip : d_X8_skip + 1 ≤ d) {d_X6_isLetter : Nat} {s_X6_isLetter : zq_Sp} (h_X6_isLetter : zq_M yX6_isLetter cX6_isLetter 1 (some .boolean) 1 d_X6_isLetter s_X6_isLetter) (g_X6_isLetter : d_X6_isLetter + 1 ≤ d) {Q : zq_Q} (hq : zq_R X (some .boolean) 1 Q) : zq_ok X 4 49 (xX6_readThing_49 s_X8_takeNumber s_X6_addStep s_X8_next s_X6_hold s_X8_skip s_X6_isLetter Q) := by
  refine zs_aload_n C dX6_readThing_49 rfl ?_
  refine zs_getI C zp_52 zF6 (j := 5) ⟨by decide, rfl⟩ zw_295 dX6_readThing_50 ?_
  refine zs_iconst C dX6_readThing_53 (by decide) ?_
  exact zs_icmp_ge C dX6_readThing_54 (by decide) (kX6_readThing_92 C h_X8_takeNumber g_X8_takeNumber h_X6_addStep g_X6_addStep h_X8_next g_X8_next h_X6_hold g_X6_hold h_X8_skip g_X8_skip h_X6_isLetter g_X6_isLetter hq) (kX6_readThing_57 C h_X8_takeNumber g_X8_takeNumber h_X6_addStep g_X6_addStep h_X8_next g_X8_next h_X6_hold g_X6_hold h_X8_skip g_X8_skip h_X6_isLetter g_X6_isLetter hq)
def xX6_readThing_43 (s_X8_takeNumber : zq_Sp) (s_X6_addStep : zq_Sp) (s_X8_next : zq_Sp) (s_X6_hold : zq_Sp) (s_X8_skip : zq_Sp) (s_X6_isLetter : zq_Sp) (Q : zq_Q) (ls : zq_L) (st : List Value) (h : zq_H) : Prop := (zi_iload 3 (zi_push (.int 40) (zi_if2 (fun x y => x = y) (xX6_readThing_49 s_X8_takeNumber s_X6_addStep s_X8_next s_X6_hold s_X8_skip s_X6_isLetter Q) (xX6_readThing_92 s_X8_takeNumber s_X6_addStep s_X8_next s_X6_hold s_X8_skip s_X6_isLetter Q)))) ls st h
theorem kX6_readThing_43 {X : zq_X} {d : Nat} (C : zq_C X cX6_readThing 4 RX6 d) {d_X8_takeNumber : Nat} {s_X8_takeNumber : zq_Sp} (h_X8_takeNumber : zq_M yX8_takeNumber cX8_takeNumber 5 (some .int) 1 d_X8_takeNumber s_X8_takeNumber) (g_X8_takeNumber : d_X8_takeNumber + 1 ≤ d) {d_X6_addStep : Nat} {s_X6_addStep : zq_Sp} (h_X6_addStep : zq_M yX6_addStep cX6_addStep 2 none 0 d_X6_addStep s_X6_addStep) (g_X6_addStep : d_X6_addStep + 1 ≤ d) {d_X8_next : Nat} {s_X8_next : zq_Sp} (h_X8_next : zq_M yX8_next cX8_next 1 (some .int) 1 d_X8_next s_X8_next) (g_X8_next : d_X8_next + 1 ≤ d) {d_X6_hold : Nat} {s_X6_hold : zq_Sp} (h_X6_hold : zq_M yX6_hold cX6_hold 2 none 0 d_X6_hold s_X6_hold) (g_X6_hold : d_X6_hold + 1 ≤ d) {d_X8_skip : Nat} {s_X8_skip : zq_Sp} (h_X8_skip : zq_M yX8_skip cX8_skip 2 (some .boolean) 1 d_X8_skip s_X8_skip) (g_X8_skip : d_X8_skip + 1 ≤ d) {d_X6_isLetter : Nat} {s_X6_isLetter : zq_Sp} (h_X6_isLetter : zq_M yX6_isLetter cX6_isLetter 1 (some .boolean) 1 d_X6_isLetter s_X6_isLetter) (g_X6_isLetter : d_X6_isLetter + 1 ≤ d) {Q : zq_Q} (hq : zq_R X (some .boolean) 1 Q) : zq_ok X 4 43 (xX6_readThing_43 s_X8_takeNumber s_X6_addStep s_X8_next s_X6_hold s_X8_skip s_X6_isLetter Q) := by
  refine zs_iload_n C dX6_readThing_43 rfl ?_
  refine zs_bipush C dX6_readThing_44 (by decide) ?_
  exact zs_icmp_ne C dX6_readThing_46 (by decide) (kX6_readThing_92 C h_X8_takeNumber g_X8_takeNumber h_X6_addStep g_X6_addStep h_X8_next g_X8_next h_X6_hold g_X6_hold h_X8_skip g_X8_skip h_X6_isLetter g_X6_isLetter hq) (kX6_readThing_49 C h_X8_takeNumber g_X8_takeNumber h_X6_addStep g_X6_addStep h_X8_next g_X8_next h_X6_hold g_X6_hold h_X8_skip g_X8_skip h_X6_isLetter g_X6_isLetter hq)
def xX6_readThing_33 (s_X8_takeNumber : zq_Sp) (s_X6_addStep : zq_Sp) (s_X8_next : zq_Sp) (s_X6_hold : zq_Sp) (s_X8_skip : zq_Sp) (s_X6_isLetter : zq_Sp) (Q : zq_Q) (ls : zq_L) (st : List Value) (h : zq_H) : Prop := (zi_aload 0 (zi_push (.int 256) (zi_callV 1 52 s_X6_hold ((xX6_readThing_118 s_X8_takeNumber s_X6_addStep s_X8_next s_X6_hold s_X8_skip s_X6_isLetter Q))))) ls st h
theorem kX6_readThing_33 {X : zq_X} {d : Nat} (C : zq_C X cX6_readThing 4 RX6 d) {d_X8_takeNumber : Nat} {s_X8_takeNumber : zq_Sp} (h_X8_takeNumber : zq_M yX8_takeNumber cX8_takeNumber 5 (some .int) 1 d_X8_takeNumber s_X8_takeNumber) (g_X8_takeNumber : d_X8_takeNumber + 1 ≤ d) {d_X6_addStep : Nat} {s_X6_addStep : zq_Sp} (h_X6_addStep : zq_M yX6_addStep cX6_addStep 2 none 0 d_X6_addStep s_X6_addStep) (g_X6_addStep : d_X6_addStep + 1 ≤ d) {d_X8_next : Nat} {s_X8_next : zq_Sp} (h_X8_next : zq_M yX8_next cX8_next 1 (some .int) 1 d_X8_next s_X8_next) (g_X8_next : d_X8_next + 1 ≤ d) {d_X6_hold : Nat} {s_X6_hold : zq_Sp} (h_X6_hold : zq_M yX6_hold cX6_hold 2 none 0 d_X6_hold s_X6_hold) (g_X6_hold : d_X6_hold + 1 ≤ d) {d_X8_skip : Nat} {s_X8_skip : zq_Sp} (h_X8_skip : zq_M yX8_skip cX8_skip 2 (some .boolean) 1 d_X8_skip s_X8_skip) (g_X8_skip : d_X8_skip + 1 ≤ d) {d_X6_isLetter : Nat} {s_X6_isLetter : zq_Sp} (h_X6_isLetter : zq_M yX6_isLetter cX6_isLetter 1 (some .boolean) 1 d_X6_isLetter s_X6_isLetter) (g_X6_isLetter : d_X6_isLetter + 1 ≤ d) {Q : zq_Q} (hq : zq_R X (some .boolean) 1 Q) : zq_ok X 4 33 (xX6_readThing_33 s_X8_takeNumber s_X6_addStep s_X8_next s_X6_hold s_X8_skip s_X6_isLetter Q) := by
  refine zs_aload_n C dX6_readThing_33 rfl ?_
  refine zs_sipush C dX6_readThing_34 (by decide) ?_
  refine zs_callV C h_X6_hold g_X6_hold zy_X6_hold zp_52 (show vwCl[6]? = some (RX6, TX6, 8) from rfl) zw_526 zw_528 zs9_X6_hold dX6_readThing_37 ?_
  exact zs_goto C dX6_readThing_40 (by decide) (kX6_readThing_118 C h_X8_takeNumber g_X8_takeNumber h_X6_addStep g_X6_addStep h_X8_next g_X8_next h_X6_hold g_X6_hold h_X8_skip g_X8_skip h_X6_isLetter g_X6_isLetter hq)
def xX6_readThing_22 (s_X8_takeNumber : zq_Sp) (s_X6_addStep : zq_Sp) (s_X8_next : zq_Sp) (s_X6_hold : zq_Sp) (s_X8_skip : zq_Sp) (s_X6_isLetter : zq_Sp) (Q : zq_Q) (ls : zq_L) (st : List Value) (h : zq_H) : Prop := (zi_aload 1 (zi_callV 0 1 s_X8_next (zi_istore 3 (zi_iload 3 (zi_push (.int 45) (zi_if2 (fun x y => x = y) (xX6_readThing_33 s_X8_takeNumber s_X6_addStep s_X8_next s_X6_hold s_X8_skip s_X6_isLetter Q) (xX6_readThing_43 s_X8_takeNumber s_X6_addStep s_X8_next s_X6_hold s_X8_skip s_X6_isLetter Q))))))) ls st h
theorem kX6_readThing_22 {X : zq_X} {d : Nat} (C : zq_C X cX6_readThing 4 RX6 d) {d_X8_takeNumber : Nat} {s_X8_takeNumber : zq_Sp} (h_X8_takeNumber : zq_M yX8_takeNumber cX8_takeNumber 5 (some .int) 1 d_X8_takeNumber s_X8_takeNumber) (g_X8_takeNumber : d_X8_takeNumber + 1 ≤ d) {d_X6_addStep : Nat} {s_X6_addStep : zq_Sp} (h_X6_addStep : zq_M yX6_addStep cX6_addStep 2 none 0 d_X6_addStep s_X6_addStep) (g_X6_addStep : d_X6_addStep + 1 ≤ d) {d_X8_next : Nat} {s_X8_next : zq_Sp} (h_X8_next : zq_M yX8_next cX8_next 1 (some .int) 1 d_X8_next s_X8_next) (g_X8_next : d_X8_next + 1 ≤ d) {d_X6_hold : Nat} {s_X6_hold : zq_Sp} (h_X6_hold : zq_M yX6_hold cX6_hold 2 none 0 d_X6_hold s_X6_hold) (g_X6_hold : d_X6_hold + 1 ≤ d) {d_X8_skip : Nat} {s_X8_skip : zq_Sp} (h_X8_skip : zq_M yX8_skip cX8_skip 2 (some .boolean) 1 d_X8_skip s_X8_skip) (g_X8_skip : d_X8_skip + 1 ≤ d) {d_X6_isLetter : Nat} {s_X6_isLetter : zq_Sp} (h_X6_isLetter : zq_M yX6_isLetter cX6_isLetter 1 (some .boolean) 1 d_X6_isLetter s_X6_isLetter) (g_X6_isLetter : d_X6_isLetter + 1 ≤ d) {Q : zq_Q} (hq : zq_R X (some .boolean) 1 Q) : zq_ok X 4 22 (xX6_readThing_22 s_X8_takeNumber s_X6_addStep s_X8_next s_X6_hold s_X8_skip s_X6_isLetter Q) := by
  refine zs_aload_n C dX6_readThing_22 rfl ?_
  refine zs_callV C h_X8_next g_X8_next zy_X8_next zp_1 (show vwCl[8]? = some (RX8, TX8, 4) from rfl) zw_512 zw_404 zs9_X8_next dX6_readThing_23 ?_
  refine zs_istore_n C dX6_readThing_26 rfl (by decide) ?_
  refine zs_iload_n C dX6_readThing_27 rfl ?_
  refine zs_bipush C dX6_readThing_28 (by decide) ?_
  exact zs_icmp_ne C dX6_readThing_30 (by decide) (kX6_readThing_43 C h_X8_takeNumber g_X8_takeNumber h_X6_addStep g_X6_addStep h_X8_next g_X8_next h_X6_hold g_X6_hold h_X8_skip g_X8_skip h_X6_isLetter g_X6_isLetter hq) (kX6_readThing_33 C h_X8_takeNumber g_X8_takeNumber h_X6_addStep g_X6_addStep h_X8_next g_X8_next h_X6_hold g_X6_hold h_X8_skip g_X8_skip h_X6_isLetter g_X6_isLetter hq)
def xX6_readThing_10 (s_X8_takeNumber : zq_Sp) (s_X6_addStep : zq_Sp) (s_X8_next : zq_Sp) (s_X6_hold : zq_Sp) (s_X8_skip : zq_Sp) (s_X6_isLetter : zq_Sp) (Q : zq_Q) (ls : zq_L) (st : List Value) (h : zq_H) : Prop := (zi_aload 0 (zi_iload 2 (zi_callV 1 52 s_X6_addStep (zi_aload 0 (zi_push (.int 0) (zi_putZ 52 7 (zi_push (.int 1) (zi_zret Q)))))))) ls st h
theorem kX6_readThing_10 {X : zq_X} {d : Nat} (C : zq_C X cX6_readThing 4 RX6 d) {d_X8_takeNumber : Nat} {s_X8_takeNumber : zq_Sp} (h_X8_takeNumber : zq_M yX8_takeNumber cX8_takeNumber 5 (some .int) 1 d_X8_takeNumber s_X8_takeNumber) (g_X8_takeNumber : d_X8_takeNumber + 1 ≤ d) {d_X6_addStep : Nat} {s_X6_addStep : zq_Sp} (h_X6_addStep : zq_M yX6_addStep cX6_addStep 2 none 0 d_X6_addStep s_X6_addStep) (g_X6_addStep : d_X6_addStep + 1 ≤ d) {d_X8_next : Nat} {s_X8_next : zq_Sp} (h_X8_next : zq_M yX8_next cX8_next 1 (some .int) 1 d_X8_next s_X8_next) (g_X8_next : d_X8_next + 1 ≤ d) {d_X6_hold : Nat} {s_X6_hold : zq_Sp} (h_X6_hold : zq_M yX6_hold cX6_hold 2 none 0 d_X6_hold s_X6_hold) (g_X6_hold : d_X6_hold + 1 ≤ d) {d_X8_skip : Nat} {s_X8_skip : zq_Sp} (h_X8_skip : zq_M yX8_skip cX8_skip 2 (some .boolean) 1 d_X8_skip s_X8_skip) (g_X8_skip : d_X8_skip + 1 ≤ d) {d_X6_isLetter : Nat} {s_X6_isLetter : zq_Sp} (h_X6_isLetter : zq_M yX6_isLetter cX6_isLetter 1 (some .boolean) 1 d_X6_isLetter s_X6_isLetter) (g_X6_isLetter : d_X6_isLetter + 1 ≤ d) {Q : zq_Q} (hq : zq_R X (some .boolean) 1 Q) : zq_ok X 4 10 (xX6_readThing_10 s_X8_takeNumber s_X6_addStep s_X8_next s_X6_hold s_X8_skip s_X6_isLetter Q) := by
  refine zs_aload_n C dX6_readThing_10 rfl ?_
  refine zs_iload_n C dX6_readThing_11 rfl ?_
  refine zs_callV C h_X6_addStep g_X6_addStep zy_X6_addStep zp_52 (show vwCl[6]? = some (RX6, TX6, 8) from rfl) zw_522 zw_524 zs9_X6_addStep dX6_readThing_12 ?_
  refine zs_aload_n C dX6_readThing_15 rfl ?_
  refine zs_iconst C dX6_readThing_16 (by decide) ?_
  refine zs_putZ C zp_52 zF6 (j := 7) ⟨by decide, rfl⟩ ⟨rfl, by decide +kernel⟩ zw_297 dX6_readThing_17 ?_
  refine zs_iconst C dX6_readThing_20 (by decide) ?_
  exact zs_zret C hq dX6_readThing_21
def xX6_readThing_0 (s_X8_takeNumber : zq_Sp) (s_X6_addStep : zq_Sp) (s_X8_next : zq_Sp) (s_X6_hold : zq_Sp) (s_X8_skip : zq_Sp) (s_X6_isLetter : zq_Sp) (Q : zq_Q) (ls : zq_L) (st : List Value) (h : zq_H) : Prop := (zi_aload 1 (zi_push (.int 3) (zi_callV 1 1 s_X8_takeNumber (zi_istore 2 (zi_iload 2 (zi_if1 (fun x => x < 0) (xX6_readThing_22 s_X8_takeNumber s_X6_addStep s_X8_next s_X6_hold s_X8_skip s_X6_isLetter Q) (xX6_readThing_10 s_X8_takeNumber s_X6_addStep s_X8_next s_X6_hold s_X8_skip s_X6_isLetter Q))))))) ls st h
theorem kX6_readThing_0 {X : zq_X} {d : Nat} (C : zq_C X cX6_readThing 4 RX6 d) {d_X8_takeNumber : Nat} {s_X8_takeNumber : zq_Sp} (h_X8_takeNumber : zq_M yX8_takeNumber cX8_takeNumber 5 (some .int) 1 d_X8_takeNumber s_X8_takeNumber) (g_X8_takeNumber : d_X8_takeNumber + 1 ≤ d) {d_X6_addStep : Nat} {s_X6_addStep : zq_Sp} (h_X6_addStep : zq_M yX6_addStep cX6_addStep 2 none 0 d_X6_addStep s_X6_addStep) (g_X6_addStep : d_X6_addStep + 1 ≤ d) {d_X8_next : Nat} {s_X8_next : zq_Sp} (h_X8_next : zq_M yX8_next cX8_next 1 (some .int) 1 d_X8_next s_X8_next) (g_X8_next : d_X8_next + 1 ≤ d) {d_X6_hold : Nat} {s_X6_hold : zq_Sp} (h_X6_hold : zq_M yX6_hold cX6_hold 2 none 0 d_X6_hold s_X6_hold) (g_X6_hold : d_X6_hold + 1 ≤ d) {d_X8_skip : Nat} {s_X8_skip : zq_Sp} (h_X8_skip : zq_M yX8_skip cX8_skip 2 (some .boolean) 1 d_X8_skip s_X8_skip) (g_X8_skip : d_X8_skip + 1 ≤ d) {d_X6_isLetter : Nat} {s_X6_isLetter : zq_Sp} (h_X6_isLetter : zq_M yX6_isLetter cX6_isLetter 1 (some .boolean) 1 d_X6_isLetter s_X6_isLetter) (g_X6_isLetter : d_X6_isLetter + 1 ≤ d) {Q : zq_Q} (hq : zq_R X (some .boolean) 1 Q) : zq_ok X 4 0 (xX6_readThing_0 s_X8_takeNumber s_X6_addStep s_X8_next s_X6_hold s_X8_skip s_X6_isLetter Q) := by
  refine zs_aload_n C dX6_readThing_0 rfl ?_
  refine zs_iconst C dX6_readThing_1 (by decide) ?_
  refine zs_callV C h_X8_takeNumber g_X8_takeNumber zy_X8_takeNumber zp_1 (show vwCl[8]? = some (RX8, TX8, 4) from rfl) zw_517 zw_518 zs9_X8_takeNumber dX6_readThing_2 ?_
  refine zs_istore_n C dX6_readThing_5 rfl (by decide) ?_
  refine zs_iload_n C dX6_readThing_6 rfl ?_
  exact zs_if_lt C dX6_readThing_7 (by decide) (kX6_readThing_22 C h_X8_takeNumber g_X8_takeNumber h_X6_addStep g_X6_addStep h_X8_next g_X8_next h_X6_hold g_X6_hold h_X8_skip g_X8_skip h_X6_isLetter g_X6_isLetter hq) (kX6_readThing_10 C h_X8_takeNumber g_X8_takeNumber h_X6_addStep g_X6_addStep h_X8_next g_X8_next h_X6_hold g_X6_hold h_X8_skip g_X8_skip h_X6_isLetter g_X6_isLetter hq)
theorem mX6_readThing {d : Nat} {spec : zq_Sp} {d_X8_takeNumber : Nat} {s_X8_takeNumber : zq_Sp} (h_X8_takeNumber : zq_M yX8_takeNumber cX8_takeNumber 5 (some .int) 1 d_X8_takeNumber s_X8_takeNumber) (g_X8_takeNumber : d_X8_takeNumber + 1 ≤ d) {d_X6_addStep : Nat} {s_X6_addStep : zq_Sp} (h_X6_addStep : zq_M yX6_addStep cX6_addStep 2 none 0 d_X6_addStep s_X6_addStep) (g_X6_addStep : d_X6_addStep + 1 ≤ d) {d_X8_next : Nat} {s_X8_next : zq_Sp} (h_X8_next : zq_M yX8_next cX8_next 1 (some .int) 1 d_X8_next s_X8_next) (g_X8_next : d_X8_next + 1 ≤ d) {d_X6_hold : Nat} {s_X6_hold : zq_Sp} (h_X6_hold : zq_M yX6_hold cX6_hold 2 none 0 d_X6_hold s_X6_hold) (g_X6_hold : d_X6_hold + 1 ≤ d) {d_X8_skip : Nat} {s_X8_skip : zq_Sp} (h_X8_skip : zq_M yX8_skip cX8_skip 2 (some .boolean) 1 d_X8_skip s_X8_skip) (g_X8_skip : d_X8_skip + 1 ≤ d) {d_X6_isLetter : Nat} {s_X6_isLetter : zq_Sp} (h_X6_isLetter : zq_M yX6_isLetter cX6_isLetter 1 (some .boolean) 1 d_X6_isLetter s_X6_isLetter) (g_X6_isLetter : d_X6_isLetter + 1 ≤ d) (v : ∀ args h Q, spec args h Q → (zq_a args).length ≤ 4 ∧ xX6_readThing_0 s_X8_takeNumber s_X6_addStep s_X8_next s_X6_hold s_X8_skip s_X6_isLetter Q (zq_l0 4 args) [] h) : zq_M yX6_readThing cX6_readThing 4 (some .boolean) 1 d spec := by
  refine zq_met (by decide +kernel) (by decide) (fun X Q args h C hq hs => ⟨(v args h Q hs).1, _, ?_, (v args h Q hs).2⟩)
  exact kX6_readThing_0 C h_X8_takeNumber g_X8_takeNumber h_X6_addStep g_X6_addStep h_X8_next g_X8_next h_X6_hold g_X6_hold h_X8_skip g_X8_skip h_X6_isLetter g_X6_isLetter hq
/-! ToOneCrumb$Rule.readJoint(LToOneCrumb$Text;)Z -/
theorem dX6_readJoint_0 : decode cX6_readJoint 0 = .ok (.aload_n 1, 1) := by decide +kernel
theorem dX6_readJoint_1 : decode cX6_readJoint 1 = .ok (.invokevirtual 48, 3) := by decide +kernel
theorem dX6_readJoint_4 : decode cX6_readJoint 4 = .ok (.istore_n 2, 1) := by decide +kernel
theorem dX6_readJoint_5 : decode cX6_readJoint 5 = .ok (.iload_n 2, 1) := by decide +kernel
theorem dX6_readJoint_6 : decode cX6_readJoint 6 = .ok (.invokestatic 79, 3) := by decide +kernel
theorem dX6_readJoint_9 : decode cX6_readJoint 9 = .ok (.istore_n 3, 1) := by decide +kernel
theorem dX6_readJoint_10 : decode cX6_readJoint 10 = .ok (.iload_n 2, 1) := by decide +kernel
theorem dX6_readJoint_11 : decode cX6_readJoint 11 = .ok (.bipush 41, 2) := by decide +kernel
theorem dX6_readJoint_13 : decode cX6_readJoint 13 = .ok (.if_icmp .ne 42, 3) := by decide +kernel
theorem dX6_readJoint_16 : decode cX6_readJoint 16 = .ok (.aload_n 0, 1) := by decide +kernel
theorem dX6_readJoint_17 : decode cX6_readJoint 17 = .ok (.getfield 28, 3) := by decide +kernel
theorem dX6_readJoint_20 : decode cX6_readJoint 20 = .ok (.ifCond .le 35, 3) := by decide +kernel
theorem dX6_readJoint_23 : decode cX6_readJoint 23 = .ok (.aload_n 0, 1) := by decide +kernel
theorem dX6_readJoint_24 : decode cX6_readJoint 24 = .ok (.iconst 1, 1) := by decide +kernel
theorem dX6_readJoint_25 : decode cX6_readJoint 25 = .ok (.invokevirtual 59, 3) := by decide +kernel
theorem dX6_readJoint_28 : decode cX6_readJoint 28 = .ok (.aload_n 0, 1) := by decide +kernel
theorem dX6_readJoint_29 : decode cX6_readJoint 29 = .ok (.iconst 0, 1) := by decide +kernel
theorem dX6_readJoint_30 : decode cX6_readJoint 30 = .ok (.aload_n 0, 1) := by decide +kernel
theorem dX6_readJoint_31 : decode cX6_readJoint 31 = .ok (.getfield 25, 3) := by decide +kernel
theorem dX6_readJoint_34 : decode cX6_readJoint 34 = .ok (.iconst 1, 1) := by decide +kernel
theorem dX6_readJoint_35 : decode cX6_readJoint 35 = .ok (.isub, 1) := by decide +kernel
theorem dX6_readJoint_36 : decode cX6_readJoint 36 = .ok (.invokestatic 82, 3) := by decide +kernel
theorem dX6_readJoint_39 : decode cX6_readJoint 39 = .ok (.putfield 25, 3) := by decide +kernel
theorem dX6_readJoint_42 : decode cX6_readJoint 42 = .ok (.aload_n 0, 1) := by decide +kernel
theorem dX6_readJoint_43 : decode cX6_readJoint 43 = .ok (.dup, 1) := by decide +kernel
theorem dX6_readJoint_44 : decode cX6_readJoint 44 = .ok (.getfield 28, 3) := by decide +kernel
theorem dX6_readJoint_47 : decode cX6_readJoint 47 = .ok (.iconst 1, 1) := by decide +kernel
theorem dX6_readJoint_48 : decode cX6_readJoint 48 = .ok (.isub, 1) := by decide +kernel
theorem dX6_readJoint_49 : decode cX6_readJoint 49 = .ok (.putfield 28, 3) := by decide +kernel
theorem dX6_readJoint_52 : decode cX6_readJoint 52 = .ok (.goto 67, 3) := by decide +kernel
theorem dX6_readJoint_55 : decode cX6_readJoint 55 = .ok (.iload_n 3, 1) := by decide +kernel
theorem dX6_readJoint_56 : decode cX6_readJoint 56 = .ok (.iconst 1, 1) := by decide +kernel
theorem dX6_readJoint_57 : decode cX6_readJoint 57 = .ok (.if_icmp .gt 22, 3) := by decide +kernel
theorem dX6_readJoint_60 : decode cX6_readJoint 60 = .ok (.iload_n 3, 1) := by decide +kernel
theorem dX6_readJoint_61 : decode cX6_readJoint 61 = .ok (.iconst 1, 1) := by decide +kernel
theorem dX6_readJoint_62 : decode cX6_readJoint 62 = .ok (.if_icmp .ne 55, 3) := by decide +kernel
theorem dX6_readJoint_65 : decode cX6_readJoint 65 = .ok (.aload_n 0, 1) := by decide +kernel
theorem dX6_readJoint_66 : decode cX6_readJoint 66 = .ok (.getfield 31, 3) := by decide +kernel
theorem dX6_readJoint_69 : decode cX6_readJoint 69 = .ok (.aload_n 0, 1) := by decide +kernel
theorem dX6_readJoint_70 : decode cX6_readJoint 70 = .ok (.getfield 28, 3) := by decide +kernel
theorem dX6_readJoint_73 : decode cX6_readJoint 73 = .ok (.ishr, 1) := by decide +kernel
theorem dX6_readJoint_74 : decode cX6_readJoint 74 = .ok (.iconst 1, 1) := by decide +kernel
theorem dX6_readJoint_75 : decode cX6_readJoint 75 = .ok (.iand, 1) := by decide +kernel
theorem dX6_readJoint_76 : decode cX6_readJoint 76 = .ok (.ifCond .ne 41, 3) := by decide +kernel
theorem dX6_readJoint_79 : decode cX6_readJoint 79 = .ok (.aload_n 0, 1) := by decide +kernel
theorem dX6_readJoint_80 : decode cX6_readJoint 80 = .ok (.iload_n 3, 1) := by decide +kernel
theorem dX6_readJoint_81 : decode cX6_readJoint 81 = .ok (.invokevirtual 59, 3) := by decide +kernel
theorem dX6_readJoint_84 : decode cX6_readJoint 84 = .ok (.aload_n 0, 1) := by decide +kernel
theorem dX6_readJoint_85 : decode cX6_readJoint 85 = .ok (.iload_n 2, 1) := by decide +kernel
theorem dX6_readJoint_86 : decode cX6_readJoint 86 = .ok (.invokevirtual 69, 3) := by decide +kernel
theorem dX6_readJoint_89 : decode cX6_readJoint 89 = .ok (.aload_n 0, 1) := by decide +kernel
theorem dX6_readJoint_90 : decode cX6_readJoint 90 = .ok (.iconst 1, 1) := by decide +kernel
theorem dX6_readJoint_91 : decode cX6_readJoint 91 = .ok (.putfield 34, 3) := by decide +kernel
theorem dX6_readJoint_94 : decode cX6_readJoint 94 = .ok (.iload_n 3, 1) := by decide +kernel
theorem dX6_readJoint_95 : decode cX6_readJoint 95 = .ok (.iconst 1, 1) := by decide +kernel
theorem dX6_readJoint_96 : decode cX6_readJoint 96 = .ok (.if_icmp .ne 23, 3) := by decide +kernel
theorem dX6_readJoint_99 : decode cX6_readJoint 99 = .ok (.aload_n 0, 1) := by decide +kernel
theorem dX6_readJoint_100 : decode cX6_readJoint 100 = .ok (.dup, 1) := by decide +kernel
theorem dX6_readJoint_101 : decode cX6_readJoint 101 = .ok (.getfield 31, 3) := by decide +kernel
theorem dX6_readJoint_104 : decode cX6_readJoint 104 = .ok (.iconst 1, 1) := by decide +kernel
theorem dX6_readJoint_105 : decode cX6_readJoint 105 = .ok (.aload_n 0, 1) := by decide +kernel
theorem dX6_readJoint_106 : decode cX6_readJoint 106 = .ok (.getfield 28, 3) := by decide +kernel
theorem dX6_readJoint_109 : decode cX6_readJoint 109 = .ok (.ishl, 1) := by decide +kernel
theorem dX6_readJoint_110 : decode cX6_readJoint 110 = .ok (.ior, 1) := by decide +kernel
theorem dX6_readJoint_111 : decode cX6_readJoint 111 = .ok (.putfield 31, 3) := by decide +kernel
theorem dX6_readJoint_114 : decode cX6_readJoint 114 = .ok (.goto 5, 3) := by decide +kernel
theorem dX6_readJoint_117 : decode cX6_readJoint 117 = .ok (.iconst 0, 1) := by decide +kernel
theorem dX6_readJoint_118 : decode cX6_readJoint 118 = .ok (.ireturn, 1) := by decide +kernel
theorem dX6_readJoint_119 : decode cX6_readJoint 119 = .ok (.aload_n 1, 1) := by decide +kernel
theorem dX6_readJoint_120 : decode cX6_readJoint 120 = .ok (.iload_n 2, 1) := by decide +kernel
theorem dX6_readJoint_121 : decode cX6_readJoint 121 = .ok (.invokevirtual 76, 3) := by decide +kernel
theorem dX6_readJoint_124 : decode cX6_readJoint 124 = .ok (.ireturn, 1) := by decide +kernel
def xX6_readJoint_119 (s_X8_next : zq_Sp) (s_X6_strengthOf : zq_Sp) (s_X6_release : zq_Sp) (s_X8_skip : zq_Sp) (s_X6_hold : zq_Sp) (Q : zq_Q) (ls : zq_L) (st : List Value) (h : zq_H) : Prop := (zi_aload 1 (zi_iload 2 (zi_callV 1 1 s_X8_skip (zi_zret Q)))) ls st h
theorem kX6_readJoint_119 {X : zq_X} {d : Nat} (C : zq_C X cX6_readJoint 4 RX6 d) (hd1 : 1 ≤ d) {d_X8_next : Nat} {s_X8_next : zq_Sp} (h_X8_next : zq_M yX8_next cX8_next 1 (some .int) 1 d_X8_next s_X8_next) (g_X8_next : d_X8_next + 1 ≤ d) {d_X6_strengthOf : Nat} {s_X6_strengthOf : zq_Sp} (h_X6_strengthOf : zq_M yX6_strengthOf cX6_strengthOf 1 (some .int) 1 d_X6_strengthOf s_X6_strengthOf) (g_X6_strengthOf : d_X6_strengthOf + 1 ≤ d) {d_X6_release : Nat} {s_X6_release : zq_Sp} (h_X6_release : zq_M yX6_release cX6_release 2 none 0 d_X6_release s_X6_release) (g_X6_release : d_X6_release + 1 ≤ d) {d_X8_skip : Nat} {s_X8_skip : zq_Sp} (h_X8_skip : zq_M yX8_skip cX8_skip 2 (some .boolean) 1 d_X8_skip s_X8_skip) (g_X8_skip : d_X8_skip + 1 ≤ d) {d_X6_hold : Nat} {s_X6_hold : zq_Sp} (h_X6_hold : zq_M yX6_hold cX6_hold 2 none 0 d_X6_hold s_X6_hold) (g_X6_hold : d_X6_hold + 1 ≤ d) {Q : zq_Q} (hq : zq_R X (some .boolean) 1 Q) : zq_ok X 4 119 (xX6_readJoint_119 s_X8_next s_X6_strengthOf s_X6_release s_X8_skip s_X6_hold Q) := by
  refine zs_aload_n C dX6_readJoint_119 rfl ?_
  refine zs_iload_n C dX6_readJoint_120 rfl ?_
  refine zs_callV C h_X8_skip g_X8_skip zy_X8_skip zp_1 (show vwCl[8]? = some (RX8, TX8, 4) from rfl) zw_533 zw_412 zs9_X8_skip dX6_readJoint_121 ?_
  exact zs_zret C hq dX6_readJoint_124
def xX6_readJoint_117 (s_X8_next : zq_Sp) (s_X6_strengthOf : zq_Sp) (s_X6_release : zq_Sp) (s_X8_skip : zq_Sp) (s_X6_hold : zq_Sp) (Q : zq_Q) (ls : zq_L) (st : List Value) (h : zq_H) : Prop := (zi_push (.int 0) (zi_zret Q)) ls st h
theorem kX6_readJoint_117 {X : zq_X} {d : Nat} (C : zq_C X cX6_readJoint 4 RX6 d) (hd1 : 1 ≤ d) {d_X8_next : Nat} {s_X8_next : zq_Sp} (h_X8_next : zq_M yX8_next cX8_next 1 (some .int) 1 d_X8_next s_X8_next) (g_X8_next : d_X8_next + 1 ≤ d) {d_X6_strengthOf : Nat} {s_X6_strengthOf : zq_Sp} (h_X6_strengthOf : zq_M yX6_strengthOf cX6_strengthOf 1 (some .int) 1 d_X6_strengthOf s_X6_strengthOf) (g_X6_strengthOf : d_X6_strengthOf + 1 ≤ d) {d_X6_release : Nat} {s_X6_release : zq_Sp} (h_X6_release : zq_M yX6_release cX6_release 2 none 0 d_X6_release s_X6_release) (g_X6_release : d_X6_release + 1 ≤ d) {d_X8_skip : Nat} {s_X8_skip : zq_Sp} (h_X8_skip : zq_M yX8_skip cX8_skip 2 (some .boolean) 1 d_X8_skip s_X8_skip) (g_X8_skip : d_X8_skip + 1 ≤ d) {d_X6_hold : Nat} {s_X6_hold : zq_Sp} (h_X6_hold : zq_M yX6_hold cX6_hold 2 none 0 d_X6_hold s_X6_hold) (g_X6_hold : d_X6_hold + 1 ≤ d) {Q : zq_Q} (hq : zq_R X (some .boolean) 1 Q) : zq_ok X 4 117 (xX6_readJoint_117 s_X8_next s_X6_strengthOf s_X6_release s_X8_skip s_X6_hold Q) := by
  refine zs_iconst C dX6_readJoint_117 (by decide) ?_
  exact zs_zret C hq dX6_readJoint_118
def xX6_readJoint_99 (s_X8_next : zq_Sp) (s_X6_strengthOf : zq_Sp) (s_X6_release : zq_Sp) (s_X8_skip : zq_Sp) (s_X6_hold : zq_Sp) (Q : zq_Q) (ls : zq_L) (st : List Value) (h : zq_H) : Prop := (zi_aload 0 (zi_dup (zi_getI 52 6 (zi_push (.int 1) (zi_aload 0 (zi_getI 52 5 (zi_i2 zf_shl (zi_i2 (fun x y => x ||| y) (zi_putI 52 6 ((xX6_readJoint_119 s_X8_next s_X6_strengthOf s_X6_release s_X8_skip s_X6_hold Q))))))))))) ls st h
theorem kX6_readJoint_99 {X : zq_X} {d : Nat} (C : zq_C X cX6_readJoint 4 RX6 d) (hd1 : 1 ≤ d) {d_X8_next : Nat} {s_X8_next : zq_Sp} (h_X8_next : zq_M yX8_next cX8_next 1 (some .int) 1 d_X8_next s_X8_next) (g_X8_next : d_X8_next + 1 ≤ d) {d_X6_strengthOf : Nat} {s_X6_strengthOf : zq_Sp} (h_X6_strengthOf : zq_M yX6_strengthOf cX6_strengthOf 1 (some .int) 1 d_X6_strengthOf s_X6_strengthOf) (g_X6_strengthOf : d_X6_strengthOf + 1 ≤ d) {d_X6_release : Nat} {s_X6_release : zq_Sp} (h_X6_release : zq_M yX6_release cX6_release 2 none 0 d_X6_release s_X6_release) (g_X6_release : d_X6_release + 1 ≤ d) {d_X8_skip : Nat} {s_X8_skip : zq_Sp} (h_X8_skip : zq_M yX8_skip cX8_skip 2 (some .boolean) 1 d_X8_skip s_X8_skip) (g_X8_skip : d_X8_skip + 1 ≤ d) {d_X6_hold : Nat} {s_X6_hold : zq_Sp} (h_X6_hold : zq_M yX6_hold cX6_hold 2 none 0 d_X6_hold s_X6_hold) (g_X6_hold : d_X6_hold + 1 ≤ d) {Q : zq_Q} (hq : zq_R X (some .boolean) 1 Q) : zq_ok X 4 99 (xX6_readJoint_99 s_X8_next s_X6_strengthOf s_X6_release s_X8_skip s_X6_hold Q) := by
  refine zs_aload_n C dX6_readJoint_99 rfl ?_
  refine zs_dup C dX6_readJoint_100 ?_
  refine zs_getI C zp_52 zF6 (j := 6) ⟨by decide, rfl⟩ zw_296 dX6_readJoint_101 ?_
  refine zs_iconst C dX6_readJoint_104 (by decide) ?_
  refine zs_aload_n C dX6_readJoint_105 rfl ?_
  refine zs_getI C zp_52 zF6 (j := 5) ⟨by decide, rfl⟩ zw_295 dX6_readJoint_106 ?_
  refine zs_ishl C dX6_readJoint_109 ?_
  refine zs_ior C dX6_readJoint_110 ?_
  refine zs_putI C zp_52 zF6 (j := 6) ⟨by decide, rfl⟩ ⟨rfl, by decide +kernel⟩ zw_296 dX6_readJoint_111 ?_
  exact zs_goto C dX6_readJoint_114 (by decide) (kX6_readJoint_119 C hd1 h_X8_next g_X8_next h_X6_strengthOf g_X6_strengthOf h_X6_release g_X6_release h_X8_skip g_X8_skip h_X6_hold g_X6_hold hq)
def xX6_readJoint_79 (s_X8_next : zq_Sp) (s_X6_strengthOf : zq_Sp) (s_X6_release : zq_Sp) (s_X8_skip : zq_Sp) (s_X6_hold : zq_Sp) (Q : zq_Q) (ls : zq_L) (st : List Value) (h : zq_H) : Prop := (zi_aload 0 (zi_iload 3 (zi_callV 1 52 s_X6_release (zi_aload 0 (zi_iload 2 (zi_callV 1 52 s_X6_hold (zi_aload 0 (zi_push (.int 1) (zi_putZ 52 7 (zi_iload 3 (zi_push (.int 1) (zi_if2 (fun x y => x = y) (xX6_readJoint_99 s_X8_next s_X6_strengthOf s_X6_release s_X8_skip s_X6_hold Q) (xX6_readJoint_119 s_X8_next s_X6_strengthOf s_X6_release s_X8_skip s_X6_hold Q))))))))))))) ls st h
theorem kX6_readJoint_79 {X : zq_X} {d : Nat} (C : zq_C X cX6_readJoint 4 RX6 d) (hd1 : 1 ≤ d) {d_X8_next : Nat} {s_X8_next : zq_Sp} (h_X8_next : zq_M yX8_next cX8_next 1 (some .int) 1 d_X8_next s_X8_next) (g_X8_next : d_X8_next + 1 ≤ d) {d_X6_strengthOf : Nat} {s_X6_strengthOf : zq_Sp} (h_X6_strengthOf : zq_M yX6_strengthOf cX6_strengthOf 1 (some .int) 1 d_X6_strengthOf s_X6_strengthOf) (g_X6_strengthOf : d_X6_strengthOf + 1 ≤ d) {d_X6_release : Nat} {s_X6_release : zq_Sp} (h_X6_release : zq_M yX6_release cX6_release 2 none 0 d_X6_release s_X6_release) (g_X6_release : d_X6_release + 1 ≤ d) {d_X8_skip : Nat} {s_X8_skip : zq_Sp} (h_X8_skip : zq_M yX8_skip cX8_skip 2 (some .boolean) 1 d_X8_skip s_X8_skip) (g_X8_skip : d_X8_skip + 1 ≤ d) {d_X6_hold : Nat} {s_X6_hold : zq_Sp} (h_X6_hold : zq_M yX6_hold cX6_hold 2 none 0 d_X6_hold s_X6_hold) (g_X6_hold : d_X6_hold + 1 ≤ d) {Q : zq_Q} (hq : zq_R X (some .boolean) 1 Q) : zq_ok X 4 79 (xX6_readJoint_79 s_X8_next s_X6_strengthOf s_X6_release s_X8_skip s_X6_hold Q) := by
  refine zs_aload_n C dX6_readJoint_79 rfl ?_
  refine zs_iload_n C dX6_readJoint_80 rfl ?_
  refine zs_callV C h_X6_release g_X6_release zy_X6_release zp_52 (show vwCl[6]? = some (RX6, TX6, 8) from rfl) zw_538 zw_540 zs9_X6_release dX6_readJoint_81 ?_
  refine zs_aload_n C dX6_readJoint_84 rfl ?_
  refine zs_iload_n C dX6_readJoint_85 rfl ?_
  refine zs_callV C h_X6_hold g_X6_hold zy_X6_hold zp_52 (show vwCl[6]? = some (RX6, TX6, 8) from rfl) zw_526 zw_528 zs9_X6_hold dX6_readJoint_86 ?_
  refine zs_aload_n C dX6_readJoint_89 rfl ?_
  refine zs_iconst C dX6_readJoint_90 (by decide) ?_
  refine zs_putZ C zp_52 zF6 (j := 7) ⟨by decide, rfl⟩ ⟨rfl, by decide +kernel⟩ zw_297 dX6_readJoint_91 ?_
  refine zs_iload_n C dX6_readJoint_94 rfl ?_
  refine zs_iconst C dX6_readJoint_95 (by decide) ?_
  exact zs_icmp_ne C dX6_readJoint_96 (by decide) (kX6_readJoint_119 C hd1 h_X8_next g_X8_next h_X6_strengthOf g_X6_strengthOf h_X6_release g_X6_release h_X8_skip g_X8_skip h_X6_hold g_X6_hold hq) (kX6_readJoint_99 C hd1 h_X8_next g_X8_next h_X6_strengthOf g_X6_strengthOf h_X6_release g_X6_release h_X8_skip g_X8_skip h_X6_hold g_X6_hold hq)
def xX6_readJoint_65 (s_X8_next : zq_Sp) (s_X6_strengthOf : zq_Sp) (s_X6_release : zq_Sp) (s_X8_skip : zq_Sp) (s_X6_hold : zq_Sp) (Q : zq_Q) (ls : zq_L) (st : List Value) (h : zq_H) : Prop := (zi_aload 0 (zi_getI 52 6 (zi_aload 0 (zi_getI 52 5 (zi_i2 zf_shr (zi_push (.int 1) (zi_i2 (fun x y => x &&& y) (zi_if1 (fun x => x = 0) (xX6_readJoint_79 s_X8_next s_X6_strengthOf s_X6_release s_X8_skip s_X6_hold Q) (xX6_readJoint_117 s_X8_next s_X6_strengthOf s_X6_release s_X8_skip s_X6_hold Q))))))))) ls st h
theorem kX6_readJoint_65 {X : zq_X} {d : Nat} (C : zq_C X cX6_readJoint 4 RX6 d) (hd1 : 1 ≤ d) {d_X8_next : Nat} {s_X8_next : zq_Sp} (h_X8_next : zq_M yX8_next cX8_next 1 (some .int) 1 d_X8_next s_X8_next) (g_X8_next : d_X8_next + 1 ≤ d) {d_X6_strengthOf : Nat} {s_X6_strengthOf : zq_Sp} (h_X6_strengthOf : zq_M yX6_strengthOf cX6_strengthOf 1 (some .int) 1 d_X6_strengthOf s_X6_strengthOf) (g_X6_strengthOf : d_X6_strengthOf + 1 ≤ d) {d_X6_release : Nat} {s_X6_release : zq_Sp} (h_X6_release : zq_M yX6_release cX6_release 2 none 0 d_X6_release s_X6_release) (g_X6_release : d_X6_release + 1 ≤ d) {d_X8_skip : Nat} {s_X8_skip : zq_Sp} (h_X8_skip : zq_M yX8_skip cX8_skip 2 (some .boolean) 1 d_X8_skip s_X8_skip) (g_X8_skip : d_X8_skip + 1 ≤ d) {d_X6_hold : Nat} {s_X6_hold : zq_Sp} (h_X6_hold : zq_M yX6_hold cX6_hold 2 none 0 d_X6_hold s_X6_hold) (g_X6_hold : d_X6_hold + 1 ≤ d) {Q : zq_Q} (hq : zq_R X (some .boolean) 1 Q) : zq_ok X 4 65 (xX6_readJoint_65 s_X8_next s_X6_strengthOf s_X6_release s_X8_skip s_X6_hold Q) := by
  refine zs_aload_n C dX6_readJoint_65 rfl ?_
  refine zs_getI C zp_52 zF6 (j := 6) ⟨by decide, rfl⟩ zw_296 dX6_readJoint_66 ?_
  refine zs_aload_n C dX6_readJoint_69 rfl ?_
  refine zs_getI C zp_52 zF6 (j := 5) ⟨by decide, rfl⟩ zw_295 dX6_readJoint_70 ?_
  refine zs_ishr C dX6_readJoint_73 ?_
  refine zs_iconst C dX6_readJoint_74 (by decide) ?_
  refine zs_iand C dX6_readJoint_75 ?_
  exact zs_if_ne C dX6_readJoint_76 (by decide) (kX6_readJoint_117 C hd1 h_X8_next g_X8_next h_X6_strengthOf g_X6_strengthOf h_X6_release g_X6_release h_X8_skip g_X8_skip h_X6_hold g_X6_hold hq) (kX6_readJoint_79 C hd1 h_X8_next g_X8_next h_X6_strengthOf g_X6_strengthOf h_X6_release g_X6_release h_X8_skip g_X8_skip h_X6_hold g_X6_hold hq)
def xX6_readJoint_60 (s_X8_next : zq_Sp) (s_X6_strengthOf : zq_Sp) (s_X6_release : zq_Sp) (s_X8_skip : zq_Sp) (s_X6_hold : zq_Sp) (Q : zq_Q) (ls : zq_L) (st : List Value) (h : zq_H) : Prop := (zi_iload 3 (zi_push (.int 1) (zi_if2 (fun x y => x = y) (xX6_readJoint_65 s_X8_next s_X6_strengthOf s_X6_release s_X8_skip s_X6_hold Q) (xX6_readJoint_117 s_X8_next s_X6_strengthOf s_X6_release s_X8_skip s_X6_hold Q)))) ls st h
theorem kX6_readJoint_60 {X : zq_X} {d : Nat} (C : zq_C X cX6_readJoint 4 RX6 d) (hd1 : 1 ≤ d) {d_X8_next : Nat} {s_X8_next : zq_Sp} (h_X8_next : zq_M yX8_next cX8_next 1 (some .int) 1 d_X8_next s_X8_next) (g_X8_next : d_X8_next + 1 ≤ d) {d_X6_strengthOf : Nat} {s_X6_strengthOf : zq_Sp} (h_X6_strengthOf : zq_M yX6_strengthOf cX6_strengthOf 1 (some .int) 1 d_X6_strengthOf s_X6_strengthOf) (g_X6_strengthOf : d_X6_strengthOf + 1 ≤ d) {d_X6_release : Nat} {s_X6_release : zq_Sp} (h_X6_release : zq_M yX6_release cX6_release 2 none 0 d_X6_release s_X6_release) (g_X6_release : d_X6_release + 1 ≤ d) {d_X8_skip : Nat} {s_X8_skip : zq_Sp} (h_X8_skip : zq_M yX8_skip cX8_skip 2 (some .boolean) 1 d_X8_skip s_X8_skip) (g_X8_skip : d_X8_skip + 1 ≤ d) {d_X6_hold : Nat} {s_X6_hold : zq_Sp} (h_X6_hold : zq_M yX6_hold cX6_hold 2 none 0 d_X6_hold s_X6_hold) (g_X6_hold : d_X6_hold + 1 ≤ d) {Q : zq_Q} (hq : zq_R X (some .boolean) 1 Q) : zq_ok X 4 60 (xX6_readJoint_60 s_X8_next s_X6_strengthOf s_X6_release s_X8_skip s_X6_hold Q) := by
  refine zs_iload_n C dX6_readJoint_60 rfl ?_
  refine zs_iconst C dX6_readJoint_61 (by decide) ?_
  exact zs_icmp_ne C dX6_readJoint_62 (by decide) (kX6_readJoint_117 C hd1 h_X8_next g_X8_next h_X6_strengthOf g_X6_strengthOf h_X6_release g_X6_release h_X8_skip g_X8_skip h_X6_hold g_X6_hold hq) (kX6_readJoint_65 C hd1 h_X8_next g_X8_next h_X6_strengthOf g_X6_strengthOf h_X6_release g_X6_release h_X8_skip g_X8_skip h_X6_hold g_X6_hold hq)
def xX6_readJoint_55 (s_X8_next : zq_Sp) (s_X6_strengthOf : zq_Sp) (s_X6_release : zq_Sp) (s_X8_skip : zq_Sp) (s_X6_hold : zq_Sp) (Q : zq_Q) (ls : zq_L) (st : List Value) (h : zq_H) : Prop := (zi_iload 3 (zi_push (.int 1) (zi_if2 (fun x y => y < x) (xX6_readJoint_79 s_X8_next s_X6_strengthOf s_X6_release s_X8_skip s_X6_hold Q) (xX6_readJoint_60 s_X8_next s_X6_strengthOf s_X6_release s_X8_skip s_X6_hold Q)))) ls st h
theorem kX6_readJoint_55 {X : zq_X} {d : Nat} (C : zq_C X cX6_readJoint 4 RX6 d) (hd1 : 1 ≤ d) {d_X8_next : Nat} {s_X8_next : zq_Sp} (h_X8_next : zq_M yX8_next cX8_next 1 (some .int) 1 d_X8_next s_X8_next) (g_X8_next : d_X8_next + 1 ≤ d) {d_X6_strengthOf : Nat} {s_X6_strengthOf : zq_Sp} (h_X6_strengthOf : zq_M yX6_strengthOf cX6_strengthOf 1 (some .int) 1 d_X6_strengthOf s_X6_strengthOf) (g_X6_strengthOf : d_X6_strengthOf + 1 ≤ d) {d_X6_release : Nat} {s_X6_release : zq_Sp} (h_X6_release : zq_M yX6_release cX6_release 2 none 0 d_X6_release s_X6_release) (g_X6_release : d_X6_release + 1 ≤ d) {d_X8_skip : Nat} {s_X8_skip : zq_Sp} (h_X8_skip : zq_M yX8_skip cX8_skip 2 (some .boolean) 1 d_X8_skip s_X8_skip) (g_X8_skip : d_X8_skip + 1 ≤ d) {d_X6_hold : Nat} {s_X6_hold : zq_Sp} (h_X6_hold : zq_M yX6_hold cX6_hold 2 none 0 d_X6_hold s_X6_hold) (g_X6_hold : d_X6_hold + 1 ≤ d) {Q : zq_Q} (hq : zq_R X (some .boolean) 1 Q) : zq_ok X 4 55 (xX6_readJoint_55 s_X8_next s_X6_strengthOf s_X6_release s_X8_skip s_X6_hold Q) := by
  refine zs_iload_n C dX6_readJoint_55 rfl ?_
  refine zs_iconst C dX6_readJoint_56 (by decide) ?_
  exact zs_icmp_gt C dX6_readJoint_57 (by decide) (kX6_readJoint_79 C hd1 h_X8_next g_X8_next h_X6_strengthOf g_X6_strengthOf h_X6_release g_X6_release h_X8_skip g_X8_skip h_X6_hold g_X6_hold hq) (kX6_readJoint_60 C hd1 h_X8_next g_X8_next h_X6_strengthOf g_X6_strengthOf h_X6_release g_X6_release h_X8_skip g_X8_skip h_X6_hold g_X6_hold hq)
def xX6_readJoint_23 (s_X8_next : zq_Sp) (s_X6_strengthOf : zq_Sp) (s_X6_release : zq_Sp) (s_X8_skip : zq_Sp) (s_X6_hold : zq_Sp) (Q : zq_Q) (ls : zq_L) (st : List Value) (h : zq_H) : Prop := (zi_aload 0 (zi_push (.int 1) (zi_callV 1 52 s_X6_release (zi_aload 0 (zi_push (.int 0) (zi_aload 0 (zi_getI 52 4 (zi_push (.int 1) (zi_i2 (fun x y => x - y) (zi_m2 zf_max (zi_putI 52 4 (zi_aload 0 (zi_dup (zi_getI 52 5 (zi_push (.int 1) (zi_i2 (fun x y => x - y) (zi_putI 52 5 ((xX6_readJoint_119 s_X8_next s_X6_strengthOf s_X6_release s_X8_skip s_X6_hold Q))))))))))))))))))) ls st h
theorem kX6_readJoint_23 {X : zq_X} {d : Nat} (C : zq_C X cX6_readJoint 4 RX6 d) (hd1 : 1 ≤ d) {d_X8_next : Nat} {s_X8_next : zq_Sp} (h_X8_next : zq_M yX8_next cX8_next 1 (some .int) 1 d_X8_next s_X8_next) (g_X8_next : d_X8_next + 1 ≤ d) {d_X6_strengthOf : Nat} {s_X6_strengthOf : zq_Sp} (h_X6_strengthOf : zq_M yX6_strengthOf cX6_strengthOf 1 (some .int) 1 d_X6_strengthOf s_X6_strengthOf) (g_X6_strengthOf : d_X6_strengthOf + 1 ≤ d) {d_X6_release : Nat} {s_X6_release : zq_Sp} (h_X6_release : zq_M yX6_release cX6_release 2 none 0 d_X6_release s_X6_release) (g_X6_release : d_X6_release + 1 ≤ d) {d_X8_skip : Nat} {s_X8_skip : zq_Sp} (h_X8_skip : zq_M yX8_skip cX8_skip 2 (some .boolean) 1 d_X8_skip s_X8_skip) (g_X8_skip : d_X8_skip + 1 ≤ d) {d_X6_hold : Nat} {s_X6_hold : zq_Sp} (h_X6_hold : zq_M yX6_hold cX6_hold 2 none 0 d_X6_hold s_X6_hold) (g_X6_hold : d_X6_hold + 1 ≤ d) {Q : zq_Q} (hq : zq_R X (some .boolean) 1 Q) : zq_ok X 4 23 (xX6_readJoint_23 s_X8_next s_X6_strengthOf s_X6_release s_X8_skip s_X6_hold Q) := by
  refine zs_aload_n C dX6_readJoint_23 rfl ?_
  refine zs_iconst C dX6_readJoint_24 (by decide) ?_
  refine zs_callV C h_X6_release g_X6_release zy_X6_release zp_52 (show vwCl[6]? = some (RX6, TX6, 8) from rfl) zw_538 zw_540 zs9_X6_release dX6_readJoint_25 ?_
  refine zs_aload_n C dX6_readJoint_28 rfl ?_
  refine zs_iconst C dX6_readJoint_29 (by decide) ?_
  refine zs_aload_n C dX6_readJoint_30 rfl ?_
  refine zs_getI C zp_52 zF6 (j := 4) ⟨by decide, rfl⟩ zw_294 dX6_readJoint_31 ?_
  refine zs_iconst C dX6_readJoint_34 (by decide) ?_
  refine zs_isub C dX6_readJoint_35 ?_
  refine zs_mmax C hd1 zw_453 zw_454 zw_14 zw_455 dX6_readJoint_36 ?_
  refine zs_putI C zp_52 zF6 (j := 4) ⟨by decide, rfl⟩ ⟨rfl, by decide +kernel⟩ zw_294 dX6_readJoint_39 ?_
  refine zs_aload_n C dX6_readJoint_42 rfl ?_
  refine zs_dup C dX6_readJoint_43 ?_
  refine zs_getI C zp_52 zF6 (j := 5) ⟨by decide, rfl⟩ zw_295 dX6_readJoint_44 ?_
  refine zs_iconst C dX6_readJoint_47 (by decide) ?_
  refine zs_isub C dX6_readJoint_48 ?_
  refine zs_putI C zp_52 zF6 (j := 5) ⟨by decide, rfl⟩ ⟨rfl, by decide +kernel⟩ zw_295 dX6_readJoint_49 ?_
  exact zs_goto C dX6_readJoint_52 (by decide) (kX6_readJoint_119 C hd1 h_X8_next g_X8_next h_X6_strengthOf g_X6_strengthOf h_X6_release g_X6_release h_X8_skip g_X8_skip h_X6_hold g_X6_hold hq)
def xX6_readJoint_16 (s_X8_next : zq_Sp) (s_X6_strengthOf : zq_Sp) (s_X6_release : zq_Sp) (s_X8_skip : zq_Sp) (s_X6_hold : zq_Sp) (Q : zq_Q) (ls : zq_L) (st : List Value) (h : zq_H) : Prop := (zi_aload 0 (zi_getI 52 5 (zi_if1 (fun x => x ≤ 0) (xX6_readJoint_55 s_X8_next s_X6_strengthOf s_X6_release s_X8_skip s_X6_hold Q) (xX6_readJoint_23 s_X8_next s_X6_strengthOf s_X6_release s_X8_skip s_X6_hold Q)))) ls st h
theorem kX6_readJoint_16 {X : zq_X} {d : Nat} (C : zq_C X cX6_readJoint 4 RX6 d) (hd1 : 1 ≤ d) {d_X8_next : Nat} {s_X8_next : zq_Sp} (h_X8_next : zq_M yX8_next cX8_next 1 (some .int) 1 d_X8_next s_X8_next) (g_X8_next : d_X8_next + 1 ≤ d) {d_X6_strengthOf : Nat} {s_X6_strengthOf : zq_Sp} (h_X6_strengthOf : zq_M yX6_strengthOf cX6_strengthOf 1 (some .int) 1 d_X6_strengthOf s_X6_strengthOf) (g_X6_strengthOf : d_X6_strengthOf + 1 ≤ d) {d_X6_release : Nat} {s_X6_release : zq_Sp} (h_X6_release : zq_M yX6_release cX6_release 2 none 0 d_X6_release s_X6_release) (g_X6_release : d_X6_release + 1 ≤ d) {d_X8_skip : Nat} {s_X8_skip : zq_Sp} (h_X8_skip : zq_M yX8_skip cX8_skip 2 (some .boolean) 1 d_X8_skip s_X8_skip) (g_X8_skip : d_X8_skip + 1 ≤ d) {d_X6_hold : Nat} {s_X6_hold : zq_Sp} (h_X6_hold : zq_M yX6_hold cX6_hold 2 none 0 d_X6_hold s_X6_hold) (g_X6_hold : d_X6_hold + 1 ≤ d) {Q : zq_Q} (hq : zq_R X (some .boolean) 1 Q) : zq_ok X 4 16 (xX6_readJoint_16 s_X8_next s_X6_strengthOf s_X6_release s_X8_skip s_X6_hold Q) := by
  refine zs_aload_n C dX6_readJoint_16 rfl ?_
  refine zs_getI C zp_52 zF6 (j := 5) ⟨by decide, rfl⟩ zw_295 dX6_readJoint_17 ?_
  exact zs_if_le C dX6_readJoint_20 (by decide) (kX6_readJoint_55 C hd1 h_X8_next g_X8_next h_X6_strengthOf g_X6_strengthOf h_X6_release g_X6_release h_X8_skip g_X8_skip h_X6_hold g_X6_hold hq) (kX6_readJoint_23 C hd1 h_X8_next g_X8_next h_X6_strengthOf g_X6_strengthOf h_X6_release g_X6_release h_X8_skip g_X8_skip h_X6_hold g_X6_hold hq)
def xX6_readJoint_0 (s_X8_next : zq_Sp) (s_X6_strengthOf : zq_Sp) (s_X6_release : zq_Sp) (s_X8_skip : zq_Sp) (s_X6_hold : zq_Sp) (Q : zq_Q) (ls : zq_L) (st : List Value) (h : zq_H) : Prop := (zi_aload 1 (zi_callV 0 1 s_X8_next (zi_istore 2 (zi_iload 2 (zi_callS 1 s_X6_strengthOf (zi_istore 3 (zi_iload 2 (zi_push (.int 41) (zi_if2 (fun x y => x = y) (xX6_readJoint_16 s_X8_next s_X6_strengthOf s_X6_release s_X8_skip s_X6_hold Q) (xX6_readJoint_55 s_X8_next s_X6_strengthOf s_X6_release s_X8_skip s_X6_hold Q)))))))))) ls st h
theorem kX6_readJoint_0 {X : zq_X} {d : Nat} (C : zq_C X cX6_readJoint 4 RX6 d) (hd1 : 1 ≤ d) {d_X8_next : Nat} {s_X8_next : zq_Sp} (h_X8_next : zq_M yX8_next cX8_next 1 (some .int) 1 d_X8_next s_X8_next) (g_X8_next : d_X8_next + 1 ≤ d) {d_X6_strengthOf : Nat} {s_X6_strengthOf : zq_Sp} (h_X6_strengthOf : zq_M yX6_strengthOf cX6_strengthOf 1 (some .int) 1 d_X6_strengthOf s_X6_strengthOf) (g_X6_strengthOf : d_X6_strengthOf + 1 ≤ d) {d_X6_release : Nat} {s_X6_release : zq_Sp} (h_X6_release : zq_M yX6_release cX6_release 2 none 0 d_X6_release s_X6_release) (g_X6_release : d_X6_release + 1 ≤ d) {d_X8_skip : Nat} {s_X8_skip : zq_Sp} (h_X8_skip : zq_M yX8_skip cX8_skip 2 (some .boolean) 1 d_X8_skip s_X8_skip) (g_X8_skip : d_X8_skip + 1 ≤ d) {d_X6_hold : Nat} {s_X6_hold : zq_Sp} (h_X6_hold : zq_M yX6_hold cX6_hold 2 none 0 d_X6_hold s_X6_hold) (g_X6_hold : d_X6_hold + 1 ≤ d) {Q : zq_Q} (hq : zq_R X (some .boolean) 1 Q) : zq_ok X 4 0 (xX6_readJoint_0 s_X8_next s_X6_strengthOf s_X6_release s_X8_skip s_X6_hold Q) := by
  refine zs_aload_n C dX6_readJoint_0 rfl ?_
  refine zs_callV C h_X8_next g_X8_next zy_X8_next zp_1 (show vwCl[8]? = some (RX8, TX8, 4) from rfl) zw_512 zw_404 zs9_X8_next dX6_readJoint_1 ?_
  refine zs_istore_n C dX6_readJoint_4 rfl (by decide) ?_
  refine zs_iload_n C dX6_readJoint_5 rfl ?_
  refine zs_callS C h_X6_strengthOf g_X6_strengthOf zy_X6_strengthOf zw_443 zw_444 dX6_readJoint_6 ?_
  refine zs_istore_n C dX6_readJoint_9 rfl (by decide) ?_
  refine zs_iload_n C dX6_readJoint_10 rfl ?_
  refine zs_bipush C dX6_readJoint_11 (by decide) ?_
  exact zs_icmp_ne C dX6_readJoint_13 (by decide) (kX6_readJoint_55 C hd1 h_X8_next g_X8_next h_X6_strengthOf g_X6_strengthOf h_X6_release g_X6_release h_X8_skip g_X8_skip h_X6_hold g_X6_hold hq) (kX6_readJoint_16 C hd1 h_X8_next g_X8_next h_X6_strengthOf g_X6_strengthOf h_X6_release g_X6_release h_X8_skip g_X8_skip h_X6_hold g_X6_hold hq)
theorem mX6_readJoint {d : Nat} {spec : zq_Sp} {d_X8_next : Nat} {s_X8_next : zq_Sp} (h_X8_next : zq_M yX8_next cX8_next 1 (some .int) 1 d_X8_next s_X8_next) (g_X8_next : d_X8_next + 1 ≤ d) {d_X6_strengthOf : Nat} {s_X6_strengthOf : zq_Sp} (h_X6_strengthOf : zq_M yX6_strengthOf cX6_strengthOf 1 (some .int) 1 d_X6_strengthOf s_X6_strengthOf) (g_X6_strengthOf : d_X6_strengthOf + 1 ≤ d) {d_X6_release : Nat} {s_X6_release : zq_Sp} (h_X6_release : zq_M yX6_release cX6_release 2 none 0 d_X6_release s_X6_release) (g_X6_release : d_X6_release + 1 ≤ d) {d_X8_skip : Nat} {s_X8_skip : zq_Sp} (h_X8_skip : zq_M yX8_skip cX8_skip 2 (some .boolean) 1 d_X8_skip s_X8_skip) (g_X8_skip : d_X8_skip + 1 ≤ d) {d_X6_hold : Nat} {s_X6_hold : zq_Sp} (h_X6_hold : zq_M yX6_hold cX6_hold 2 none 0 d_X6_hold s_X6_hold) (g_X6_hold : d_X6_hold + 1 ≤ d) (hd1 : 1 ≤ d) (v : ∀ args h Q, spec args h Q → (zq_a args).length ≤ 4 ∧ xX6_readJoint_0 s_X8_next s_X6_strengthOf s_X6_release s_X8_skip s_X6_hold Q (zq_l0 4 args) [] h) : zq_M yX6_readJoint cX6_readJoint 4 (some .boolean) 1 d spec := by
  refine zq_met (by decide +kernel) (by decide) (fun X Q args h C hq hs => ⟨(v args h Q hs).1, _, ?_, (v args h Q hs).2⟩)
  exact kX6_readJoint_0 C hd1 h_X8_next g_X8_next h_X6_strengthOf g_X6_strengthOf h_X6_release g_X6_release h_X8_skip g_X8_skip h_X6_hold g_X6_hold hq
/-! ToOneCrumb$Rule.isLetter(I)Z -/
theorem dX6_isLetter_0 : decode cX6_isLetter 0 = .ok (.iload_n 0, 1) := by decide +kernel
theorem dX6_isLetter_1 : decode cX6_isLetter 1 = .ok (.tableswitch 89 97 114 #[87, 87, 87, 87, 87, 89, 89, 89, 87, 89, 87, 89, 89, 89, 89, 87, 89, 87], 87) := by decide +kernel
theorem dX6_isLetter_88 : decode cX6_isLetter 88 = .ok (.iconst 1, 1) := by decide +kernel
theorem dX6_isLetter_89 : decode cX6_isLetter 89 = .ok (.ireturn, 1) := by decide +kernel
theorem dX6_isLetter_90 : decode cX6_isLetter 90 = .ok (.iconst 0, 1) := by decide +kernel
theorem dX6_isLetter_91 : decode cX6_isLetter 91 = .ok (.ireturn, 1) := by decide +kernel
def xX6_isLetter_90 (Q : zq_Q) (ls : zq_L) (st : List Value) (h : zq_H) : Prop := (zi_push (.int 0) (zi_zret Q)) ls st h
theorem kX6_isLetter_90 {X : zq_X} {d : Nat} (C : zq_C X cX6_isLetter 1 RX6 d) {Q : zq_Q} (hq : zq_R X (some .boolean) 1 Q) : zq_ok X 1 90 (xX6_isLetter_90 Q) := by
  refine zs_iconst C dX6_isLetter_90 (by decide) ?_
  exact zs_zret C hq dX6_isLetter_91
def xX6_isLetter_88 (Q : zq_Q) (ls : zq_L) (st : List Value) (h : zq_H) : Prop := (zi_push (.int 1) (zi_zret Q)) ls st h
theorem kX6_isLetter_88 {X : zq_X} {d : Nat} (C : zq_C X cX6_isLetter 1 RX6 d) {Q : zq_Q} (hq : zq_R X (some .boolean) 1 Q) : zq_ok X 1 88 (xX6_isLetter_88 Q) := by
  refine zs_iconst C dX6_isLetter_88 (by decide) ?_
  exact zs_zret C hq dX6_isLetter_89
def xX6_isLetter_0 (Q : zq_Q) (ls : zq_L) (st : List Value) (h : zq_H) : Prop := (zi_iload 0 (zi_sw [(97, (xX6_isLetter_88 Q)), (98, (xX6_isLetter_88 Q)), (99, (xX6_isLetter_88 Q)), (100, (xX6_isLetter_88 Q)), (101, (xX6_isLetter_88 Q)), (102, (xX6_isLetter_90 Q)), (103, (xX6_isLetter_90 Q)), (104, (xX6_isLetter_90 Q)), (105, (xX6_isLetter_88 Q)), (106, (xX6_isLetter_90 Q)), (107, (xX6_isLetter_88 Q)), (108, (xX6_isLetter_90 Q)), (109, (xX6_isLetter_90 Q)), (110, (xX6_isLetter_90 Q)), (111, (xX6_isLetter_90 Q)), (112, (xX6_isLetter_88 Q)), (113, (xX6_isLetter_90 Q)), (114, (xX6_isLetter_88 Q))] (xX6_isLetter_90 Q))) ls st h
theorem kX6_isLetter_0 {X : zq_X} {d : Nat} (C : zq_C X cX6_isLetter 1 RX6 d) {Q : zq_Q} (hq : zq_R X (some .boolean) 1 Q) : zq_ok X 1 0 (xX6_isLetter_0 Q) := by
  refine zs_iload_n C dX6_isLetter_0 rfl ?_
  exact zs_tsw C dX6_isLetter_1 (by rfl) ⟨⟨by decide, _, _, rfl, by decide, kX6_isLetter_88 C hq⟩, ⟨by decide, _, _, rfl, by decide, kX6_isLetter_88 C hq⟩, ⟨by decide, _, _, rfl, by decide, kX6_isLetter_88 C hq⟩, ⟨by decide, _, _, rfl, by decide, kX6_isLetter_88 C hq⟩, ⟨by decide, _, _, rfl, by decide, kX6_isLetter_88 C hq⟩, ⟨by decide, _, _, rfl, by decide, kX6_isLetter_90 C hq⟩, ⟨by decide, _, _, rfl, by decide, kX6_isLetter_90 C hq⟩, ⟨by decide, _, _, rfl, by decide, kX6_isLetter_90 C hq⟩, ⟨by decide, _, _, rfl, by decide, kX6_isLetter_88 C hq⟩, ⟨by decide, _, _, rfl, by decide, kX6_isLetter_90 C hq⟩, ⟨by decide, _, _, rfl, by decide, kX6_isLetter_88 C hq⟩, ⟨by decide, _, _, rfl, by decide, kX6_isLetter_90 C hq⟩, ⟨by decide, _, _, rfl, by decide, kX6_isLetter_90 C hq⟩, ⟨by decide, _, _, rfl, by decide, kX6_isLetter_90 C hq⟩, ⟨by decide, _, _, rfl, by decide, kX6_isLetter_90 C hq⟩, ⟨by decide, _, _, rfl, by decide, kX6_isLetter_88 C hq⟩, ⟨by decide, _, _, rfl, by decide, kX6_isLetter_90 C hq⟩, ⟨by decide, _, _, rfl, by decide, kX6_isLetter_88 C hq⟩, trivial⟩ (by decide) (kX6_isLetter_90 C hq)
theorem mX6_isLetter {d : Nat} {spec : zq_Sp} (v : ∀ args h Q, spec args h Q → (zq_a args).length ≤ 1 ∧ xX6_isLetter_0 Q (zq_l0 1 args) [] h) : zq_M yX6_isLetter cX6_isLetter 1 (some .boolean) 1 d spec := by
  refine zq_met (by decide +kernel) (by decide) (fun X Q args h C hq hs => ⟨(v args h Q hs).1, _, ?_, (v args h Q hs).2⟩)
  exact kX6_isLetter_0 C hq
/-! ToOneCrumb$Rule.strengthOf(I)I -/
theorem dX6_strengthOf_0 : decode cX6_strengthOf 0 = .ok (.iload_n 0, 1) := by decide +kernel
theorem dX6_strengthOf_1 : decode cX6_strengthOf 1 = .ok (.lookupswitch 83 #[(42, 79), (43, 77), (45, 77), (47, 79), (60, 75), (61, 75), (62, 75), (256, 81)], 75) := by decide +kernel
theorem dX6_strengthOf_76 : decode cX6_strengthOf 76 = .ok (.iconst 1, 1) := by decide +kernel
theorem dX6_strengthOf_77 : decode cX6_strengthOf 77 = .ok (.ireturn, 1) := by decide +kernel
theorem dX6_strengthOf_78 : decode cX6_strengthOf 78 = .ok (.iconst 2, 1) := by decide +kernel
theorem dX6_strengthOf_79 : decode cX6_strengthOf 79 = .ok (.ireturn, 1) := by decide +kernel
theorem dX6_strengthOf_80 : decode cX6_strengthOf 80 = .ok (.iconst 3, 1) := by decide +kernel
theorem dX6_strengthOf_81 : decode cX6_strengthOf 81 = .ok (.ireturn, 1) := by decide +kernel
theorem dX6_strengthOf_82 : decode cX6_strengthOf 82 = .ok (.iconst 4, 1) := by decide +kernel
theorem dX6_strengthOf_83 : decode cX6_strengthOf 83 = .ok (.ireturn, 1) := by decide +kernel
theorem dX6_strengthOf_84 : decode cX6_strengthOf 84 = .ok (.iconst 0, 1) := by decide +kernel
theorem dX6_strengthOf_85 : decode cX6_strengthOf 85 = .ok (.ireturn, 1) := by decide +kernel
def xX6_strengthOf_84 (Q : zq_Q) (ls : zq_L) (st : List Value) (h : zq_H) : Prop := (zi_push (.int 0) (zi_iret Q)) ls st h
theorem kX6_strengthOf_84 {X : zq_X} {d : Nat} (C : zq_C X cX6_strengthOf 1 RX6 d) {Q : zq_Q} (hq : zq_R X (some .int) 1 Q) : zq_ok X 1 84 (xX6_strengthOf_84 Q) := by
  refine zs_iconst C dX6_strengthOf_84 (by decide) ?_
  exact zs_iret C hq dX6_strengthOf_85
def xX6_strengthOf_82 (Q : zq_Q) (ls : zq_L) (st : List Value) (h : zq_H) : Prop := (zi_push (.int 4) (zi_iret Q)) ls st h
theorem kX6_strengthOf_82 {X : zq_X} {d : Nat} (C : zq_C X cX6_strengthOf 1 RX6 d) {Q : zq_Q} (hq : zq_R X (some .int) 1 Q) : zq_ok X 1 82 (xX6_strengthOf_82 Q) := by
  refine zs_iconst C dX6_strengthOf_82 (by decide) ?_
  exact zs_iret C hq dX6_strengthOf_83
def xX6_strengthOf_80 (Q : zq_Q) (ls : zq_L) (st : List Value) (h : zq_H) : Prop := (zi_push (.int 3) (zi_iret Q)) ls st h
theorem kX6_strengthOf_80 {X : zq_X} {d : Nat} (C : zq_C X cX6_strengthOf 1 RX6 d) {Q : zq_Q} (hq : zq_R X (some .int) 1 Q) : zq_ok X 1 80 (xX6_strengthOf_80 Q) := by
  refine zs_iconst C dX6_strengthOf_80 (by decide) ?_
  exact zs_iret C hq dX6_strengthOf_81
def xX6_strengthOf_78 (Q : zq_Q) (ls : zq_L) (st : List Value) (h : zq_H) : Prop := (zi_push (.int 2) (zi_iret Q)) ls st h
theorem kX6_strengthOf_78 {X : zq_X} {d : Nat} (C : zq_C X cX6_strengthOf 1 RX6 d) {Q : zq_Q} (hq : zq_R X (some .int) 1 Q) : zq_ok X 1 78 (xX6_strengthOf_78 Q) := by
  refine zs_iconst C dX6_strengthOf_78 (by decide) ?_
  exact zs_iret C hq dX6_strengthOf_79
def xX6_strengthOf_76 (Q : zq_Q) (ls : zq_L) (st : List Value) (h : zq_H) : Prop := (zi_push (.int 1) (zi_iret Q)) ls st h
theorem kX6_strengthOf_76 {X : zq_X} {d : Nat} (C : zq_C X cX6_strengthOf 1 RX6 d) {Q : zq_Q} (hq : zq_R X (some .int) 1 Q) : zq_ok X 1 76 (xX6_strengthOf_76 Q) := by
  refine zs_iconst C dX6_strengthOf_76 (by decide) ?_
  exact zs_iret C hq dX6_strengthOf_77
def xX6_strengthOf_0 (Q : zq_Q) (ls : zq_L) (st : List Value) (h : zq_H) : Prop := (zi_iload 0 (zi_sw [(42, (xX6_strengthOf_80 Q)), (43, (xX6_strengthOf_78 Q)), (45, (xX6_strengthOf_78 Q)), (47, (xX6_strengthOf_80 Q)), (60, (xX6_strengthOf_76 Q)), (61, (xX6_strengthOf_76 Q)), (62, (xX6_strengthOf_76 Q)), (256, (xX6_strengthOf_82 Q))] (xX6_strengthOf_84 Q))) ls st h
theorem kX6_strengthOf_0 {X : zq_X} {d : Nat} (C : zq_C X cX6_strengthOf 1 RX6 d) {Q : zq_Q} (hq : zq_R X (some .int) 1 Q) : zq_ok X 1 0 (xX6_strengthOf_0 Q) := by
  refine zs_iload_n C dX6_strengthOf_0 rfl ?_
  exact zs_lsw C dX6_strengthOf_1 (by decide) ⟨⟨by decide, _, by decide, kX6_strengthOf_80 C hq⟩, ⟨by decide, _, by decide, kX6_strengthOf_78 C hq⟩, ⟨by decide, _, by decide, kX6_strengthOf_78 C hq⟩, ⟨by decide, _, by decide, kX6_strengthOf_80 C hq⟩, ⟨by decide, _, by decide, kX6_strengthOf_76 C hq⟩, ⟨by decide, _, by decide, kX6_strengthOf_76 C hq⟩, ⟨by decide, _, by decide, kX6_strengthOf_76 C hq⟩, ⟨by decide, _, by decide, kX6_strengthOf_82 C hq⟩, trivial⟩ (by decide) (kX6_strengthOf_84 C hq)
theorem mX6_strengthOf {d : Nat} {spec : zq_Sp} (v : ∀ args h Q, spec args h Q → (zq_a args).length ≤ 1 ∧ xX6_strengthOf_0 Q (zq_l0 1 args) [] h) : zq_M yX6_strengthOf cX6_strengthOf 1 (some .int) 1 d spec := by
  refine zq_met (by decide +kernel) (by decide) (fun X Q args h C hq hs => ⟨(v args h Q hs).1, _, ?_, (v args h Q hs).2⟩)
  exact kX6_strengthOf_0 C hq
/-! ToOneCrumb$Rule.hold(I)V -/
theorem dX6_hold_0 : decode cX6_hold 0 = .ok (.aload_n 0, 1) := by decide +kernel
theorem dX6_hold_1 : decode cX6_hold 1 = .ok (.getfield 25, 3) := by decide +kernel
theorem dX6_hold_4 : decode cX6_hold 4 = .ok (.aload_n 0, 1) := by decide +kernel
theorem dX6_hold_5 : decode cX6_hold 5 = .ok (.getfield 15, 3) := by decide +kernel
theorem dX6_hold_8 : decode cX6_hold 8 = .ok (.arraylength, 1) := by decide +kernel
theorem dX6_hold_9 : decode cX6_hold 9 = .ok (.if_icmp .ge 23, 3) := by decide +kernel
theorem dX6_hold_12 : decode cX6_hold 12 = .ok (.aload_n 0, 1) := by decide +kernel
theorem dX6_hold_13 : decode cX6_hold 13 = .ok (.getfield 15, 3) := by decide +kernel
theorem dX6_hold_16 : decode cX6_hold 16 = .ok (.aload_n 0, 1) := by decide +kernel
theorem dX6_hold_17 : decode cX6_hold 17 = .ok (.getfield 25, 3) := by decide +kernel
theorem dX6_hold_20 : decode cX6_hold 20 = .ok (.iload_n 1, 1) := by decide +kernel
theorem dX6_hold_21 : decode cX6_hold 21 = .ok (.iastore, 1) := by decide +kernel
theorem dX6_hold_22 : decode cX6_hold 22 = .ok (.aload_n 0, 1) := by decide +kernel
theorem dX6_hold_23 : decode cX6_hold 23 = .ok (.dup, 1) := by decide +kernel
theorem dX6_hold_24 : decode cX6_hold 24 = .ok (.getfield 25, 3) := by decide +kernel
theorem dX6_hold_27 : decode cX6_hold 27 = .ok (.iconst 1, 1) := by decide +kernel
theorem dX6_hold_28 : decode cX6_hold 28 = .ok (.iadd, 1) := by decide +kernel
theorem dX6_hold_29 : decode cX6_hold 29 = .ok (.putfield 25, 3) := by decide +kernel
theorem dX6_hold_32 : decode cX6_hold 32 = .ok (.return_, 1) := by decide +kernel
def xX6_hold_32 (Q : zq_Q) (ls : zq_L) (st : List Value) (h : zq_H) : Prop := (zi_vret Q) ls st h
theorem kX6_hold_32 {X : zq_X} {d : Nat} (C : zq_C X cX6_hold 2 RX6 d) {Q : zq_Q} (hq : zq_R X none 0 Q) : zq_ok X 2 32 (xX6_hold_32 Q) := by
  exact zs_vret C hq dX6_hold_32
def xX6_hold_12 (Q : zq_Q) (ls : zq_L) (st : List Value) (h : zq_H) : Prop := (zi_aload 0 (zi_getR 52 54 (zi_aload 0 (zi_getI 52 4 (zi_iload 1 (zi_astI 54 40 (zi_aload 0 (zi_dup (zi_getI 52 4 (zi_push (.int 1) (zi_i2 (fun x y => x + y) (zi_putI 52 4 ((xX6_hold_32 Q)))))))))))))) ls st h
theorem kX6_hold_12 {X : zq_X} {d : Nat} (C : zq_C X cX6_hold 2 RX6 d) {Q : zq_Q} (hq : zq_R X none 0 Q) : zq_ok X 2 12 (xX6_hold_12 Q) := by
  refine zs_aload_n C dX6_hold_12 rfl ?_
  refine zs_getR C zp_52 zF6 (j := 1) ⟨by decide, rfl⟩ zw_291 dX6_hold_13 ?_
  refine zs_aload_n C dX6_hold_16 rfl ?_
  refine zs_getI C zp_52 zF6 (j := 4) ⟨by decide, rfl⟩ zw_294 dX6_hold_17 ?_
  refine zs_iload_n C dX6_hold_20 rfl ?_
  refine zs_iastore C zp_54 dX6_hold_21 ?_
  refine zs_aload_n C dX6_hold_22 rfl ?_
  refine zs_dup C dX6_hold_23 ?_
  refine zs_getI C zp_52 zF6 (j := 4) ⟨by decide, rfl⟩ zw_294 dX6_hold_24 ?_
  refine zs_iconst C dX6_hold_27 (by decide) ?_
  refine zs_iadd C dX6_hold_28 ?_
  refine zs_putI C zp_52 zF6 (j := 4) ⟨by decide, rfl⟩ ⟨rfl, by decide +kernel⟩ zw_294 dX6_hold_29 ?_
  exact kX6_hold_32 C hq
def xX6_hold_0 (Q : zq_Q) (ls : zq_L) (st : List Value) (h : zq_H) : Prop := (zi_aload 0 (zi_getI 52 4 (zi_aload 0 (zi_getR 52 54 (zi_alen 54 40 (zi_if2 (fun x y => y ≤ x) (xX6_hold_32 Q) (xX6_hold_12 Q))))))) ls st h
theorem kX6_hold_0 {X : zq_X} {d : Nat} (C : zq_C X cX6_hold 2 RX6 d) {Q : zq_Q} (hq : zq_R X none 0 Q) : zq_ok X 2 0 (xX6_hold_0 Q) := by
  refine zs_aload_n C dX6_hold_0 rfl ?_
  refine zs_getI C zp_52 zF6 (j := 4) ⟨by decide, rfl⟩ zw_294 dX6_hold_1 ?_
  refine zs_aload_n C dX6_hold_4 rfl ?_
  refine zs_getR C zp_52 zF6 (j := 1) ⟨by decide, rfl⟩ zw_291 dX6_hold_5 ?_
  refine zs_alen C (Or.inl zp_54) dX6_hold_8 ?_
  exact zs_icmp_ge C dX6_hold_9 (by decide) (kX6_hold_32 C hq) (kX6_hold_12 C hq)
theorem mX6_hold {d : Nat} {spec : zq_Sp} (v : ∀ args h Q, spec args h Q → (zq_a args).length ≤ 2 ∧ xX6_hold_0 Q (zq_l0 2 args) [] h) : zq_M yX6_hold cX6_hold 2 none 0 d spec := by
  refine zq_met (by decide +kernel) (by decide) (fun X Q args h C hq hs => ⟨(v args h Q hs).1, _, ?_, (v args h Q hs).2⟩)
  exact kX6_hold_0 C hq
/-! ToOneCrumb$Rule.addStep(I)V -/
theorem dX6_addStep_0 : decode cX6_addStep 0 = .ok (.aload_n 0, 1) := by decide +kernel
theorem dX6_addStep_1 : decode cX6_addStep 1 = .ok (.getfield 21, 3) := by decide +kernel
theorem dX6_addStep_4 : decode cX6_addStep 4 = .ok (.aload_n 0, 1) := by decide +kernel
theorem dX6_addStep_5 : decode cX6_addStep 5 = .ok (.getfield 11, 3) := by decide +kernel
theorem dX6_addStep_8 : decode cX6_addStep 8 = .ok (.arraylength, 1) := by decide +kernel
theorem dX6_addStep_9 : decode cX6_addStep 9 = .ok (.if_icmp .ge 23, 3) := by decide +kernel
theorem dX6_addStep_12 : decode cX6_addStep 12 = .ok (.aload_n 0, 1) := by decide +kernel
theorem dX6_addStep_13 : decode cX6_addStep 13 = .ok (.getfield 11, 3) := by decide +kernel
theorem dX6_addStep_16 : decode cX6_addStep 16 = .ok (.aload_n 0, 1) := by decide +kernel
theorem dX6_addStep_17 : decode cX6_addStep 17 = .ok (.getfield 21, 3) := by decide +kernel
theorem dX6_addStep_20 : decode cX6_addStep 20 = .ok (.iload_n 1, 1) := by decide +kernel
theorem dX6_addStep_21 : decode cX6_addStep 21 = .ok (.iastore, 1) := by decide +kernel
theorem dX6_addStep_22 : decode cX6_addStep 22 = .ok (.aload_n 0, 1) := by decide +kernel
theorem dX6_addStep_23 : decode cX6_addStep 23 = .ok (.dup, 1) := by decide +kernel
theorem dX6_addStep_24 : decode cX6_addStep 24 = .ok (.getfield 21, 3) := by decide +kernel
theorem dX6_addStep_27 : decode cX6_addStep 27 = .ok (.iconst 1, 1) := by decide +kernel
theorem dX6_addStep_28 : decode cX6_addStep 28 = .ok (.iadd, 1) := by decide +kernel
theorem dX6_addStep_29 : decode cX6_addStep 29 = .ok (.putfield 21, 3) := by decide +kernel
theorem dX6_addStep_32 : decode cX6_addStep 32 = .ok (.return_, 1) := by decide +kernel
def xX6_addStep_32 (Q : zq_Q) (ls : zq_L) (st : List Value) (h : zq_H) : Prop := (zi_vret Q) ls st h
theorem kX6_addStep_32 {X : zq_X} {d : Nat} (C : zq_C X cX6_addStep 2 RX6 d) {Q : zq_Q} (hq : zq_R X none 0 Q) : zq_ok X 2 32 (xX6_addStep_32 Q) := by
  exact zs_vret C hq dX6_addStep_32
def xX6_addStep_12 (Q : zq_Q) (ls : zq_L) (st : List Value) (h : zq_H) : Prop := (zi_aload 0 (zi_getR 52 53 (zi_aload 0 (zi_getI 52 3 (zi_iload 1 (zi_astI 53 40 (zi_aload 0 (zi_dup (zi_getI 52 3 (zi_push (.int 1) (zi_i2 (fun x y => x + y) (zi_putI 52 3 ((xX6_addStep_32 Q)))))))))))))) ls st h
theorem kX6_addStep_12 {X : zq_X} {d : Nat} (C : zq_C X cX6_addStep 2 RX6 d) {Q : zq_Q} (hq : zq_R X none 0 Q) : zq_ok X 2 12 (xX6_addStep_12 Q) := by
  refine zs_aload_n C dX6_addStep_12 rfl ?_
  refine zs_getR C zp_52 zF6 (j := 0) ⟨by decide, rfl⟩ zw_290 dX6_addStep_13 ?_
  refine zs_aload_n C dX6_addStep_16 rfl ?_
  refine zs_getI C zp_52 zF6 (j := 3) ⟨by decide, rfl⟩ zw_293 dX6_addStep_17 ?_
  refine zs_iload_n C dX6_addStep_20 rfl ?_
  refine zs_iastore C zp_53 dX6_addStep_21 ?_
  refine zs_aload_n C dX6_addStep_22 rfl ?_
  refine zs_dup C dX6_addStep_23 ?_
  refine zs_getI C zp_52 zF6 (j := 3) ⟨by decide, rfl⟩ zw_293 dX6_addStep_24 ?_
  refine zs_iconst C dX6_addStep_27 (by decide) ?_
  refine zs_iadd C dX6_addStep_28 ?_
  refine zs_putI C zp_52 zF6 (j := 3) ⟨by decide, rfl⟩ ⟨rfl, by decide +kernel⟩ zw_293 dX6_addStep_29 ?_
  exact kX6_addStep_32 C hq
def xX6_addStep_0 (Q : zq_Q) (ls : zq_L) (st : List Value) (h : zq_H) : Prop := (zi_aload 0 (zi_getI 52 3 (zi_aload 0 (zi_getR 52 53 (zi_alen 53 40 (zi_if2 (fun x y => y ≤ x) (xX6_addStep_32 Q) (xX6_addStep_12 Q))))))) ls st h
theorem kX6_addStep_0 {X : zq_X} {d : Nat} (C : zq_C X cX6_addStep 2 RX6 d) {Q : zq_Q} (hq : zq_R X none 0 Q) : zq_ok X 2 0 (xX6_addStep_0 Q) := by
  refine zs_aload_n C dX6_addStep_0 rfl ?_
  refine zs_getI C zp_52 zF6 (j := 3) ⟨by decide, rfl⟩ zw_293 dX6_addStep_1 ?_
  refine zs_aload_n C dX6_addStep_4 rfl ?_
  refine zs_getR C zp_52 zF6 (j := 0) ⟨by decide, rfl⟩ zw_290 dX6_addStep_5 ?_
  refine zs_alen C (Or.inl zp_53) dX6_addStep_8 ?_
  exact zs_icmp_ge C dX6_addStep_9 (by decide) (kX6_addStep_32 C hq) (kX6_addStep_12 C hq)
theorem mX6_addStep {d : Nat} {spec : zq_Sp} (v : ∀ args h Q, spec args h Q → (zq_a args).length ≤ 2 ∧ xX6_addStep_0 Q (zq_l0 2 args) [] h) : zq_M yX6_addStep cX6_addStep 2 none 0 d spec := by
  refine zq_met (by decide +kernel) (by decide) (fun X Q args h C hq hs => ⟨(v args h Q hs).1, _, ?_, (v args h Q hs).2⟩)
  exact kX6_addStep_0 C hq
/-! ToOneCrumb$Rule.release(I)V -/
theorem dX6_release_0 : decode cX6_release 0 = .ok (.aload_n 0, 1) := by decide +kernel
theorem dX6_release_1 : decode cX6_release 1 = .ok (.getfield 25, 3) := by decide +kernel
theorem dX6_release_4 : decode cX6_release 4 = .ok (.ifCond .le 51, 3) := by decide +kernel
theorem dX6_release_7 : decode cX6_release 7 = .ok (.aload_n 0, 1) := by decide +kernel
theorem dX6_release_8 : decode cX6_release 8 = .ok (.getfield 15, 3) := by decide +kernel
theorem dX6_release_11 : decode cX6_release 11 = .ok (.aload_n 0, 1) := by decide +kernel
theorem dX6_release_12 : decode cX6_release 12 = .ok (.getfield 25, 3) := by decide +kernel
theorem dX6_release_15 : decode cX6_release 15 = .ok (.iconst 1, 1) := by decide +kernel
theorem dX6_release_16 : decode cX6_release 16 = .ok (.isub, 1) := by decide +kernel
theorem dX6_release_17 : decode cX6_release 17 = .ok (.iaload, 1) := by decide +kernel
theorem dX6_release_18 : decode cX6_release 18 = .ok (.invokestatic 79, 3) := by decide +kernel
theorem dX6_release_21 : decode cX6_release 21 = .ok (.iload_n 1, 1) := by decide +kernel
theorem dX6_release_22 : decode cX6_release 22 = .ok (.if_icmp .lt 33, 3) := by decide +kernel
theorem dX6_release_25 : decode cX6_release 25 = .ok (.aload_n 0, 1) := by decide +kernel
theorem dX6_release_26 : decode cX6_release 26 = .ok (.dup, 1) := by decide +kernel
theorem dX6_release_27 : decode cX6_release 27 = .ok (.getfield 25, 3) := by decide +kernel
theorem dX6_release_30 : decode cX6_release 30 = .ok (.iconst 1, 1) := by decide +kernel
theorem dX6_release_31 : decode cX6_release 31 = .ok (.isub, 1) := by decide +kernel
theorem dX6_release_32 : decode cX6_release 32 = .ok (.putfield 25, 3) := by decide +kernel
theorem dX6_release_35 : decode cX6_release 35 = .ok (.aload_n 0, 1) := by decide +kernel
theorem dX6_release_36 : decode cX6_release 36 = .ok (.sipush 1000, 3) := by decide +kernel
theorem dX6_release_39 : decode cX6_release 39 = .ok (.aload_n 0, 1) := by decide +kernel
theorem dX6_release_40 : decode cX6_release 40 = .ok (.getfield 15, 3) := by decide +kernel
theorem dX6_release_43 : decode cX6_release 43 = .ok (.aload_n 0, 1) := by decide +kernel
theorem dX6_release_44 : decode cX6_release 44 = .ok (.getfield 25, 3) := by decide +kernel
theorem dX6_release_47 : decode cX6_release 47 = .ok (.iaload, 1) := by decide +kernel
theorem dX6_release_48 : decode cX6_release 48 = .ok (.iadd, 1) := by decide +kernel
theorem dX6_release_49 : decode cX6_release 49 = .ok (.invokevirtual 66, 3) := by decide +kernel
theorem dX6_release_52 : decode cX6_release 52 = .ok (.goto (-52), 3) := by decide +kernel
theorem dX6_release_55 : decode cX6_release 55 = .ok (.return_, 1) := by decide +kernel
def xX6_release_55 (s_X6_strengthOf : zq_Sp) (s_X6_addStep : zq_Sp) (J0 : zq_P) (Q : zq_Q) (ls : zq_L) (st : List Value) (h : zq_H) : Prop := (zi_vret Q) ls st h
theorem kX6_release_55 {X : zq_X} {d : Nat} (C : zq_C X cX6_release 2 RX6 d) {d_X6_strengthOf : Nat} {s_X6_strengthOf : zq_Sp} (h_X6_strengthOf : zq_M yX6_strengthOf cX6_strengthOf 1 (some .int) 1 d_X6_strengthOf s_X6_strengthOf) (g_X6_strengthOf : d_X6_strengthOf + 1 ≤ d) {d_X6_addStep : Nat} {s_X6_addStep : zq_Sp} (h_X6_addStep : zq_M yX6_addStep cX6_addStep 2 none 0 d_X6_addStep s_X6_addStep) (g_X6_addStep : d_X6_addStep + 1 ≤ d) {J0 : zq_P} (j0 : zq_ok X 2 0 J0) {Q : zq_Q} (hq : zq_R X none 0 Q) : zq_ok X 2 55 (xX6_release_55 s_X6_strengthOf s_X6_addStep J0 Q) := by
  exact zs_vret C hq dX6_release_55
def xX6_release_25 (s_X6_strengthOf : zq_Sp) (s_X6_addStep : zq_Sp) (J0 : zq_P) (Q : zq_Q) (ls : zq_L) (st : List Value) (h : zq_H) : Prop := (zi_aload 0 (zi_dup (zi_getI 52 4 (zi_push (.int 1) (zi_i2 (fun x y => x - y) (zi_putI 52 4 (zi_aload 0 (zi_push (.int 1000) (zi_aload 0 (zi_getR 52 54 (zi_aload 0 (zi_getI 52 4 (zi_aldI 54 40 (zi_i2 (fun x y => x + y) (zi_callV 1 52 s_X6_addStep (J0)))))))))))))))) ls st h
theorem kX6_release_25 {X : zq_X} {d : Nat} (C : zq_C X cX6_release 2 RX6 d) {d_X6_strengthOf : Nat} {s_X6_strengthOf : zq_Sp} (h_X6_strengthOf : zq_M yX6_strengthOf cX6_strengthOf 1 (some .int) 1 d_X6_strengthOf s_X6_strengthOf) (g_X6_strengthOf : d_X6_strengthOf + 1 ≤ d) {d_X6_addStep : Nat} {s_X6_addStep : zq_Sp} (h_X6_addStep : zq_M yX6_addStep cX6_addStep 2 none 0 d_X6_addStep s_X6_addStep) (g_X6_addStep : d_X6_addStep + 1 ≤ d) {J0 : zq_P} (j0 : zq_ok X 2 0 J0) {Q : zq_Q} (hq : zq_R X none 0 Q) : zq_ok X 2 25 (xX6_release_25 s_X6_strengthOf s_X6_addStep J0 Q) := by
  refine zs_aload_n C dX6_release_25 rfl ?_
  refine zs_dup C dX6_release_26 ?_
  refine zs_getI C zp_52 zF6 (j := 4) ⟨by decide, rfl⟩ zw_294 dX6_release_27 ?_
  refine zs_iconst C dX6_release_30 (by decide) ?_
  refine zs_isub C dX6_release_31 ?_
  refine zs_putI C zp_52 zF6 (j := 4) ⟨by decide, rfl⟩ ⟨rfl, by decide +kernel⟩ zw_294 dX6_release_32 ?_
  refine zs_aload_n C dX6_release_35 rfl ?_
  refine zs_sipush C dX6_release_36 (by decide) ?_
  refine zs_aload_n C dX6_release_39 rfl ?_
  refine zs_getR C zp_52 zF6 (j := 1) ⟨by decide, rfl⟩ zw_291 dX6_release_40 ?_
  refine zs_aload_n C dX6_release_43 rfl ?_
  refine zs_getI C zp_52 zF6 (j := 4) ⟨by decide, rfl⟩ zw_294 dX6_release_44 ?_
  refine zs_iaload C zp_54 dX6_release_47 ?_
  refine zs_iadd C dX6_release_48 ?_
  refine zs_callV C h_X6_addStep g_X6_addStep zy_X6_addStep zp_52 (show vwCl[6]? = some (RX6, TX6, 8) from rfl) zw_522 zw_524 zs9_X6_addStep dX6_release_49 ?_
  exact zs_goto C dX6_release_52 (by decide) (j0)
def xX6_release_7 (s_X6_strengthOf : zq_Sp) (s_X6_addStep : zq_Sp) (J0 : zq_P) (Q : zq_Q) (ls : zq_L) (st : List Value) (h : zq_H) : Prop := (zi_aload 0 (zi_getR 52 54 (zi_aload 0 (zi_getI 52 4 (zi_push (.int 1) (zi_i2 (fun x y => x - y) (zi_aldI 54 40 (zi_callS 1 s_X6_strengthOf (zi_iload 1 (zi_if2 (fun x y => x < y) (xX6_release_55 s_X6_strengthOf s_X6_addStep J0 Q) (xX6_release_25 s_X6_strengthOf s_X6_addStep J0 Q))))))))))) ls st h
theorem kX6_release_7 {X : zq_X} {d : Nat} (C : zq_C X cX6_release 2 RX6 d) {d_X6_strengthOf : Nat} {s_X6_strengthOf : zq_Sp} (h_X6_strengthOf : zq_M yX6_strengthOf cX6_strengthOf 1 (some .int) 1 d_X6_strengthOf s_X6_strengthOf) (g_X6_strengthOf : d_X6_strengthOf + 1 ≤ d) {d_X6_addStep : Nat} {s_X6_addStep : zq_Sp} (h_X6_addStep : zq_M yX6_addStep cX6_addStep 2 none 0 d_X6_addStep s_X6_addStep) (g_X6_addStep : d_X6_addStep + 1 ≤ d) {J0 : zq_P} (j0 : zq_ok X 2 0 J0) {Q : zq_Q} (hq : zq_R X none 0 Q) : zq_ok X 2 7 (xX6_release_7 s_X6_strengthOf s_X6_addStep J0 Q) := by
  refine zs_aload_n C dX6_release_7 rfl ?_
  refine zs_getR C zp_52 zF6 (j := 1) ⟨by decide, rfl⟩ zw_291 dX6_release_8 ?_
  refine zs_aload_n C dX6_release_11 rfl ?_
  refine zs_getI C zp_52 zF6 (j := 4) ⟨by decide, rfl⟩ zw_294 dX6_release_12 ?_
  refine zs_iconst C dX6_release_15 (by decide) ?_
  refine zs_isub C dX6_release_16 ?_
  refine zs_iaload C zp_54 dX6_release_17 ?_
  refine zs_callS C h_X6_strengthOf g_X6_strengthOf zy_X6_strengthOf zw_443 zw_444 dX6_release_18 ?_
  refine zs_iload_n C dX6_release_21 rfl ?_
  exact zs_icmp_lt C dX6_release_22 (by decide) (kX6_release_55 C h_X6_strengthOf g_X6_strengthOf h_X6_addStep g_X6_addStep j0 hq) (kX6_release_25 C h_X6_strengthOf g_X6_strengthOf h_X6_addStep g_X6_addStep j0 hq)
def xX6_release_0 (s_X6_strengthOf : zq_Sp) (s_X6_addStep : zq_Sp) (J0 : zq_P) (Q : zq_Q) (ls : zq_L) (st : List Value) (h : zq_H) : Prop := (zi_aload 0 (zi_getI 52 4 (zi_if1 (fun x => x ≤ 0) (xX6_release_55 s_X6_strengthOf s_X6_addStep J0 Q) (xX6_release_7 s_X6_strengthOf s_X6_addStep J0 Q)))) ls st h
theorem kX6_release_0 {X : zq_X} {d : Nat} (C : zq_C X cX6_release 2 RX6 d) {d_X6_strengthOf : Nat} {s_X6_strengthOf : zq_Sp} (h_X6_strengthOf : zq_M yX6_strengthOf cX6_strengthOf 1 (some .int) 1 d_X6_strengthOf s_X6_strengthOf) (g_X6_strengthOf : d_X6_strengthOf + 1 ≤ d) {d_X6_addStep : Nat} {s_X6_addStep : zq_Sp} (h_X6_addStep : zq_M yX6_addStep cX6_addStep 2 none 0 d_X6_addStep s_X6_addStep) (g_X6_addStep : d_X6_addStep + 1 ≤ d) {J0 : zq_P} (j0 : zq_ok X 2 0 J0) {Q : zq_Q} (hq : zq_R X none 0 Q) : zq_ok X 2 0 (xX6_release_0 s_X6_strengthOf s_X6_addStep J0 Q) := by
  refine zs_aload_n C dX6_release_0 rfl ?_
  refine zs_getI C zp_52 zF6 (j := 4) ⟨by decide, rfl⟩ zw_294 dX6_release_1 ?_
  exact zs_if_le C dX6_release_4 (by decide) (kX6_release_55 C h_X6_strengthOf g_X6_strengthOf h_X6_addStep g_X6_addStep j0 hq) (kX6_release_7 C h_X6_strengthOf g_X6_strengthOf h_X6_addStep g_X6_addStep j0 hq)
theorem mX6_release {d : Nat} {spec : zq_Sp} {σ0 : Type} {d_X6_strengthOf : Nat} {s_X6_strengthOf : zq_Sp} (h_X6_strengthOf : zq_M yX6_strengthOf cX6_strengthOf 1 (some .int) 1 d_X6_strengthOf s_X6_strengthOf) (g_X6_strengthOf : d_X6_strengthOf + 1 ≤ d) {d_X6_addStep : Nat} {s_X6_addStep : zq_Sp} (h_X6_addStep : zq_M yX6_addStep cX6_addStep 2 none 0 d_X6_addStep s_X6_addStep) (g_X6_addStep : d_X6_addStep + 1 ≤ d) (μ0 : σ0 → Nat) (I0 : zq_Q → σ0 → zq_P) (v : ∀ args h Q, spec args h Q → (zq_a args).length ≤ 2 ∧ xX6_release_0 s_X6_strengthOf s_X6_addStep (fun ls st h => ∃ b, I0 Q b ls st h) Q (zq_l0 2 args) [] h) (v0 : ∀ Q a ls st h, I0 Q a ls st h → xX6_release_0 s_X6_strengthOf s_X6_addStep (fun ls st h => ∃ b, μ0 b < μ0 a ∧ I0 Q b ls st h) Q ls st h) : zq_M yX6_release cX6_release 2 none 0 d spec := by
  refine zq_met (by decide +kernel) (by decide) (fun X Q args h C hq hs => ⟨(v args h Q hs).1, _, ?_, (v args h Q hs).2⟩)
  have hl := zq_loop1 (X := X) (nL := 2) (pc1 := 0) μ0 (I0 Q) (fun J0 => xX6_release_0 s_X6_strengthOf s_X6_addStep J0 Q) (fun j0 => kX6_release_0 C h_X6_strengthOf g_X6_strengthOf h_X6_addStep g_X6_addStep j0 hq) (v0 Q)
  exact kX6_release_0 C h_X6_strengthOf g_X6_strengthOf h_X6_addStep g_X6_addStep hl hq
/-! ToOneCrumb$Rule.worthOf(LToOneCrumb$Loaf;II[II)I -/
theorem dX6_worthOf_0 : decode cX6_worthOf 0 = .ok (.iload_n 2, 1) := by decide +kernel
theorem dX6_worthOf_1 : decode cX6_worthOf 1 = .ok (.ifCond .lt 24, 3) := by decide +kernel
theorem dX6_worthOf_4 : decode cX6_worthOf 4 = .ok (.iload_n 2, 1) := by decide +kernel
theorem dX6_worthOf_5 : decode cX6_worthOf 5 = .ok (.bipush 16, 2) := by decide +kernel
theorem dX6_worthOf_7 : decode cX6_worthOf 7 = .ok (.if_icmp .ge 18, 3) := by decide +kernel
theorem dX6_worthOf_10 : decode cX6_worthOf 10 = .ok (.iload 5, 2) := by decide +kernel
theorem dX6_worthOf_12 : decode cX6_worthOf 12 = .ok (.ifCond .lt 13, 3) := by decide +kernel
theorem dX6_worthOf_15 : decode cX6_worthOf 15 = .ok (.iload 5, 2) := by decide +kernel
theorem dX6_worthOf_17 : decode cX6_worthOf 17 = .ok (.iconst 3, 1) := by decide +kernel
theorem dX6_worthOf_18 : decode cX6_worthOf 18 = .ok (.iadd, 1) := by decide +kernel
theorem dX6_worthOf_19 : decode cX6_worthOf 19 = .ok (.aload 4, 2) := by decide +kernel
theorem dX6_worthOf_21 : decode cX6_worthOf 21 = .ok (.arraylength, 1) := by decide +kernel
theorem dX6_worthOf_22 : decode cX6_worthOf 22 = .ok (.if_icmp .le 5, 3) := by decide +kernel
theorem dX6_worthOf_25 : decode cX6_worthOf 25 = .ok (.iconst 0, 1) := by decide +kernel
theorem dX6_worthOf_26 : decode cX6_worthOf 26 = .ok (.ireturn, 1) := by decide +kernel
theorem dX6_worthOf_27 : decode cX6_worthOf 27 = .ok (.aload_n 0, 1) := by decide +kernel
theorem dX6_worthOf_28 : decode cX6_worthOf 28 = .ok (.getfield 21, 3) := by decide +kernel
theorem dX6_worthOf_31 : decode cX6_worthOf 31 = .ok (.ifCond .ne 50, 3) := by decide +kernel
theorem dX6_worthOf_34 : decode cX6_worthOf 34 = .ok (.aload_n 1, 1) := by decide +kernel
theorem dX6_worthOf_35 : decode cX6_worthOf 35 = .ok (.getfield 88, 3) := by decide +kernel
theorem dX6_worthOf_38 : decode cX6_worthOf 38 = .ok (.iload_n 2, 1) := by decide +kernel
theorem dX6_worthOf_39 : decode cX6_worthOf 39 = .ok (.iaload, 1) := by decide +kernel
theorem dX6_worthOf_40 : decode cX6_worthOf 40 = .ok (.aload 4, 2) := by decide +kernel
theorem dX6_worthOf_42 : decode cX6_worthOf 42 = .ok (.iload 5, 2) := by decide +kernel
theorem dX6_worthOf_44 : decode cX6_worthOf 44 = .ok (.iaload, 1) := by decide +kernel
theorem dX6_worthOf_45 : decode cX6_worthOf 45 = .ok (.imul, 1) := by decide +kernel
theorem dX6_worthOf_46 : decode cX6_worthOf 46 = .ok (.aload_n 1, 1) := by decide +kernel
theorem dX6_worthOf_47 : decode cX6_worthOf 47 = .ok (.getfield 93, 3) := by decide +kernel
theorem dX6_worthOf_50 : decode cX6_worthOf 50 = .ok (.iload_n 2, 1) := by decide +kernel
theorem dX6_worthOf_51 : decode cX6_worthOf 51 = .ok (.iaload, 1) := by decide +kernel
theorem dX6_worthOf_52 : decode cX6_worthOf 52 = .ok (.aload 4, 2) := by decide +kernel
theorem dX6_worthOf_54 : decode cX6_worthOf 54 = .ok (.iload 5, 2) := by decide +kernel
theorem dX6_worthOf_56 : decode cX6_worthOf 56 = .ok (.iconst 1, 1) := by decide +kernel
theorem dX6_worthOf_57 : decode cX6_worthOf 57 = .ok (.iadd, 1) := by decide +kernel
theorem dX6_worthOf_58 : decode cX6_worthOf 58 = .ok (.iaload, 1) := by decide +kernel
theorem dX6_worthOf_59 : decode cX6_worthOf 59 = .ok (.imul, 1) := by decide +kernel
theorem dX6_worthOf_60 : decode cX6_worthOf 60 = .ok (.iadd, 1) := by decide +kernel
theorem dX6_worthOf_61 : decode cX6_worthOf 61 = .ok (.aload_n 1, 1) := by decide +kernel
theorem dX6_worthOf_62 : decode cX6_worthOf 62 = .ok (.getfield 96, 3) := by decide +kernel
theorem dX6_worthOf_65 : decode cX6_worthOf 65 = .ok (.iload_n 2, 1) := by decide +kernel
theorem dX6_worthOf_66 : decode cX6_worthOf 66 = .ok (.iaload, 1) := by decide +kernel
theorem dX6_worthOf_67 : decode cX6_worthOf 67 = .ok (.aload 4, 2) := by decide +kernel
theorem dX6_worthOf_69 : decode cX6_worthOf 69 = .ok (.iload 5, 2) := by decide +kernel
theorem dX6_worthOf_71 : decode cX6_worthOf 71 = .ok (.iconst 2, 1) := by decide +kernel
theorem dX6_worthOf_72 : decode cX6_worthOf 72 = .ok (.iadd, 1) := by decide +kernel
theorem dX6_worthOf_73 : decode cX6_worthOf 73 = .ok (.iaload, 1) := by decide +kernel
theorem dX6_worthOf_74 : decode cX6_worthOf 74 = .ok (.imul, 1) := by decide +kernel
theorem dX6_worthOf_75 : decode cX6_worthOf 75 = .ok (.iadd, 1) := by decide +kernel
theorem dX6_worthOf_76 : decode cX6_worthOf 76 = .ok (.istore 6, 2) := by decide +kernel
theorem dX6_worthOf_78 : decode cX6_worthOf 78 = .ok (.goto 16, 3) := by decide +kernel
theorem dX6_worthOf_81 : decode cX6_worthOf 81 = .ok (.aload_n 0, 1) := by decide +kernel
theorem dX6_worthOf_82 : decode cX6_worthOf 82 = .ok (.aload_n 1, 1) := by decide +kernel
theorem dX6_worthOf_83 : decode cX6_worthOf 83 = .ok (.iload_n 2, 1) := by decide +kernel
theorem dX6_worthOf_84 : decode cX6_worthOf 84 = .ok (.iload_n 3, 1) := by decide +kernel
theorem dX6_worthOf_85 : decode cX6_worthOf 85 = .ok (.aload 4, 2) := by decide +kernel
theorem dX6_worthOf_87 : decode cX6_worthOf 87 = .ok (.iload 5, 2) := by decide +kernel
theorem dX6_worthOf_89 : decode cX6_worthOf 89 = .ok (.invokevirtual 99, 3) := by decide +kernel
theorem dX6_worthOf_92 : decode cX6_worthOf 92 = .ok (.istore 6, 2) := by decide +kernel
theorem dX6_worthOf_94 : decode cX6_worthOf 94 = .ok (.iconst 0, 1) := by decide +kernel
theorem dX6_worthOf_95 : decode cX6_worthOf 95 = .ok (.sipush 999, 3) := by decide +kernel
theorem dX6_worthOf_98 : decode cX6_worthOf 98 = .ok (.iload 6, 2) := by decide +kernel
theorem dX6_worthOf_100 : decode cX6_worthOf 100 = .ok (.invokestatic 103, 3) := by decide +kernel
theorem dX6_worthOf_103 : decode cX6_worthOf 103 = .ok (.invokestatic 82, 3) := by decide +kernel
theorem dX6_worthOf_106 : decode cX6_worthOf 106 = .ok (.ireturn, 1) := by decide +kernel
def xX6_worthOf_94 (r n : Nat) (s_X6_walk : zq_Sp) (Q : zq_Q) (ls : zq_L) (st : List Value) (h : zq_H) : Prop := (zi_push (.int 0) (zi_push (.int 999) (zi_iload 6 (zi_m2 zf_min (zi_m2 zf_max (zi_iret Q)))))) ls st h
theorem kX6_worthOf_94 {X : zq_X} {d : Nat} {r n : Nat} (C : zq_C X cX6_worthOf 7 RX6 d) (hr : zq_S[r]? = some (1, n, [])) (hd1 : 1 ≤ d) {d_X6_walk : Nat} {s_X6_walk : zq_Sp} (h_X6_walk : zq_M yX6_walk cX6_walk 10 (some .int) 1 d_X6_walk s_X6_walk) (g_X6_walk : d_X6_walk + 1 ≤ d) {Q : zq_Q} (hq : zq_R X (some .int) 1 Q) : zq_ok X 7 94 (xX6_worthOf_94 r n s_X6_walk Q) := by
  refine zs_iconst C dX6_worthOf_94 (by decide) ?_
  refine zs_sipush C dX6_worthOf_95 (by decide) ?_
  refine zs_iload C dX6_worthOf_98 ?_
  refine zs_mmin C hd1 zw_452 zw_393 zw_14 zw_394 dX6_worthOf_100 ?_
  refine zs_mmax C hd1 zw_453 zw_454 zw_14 zw_455 dX6_worthOf_103 ?_
  exact zs_iret C hq dX6_worthOf_106
def xX6_worthOf_81 (r n : Nat) (s_X6_walk : zq_Sp) (Q : zq_Q) (ls : zq_L) (st : List Value) (h : zq_H) : Prop := (zi_aload 0 (zi_aload 1 (zi_iload 2 (zi_iload 3 (zi_aload 4 (zi_iload 5 (zi_callV 5 48 s_X6_walk (zi_istore 6 ((xX6_worthOf_94 r n s_X6_walk Q)))))))))) ls st h
theorem kX6_worthOf_81 {X : zq_X} {d : Nat} {r n : Nat} (C : zq_C X cX6_worthOf 7 RX6 d) (hr : zq_S[r]? = some (1, n, [])) (hd1 : 1 ≤ d) {d_X6_walk : Nat} {s_X6_walk : zq_Sp} (h_X6_walk : zq_M yX6_walk cX6_walk 10 (some .int) 1 d_X6_walk s_X6_walk) (g_X6_walk : d_X6_walk + 1 ≤ d) {Q : zq_Q} (hq : zq_R X (some .int) 1 Q) : zq_ok X 7 81 (xX6_worthOf_81 r n s_X6_walk Q) := by
  refine zs_aload_n C dX6_worthOf_81 rfl ?_
  refine zs_aload_n C dX6_worthOf_82 rfl ?_
  refine zs_iload_n C dX6_worthOf_83 rfl ?_
  refine zs_iload_n C dX6_worthOf_84 rfl ?_
  refine zs_aload C dX6_worthOf_85 ?_
  refine zs_iload C dX6_worthOf_87 ?_
  refine zs_callV C h_X6_walk g_X6_walk zy_X6_walk zp_48 (show vwCl[6]? = some (RX6, TX6, 8) from rfl) zw_439 zw_441 zs9_X6_walk dX6_worthOf_89 ?_
  refine zs_istore C dX6_worthOf_92 (by decide) ?_
  exact kX6_worthOf_94 C hr hd1 h_X6_walk g_X6_walk hq
def xX6_worthOf_34 (r n : Nat) (s_X6_walk : zq_Sp) (Q : zq_Q) (ls : zq_L) (st : List Value) (h : zq_H) : Prop := (zi_aload 1 (zi_getR 40 41 (zi_iload 2 (zi_aldI 41 16 (zi_aload 4 (zi_iload 5 (zi_aldI r n (zi_i2 (fun x y => x * y) (zi_aload 1 (zi_getR 40 42 (zi_iload 2 (zi_aldI 42 16 (zi_aload 4 (zi_iload 5 (zi_push (.int 1) (zi_i2 (fun x y => x + y) (zi_aldI r n (zi_i2 (fun x y => x * y) (zi_i2 (fun x y => x + y) (zi_aload 1 (zi_getR 40 43 (zi_iload 2 (zi_aldI 43 16 (zi_aload 4 (zi_iload 5 (zi_push (.int 2) (zi_i2 (fun x y => x + y) (zi_aldI r n (zi_i2 (fun x y => x * y) (zi_i2 (fun x y => x + y) (zi_istore 6 ((xX6_worthOf_94 r n s_X6_walk Q))))))))))))))))))))))))))))))))) ls st h
theorem kX6_worthOf_34 {X : zq_X} {d : Nat} {r n : Nat} (C : zq_C X cX6_worthOf 7 RX6 d) (hr : zq_S[r]? = some (1, n, [])) (hd1 : 1 ≤ d) {d_X6_walk : Nat} {s_X6_walk : zq_Sp} (h_X6_walk : zq_M yX6_walk cX6_walk 10 (some .int) 1 d_X6_walk s_X6_walk) (g_X6_walk : d_X6_walk + 1 ≤ d) {Q : zq_Q} (hq : zq_R X (some .int) 1 Q) : zq_ok X 7 34 (xX6_worthOf_34 r n s_X6_walk Q) := by
  refine zs_aload_n C dX6_worthOf_34 rfl ?_
  refine zs_getRN C zp_40 zF2 (j := 0) ⟨by decide, rfl⟩ zw_263 dX6_worthOf_35 ?_
  refine zs_iload_n C dX6_worthOf_38 rfl ?_
  refine zs_iaload C zp_41 dX6_worthOf_39 ?_
  refine zs_aload C dX6_worthOf_40 ?_
  refine zs_iload C dX6_worthOf_42 ?_
  refine zs_iaload C hr dX6_worthOf_44 ?_
  refine zs_imul C dX6_worthOf_45 ?_
  refine zs_aload_n C dX6_worthOf_46 rfl ?_
  refine zs_getRN C zp_40 zF2 (j := 1) ⟨by decide, rfl⟩ zw_266 dX6_worthOf_47 ?_
  refine zs_iload_n C dX6_worthOf_50 rfl ?_
  refine zs_iaload C zp_42 dX6_worthOf_51 ?_
  refine zs_aload C dX6_worthOf_52 ?_
  refine zs_iload C dX6_worthOf_54 ?_
  refine zs_iconst C dX6_worthOf_56 (by decide) ?_
  refine zs_iadd C dX6_worthOf_57 ?_
  refine zs_iaload C hr dX6_worthOf_58 ?_
  refine zs_imul C dX6_worthOf_59 ?_
  refine zs_iadd C dX6_worthOf_60 ?_
  refine zs_aload_n C dX6_worthOf_61 rfl ?_
  refine zs_getRN C zp_40 zF2 (j := 2) ⟨by decide, rfl⟩ zw_269 dX6_worthOf_62 ?_
  refine zs_iload_n C dX6_worthOf_65 rfl ?_
  refine zs_iaload C zp_43 dX6_worthOf_66 ?_
  refine zs_aload C dX6_worthOf_67 ?_
  refine zs_iload C dX6_worthOf_69 ?_
  refine zs_iconst C dX6_worthOf_71 (by decide) ?_
  refine zs_iadd C dX6_worthOf_72 ?_
  refine zs_iaload C hr dX6_worthOf_73 ?_
  refine zs_imul C dX6_worthOf_74 ?_
  refine zs_iadd C dX6_worthOf_75 ?_
  refine zs_istore C dX6_worthOf_76 (by decide) ?_
  exact zs_goto C dX6_worthOf_78 (by decide) (kX6_worthOf_94 C hr hd1 h_X6_walk g_X6_walk hq)
def xX6_worthOf_27 (r n : Nat) (s_X6_walk : zq_Sp) (Q : zq_Q) (ls : zq_L) (st : List Value) (h : zq_H) : Prop := (zi_aload 0 (zi_getI 48 3 (zi_if1 (fun x => x = 0) (xX6_worthOf_34 r n s_X6_walk Q) (xX6_worthOf_81 r n s_X6_walk Q)))) ls st h
theorem kX6_worthOf_27 {X : zq_X} {d : Nat} {r n : Nat} (C : zq_C X cX6_worthOf 7 RX6 d) (hr : zq_S[r]? = some (1, n, [])) (hd1 : 1 ≤ d) {d_X6_walk : Nat} {s_X6_walk : zq_Sp} (h_X6_walk : zq_M yX6_walk cX6_walk 10 (some .int) 1 d_X6_walk s_X6_walk) (g_X6_walk : d_X6_walk + 1 ≤ d) {Q : zq_Q} (hq : zq_R X (some .int) 1 Q) : zq_ok X 7 27 (xX6_worthOf_27 r n s_X6_walk Q) := by
  refine zs_aload_n C dX6_worthOf_27 rfl ?_
  refine zs_getI C zp_48 zF6 (j := 3) ⟨by decide, rfl⟩ zw_293 dX6_worthOf_28 ?_
  exact zs_if_ne C dX6_worthOf_31 (by decide) (kX6_worthOf_81 C hr hd1 h_X6_walk g_X6_walk hq) (kX6_worthOf_34 C hr hd1 h_X6_walk g_X6_walk hq)
def xX6_worthOf_25 (r n : Nat) (s_X6_walk : zq_Sp) (Q : zq_Q) (ls : zq_L) (st : List Value) (h : zq_H) : Prop := (zi_push (.int 0) (zi_iret Q)) ls st h
theorem kX6_worthOf_25 {X : zq_X} {d : Nat} {r n : Nat} (C : zq_C X cX6_worthOf 7 RX6 d) (hr : zq_S[r]? = some (1, n, [])) (hd1 : 1 ≤ d) {d_X6_walk : Nat} {s_X6_walk : zq_Sp} (h_X6_walk : zq_M yX6_walk cX6_walk 10 (some .int) 1 d_X6_walk s_X6_walk) (g_X6_walk : d_X6_walk + 1 ≤ d) {Q : zq_Q} (hq : zq_R X (some .int) 1 Q) : zq_ok X 7 25 (xX6_worthOf_25 r n s_X6_walk Q) := by
  refine zs_iconst C dX6_worthOf_25 (by decide) ?_
  exact zs_iret C hq dX6_worthOf_26
def xX6_worthOf_15 (r n : Nat) (s_X6_walk : zq_Sp) (Q : zq_Q) (ls : zq_L) (st : List Value) (h : zq_H) : Prop := (zi_iload 5 (zi_push (.int 3) (zi_i2 (fun x y => x + y) (zi_aload 4 (zi_alen r n (zi_if2 (fun x y => x ≤ y) (xX6_worthOf_27 r n s_X6_walk Q) (xX6_worthOf_25 r n s_X6_walk Q))))))) ls st h
theorem kX6_worthOf_15 {X : zq_X} {d : Nat} {r n : Nat} (C : zq_C X cX6_worthOf 7 RX6 d) (hr : zq_S[r]? = some (1, n, [])) (hd1 : 1 ≤ d) {d_X6_walk : Nat} {s_X6_walk : zq_Sp} (h_X6_walk : zq_M yX6_walk cX6_walk 10 (some .int) 1 d_X6_walk s_X6_walk) (g_X6_walk : d_X6_walk + 1 ≤ d) {Q : zq_Q} (hq : zq_R X (some .int) 1 Q) : zq_ok X 7 15 (xX6_worthOf_15 r n s_X6_walk Q) := by
  refine zs_iload C dX6_worthOf_15 ?_
  refine zs_iconst C dX6_worthOf_17 (by decide) ?_
  refine zs_iadd C dX6_worthOf_18 ?_
  refine zs_aload C dX6_worthOf_19 ?_
  refine zs_alen C (Or.inl hr) dX6_worthOf_21 ?_
  exact zs_icmp_le C dX6_worthOf_22 (by decide) (kX6_worthOf_27 C hr hd1 h_X6_walk g_X6_walk hq) (kX6_worthOf_25 C hr hd1 h_X6_walk g_X6_walk hq)
def xX6_worthOf_10 (r n : Nat) (s_X6_walk : zq_Sp) (Q : zq_Q) (ls : zq_L) (st : List Value) (h : zq_H) : Prop := (zi_iload 5 (zi_if1 (fun x => x < 0) (xX6_worthOf_25 r n s_X6_walk Q) (xX6_worthOf_15 r n s_X6_walk Q))) ls st h
theorem kX6_worthOf_10 {X : zq_X} {d : Nat} {r n : Nat} (C : zq_C X cX6_worthOf 7 RX6 d) (hr : zq_S[r]? = some (1, n, [])) (hd1 : 1 ≤ d) {d_X6_walk : Nat} {s_X6_walk : zq_Sp} (h_X6_walk : zq_M yX6_walk cX6_walk 10 (some .int) 1 d_X6_walk s_X6_walk) (g_X6_walk : d_X6_walk + 1 ≤ d) {Q : zq_Q} (hq : zq_R X (some .int) 1 Q) : zq_ok X 7 10 (xX6_worthOf_10 r n s_X6_walk Q) := by
  refine zs_iload C dX6_worthOf_10 ?_
  exact zs_if_lt C dX6_worthOf_12 (by decide) (kX6_worthOf_25 C hr hd1 h_X6_walk g_X6_walk hq) (kX6_worthOf_15 C hr hd1 h_X6_walk g_X6_walk hq)
def xX6_worthOf_4 (r n : Nat) (s_X6_walk : zq_Sp) (Q : zq_Q) (ls : zq_L) (st : List Value) (h : zq_H) : Prop := (zi_iload 2 (zi_push (.int 16) (zi_if2 (fun x y => y ≤ x) (xX6_worthOf_25 r n s_X6_walk Q) (xX6_worthOf_10 r n s_X6_walk Q)))) ls st h
theorem kX6_worthOf_4 {X : zq_X} {d : Nat} {r n : Nat} (C : zq_C X cX6_worthOf 7 RX6 d) (hr : zq_S[r]? = some (1, n, [])) (hd1 : 1 ≤ d) {d_X6_walk : Nat} {s_X6_walk : zq_Sp} (h_X6_walk : zq_M yX6_walk cX6_walk 10 (some .int) 1 d_X6_walk s_X6_walk) (g_X6_walk : d_X6_walk + 1 ≤ d) {Q : zq_Q} (hq : zq_R X (some .int) 1 Q) : zq_ok X 7 4 (xX6_worthOf_4 r n s_X6_walk Q) := by
  refine zs_iload_n C dX6_worthOf_4 rfl ?_
  refine zs_bipush C dX6_worthOf_5 (by decide) ?_
  exact zs_icmp_ge C dX6_worthOf_7 (by decide) (kX6_worthOf_25 C hr hd1 h_X6_walk g_X6_walk hq) (kX6_worthOf_10 C hr hd1 h_X6_walk g_X6_walk hq)
def xX6_worthOf_0 (r n : Nat) (s_X6_walk : zq_Sp) (Q : zq_Q) (ls : zq_L) (st : List Value) (h : zq_H) : Prop := (zi_iload 2 (zi_if1 (fun x => x < 0) (xX6_worthOf_25 r n s_X6_walk Q) (xX6_worthOf_4 r n s_X6_walk Q))) ls st h
theorem kX6_worthOf_0 {X : zq_X} {d : Nat} {r n : Nat} (C : zq_C X cX6_worthOf 7 RX6 d) (hr : zq_S[r]? = some (1, n, [])) (hd1 : 1 ≤ d) {d_X6_walk : Nat} {s_X6_walk : zq_Sp} (h_X6_walk : zq_M yX6_walk cX6_walk 10 (some .int) 1 d_X6_walk s_X6_walk) (g_X6_walk : d_X6_walk + 1 ≤ d) {Q : zq_Q} (hq : zq_R X (some .int) 1 Q) : zq_ok X 7 0 (xX6_worthOf_0 r n s_X6_walk Q) := by
  refine zs_iload_n C dX6_worthOf_0 rfl ?_
  exact zs_if_lt C dX6_worthOf_1 (by decide) (kX6_worthOf_25 C hr hd1 h_X6_walk g_X6_walk hq) (kX6_worthOf_4 C hr hd1 h_X6_walk g_X6_walk hq)
theorem mX6_worthOf {d : Nat} {r n : Nat} {spec : zq_Sp} {d_X6_walk : Nat} {s_X6_walk : zq_Sp} (h_X6_walk : zq_M yX6_walk cX6_walk 10 (some .int) 1 d_X6_walk s_X6_walk) (g_X6_walk : d_X6_walk + 1 ≤ d) (hr9 : ∀ args h Q, spec args h Q → zq_S[r]? = some (1, n, [])) (hd1 : 1 ≤ d) (v : ∀ args h Q, spec args h Q → (zq_a args).length ≤ 7 ∧ xX6_worthOf_0 r n s_X6_walk Q (zq_l0 7 args) [] h) : zq_M yX6_worthOf cX6_worthOf 7 (some .int) 1 d spec := by
  refine zq_met (by decide +kernel) (by decide) (fun X Q args h C hq hs => ⟨(v args h Q hs).1, _, ?_, (v args h Q hs).2⟩)
  have hr := hr9 args h Q hs
  exact kX6_worthOf_0 C hr hd1 h_X6_walk g_X6_walk hq
/-! ToOneCrumb$Rule.walk(LToOneCrumb$Loaf;II[II)I -/
theorem dX6_walk_0 : decode cX6_walk 0 = .ok (.iconst 0, 1) := by decide +kernel
theorem dX6_walk_1 : decode cX6_walk 1 = .ok (.istore 6, 2) := by decide +kernel
theorem dX6_walk_3 : decode cX6_walk 3 = .ok (.iconst 0, 1) := by decide +kernel
theorem dX6_walk_4 : decode cX6_walk 4 = .ok (.istore 7, 2) := by decide +kernel
theorem dX6_walk_6 : decode cX6_walk 6 = .ok (.iload 7, 2) := by decide +kernel
theorem dX6_walk_8 : decode cX6_walk 8 = .ok (.aload_n 0, 1) := by decide +kernel
theorem dX6_walk_9 : decode cX6_walk 9 = .ok (.getfield 21, 3) := by decide +kernel
theorem dX6_walk_12 : decode cX6_walk 12 = .ok (.if_icmp .ge 167, 3) := by decide +kernel
theorem dX6_walk_15 : decode cX6_walk 15 = .ok (.aload_n 0, 1) := by decide +kernel
theorem dX6_walk_16 : decode cX6_walk 16 = .ok (.getfield 11, 3) := by decide +kernel
theorem dX6_walk_19 : decode cX6_walk 19 = .ok (.iload 7, 2) := by decide +kernel
theorem dX6_walk_21 : decode cX6_walk 21 = .ok (.iaload, 1) := by decide +kernel
theorem dX6_walk_22 : decode cX6_walk 22 = .ok (.sipush 1000, 3) := by decide +kernel
theorem dX6_walk_25 : decode cX6_walk 25 = .ok (.isub, 1) := by decide +kernel
theorem dX6_walk_26 : decode cX6_walk 26 = .ok (.istore 8, 2) := by decide +kernel
theorem dX6_walk_28 : decode cX6_walk 28 = .ok (.iload 8, 2) := by decide +kernel
theorem dX6_walk_30 : decode cX6_walk 30 = .ok (.ifCond .ge 7, 3) := by decide +kernel
theorem dX6_walk_33 : decode cX6_walk 33 = .ok (.iconst 0, 1) := by decide +kernel
theorem dX6_walk_34 : decode cX6_walk 34 = .ok (.goto 8, 3) := by decide +kernel
theorem dX6_walk_37 : decode cX6_walk 37 = .ok (.iload 8, 2) := by decide +kernel
theorem dX6_walk_39 : decode cX6_walk 39 = .ok (.invokestatic 79, 3) := by decide +kernel
theorem dX6_walk_42 : decode cX6_walk 42 = .ok (.istore 9, 2) := by decide +kernel
theorem dX6_walk_44 : decode cX6_walk 44 = .ok (.iload 9, 2) := by decide +kernel
theorem dX6_walk_46 : decode cX6_walk 46 = .ok (.ifCond .ne 53, 3) := by decide +kernel
theorem dX6_walk_49 : decode cX6_walk 49 = .ok (.iload 6, 2) := by decide +kernel
theorem dX6_walk_51 : decode cX6_walk 51 = .ok (.aload_n 0, 1) := by decide +kernel
theorem dX6_walk_52 : decode cX6_walk 52 = .ok (.getfield 18, 3) := by decide +kernel
theorem dX6_walk_55 : decode cX6_walk 55 = .ok (.arraylength, 1) := by decide +kernel
theorem dX6_walk_56 : decode cX6_walk 56 = .ok (.if_icmp .ge 43, 3) := by decide +kernel
theorem dX6_walk_59 : decode cX6_walk 59 = .ok (.aload_n 0, 1) := by decide +kernel
theorem dX6_walk_60 : decode cX6_walk 60 = .ok (.getfield 18, 3) := by decide +kernel
theorem dX6_walk_63 : decode cX6_walk 63 = .ok (.iload 6, 2) := by decide +kernel
theorem dX6_walk_65 : decode cX6_walk 65 = .ok (.iload 8, 2) := by decide +kernel
theorem dX6_walk_67 : decode cX6_walk 67 = .ok (.ifCond .ge 13, 3) := by decide +kernel
theorem dX6_walk_70 : decode cX6_walk 70 = .ok (.aload_n 0, 1) := by decide +kernel
theorem dX6_walk_71 : decode cX6_walk 71 = .ok (.getfield 11, 3) := by decide +kernel
theorem dX6_walk_74 : decode cX6_walk 74 = .ok (.iload 7, 2) := by decide +kernel
theorem dX6_walk_76 : decode cX6_walk 76 = .ok (.iaload, 1) := by decide +kernel
theorem dX6_walk_77 : decode cX6_walk 77 = .ok (.goto 15, 3) := by decide +kernel
theorem dX6_walk_80 : decode cX6_walk 80 = .ok (.iload 8, 2) := by decide +kernel
theorem dX6_walk_82 : decode cX6_walk 82 = .ok (.aload_n 1, 1) := by decide +kernel
theorem dX6_walk_83 : decode cX6_walk 83 = .ok (.iload_n 2, 1) := by decide +kernel
theorem dX6_walk_84 : decode cX6_walk 84 = .ok (.iload_n 3, 1) := by decide +kernel
theorem dX6_walk_85 : decode cX6_walk 85 = .ok (.aload 4, 2) := by decide +kernel
theorem dX6_walk_87 : decode cX6_walk 87 = .ok (.iload 5, 2) := by decide +kernel
theorem dX6_walk_89 : decode cX6_walk 89 = .ok (.invokestatic 106, 3) := by decide +kernel
theorem dX6_walk_92 : decode cX6_walk 92 = .ok (.iastore, 1) := by decide +kernel
theorem dX6_walk_93 : decode cX6_walk 93 = .ok (.iinc 6 1, 3) := by decide +kernel
theorem dX6_walk_96 : decode cX6_walk 96 = .ok (.goto 77, 3) := by decide +kernel
theorem dX6_walk_99 : decode cX6_walk 99 = .ok (.iload 8, 2) := by decide +kernel
theorem dX6_walk_101 : decode cX6_walk 101 = .ok (.sipush 256, 3) := by decide +kernel
theorem dX6_walk_104 : decode cX6_walk 104 = .ok (.if_icmp .ne 30, 3) := by decide +kernel
theorem dX6_walk_107 : decode cX6_walk 107 = .ok (.iload 6, 2) := by decide +kernel
theorem dX6_walk_109 : decode cX6_walk 109 = .ok (.ifCond .le 25, 3) := by decide +kernel
theorem dX6_walk_112 : decode cX6_walk 112 = .ok (.aload_n 0, 1) := by decide +kernel
theorem dX6_walk_113 : decode cX6_walk 113 = .ok (.getfield 18, 3) := by decide +kernel
theorem dX6_walk_116 : decode cX6_walk 116 = .ok (.iload 6, 2) := by decide +kernel
theorem dX6_walk_118 : decode cX6_walk 118 = .ok (.iconst 1, 1) := by decide +kernel
theorem dX6_walk_119 : decode cX6_walk 119 = .ok (.isub, 1) := by decide +kernel
theorem dX6_walk_120 : decode cX6_walk 120 = .ok (.aload_n 0, 1) := by decide +kernel
theorem dX6_walk_121 : decode cX6_walk 121 = .ok (.getfield 18, 3) := by decide +kernel
theorem dX6_walk_124 : decode cX6_walk 124 = .ok (.iload 6, 2) := by decide +kernel
theorem dX6_walk_126 : decode cX6_walk 126 = .ok (.iconst 1, 1) := by decide +kernel
theorem dX6_walk_127 : decode cX6_walk 127 = .ok (.isub, 1) := by decide +kernel
theorem dX6_walk_128 : decode cX6_walk 128 = .ok (.iaload, 1) := by decide +kernel
theorem dX6_walk_129 : decode cX6_walk 129 = .ok (.ineg, 1) := by decide +kernel
theorem dX6_walk_130 : decode cX6_walk 130 = .ok (.iastore, 1) := by decide +kernel
theorem dX6_walk_131 : decode cX6_walk 131 = .ok (.goto 42, 3) := by decide +kernel
theorem dX6_walk_134 : decode cX6_walk 134 = .ok (.iload 6, 2) := by decide +kernel
theorem dX6_walk_136 : decode cX6_walk 136 = .ok (.iconst 1, 1) := by decide +kernel
theorem dX6_walk_137 : decode cX6_walk 137 = .ok (.if_icmp .le 36, 3) := by decide +kernel
theorem dX6_walk_140 : decode cX6_walk 140 = .ok (.iinc 6 (-1), 3) := by decide +kernel
theorem dX6_walk_143 : decode cX6_walk 143 = .ok (.aload_n 0, 1) := by decide +kernel
theorem dX6_walk_144 : decode cX6_walk 144 = .ok (.getfield 18, 3) := by decide +kernel
theorem dX6_walk_147 : decode cX6_walk 147 = .ok (.iload 6, 2) := by decide +kernel
theorem dX6_walk_149 : decode cX6_walk 149 = .ok (.iconst 1, 1) := by decide +kernel
theorem dX6_walk_150 : decode cX6_walk 150 = .ok (.isub, 1) := by decide +kernel
theorem dX6_walk_151 : decode cX6_walk 151 = .ok (.iload 8, 2) := by decide +kernel
theorem dX6_walk_153 : decode cX6_walk 153 = .ok (.aload_n 0, 1) := by decide +kernel
theorem dX6_walk_154 : decode cX6_walk 154 = .ok (.getfield 18, 3) := by decide +kernel
theorem dX6_walk_157 : decode cX6_walk 157 = .ok (.iload 6, 2) := by decide +kernel
theorem dX6_walk_159 : decode cX6_walk 159 = .ok (.iconst 1, 1) := by decide +kernel
theorem dX6_walk_160 : decode cX6_walk 160 = .ok (.isub, 1) := by decide +kernel
theorem dX6_walk_161 : decode cX6_walk 161 = .ok (.iaload, 1) := by decide +kernel
theorem dX6_walk_162 : decode cX6_walk 162 = .ok (.aload_n 0, 1) := by decide +kernel
theorem dX6_walk_163 : decode cX6_walk 163 = .ok (.getfield 18, 3) := by decide +kernel
theorem dX6_walk_166 : decode cX6_walk 166 = .ok (.iload 6, 2) := by decide +kernel
theorem dX6_walk_168 : decode cX6_walk 168 = .ok (.iaload, 1) := by decide +kernel
theorem dX6_walk_169 : decode cX6_walk 169 = .ok (.invokestatic 110, 3) := by decide +kernel
theorem dX6_walk_172 : decode cX6_walk 172 = .ok (.iastore, 1) := by decide +kernel
theorem dX6_walk_173 : decode cX6_walk 173 = .ok (.iinc 7 1, 3) := by decide +kernel
theorem dX6_walk_176 : decode cX6_walk 176 = .ok (.goto (-170), 3) := by decide +kernel
theorem dX6_walk_179 : decode cX6_walk 179 = .ok (.aload_n 0, 1) := by decide +kernel
theorem dX6_walk_180 : decode cX6_walk 180 = .ok (.getfield 18, 3) := by decide +kernel
theorem dX6_walk_183 : decode cX6_walk 183 = .ok (.iconst 0, 1) := by decide +kernel
theorem dX6_walk_184 : decode cX6_walk 184 = .ok (.iaload, 1) := by decide +kernel
theorem dX6_walk_185 : decode cX6_walk 185 = .ok (.ireturn, 1) := by decide +kernel
def xX6_walk_179 (r n : Nat) (s_X6_valueOf : zq_Sp) (s_X6_joined : zq_Sp) (s_X6_strengthOf : zq_Sp) (J6 : zq_P) (Q : zq_Q) (ls : zq_L) (st : List Value) (h : zq_H) : Prop := (zi_aload 0 (zi_getR 48 51 (zi_push (.int 0) (zi_aldI 51 40 (zi_iret Q))))) ls st h
theorem kX6_walk_179 {X : zq_X} {d : Nat} {r n : Nat} (C : zq_C X cX6_walk 10 RX6 d) (hr : zq_S[r]? = some (1, n, [])) {d_X6_valueOf : Nat} {s_X6_valueOf : zq_Sp} (h_X6_valueOf : zq_M yX6_valueOf cX6_valueOf 6 (some .int) 1 d_X6_valueOf s_X6_valueOf) (g_X6_valueOf : d_X6_valueOf + 1 ≤ d) {d_X6_joined : Nat} {s_X6_joined : zq_Sp} (h_X6_joined : zq_M yX6_joined cX6_joined 3 (some .int) 1 d_X6_joined s_X6_joined) (g_X6_joined : d_X6_joined + 1 ≤ d) {d_X6_strengthOf : Nat} {s_X6_strengthOf : zq_Sp} (h_X6_strengthOf : zq_M yX6_strengthOf cX6_strengthOf 1 (some .int) 1 d_X6_strengthOf s_X6_strengthOf) (g_X6_strengthOf : d_X6_strengthOf + 1 ≤ d) {J6 : zq_P} (j6 : zq_ok X 10 6 J6) {Q : zq_Q} (hq : zq_R X (some .int) 1 Q) : zq_ok X 10 179 (xX6_walk_179 r n s_X6_valueOf s_X6_joined s_X6_strengthOf J6 Q) := by
  refine zs_aload_n C dX6_walk_179 rfl ?_
  refine zs_getR C zp_48 zF6 (j := 2) ⟨by decide, rfl⟩ zw_292 dX6_walk_180 ?_
  refine zs_iconst C dX6_walk_183 (by decide) ?_
  refine zs_iaload C zp_51 dX6_walk_184 ?_
  exact zs_iret C hq dX6_walk_185
def xX6_walk_173 (r n : Nat) (s_X6_valueOf : zq_Sp) (s_X6_joined : zq_Sp) (s_X6_strengthOf : zq_Sp) (J6 : zq_P) (Q : zq_Q) (ls : zq_L) (st : List Value) (h : zq_H) : Prop := (zi_iinc 7 1 (J6)) ls st h
theorem kX6_walk_173 {X : zq_X} {d : Nat} {r n : Nat} (C : zq_C X cX6_walk 10 RX6 d) (hr : zq_S[r]? = some (1, n, [])) {d_X6_valueOf : Nat} {s_X6_valueOf : zq_Sp} (h_X6_valueOf : zq_M yX6_valueOf cX6_valueOf 6 (some .int) 1 d_X6_valueOf s_X6_valueOf) (g_X6_valueOf : d_X6_valueOf + 1 ≤ d) {d_X6_joined : Nat} {s_X6_joined : zq_Sp} (h_X6_joined : zq_M yX6_joined cX6_joined 3 (some .int) 1 d_X6_joined s_X6_joined) (g_X6_joined : d_X6_joined + 1 ≤ d) {d_X6_strengthOf : Nat} {s_X6_strengthOf : zq_Sp} (h_X6_strengthOf : zq_M yX6_strengthOf cX6_strengthOf 1 (some .int) 1 d_X6_strengthOf s_X6_strengthOf) (g_X6_strengthOf : d_X6_strengthOf + 1 ≤ d) {J6 : zq_P} (j6 : zq_ok X 10 6 J6) {Q : zq_Q} (hq : zq_R X (some .int) 1 Q) : zq_ok X 10 173 (xX6_walk_173 r n s_X6_valueOf s_X6_joined s_X6_strengthOf J6 Q) := by
  refine zs_iinc C dX6_walk_173 (by decide) (by decide) ?_
  exact zs_goto C dX6_walk_176 (by decide) (j6)
def xX6_walk_140 (r n : Nat) (s_X6_valueOf : zq_Sp) (s_X6_joined : zq_Sp) (s_X6_strengthOf : zq_Sp) (J6 : zq_P) (Q : zq_Q) (ls : zq_L) (st : List Value) (h : zq_H) : Prop := (zi_iinc 6 (-1) (zi_aload 0 (zi_getR 48 51 (zi_iload 6 (zi_push (.int 1) (zi_i2 (fun x y => x - y) (zi_iload 8 (zi_aload 0 (zi_getR 48 51 (zi_iload 6 (zi_push (.int 1) (zi_i2 (fun x y => x - y) (zi_aldI 51 40 (zi_aload 0 (zi_getR 48 51 (zi_iload 6 (zi_aldI 51 40 (zi_callS 3 s_X6_joined (zi_astI 51 40 ((xX6_walk_173 r n s_X6_valueOf s_X6_joined s_X6_strengthOf J6 Q))))))))))))))))))))) ls st h
theorem kX6_walk_140 {X : zq_X} {d : Nat} {r n : Nat} (C : zq_C X cX6_walk 10 RX6 d) (hr : zq_S[r]? = some (1, n, [])) {d_X6_valueOf : Nat} {s_X6_valueOf : zq_Sp} (h_X6_valueOf : zq_M yX6_valueOf cX6_valueOf 6 (some .int) 1 d_X6_valueOf s_X6_valueOf) (g_X6_valueOf : d_X6_valueOf + 1 ≤ d) {d_X6_joined : Nat} {s_X6_joined : zq_Sp} (h_X6_joined : zq_M yX6_joined cX6_joined 3 (some .int) 1 d_X6_joined s_X6_joined) (g_X6_joined : d_X6_joined + 1 ≤ d) {d_X6_strengthOf : Nat} {s_X6_strengthOf : zq_Sp} (h_X6_strengthOf : zq_M yX6_strengthOf cX6_strengthOf 1 (some .int) 1 d_X6_strengthOf s_X6_strengthOf) (g_X6_strengthOf : d_X6_strengthOf + 1 ≤ d) {J6 : zq_P} (j6 : zq_ok X 10 6 J6) {Q : zq_Q} (hq : zq_R X (some .int) 1 Q) : zq_ok X 10 140 (xX6_walk_140 r n s_X6_valueOf s_X6_joined s_X6_strengthOf J6 Q) := by
  refine zs_iinc C dX6_walk_140 (by decide) (by decide) ?_
  refine zs_aload_n C dX6_walk_143 rfl ?_
  refine zs_getR C zp_48 zF6 (j := 2) ⟨by decide, rfl⟩ zw_292 dX6_walk_144 ?_
  refine zs_iload C dX6_walk_147 ?_
  refine zs_iconst C dX6_walk_149 (by decide) ?_
  refine zs_isub C dX6_walk_150 ?_
  refine zs_iload C dX6_walk_151 ?_
  refine zs_aload_n C dX6_walk_153 rfl ?_
  refine zs_getR C zp_48 zF6 (j := 2) ⟨by decide, rfl⟩ zw_292 dX6_walk_154 ?_
  refine zs_iload C dX6_walk_157 ?_
  refine zs_iconst C dX6_walk_159 (by decide) ?_
  refine zs_isub C dX6_walk_160 ?_
  refine zs_iaload C zp_51 dX6_walk_161 ?_
  refine zs_aload_n C dX6_walk_162 rfl ?_
  refine zs_getR C zp_48 zF6 (j := 2) ⟨by decide, rfl⟩ zw_292 dX6_walk_163 ?_
  refine zs_iload C dX6_walk_166 ?_
  refine zs_iaload C zp_51 dX6_walk_168 ?_
  refine zs_callS C h_X6_joined g_X6_joined zy_X6_joined zw_449 zw_450 dX6_walk_169 ?_
  refine zs_iastore C zp_51 dX6_walk_172 ?_
  exact kX6_walk_173 C hr h_X6_valueOf g_X6_valueOf h_X6_joined g_X6_joined h_X6_strengthOf g_X6_strengthOf j6 hq
def xX6_walk_134 (r n : Nat) (s_X6_valueOf : zq_Sp) (s_X6_joined : zq_Sp) (s_X6_strengthOf : zq_Sp) (J6 : zq_P) (Q : zq_Q) (ls : zq_L) (st : List Value) (h : zq_H) : Prop := (zi_iload 6 (zi_push (.int 1) (zi_if2 (fun x y => x ≤ y) (xX6_walk_173 r n s_X6_valueOf s_X6_joined s_X6_strengthOf J6 Q) (xX6_walk_140 r n s_X6_valueOf s_X6_joined s_X6_strengthOf J6 Q)))) ls st h
theorem kX6_walk_134 {X : zq_X} {d : Nat} {r n : Nat} (C : zq_C X cX6_walk 10 RX6 d) (hr : zq_S[r]? = some (1, n, [])) {d_X6_valueOf : Nat} {s_X6_valueOf : zq_Sp} (h_X6_valueOf : zq_M yX6_valueOf cX6_valueOf 6 (some .int) 1 d_X6_valueOf s_X6_valueOf) (g_X6_valueOf : d_X6_valueOf + 1 ≤ d) {d_X6_joined : Nat} {s_X6_joined : zq_Sp} (h_X6_joined : zq_M yX6_joined cX6_joined 3 (some .int) 1 d_X6_joined s_X6_joined) (g_X6_joined : d_X6_joined + 1 ≤ d) {d_X6_strengthOf : Nat} {s_X6_strengthOf : zq_Sp} (h_X6_strengthOf : zq_M yX6_strengthOf cX6_strengthOf 1 (some .int) 1 d_X6_strengthOf s_X6_strengthOf) (g_X6_strengthOf : d_X6_strengthOf + 1 ≤ d) {J6 : zq_P} (j6 : zq_ok X 10 6 J6) {Q : zq_Q} (hq : zq_R X (some .int) 1 Q) : zq_ok X 10 134 (xX6_walk_134 r n s_X6_valueOf s_X6_joined s_X6_strengthOf J6 Q) := by
  refine zs_iload C dX6_walk_134 ?_
  refine zs_iconst C dX6_walk_136 (by decide) ?_
  exact zs_icmp_le C dX6_walk_137 (by decide) (kX6_walk_173 C hr h_X6_valueOf g_X6_valueOf h_X6_joined g_X6_joined h_X6_strengthOf g_X6_strengthOf j6 hq) (kX6_walk_140 C hr h_X6_valueOf g_X6_valueOf h_X6_joined g_X6_joined h_X6_strengthOf g_X6_strengthOf j6 hq)
def xX6_walk_112 (r n : Nat) (s_X6_valueOf : zq_Sp) (s_X6_joined : zq_Sp) (s_X6_strengthOf : zq_Sp) (J6 : zq_P) (Q : zq_Q) (ls : zq_L) (st : List Value) (h : zq_H) : Prop := (zi_aload 0 (zi_getR 48 51 (zi_iload 6 (zi_push (.int 1) (zi_i2 (fun x y => x - y) (zi_aload 0 (zi_getR 48 51 (zi_iload 6 (zi_push (.int 1) (zi_i2 (fun x y => x - y) (zi_aldI 51 40 (zi_i1 (fun x => -x) (zi_astI 51 40 ((xX6_walk_173 r n s_X6_valueOf s_X6_joined s_X6_strengthOf J6 Q))))))))))))))) ls st h
theorem kX6_walk_112 {X : zq_X} {d : Nat} {r n : Nat} (C : zq_C X cX6_walk 10 RX6 d) (hr : zq_S[r]? = some (1, n, [])) {d_X6_valueOf : Nat} {s_X6_valueOf : zq_Sp} (h_X6_valueOf : zq_M yX6_valueOf cX6_valueOf 6 (some .int) 1 d_X6_valueOf s_X6_valueOf) (g_X6_valueOf : d_X6_valueOf + 1 ≤ d) {d_X6_joined : Nat} {s_X6_joined : zq_Sp} (h_X6_joined : zq_M yX6_joined cX6_joined 3 (some .int) 1 d_X6_joined s_X6_joined) (g_X6_joined : d_X6_joined + 1 ≤ d) {d_X6_strengthOf : Nat} {s_X6_strengthOf : zq_Sp} (h_X6_strengthOf : zq_M yX6_strengthOf cX6_strengthOf 1 (some .int) 1 d_X6_strengthOf s_X6_strengthOf) (g_X6_strengthOf : d_X6_strengthOf + 1 ≤ d) {J6 : zq_P} (j6 : zq_ok X 10 6 J6) {Q : zq_Q} (hq : zq_R X (some .int) 1 Q) : zq_ok X 10 112 (xX6_walk_112 r n s_X6_valueOf s_X6_joined s_X6_strengthOf J6 Q) := by
  refine zs_aload_n C dX6_walk_112 rfl ?_
  refine zs_getR C zp_48 zF6 (j := 2) ⟨by decide, rfl⟩ zw_292 dX6_walk_113 ?_
  refine zs_iload C dX6_walk_116 ?_
  refine zs_iconst C dX6_walk_118 (by decide) ?_
  refine zs_isub C dX6_walk_119 ?_
  refine zs_aload_n C dX6_walk_120 rfl ?_
  refine zs_getR C zp_48 zF6 (j := 2) ⟨by decide, rfl⟩ zw_292 dX6_walk_121 ?_
  refine zs_iload C dX6_walk_124 ?_
  refine zs_iconst C dX6_walk_126 (by decide) ?_
  refine zs_isub C dX6_walk_127 ?_
  refine zs_iaload C zp_51 dX6_walk_128 ?_
  refine zs_ineg C dX6_walk_129 ?_
  refine zs_iastore C zp_51 dX6_walk_130 ?_
  exact zs_goto C dX6_walk_131 (by decide) (kX6_walk_173 C hr h_X6_valueOf g_X6_valueOf h_X6_joined g_X6_joined h_X6_strengthOf g_X6_strengthOf j6 hq)
def xX6_walk_107 (r n : Nat) (s_X6_valueOf : zq_Sp) (s_X6_joined : zq_Sp) (s_X6_strengthOf : zq_Sp) (J6 : zq_P) (Q : zq_Q) (ls : zq_L) (st : List Value) (h : zq_H) : Prop := (zi_iload 6 (zi_if1 (fun x => x ≤ 0) (xX6_walk_134 r n s_X6_valueOf s_X6_joined s_X6_strengthOf J6 Q) (xX6_walk_112 r n s_X6_valueOf s_X6_joined s_X6_strengthOf J6 Q))) ls st h
theorem kX6_walk_107 {X : zq_X} {d : Nat} {r n : Nat} (C : zq_C X cX6_walk 10 RX6 d) (hr : zq_S[r]? = some (1, n, [])) {d_X6_valueOf : Nat} {s_X6_valueOf : zq_Sp} (h_X6_valueOf : zq_M yX6_valueOf cX6_valueOf 6 (some .int) 1 d_X6_valueOf s_X6_valueOf) (g_X6_valueOf : d_X6_valueOf + 1 ≤ d) {d_X6_joined : Nat} {s_X6_joined : zq_Sp} (h_X6_joined : zq_M yX6_joined cX6_joined 3 (some .int) 1 d_X6_joined s_X6_joined) (g_X6_joined : d_X6_joined + 1 ≤ d) {d_X6_strengthOf : Nat} {s_X6_strengthOf : zq_Sp} (h_X6_strengthOf : zq_M yX6_strengthOf cX6_strengthOf 1 (some .int) 1 d_X6_strengthOf s_X6_strengthOf) (g_X6_strengthOf : d_X6_strengthOf + 1 ≤ d) {J6 : zq_P} (j6 : zq_ok X 10 6 J6) {Q : zq_Q} (hq : zq_R X (some .int) 1 Q) : zq_ok X 10 107 (xX6_walk_107 r n s_X6_valueOf s_X6_joined s_X6_strengthOf J6 Q) := by
  refine zs_iload C dX6_walk_107 ?_
  exact zs_if_le C dX6_walk_109 (by decide) (kX6_walk_134 C hr h_X6_valueOf g_X6_valueOf h_X6_joined g_X6_joined h_X6_strengthOf g_X6_strengthOf j6 hq) (kX6_walk_112 C hr h_X6_valueOf g_X6_valueOf h_X6_joined g_X6_joined h_X6_strengthOf g_X6_strengthOf j6 hq)
def xX6_walk_99 (r n : Nat) (s_X6_valueOf : zq_Sp) (s_X6_joined : zq_Sp) (s_X6_strengthOf : zq_Sp) (J6 : zq_P) (Q : zq_Q) (ls : zq_L) (st : List Value) (h : zq_H) : Prop := (zi_iload 8 (zi_push (.int 256) (zi_if2 (fun x y => x = y) (xX6_walk_107 r n s_X6_valueOf s_X6_joined s_X6_strengthOf J6 Q) (xX6_walk_134 r n s_X6_valueOf s_X6_joined s_X6_strengthOf J6 Q)))) ls st h
theorem kX6_walk_99 {X : zq_X} {d : Nat} {r n : Nat} (C : zq_C X cX6_walk 10 RX6 d) (hr : zq_S[r]? = some (1, n, [])) {d_X6_valueOf : Nat} {s_X6_valueOf : zq_Sp} (h_X6_valueOf : zq_M yX6_valueOf cX6_valueOf 6 (some .int) 1 d_X6_valueOf s_X6_valueOf) (g_X6_valueOf : d_X6_valueOf + 1 ≤ d) {d_X6_joined : Nat} {s_X6_joined : zq_Sp} (h_X6_joined : zq_M yX6_joined cX6_joined 3 (some .int) 1 d_X6_joined s_X6_joined) (g_X6_joined : d_X6_joined + 1 ≤ d) {d_X6_strengthOf : Nat} {s_X6_strengthOf : zq_Sp} (h_X6_strengthOf : zq_M yX6_strengthOf cX6_strengthOf 1 (some .int) 1 d_X6_strengthOf s_X6_strengthOf) (g_X6_strengthOf : d_X6_strengthOf + 1 ≤ d) {J6 : zq_P} (j6 : zq_ok X 10 6 J6) {Q : zq_Q} (hq : zq_R X (some .int) 1 Q) : zq_ok X 10 99 (xX6_walk_99 r n s_X6_valueOf s_X6_joined s_X6_strengthOf J6 Q) := by
  refine zs_iload C dX6_walk_99 ?_
  refine zs_sipush C dX6_walk_101 (by decide) ?_
  exact zs_icmp_ne C dX6_walk_104 (by decide) (kX6_walk_134 C hr h_X6_valueOf g_X6_valueOf h_X6_joined g_X6_joined h_X6_strengthOf g_X6_strengthOf j6 hq) (kX6_walk_107 C hr h_X6_valueOf g_X6_valueOf h_X6_joined g_X6_joined h_X6_strengthOf g_X6_strengthOf j6 hq)
def xX6_walk_92 (r n : Nat) (s_X6_valueOf : zq_Sp) (s_X6_joined : zq_Sp) (s_X6_strengthOf : zq_Sp) (J6 : zq_P) (Q : zq_Q) (ls : zq_L) (st : List Value) (h : zq_H) : Prop := (zi_astI 51 40 (zi_iinc 6 1 ((xX6_walk_173 r n s_X6_valueOf s_X6_joined s_X6_strengthOf J6 Q)))) ls st h
theorem kX6_walk_92 {X : zq_X} {d : Nat} {r n : Nat} (C : zq_C X cX6_walk 10 RX6 d) (hr : zq_S[r]? = some (1, n, [])) {d_X6_valueOf : Nat} {s_X6_valueOf : zq_Sp} (h_X6_valueOf : zq_M yX6_valueOf cX6_valueOf 6 (some .int) 1 d_X6_valueOf s_X6_valueOf) (g_X6_valueOf : d_X6_valueOf + 1 ≤ d) {d_X6_joined : Nat} {s_X6_joined : zq_Sp} (h_X6_joined : zq_M yX6_joined cX6_joined 3 (some .int) 1 d_X6_joined s_X6_joined) (g_X6_joined : d_X6_joined + 1 ≤ d) {d_X6_strengthOf : Nat} {s_X6_strengthOf : zq_Sp} (h_X6_strengthOf : zq_M yX6_strengthOf cX6_strengthOf 1 (some .int) 1 d_X6_strengthOf s_X6_strengthOf) (g_X6_strengthOf : d_X6_strengthOf + 1 ≤ d) {J6 : zq_P} (j6 : zq_ok X 10 6 J6) {Q : zq_Q} (hq : zq_R X (some .int) 1 Q) : zq_ok X 10 92 (xX6_walk_92 r n s_X6_valueOf s_X6_joined s_X6_strengthOf J6 Q) := by
  refine zs_iastore C zp_51 dX6_walk_92 ?_
  refine zs_iinc C dX6_walk_93 (by decide) (by decide) ?_
  exact zs_goto C dX6_walk_96 (by decide) (kX6_walk_173 C hr h_X6_valueOf g_X6_valueOf h_X6_joined g_X6_joined h_X6_strengthOf g_X6_strengthOf j6 hq)
def xX6_walk_80 (r n : Nat) (s_X6_valueOf : zq_Sp) (s_X6_joined : zq_Sp) (s_X6_strengthOf : zq_Sp) (J6 : zq_P) (Q : zq_Q) (ls : zq_L) (st : List Value) (h : zq_H) : Prop := (zi_iload 8 (zi_aload 1 (zi_iload 2 (zi_iload 3 (zi_aload 4 (zi_iload 5 (zi_callS 6 s_X6_valueOf ((xX6_walk_92 r n s_X6_valueOf s_X6_joined s_X6_strengthOf J6 Q))))))))) ls st h
theorem kX6_walk_80 {X : zq_X} {d : Nat} {r n : Nat} (C : zq_C X cX6_walk 10 RX6 d) (hr : zq_S[r]? = some (1, n, [])) {d_X6_valueOf : Nat} {s_X6_valueOf : zq_Sp} (h_X6_valueOf : zq_M yX6_valueOf cX6_valueOf 6 (some .int) 1 d_X6_valueOf s_X6_valueOf) (g_X6_valueOf : d_X6_valueOf + 1 ≤ d) {d_X6_joined : Nat} {s_X6_joined : zq_Sp} (h_X6_joined : zq_M yX6_joined cX6_joined 3 (some .int) 1 d_X6_joined s_X6_joined) (g_X6_joined : d_X6_joined + 1 ≤ d) {d_X6_strengthOf : Nat} {s_X6_strengthOf : zq_Sp} (h_X6_strengthOf : zq_M yX6_strengthOf cX6_strengthOf 1 (some .int) 1 d_X6_strengthOf s_X6_strengthOf) (g_X6_strengthOf : d_X6_strengthOf + 1 ≤ d) {J6 : zq_P} (j6 : zq_ok X 10 6 J6) {Q : zq_Q} (hq : zq_R X (some .int) 1 Q) : zq_ok X 10 80 (xX6_walk_80 r n s_X6_valueOf s_X6_joined s_X6_strengthOf J6 Q) := by
  refine zs_iload C dX6_walk_80 ?_
  refine zs_aload_n C dX6_walk_82 rfl ?_
  refine zs_iload_n C dX6_walk_83 rfl ?_
  refine zs_iload_n C dX6_walk_84 rfl ?_
  refine zs_aload C dX6_walk_85 ?_
  refine zs_iload C dX6_walk_87 ?_
  refine zs_callS C h_X6_valueOf g_X6_valueOf zy_X6_valueOf zw_446 zw_447 dX6_walk_89 ?_
  exact kX6_walk_92 C hr h_X6_valueOf g_X6_valueOf h_X6_joined g_X6_joined h_X6_strengthOf g_X6_strengthOf j6 hq
def xX6_walk_70 (r n : Nat) (s_X6_valueOf : zq_Sp) (s_X6_joined : zq_Sp) (s_X6_strengthOf : zq_Sp) (J6 : zq_P) (Q : zq_Q) (ls : zq_L) (st : List Value) (h : zq_H) : Prop := (zi_aload 0 (zi_getR 48 49 (zi_iload 7 (zi_aldI 49 40 ((xX6_walk_92 r n s_X6_valueOf s_X6_joined s_X6_strengthOf J6 Q)))))) ls st h
theorem kX6_walk_70 {X : zq_X} {d : Nat} {r n : Nat} (C : zq_C X cX6_walk 10 RX6 d) (hr : zq_S[r]? = some (1, n, [])) {d_X6_valueOf : Nat} {s_X6_valueOf : zq_Sp} (h_X6_valueOf : zq_M yX6_valueOf cX6_valueOf 6 (some .int) 1 d_X6_valueOf s_X6_valueOf) (g_X6_valueOf : d_X6_valueOf + 1 ≤ d) {d_X6_joined : Nat} {s_X6_joined : zq_Sp} (h_X6_joined : zq_M yX6_joined cX6_joined 3 (some .int) 1 d_X6_joined s_X6_joined) (g_X6_joined : d_X6_joined + 1 ≤ d) {d_X6_strengthOf : Nat} {s_X6_strengthOf : zq_Sp} (h_X6_strengthOf : zq_M yX6_strengthOf cX6_strengthOf 1 (some .int) 1 d_X6_strengthOf s_X6_strengthOf) (g_X6_strengthOf : d_X6_strengthOf + 1 ≤ d) {J6 : zq_P} (j6 : zq_ok X 10 6 J6) {Q : zq_Q} (hq : zq_R X (some .int) 1 Q) : zq_ok X 10 70 (xX6_walk_70 r n s_X6_valueOf s_X6_joined s_X6_strengthOf J6 Q) := by
  refine zs_aload_n C dX6_walk_70 rfl ?_
  refine zs_getR C zp_48 zF6 (j := 0) ⟨by decide, rfl⟩ zw_290 dX6_walk_71 ?_
  refine zs_iload C dX6_walk_74 ?_
  refine zs_iaload C zp_49 dX6_walk_76 ?_
  exact zs_goto C dX6_walk_77 (by decide) (kX6_walk_92 C hr h_X6_valueOf g_X6_valueOf h_X6_joined g_X6_joined h_X6_strengthOf g_X6_strengthOf j6 hq)
def xX6_walk_59 (r n : Nat) (s_X6_valueOf : zq_Sp) (s_X6_joined : zq_Sp) (s_X6_strengthOf : zq_Sp) (J6 : zq_P) (Q : zq_Q) (ls : zq_L) (st : List Value) (h : zq_H) : Prop := (zi_aload 0 (zi_getR 48 51 (zi_iload 6 (zi_iload 8 (zi_if1 (fun x => 0 ≤ x) (xX6_walk_80 r n s_X6_valueOf s_X6_joined s_X6_strengthOf J6 Q) (xX6_walk_70 r n s_X6_valueOf s_X6_joined s_X6_strengthOf J6 Q)))))) ls st h
theorem kX6_walk_59 {X : zq_X} {d : Nat} {r n : Nat} (C : zq_C X cX6_walk 10 RX6 d) (hr : zq_S[r]? = some (1, n, [])) {d_X6_valueOf : Nat} {s_X6_valueOf : zq_Sp} (h_X6_valueOf : zq_M yX6_valueOf cX6_valueOf 6 (some .int) 1 d_X6_valueOf s_X6_valueOf) (g_X6_valueOf : d_X6_valueOf + 1 ≤ d) {d_X6_joined : Nat} {s_X6_joined : zq_Sp} (h_X6_joined : zq_M yX6_joined cX6_joined 3 (some .int) 1 d_X6_joined s_X6_joined) (g_X6_joined : d_X6_joined + 1 ≤ d) {d_X6_strengthOf : Nat} {s_X6_strengthOf : zq_Sp} (h_X6_strengthOf : zq_M yX6_strengthOf cX6_strengthOf 1 (some .int) 1 d_X6_strengthOf s_X6_strengthOf) (g_X6_strengthOf : d_X6_strengthOf + 1 ≤ d) {J6 : zq_P} (j6 : zq_ok X 10 6 J6) {Q : zq_Q} (hq : zq_R X (some .int) 1 Q) : zq_ok X 10 59 (xX6_walk_59 r n s_X6_valueOf s_X6_joined s_X6_strengthOf J6 Q) := by
  refine zs_aload_n C dX6_walk_59 rfl ?_
  refine zs_getR C zp_48 zF6 (j := 2) ⟨by decide, rfl⟩ zw_292 dX6_walk_60 ?_
  refine zs_iload C dX6_walk_63 ?_
  refine zs_iload C dX6_walk_65 ?_
  exact zs_if_ge C dX6_walk_67 (by decide) (kX6_walk_80 C hr h_X6_valueOf g_X6_valueOf h_X6_joined g_X6_joined h_X6_strengthOf g_X6_strengthOf j6 hq) (kX6_walk_70 C hr h_X6_valueOf g_X6_valueOf h_X6_joined g_X6_joined h_X6_strengthOf g_X6_strengthOf j6 hq)
def xX6_walk_49 (r n : Nat) (s_X6_valueOf : zq_Sp) (s_X6_joined : zq_Sp) (s_X6_strengthOf : zq_Sp) (J6 : zq_P) (Q : zq_Q) (ls : zq_L) (st : List Value) (h : zq_H) : Prop := (zi_iload 6 (zi_aload 0 (zi_getR 48 51 (zi_alen 51 40 (zi_if2 (fun x y => y ≤ x) (xX6_walk_99 r n s_X6_valueOf s_X6_joined s_X6_strengthOf J6 Q) (xX6_walk_59 r n s_X6_valueOf s_X6_joined s_X6_strengthOf J6 Q)))))) ls st h
theorem kX6_walk_49 {X : zq_X} {d : Nat} {r n : Nat} (C : zq_C X cX6_walk 10 RX6 d) (hr : zq_S[r]? = some (1, n, [])) {d_X6_valueOf : Nat} {s_X6_valueOf : zq_Sp} (h_X6_valueOf : zq_M yX6_valueOf cX6_valueOf 6 (some .int) 1 d_X6_valueOf s_X6_valueOf) (g_X6_valueOf : d_X6_valueOf + 1 ≤ d) {d_X6_joined : Nat} {s_X6_joined : zq_Sp} (h_X6_joined : zq_M yX6_joined cX6_joined 3 (some .int) 1 d_X6_joined s_X6_joined) (g_X6_joined : d_X6_joined + 1 ≤ d) {d_X6_strengthOf : Nat} {s_X6_strengthOf : zq_Sp} (h_X6_strengthOf : zq_M yX6_strengthOf cX6_strengthOf 1 (some .int) 1 d_X6_strengthOf s_X6_strengthOf) (g_X6_strengthOf : d_X6_strengthOf + 1 ≤ d) {J6 : zq_P} (j6 : zq_ok X 10 6 J6) {Q : zq_Q} (hq : zq_R X (some .int) 1 Q) : zq_ok X 10 49 (xX6_walk_49 r n s_X6_valueOf s_X6_joined s_X6_strengthOf J6 Q) := by
  refine zs_iload C dX6_walk_49 ?_
  refine zs_aload_n C dX6_walk_51 rfl ?_
  refine zs_getR C zp_48 zF6 (j := 2) ⟨by decide, rfl⟩ zw_292 dX6_walk_52 ?_
  refine zs_alen C (Or.inl zp_51) dX6_walk_55 ?_
  exact zs_icmp_ge C dX6_walk_56 (by decide) (kX6_walk_99 C hr h_X6_valueOf g_X6_valueOf h_X6_joined g_X6_joined h_X6_strengthOf g_X6_strengthOf j6 hq) (kX6_walk_59 C hr h_X6_valueOf g_X6_valueOf h_X6_joined g_X6_joined h_X6_strengthOf g_X6_strengthOf j6 hq)
def xX6_walk_42 (r n : Nat) (s_X6_valueOf : zq_Sp) (s_X6_joined : zq_Sp) (s_X6_strengthOf : zq_Sp) (J6 : zq_P) (Q : zq_Q) (ls : zq_L) (st : List Value) (h : zq_H) : Prop := (zi_istore 9 (zi_iload 9 (zi_if1 (fun x => x = 0) (xX6_walk_49 r n s_X6_valueOf s_X6_joined s_X6_strengthOf J6 Q) (xX6_walk_99 r n s_X6_valueOf s_X6_joined s_X6_strengthOf J6 Q)))) ls st h
theorem kX6_walk_42 {X : zq_X} {d : Nat} {r n : Nat} (C : zq_C X cX6_walk 10 RX6 d) (hr : zq_S[r]? = some (1, n, [])) {d_X6_valueOf : Nat} {s_X6_valueOf : zq_Sp} (h_X6_valueOf : zq_M yX6_valueOf cX6_valueOf 6 (some .int) 1 d_X6_valueOf s_X6_valueOf) (g_X6_valueOf : d_X6_valueOf + 1 ≤ d) {d_X6_joined : Nat} {s_X6_joined : zq_Sp} (h_X6_joined : zq_M yX6_joined cX6_joined 3 (some .int) 1 d_X6_joined s_X6_joined) (g_X6_joined : d_X6_joined + 1 ≤ d) {d_X6_strengthOf : Nat} {s_X6_strengthOf : zq_Sp} (h_X6_strengthOf : zq_M yX6_strengthOf cX6_strengthOf 1 (some .int) 1 d_X6_strengthOf s_X6_strengthOf) (g_X6_strengthOf : d_X6_strengthOf + 1 ≤ d) {J6 : zq_P} (j6 : zq_ok X 10 6 J6) {Q : zq_Q} (hq : zq_R X (some .int) 1 Q) : zq_ok X 10 42 (xX6_walk_42 r n s_X6_valueOf s_X6_joined s_X6_strengthOf J6 Q) := by
  refine zs_istore C dX6_walk_42 (by decide) ?_
  refine zs_iload C dX6_walk_44 ?_
  exact zs_if_ne C dX6_walk_46 (by decide) (kX6_walk_99 C hr h_X6_valueOf g_X6_valueOf h_X6_joined g_X6_joined h_X6_strengthOf g_X6_strengthOf j6 hq) (kX6_walk_49 C hr h_X6_valueOf g_X6_valueOf h_X6_joined g_X6_joined h_X6_strengthOf g_X6_strengthOf j6 hq)
def xX6_walk_37 (r n : Nat) (s_X6_valueOf : zq_Sp) (s_X6_joined : zq_Sp) (s_X6_strengthOf : zq_Sp) (J6 : zq_P) (Q : zq_Q) (ls : zq_L) (st : List Value) (h : zq_H) : Prop := (zi_iload 8 (zi_callS 1 s_X6_strengthOf ((xX6_walk_42 r n s_X6_valueOf s_X6_joined s_X6_strengthOf J6 Q)))) ls st h
theorem kX6_walk_37 {X : zq_X} {d : Nat} {r n : Nat} (C : zq_C X cX6_walk 10 RX6 d) (hr : zq_S[r]? = some (1, n, [])) {d_X6_valueOf : Nat} {s_X6_valueOf : zq_Sp} (h_X6_valueOf : zq_M yX6_valueOf cX6_valueOf 6 (some .int) 1 d_X6_valueOf s_X6_valueOf) (g_X6_valueOf : d_X6_valueOf + 1 ≤ d) {d_X6_joined : Nat} {s_X6_joined : zq_Sp} (h_X6_joined : zq_M yX6_joined cX6_joined 3 (some .int) 1 d_X6_joined s_X6_joined) (g_X6_joined : d_X6_joined + 1 ≤ d) {d_X6_strengthOf : Nat} {s_X6_strengthOf : zq_Sp} (h_X6_strengthOf : zq_M yX6_strengthOf cX6_strengthOf 1 (some .int) 1 d_X6_strengthOf s_X6_strengthOf) (g_X6_strengthOf : d_X6_strengthOf + 1 ≤ d) {J6 : zq_P} (j6 : zq_ok X 10 6 J6) {Q : zq_Q} (hq : zq_R X (some .int) 1 Q) : zq_ok X 10 37 (xX6_walk_37 r n s_X6_valueOf s_X6_joined s_X6_strengthOf J6 Q) := by
  refine zs_iload C dX6_walk_37 ?_
  refine zs_callS C h_X6_strengthOf g_X6_strengthOf zy_X6_strengthOf zw_443 zw_444 dX6_walk_39 ?_
  exact kX6_walk_42 C hr h_X6_valueOf g_X6_valueOf h_X6_joined g_X6_joined h_X6_strengthOf g_X6_strengthOf j6 hq
def xX6_walk_33 (r n : Nat) (s_X6_valueOf : zq_Sp) (s_X6_joined : zq_Sp) (s_X6_strengthOf : zq_Sp) (J6 : zq_P) (Q : zq_Q) (ls : zq_L) (st : List Value) (h : zq_H) : Prop := (zi_push (.int 0) ((xX6_walk_42 r n s_X6_valueOf s_X6_joined s_X6_strengthOf J6 Q))) ls st h
theorem kX6_walk_33 {X : zq_X} {d : Nat} {r n : Nat} (C : zq_C X cX6_walk 10 RX6 d) (hr : zq_S[r]? = some (1, n, [])) {d_X6_valueOf : Nat} {s_X6_valueOf : zq_Sp} (h_X6_valueOf : zq_M yX6_valueOf cX6_valueOf 6 (some .int) 1 d_X6_valueOf s_X6_valueOf) (g_X6_valueOf : d_X6_valueOf + 1 ≤ d) {d_X6_joined : Nat} {s_X6_joined : zq_Sp} (h_X6_joined : zq_M yX6_joined cX6_joined 3 (some .int) 1 d_X6_joined s_X6_joined) (g_X6_joined : d_X6_joined + 1 ≤ d) {d_X6_strengthOf : Nat} {s_X6_strengthOf : zq_Sp} (h_X6_strengthOf : zq_M yX6_strengthOf cX6_strengthOf 1 (some .int) 1 d_X6_strengthOf s_X6_strengthOf) (g_X6_strengthOf : d_X6_strengthOf + 1 ≤ d) {J6 : zq_P} (j6 : zq_ok X 10 6 J6) {Q : zq_Q} (hq : zq_R X (some .int) 1 Q) : zq_ok X 10 33 (xX6_walk_33 r n s_X6_valueOf s_X6_joined s_X6_strengthOf J6 Q) := by
  refine zs_iconst C dX6_walk_33 (by decide) ?_
  exact zs_goto C dX6_walk_34 (by decide) (kX6_walk_42 C hr h_X6_valueOf g_X6_valueOf h_X6_joined g_X6_joined h_X6_strengthOf g_X6_strengthOf j6 hq)
def xX6_walk_15 (r n : Nat) (s_X6_valueOf : zq_Sp) (s_X6_joined : zq_Sp) (s_X6_strengthOf : zq_Sp) (J6 : zq_P) (Q : zq_Q) (ls : zq_L) (st : List Value) (h : zq_H) : Prop := (zi_aload 0 (zi_getR 48 49 (zi_iload 7 (zi_aldI 49 40 (zi_push (.int 1000) (zi_i2 (fun x y => x - y) (zi_istore 8 (zi_iload 8 (zi_if1 (fun x => 0 ≤ x) (xX6_walk_37 r n s_X6_valueOf s_X6_joined s_X6_strengthOf J6 Q) (xX6_walk_33 r n s_X6_valueOf s_X6_joined s_X6_strengthOf J6 Q)))))))))) ls st h
theorem kX6_walk_15 {X : zq_X} {d : Nat} {r n : Nat} (C : zq_C X cX6_walk 10 RX6 d) (hr : zq_S[r]? = some (1, n, [])) {d_X6_valueOf : Nat} {s_X6_valueOf : zq_Sp} (h_X6_valueOf : zq_M yX6_valueOf cX6_valueOf 6 (some .int) 1 d_X6_valueOf s_X6_valueOf) (g_X6_valueOf : d_X6_valueOf + 1 ≤ d) {d_X6_joined : Nat} {s_X6_joined : zq_Sp} (h_X6_joined : zq_M yX6_joined cX6_joined 3 (some .int) 1 d_X6_joined s_X6_joined) (g_X6_joined : d_X6_joined + 1 ≤ d) {d_X6_strengthOf : Nat} {s_X6_strengthOf : zq_Sp} (h_X6_strengthOf : zq_M yX6_strengthOf cX6_strengthOf 1 (some .int) 1 d_X6_strengthOf s_X6_strengthOf) (g_X6_strengthOf : d_X6_strengthOf + 1 ≤ d) {J6 : zq_P} (j6 : zq_ok X 10 6 J6) {Q : zq_Q} (hq : zq_R X (some .int) 1 Q) : zq_ok X 10 15 (xX6_walk_15 r n s_X6_valueOf s_X6_joined s_X6_strengthOf J6 Q) := by
  refine zs_aload_n C dX6_walk_15 rfl ?_
  refine zs_getR C zp_48 zF6 (j := 0) ⟨by decide, rfl⟩ zw_290 dX6_walk_16 ?_
  refine zs_iload C dX6_walk_19 ?_
  refine zs_iaload C zp_49 dX6_walk_21 ?_
  refine zs_sipush C dX6_walk_22 (by decide) ?_
  refine zs_isub C dX6_walk_25 ?_
  refine zs_istore C dX6_walk_26 (by decide) ?_
  refine zs_iload C dX6_walk_28 ?_
  exact zs_if_ge C dX6_walk_30 (by decide) (kX6_walk_37 C hr h_X6_valueOf g_X6_valueOf h_X6_joined g_X6_joined h_X6_strengthOf g_X6_strengthOf j6 hq) (kX6_walk_33 C hr h_X6_valueOf g_X6_valueOf h_X6_joined g_X6_joined h_X6_strengthOf g_X6_strengthOf j6 hq)
def xX6_walk_6 (r n : Nat) (s_X6_valueOf : zq_Sp) (s_X6_joined : zq_Sp) (s_X6_strengthOf : zq_Sp) (J6 : zq_P) (Q : zq_Q) (ls : zq_L) (st : List Value) (h : zq_H) : Prop := (zi_iload 7 (zi_aload 0 (zi_getI 48 3 (zi_if2 (fun x y => y ≤ x) (xX6_walk_179 r n s_X6_valueOf s_X6_joined s_X6_strengthOf J6 Q) (xX6_walk_15 r n s_X6_valueOf s_X6_joined s_X6_strengthOf J6 Q))))) ls st h
theorem kX6_walk_6 {X : zq_X} {d : Nat} {r n : Nat} (C : zq_C X cX6_walk 10 RX6 d) (hr : zq_S[r]? = some (1, n, [])) {d_X6_valueOf : Nat} {s_X6_valueOf : zq_Sp} (h_X6_valueOf : zq_M yX6_valueOf cX6_valueOf 6 (some .int) 1 d_X6_valueOf s_X6_valueOf) (g_X6_valueOf : d_X6_valueOf + 1 ≤ d) {d_X6_joined : Nat} {s_X6_joined : zq_Sp} (h_X6_joined : zq_M yX6_joined cX6_joined 3 (some .int) 1 d_X6_joined s_X6_joined) (g_X6_joined : d_X6_joined + 1 ≤ d) {d_X6_strengthOf : Nat} {s_X6_strengthOf : zq_Sp} (h_X6_strengthOf : zq_M yX6_strengthOf cX6_strengthOf 1 (some .int) 1 d_X6_strengthOf s_X6_strengthOf) (g_X6_strengthOf : d_X6_strengthOf + 1 ≤ d) {J6 : zq_P} (j6 : zq_ok X 10 6 J6) {Q : zq_Q} (hq : zq_R X (some .int) 1 Q) : zq_ok X 10 6 (xX6_walk_6 r n s_X6_valueOf s_X6_joined s_X6_strengthOf J6 Q) := by
  refine zs_iload C dX6_walk_6 ?_
  refine zs_aload_n C dX6_walk_8 rfl ?_
  refine zs_getI C zp_48 zF6 (j := 3) ⟨by decide, rfl⟩ zw_293 dX6_walk_9 ?_
  exact zs_icmp_ge C dX6_walk_12 (by decide) (kX6_walk_179 C hr h_X6_valueOf g_X6_valueOf h_X6_joined g_X6_joined h_X6_strengthOf g_X6_strengthOf j6 hq) (kX6_walk_15 C hr h_X6_valueOf g_X6_valueOf h_X6_joined g_X6_joined h_X6_strengthOf g_X6_strengthOf j6 hq)
def xX6_walk_0 (r n : Nat) (s_X6_valueOf : zq_Sp) (s_X6_joined : zq_Sp) (s_X6_strengthOf : zq_Sp) (J6 : zq_P) (Q : zq_Q) (ls : zq_L) (st : List Value) (h : zq_H) : Prop := (zi_push (.int 0) (zi_istore 6 (zi_push (.int 0) (zi_istore 7 (J6))))) ls st h
theorem kX6_walk_0 {X : zq_X} {d : Nat} {r n : Nat} (C : zq_C X cX6_walk 10 RX6 d) (hr : zq_S[r]? = some (1, n, [])) {d_X6_valueOf : Nat} {s_X6_valueOf : zq_Sp} (h_X6_valueOf : zq_M yX6_valueOf cX6_valueOf 6 (some .int) 1 d_X6_valueOf s_X6_valueOf) (g_X6_valueOf : d_X6_valueOf + 1 ≤ d) {d_X6_joined : Nat} {s_X6_joined : zq_Sp} (h_X6_joined : zq_M yX6_joined cX6_joined 3 (some .int) 1 d_X6_joined s_X6_joined) (g_X6_joined : d_X6_joined + 1 ≤ d) {d_X6_strengthOf : Nat} {s_X6_strengthOf : zq_Sp} (h_X6_strengthOf : zq_M yX6_strengthOf cX6_strengthOf 1 (some .int) 1 d_X6_strengthOf s_X6_strengthOf) (g_X6_strengthOf : d_X6_strengthOf + 1 ≤ d) {J6 : zq_P} (j6 : zq_ok X 10 6 J6) {Q : zq_Q} (hq : zq_R X (some .int) 1 Q) : zq_ok X 10 0 (xX6_walk_0 r n s_X6_valueOf s_X6_joined s_X6_strengthOf J6 Q) := by
  refine zs_iconst C dX6_walk_0 (by decide) ?_
  refine zs_istore C dX6_walk_1 (by decide) ?_
  refine zs_iconst C dX6_walk_3 (by decide) ?_
  refine zs_istore C dX6_walk_4 (by decide) ?_
  exact j6
theorem mX6_walk {d : Nat} {r n : Nat} {spec : zq_Sp} {σ6 : Type} {d_X6_valueOf : Nat} {s_X6_valueOf : zq_Sp} (h_X6_valueOf : zq_M yX6_valueOf cX6_valueOf 6 (some .int) 1 d_X6_valueOf s_X6_valueOf) (g_X6_valueOf : d_X6_valueOf + 1 ≤ d) {d_X6_joined : Nat} {s_X6_joined : zq_Sp} (h_X6_joined : zq_M yX6_joined cX6_joined 3 (some .int) 1 d_X6_joined s_X6_joined) (g_X6_joined : d_X6_joined + 1 ≤ d) {d_X6_strengthOf : Nat} {s_X6_strengthOf : zq_Sp} (h_X6_strengthOf : zq_M yX6_strengthOf cX6_strengthOf 1 (some .int) 1 d_X6_strengthOf s_X6_strengthOf) (g_X6_strengthOf : d_X6_strengthOf + 1 ≤ d) (hr9 : ∀ args h Q, spec args h Q → zq_S[r]? = some (1, n, [])) (μ6 : σ6 → Nat) (I6 : zq_Q → σ6 → zq_P) (v : ∀ args h Q, spec args h Q → (zq_a args).length ≤ 10 ∧ xX6_walk_0 r n s_X6_valueOf s_X6_joined s_X6_strengthOf (fun ls st h => ∃ b, I6 Q b ls st h) Q (zq_l0 10 args) [] h) (v6 : ∀ Q a ls st h, I6 Q a ls st h → xX6_walk_6 r n s_X6_valueOf s_X6_joined s_X6_strengthOf (fun ls st h => ∃ b, μ6 b < μ6 a ∧ I6 Q b ls st h) Q ls st h) : zq_M yX6_walk cX6_walk 10 (some .int) 1 d spec := by
  refine zq_met (by decide +kernel) (by decide) (fun X Q args h C hq hs => ⟨(v args h Q hs).1, _, ?_, (v args h Q hs).2⟩)
  have hr := hr9 args h Q hs
  have hl := zq_loop1 (X := X) (nL := 10) (pc1 := 6) μ6 (I6 Q) (fun J6 => xX6_walk_6 r n s_X6_valueOf s_X6_joined s_X6_strengthOf J6 Q) (fun j6 => kX6_walk_6 C hr h_X6_valueOf g_X6_valueOf h_X6_joined g_X6_joined h_X6_strengthOf g_X6_strengthOf j6 hq) (v6 Q)
  exact kX6_walk_0 C hr h_X6_valueOf g_X6_valueOf h_X6_joined g_X6_joined h_X6_strengthOf g_X6_strengthOf hl hq
/-! ToOneCrumb$Rule.valueOf(ILToOneCrumb$Loaf;II[II)I -/
theorem dX6_valueOf_0 : decode cX6_valueOf 0 = .ok (.iload_n 0, 1) := by decide +kernel
theorem dX6_valueOf_1 : decode cX6_valueOf 1 = .ok (.tableswitch 134 97 114 #[108, 114, 87, 122, 134, 134, 134, 134, 130, 134, 101, 134, 134, 134, 134, 132, 134, 94], 87) := by decide +kernel
theorem dX6_valueOf_88 : decode cX6_valueOf 88 = .ok (.aload_n 1, 1) := by decide +kernel
theorem dX6_valueOf_89 : decode cX6_valueOf 89 = .ok (.getfield 88, 3) := by decide +kernel
theorem dX6_valueOf_92 : decode cX6_valueOf 92 = .ok (.iload_n 2, 1) := by decide +kernel
theorem dX6_valueOf_93 : decode cX6_valueOf 93 = .ok (.iaload, 1) := by decide +kernel
theorem dX6_valueOf_94 : decode cX6_valueOf 94 = .ok (.ireturn, 1) := by decide +kernel
theorem dX6_valueOf_95 : decode cX6_valueOf 95 = .ok (.aload_n 1, 1) := by decide +kernel
theorem dX6_valueOf_96 : decode cX6_valueOf 96 = .ok (.getfield 93, 3) := by decide +kernel
theorem dX6_valueOf_99 : decode cX6_valueOf 99 = .ok (.iload_n 2, 1) := by decide +kernel
theorem dX6_valueOf_100 : decode cX6_valueOf 100 = .ok (.iaload, 1) := by decide +kernel
theorem dX6_valueOf_101 : decode cX6_valueOf 101 = .ok (.ireturn, 1) := by decide +kernel
theorem dX6_valueOf_102 : decode cX6_valueOf 102 = .ok (.aload_n 1, 1) := by decide +kernel
theorem dX6_valueOf_103 : decode cX6_valueOf 103 = .ok (.getfield 96, 3) := by decide +kernel
theorem dX6_valueOf_106 : decode cX6_valueOf 106 = .ok (.iload_n 2, 1) := by decide +kernel
theorem dX6_valueOf_107 : decode cX6_valueOf 107 = .ok (.iaload, 1) := by decide +kernel
theorem dX6_valueOf_108 : decode cX6_valueOf 108 = .ok (.ireturn, 1) := by decide +kernel
theorem dX6_valueOf_109 : decode cX6_valueOf 109 = .ok (.aload 4, 2) := by decide +kernel
theorem dX6_valueOf_111 : decode cX6_valueOf 111 = .ok (.iload 5, 2) := by decide +kernel
theorem dX6_valueOf_113 : decode cX6_valueOf 113 = .ok (.iaload, 1) := by decide +kernel
theorem dX6_valueOf_114 : decode cX6_valueOf 114 = .ok (.ireturn, 1) := by decide +kernel
theorem dX6_valueOf_115 : decode cX6_valueOf 115 = .ok (.aload 4, 2) := by decide +kernel
theorem dX6_valueOf_117 : decode cX6_valueOf 117 = .ok (.iload 5, 2) := by decide +kernel
theorem dX6_valueOf_119 : decode cX6_valueOf 119 = .ok (.iconst 1, 1) := by decide +kernel
theorem dX6_valueOf_120 : decode cX6_valueOf 120 = .ok (.iadd, 1) := by decide +kernel
theorem dX6_valueOf_121 : decode cX6_valueOf 121 = .ok (.iaload, 1) := by decide +kernel
theorem dX6_valueOf_122 : decode cX6_valueOf 122 = .ok (.ireturn, 1) := by decide +kernel
theorem dX6_valueOf_123 : decode cX6_valueOf 123 = .ok (.aload 4, 2) := by decide +kernel
theorem dX6_valueOf_125 : decode cX6_valueOf 125 = .ok (.iload 5, 2) := by decide +kernel
theorem dX6_valueOf_127 : decode cX6_valueOf 127 = .ok (.iconst 2, 1) := by decide +kernel
theorem dX6_valueOf_128 : decode cX6_valueOf 128 = .ok (.iadd, 1) := by decide +kernel
theorem dX6_valueOf_129 : decode cX6_valueOf 129 = .ok (.iaload, 1) := by decide +kernel
theorem dX6_valueOf_130 : decode cX6_valueOf 130 = .ok (.ireturn, 1) := by decide +kernel
theorem dX6_valueOf_131 : decode cX6_valueOf 131 = .ok (.iload_n 3, 1) := by decide +kernel
theorem dX6_valueOf_132 : decode cX6_valueOf 132 = .ok (.ireturn, 1) := by decide +kernel
theorem dX6_valueOf_133 : decode cX6_valueOf 133 = .ok (.iload_n 2, 1) := by decide +kernel
theorem dX6_valueOf_134 : decode cX6_valueOf 134 = .ok (.ireturn, 1) := by decide +kernel
theorem dX6_valueOf_135 : decode cX6_valueOf 135 = .ok (.iload_n 2, 1) := by decide +kernel
theorem dX6_valueOf_136 : decode cX6_valueOf 136 = .ok (.ifCond .eq 13, 3) := by decide +kernel
theorem dX6_valueOf_139 : decode cX6_valueOf 139 = .ok (.iload_n 2, 1) := by decide +kernel
theorem dX6_valueOf_140 : decode cX6_valueOf 140 = .ok (.aload_n 1, 1) := by decide +kernel
theorem dX6_valueOf_141 : decode cX6_valueOf 141 = .ok (.getfield 114, 3) := by decide +kernel
theorem dX6_valueOf_144 : decode cX6_valueOf 144 = .ok (.iconst 1, 1) := by decide +kernel
theorem dX6_valueOf_145 : decode cX6_valueOf 145 = .ok (.isub, 1) := by decide +kernel
theorem dX6_valueOf_146 : decode cX6_valueOf 146 = .ok (.if_icmp .ne 7, 3) := by decide +kernel
theorem dX6_valueOf_149 : decode cX6_valueOf 149 = .ok (.iconst 1, 1) := by decide +kernel
theorem dX6_valueOf_150 : decode cX6_valueOf 150 = .ok (.goto 4, 3) := by decide +kernel
theorem dX6_valueOf_153 : decode cX6_valueOf 153 = .ok (.iconst 0, 1) := by decide +kernel
theorem dX6_valueOf_154 : decode cX6_valueOf 154 = .ok (.ireturn, 1) := by decide +kernel
def xX6_valueOf_154 (r n : Nat) (Q : zq_Q) (ls : zq_L) (st : List Value) (h : zq_H) : Prop := (zi_iret Q) ls st h
theorem kX6_valueOf_154 {X : zq_X} {d : Nat} {r n : Nat} (C : zq_C X cX6_valueOf 6 RX6 d) (hr : zq_S[r]? = some (1, n, [])) {Q : zq_Q} (hq : zq_R X (some .int) 1 Q) : zq_ok X 6 154 (xX6_valueOf_154 r n Q) := by
  exact zs_iret C hq dX6_valueOf_154
def xX6_valueOf_153 (r n : Nat) (Q : zq_Q) (ls : zq_L) (st : List Value) (h : zq_H) : Prop := (zi_push (.int 0) ((xX6_valueOf_154 r n Q))) ls st h
theorem kX6_valueOf_153 {X : zq_X} {d : Nat} {r n : Nat} (C : zq_C X cX6_valueOf 6 RX6 d) (hr : zq_S[r]? = some (1, n, [])) {Q : zq_Q} (hq : zq_R X (some .int) 1 Q) : zq_ok X 6 153 (xX6_valueOf_153 r n Q) := by
  refine zs_iconst C dX6_valueOf_153 (by decide) ?_
  exact kX6_valueOf_154 C hr hq
def xX6_valueOf_149 (r n : Nat) (Q : zq_Q) (ls : zq_L) (st : List Value) (h : zq_H) : Prop := (zi_push (.int 1) ((xX6_valueOf_154 r n Q))) ls st h
theorem kX6_valueOf_149 {X : zq_X} {d : Nat} {r n : Nat} (C : zq_C X cX6_valueOf 6 RX6 d) (hr : zq_S[r]? = some (1, n, [])) {Q : zq_Q} (hq : zq_R X (some .int) 1 Q) : zq_ok X 6 149 (xX6_valueOf_149 r n Q) := by
  refine zs_iconst C dX6_valueOf_149 (by decide) ?_
  exact zs_goto C dX6_valueOf_150 (by decide) (kX6_valueOf_154 C hr hq)
def xX6_valueOf_139 (r n : Nat) (Q : zq_Q) (ls : zq_L) (st : List Value) (h : zq_H) : Prop := (zi_iload 2 (zi_aload 1 (zi_getI 40 3 (zi_push (.int 1) (zi_i2 (fun x y => x - y) (zi_if2 (fun x y => x = y) (xX6_valueOf_149 r n Q) (xX6_valueOf_153 r n Q))))))) ls st h
theorem kX6_valueOf_139 {X : zq_X} {d : Nat} {r n : Nat} (C : zq_C X cX6_valueOf 6 RX6 d) (hr : zq_S[r]? = some (1, n, [])) {Q : zq_Q} (hq : zq_R X (some .int) 1 Q) : zq_ok X 6 139 (xX6_valueOf_139 r n Q) := by
  refine zs_iload_n C dX6_valueOf_139 rfl ?_
  refine zs_aload_n C dX6_valueOf_140 rfl ?_
  refine zs_getIN C zp_40 zF2 (j := 3) ⟨by decide, rfl⟩ zw_274 dX6_valueOf_141 ?_
  refine zs_iconst C dX6_valueOf_144 (by decide) ?_
  refine zs_isub C dX6_valueOf_145 ?_
  exact zs_icmp_ne C dX6_valueOf_146 (by decide) (kX6_valueOf_153 C hr hq) (kX6_valueOf_149 C hr hq)
def xX6_valueOf_135 (r n : Nat) (Q : zq_Q) (ls : zq_L) (st : List Value) (h : zq_H) : Prop := (zi_iload 2 (zi_if1 (fun x => x = 0) (xX6_valueOf_149 r n Q) (xX6_valueOf_139 r n Q))) ls st h
theorem kX6_valueOf_135 {X : zq_X} {d : Nat} {r n : Nat} (C : zq_C X cX6_valueOf 6 RX6 d) (hr : zq_S[r]? = some (1, n, [])) {Q : zq_Q} (hq : zq_R X (some .int) 1 Q) : zq_ok X 6 135 (xX6_valueOf_135 r n Q) := by
  refine zs_iload_n C dX6_valueOf_135 rfl ?_
  exact zs_if_eq C dX6_valueOf_136 (by decide) (kX6_valueOf_149 C hr hq) (kX6_valueOf_139 C hr hq)
def xX6_valueOf_133 (r n : Nat) (Q : zq_Q) (ls : zq_L) (st : List Value) (h : zq_H) : Prop := (zi_iload 2 (zi_iret Q)) ls st h
theorem kX6_valueOf_133 {X : zq_X} {d : Nat} {r n : Nat} (C : zq_C X cX6_valueOf 6 RX6 d) (hr : zq_S[r]? = some (1, n, [])) {Q : zq_Q} (hq : zq_R X (some .int) 1 Q) : zq_ok X 6 133 (xX6_valueOf_133 r n Q) := by
  refine zs_iload_n C dX6_valueOf_133 rfl ?_
  exact zs_iret C hq dX6_valueOf_134
def xX6_valueOf_131 (r n : Nat) (Q : zq_Q) (ls : zq_L) (st : List Value) (h : zq_H) : Prop := (zi_iload 3 (zi_iret Q)) ls st h
theorem kX6_valueOf_131 {X : zq_X} {d : Nat} {r n : Nat} (C : zq_C X cX6_valueOf 6 RX6 d) (hr : zq_S[r]? = some (1, n, [])) {Q : zq_Q} (hq : zq_R X (some .int) 1 Q) : zq_ok X 6 131 (xX6_valueOf_131 r n Q) := by
  refine zs_iload_n C dX6_valueOf_131 rfl ?_
  exact zs_iret C hq dX6_valueOf_132
def xX6_valueOf_123 (r n : Nat) (Q : zq_Q) (ls : zq_L) (st : List Value) (h : zq_H) : Prop := (zi_aload 4 (zi_iload 5 (zi_push (.int 2) (zi_i2 (fun x y => x + y) (zi_aldI r n (zi_iret Q)))))) ls st h
theorem kX6_valueOf_123 {X : zq_X} {d : Nat} {r n : Nat} (C : zq_C X cX6_valueOf 6 RX6 d) (hr : zq_S[r]? = some (1, n, [])) {Q : zq_Q} (hq : zq_R X (some .int) 1 Q) : zq_ok X 6 123 (xX6_valueOf_123 r n Q) := by
  refine zs_aload C dX6_valueOf_123 ?_
  refine zs_iload C dX6_valueOf_125 ?_
  refine zs_iconst C dX6_valueOf_127 (by decide) ?_
  refine zs_iadd C dX6_valueOf_128 ?_
  refine zs_iaload C hr dX6_valueOf_129 ?_
  exact zs_iret C hq dX6_valueOf_130
def xX6_valueOf_115 (r n : Nat) (Q : zq_Q) (ls : zq_L) (st : List Value) (h : zq_H) : Prop := (zi_aload 4 (zi_iload 5 (zi_push (.int 1) (zi_i2 (fun x y => x + y) (zi_aldI r n (zi_iret Q)))))) ls st h
theorem kX6_valueOf_115 {X : zq_X} {d : Nat} {r n : Nat} (C : zq_C X cX6_valueOf 6 RX6 d) (hr : zq_S[r]? = some (1, n, [])) {Q : zq_Q} (hq : zq_R X (some .int) 1 Q) : zq_ok X 6 115 (xX6_valueOf_115 r n Q) := by
  refine zs_aload C dX6_valueOf_115 ?_
  refine zs_iload C dX6_valueOf_117 ?_
  refine zs_iconst C dX6_valueOf_119 (by decide) ?_
  refine zs_iadd C dX6_valueOf_120 ?_
  refine zs_iaload C hr dX6_valueOf_121 ?_
  exact zs_iret C hq dX6_valueOf_122
def xX6_valueOf_109 (r n : Nat) (Q : zq_Q) (ls : zq_L) (st : List Value) (h : zq_H) : Prop := (zi_aload 4 (zi_iload 5 (zi_aldI r n (zi_iret Q)))) ls st h
theorem kX6_valueOf_109 {X : zq_X} {d : Nat} {r n : Nat} (C : zq_C X cX6_valueOf 6 RX6 d) (hr : zq_S[r]? = some (1, n, [])) {Q : zq_Q} (hq : zq_R X (some .int) 1 Q) : zq_ok X 6 109 (xX6_valueOf_109 r n Q) := by
  refine zs_aload C dX6_valueOf_109 ?_
  refine zs_iload C dX6_valueOf_111 ?_
  refine zs_iaload C hr dX6_valueOf_113 ?_
  exact zs_iret C hq dX6_valueOf_114
def xX6_valueOf_102 (r n : Nat) (Q : zq_Q) (ls : zq_L) (st : List Value) (h : zq_H) : Prop := (zi_aload 1 (zi_getR 40 43 (zi_iload 2 (zi_aldI 43 16 (zi_iret Q))))) ls st h
theorem kX6_valueOf_102 {X : zq_X} {d : Nat} {r n : Nat} (C : zq_C X cX6_valueOf 6 RX6 d) (hr : zq_S[r]? = some (1, n, [])) {Q : zq_Q} (hq : zq_R X (some .int) 1 Q) : zq_ok X 6 102 (xX6_valueOf_102 r n Q) := by
  refine zs_aload_n C dX6_valueOf_102 rfl ?_
  refine zs_getRN C zp_40 zF2 (j := 2) ⟨by decide, rfl⟩ zw_269 dX6_valueOf_103 ?_
  refine zs_iload_n C dX6_valueOf_106 rfl ?_
  refine zs_iaload C zp_43 dX6_valueOf_107 ?_
  exact zs_iret C hq dX6_valueOf_108
def xX6_valueOf_95 (r n : Nat) (Q : zq_Q) (ls : zq_L) (st : List Value) (h : zq_H) : Prop := (zi_aload 1 (zi_getR 40 42 (zi_iload 2 (zi_aldI 42 16 (zi_iret Q))))) ls st h
theorem kX6_valueOf_95 {X : zq_X} {d : Nat} {r n : Nat} (C : zq_C X cX6_valueOf 6 RX6 d) (hr : zq_S[r]? = some (1, n, [])) {Q : zq_Q} (hq : zq_R X (some .int) 1 Q) : zq_ok X 6 95 (xX6_valueOf_95 r n Q) := by
  refine zs_aload_n C dX6_valueOf_95 rfl ?_
  refine zs_getRN C zp_40 zF2 (j := 1) ⟨by decide, rfl⟩ zw_266 dX6_valueOf_96 ?_
  refine zs_iload_n C dX6_valueOf_99 rfl ?_
  refine zs_iaload C zp_42 dX6_valueOf_100 ?_
  exact zs_iret C hq dX6_valueOf_101
def xX6_valueOf_88 (r n : Nat) (Q : zq_Q) (ls : zq_L) (st : List Value) (h : zq_H) : Prop := (zi_aload 1 (zi_getR 40 41 (zi_iload 2 (zi_aldI 41 16 (zi_iret Q))))) ls st h
theorem kX6_valueOf_88 {X : zq_X} {d : Nat} {r n : Nat} (C : zq_C X cX6_valueOf 6 RX6 d) (hr : zq_S[r]? = some (1, n, [])) {Q : zq_Q} (hq : zq_R X (some .int) 1 Q) : zq_ok X 6 88 (xX6_valueOf_88 r n Q) := by
  refine zs_aload_n C dX6_valueOf_88 rfl ?_
  refine zs_getRN C zp_40 zF2 (j := 0) ⟨by decide, rfl⟩ zw_263 dX6_valueOf_89 ?_
  refine zs_iload_n C dX6_valueOf_92 rfl ?_
  refine zs_iaload C zp_41 dX6_valueOf_93 ?_
  exact zs_iret C hq dX6_valueOf_94
def xX6_valueOf_0 (r n : Nat) (Q : zq_Q) (ls : zq_L) (st : List Value) (h : zq_H) : Prop := (zi_iload 0 (zi_sw [(97, (xX6_valueOf_109 r n Q)), (98, (xX6_valueOf_115 r n Q)), (99, (xX6_valueOf_88 r n Q)), (100, (xX6_valueOf_123 r n Q)), (101, (xX6_valueOf_135 r n Q)), (102, (xX6_valueOf_135 r n Q)), (103, (xX6_valueOf_135 r n Q)), (104, (xX6_valueOf_135 r n Q)), (105, (xX6_valueOf_131 r n Q)), (106, (xX6_valueOf_135 r n Q)), (107, (xX6_valueOf_102 r n Q)), (108, (xX6_valueOf_135 r n Q)), (109, (xX6_valueOf_135 r n Q)), (110, (xX6_valueOf_135 r n Q)), (111, (xX6_valueOf_135 r n Q)), (112, (xX6_valueOf_133 r n Q)), (113, (xX6_valueOf_135 r n Q)), (114, (xX6_valueOf_95 r n Q))] (xX6_valueOf_135 r n Q))) ls st h
theorem kX6_valueOf_0 {X : zq_X} {d : Nat} {r n : Nat} (C : zq_C X cX6_valueOf 6 RX6 d) (hr : zq_S[r]? = some (1, n, [])) {Q : zq_Q} (hq : zq_R X (some .int) 1 Q) : zq_ok X 6 0 (xX6_valueOf_0 r n Q) := by
  refine zs_iload_n C dX6_valueOf_0 rfl ?_
  exact zs_tsw C dX6_valueOf_1 (by rfl) ⟨⟨by decide, _, _, rfl, by decide, kX6_valueOf_109 C hr hq⟩, ⟨by decide, _, _, rfl, by decide, kX6_valueOf_115 C hr hq⟩, ⟨by decide, _, _, rfl, by decide, kX6_valueOf_88 C hr hq⟩, ⟨by decide, _, _, rfl, by decide, kX6_valueOf_123 C hr hq⟩, ⟨by decide, _, _, rfl, by decide, kX6_valueOf_135 C hr hq⟩, ⟨by decide, _, _, rfl, by decide, kX6_valueOf_135 C hr hq⟩, ⟨by decide, _, _, rfl, by decide, kX6_valueOf_135 C hr hq⟩, ⟨by decide, _, _, rfl, by decide, kX6_valueOf_135 C hr hq⟩, ⟨by decide, _, _, rfl, by decide, kX6_valueOf_131 C hr hq⟩, ⟨by decide, _, _, rfl, by decide, kX6_valueOf_135 C hr hq⟩, ⟨by decide, _, _, rfl, by decide, kX6_valueOf_102 C hr hq⟩, ⟨by decide, _, _, rfl, by decide, kX6_valueOf_135 C hr hq⟩, ⟨by decide, _, _, rfl, by decide, kX6_valueOf_135 C hr hq⟩, ⟨by decide, _, _, rfl, by decide, kX6_valueOf_135 C hr hq⟩, ⟨by decide, _, _, rfl, by decide, kX6_valueOf_135 C hr hq⟩, ⟨by decide, _, _, rfl, by decide, kX6_valueOf_133 C hr hq⟩, ⟨by decide, _, _, rfl, by decide, kX6_valueOf_135 C hr hq⟩, ⟨by decide, _, _, rfl, by decide, kX6_valueOf_95 C hr hq⟩, trivial⟩ (by decide) (kX6_valueOf_135 C hr hq)
theorem mX6_valueOf {d : Nat} {r n : Nat} {spec : zq_Sp} (hr9 : ∀ args h Q, spec args h Q → zq_S[r]? = some (1, n, [])) (v : ∀ args h Q, spec args h Q → (zq_a args).length ≤ 6 ∧ xX6_valueOf_0 r n Q (zq_l0 6 args) [] h) : zq_M yX6_valueOf cX6_valueOf 6 (some .int) 1 d spec := by
  refine zq_met (by decide +kernel) (by decide) (fun X Q args h C hq hs => ⟨(v args h Q hs).1, _, ?_, (v args h Q hs).2⟩)
  have hr := hr9 args h Q hs
  exact kX6_valueOf_0 C hr hq
/-! ToOneCrumb$Rule.joined(III)I -/
theorem dX6_joined_0 : decode cX6_joined 0 = .ok (.iload_n 0, 1) := by decide +kernel
theorem dX6_joined_1 : decode cX6_joined 1 = .ok (.lookupswitch 104 #[(42, 100), (43, 92), (45, 96), (60, 59), (61, 81), (62, 70)], 59) := by decide +kernel
theorem dX6_joined_60 : decode cX6_joined 60 = .ok (.iload_n 1, 1) := by decide +kernel
theorem dX6_joined_61 : decode cX6_joined 61 = .ok (.iload_n 2, 1) := by decide +kernel
theorem dX6_joined_62 : decode cX6_joined 62 = .ok (.if_icmp .ge 7, 3) := by decide +kernel
theorem dX6_joined_65 : decode cX6_joined 65 = .ok (.iconst 1, 1) := by decide +kernel
theorem dX6_joined_66 : decode cX6_joined 66 = .ok (.goto 4, 3) := by decide +kernel
theorem dX6_joined_69 : decode cX6_joined 69 = .ok (.iconst 0, 1) := by decide +kernel
theorem dX6_joined_70 : decode cX6_joined 70 = .ok (.ireturn, 1) := by decide +kernel
theorem dX6_joined_71 : decode cX6_joined 71 = .ok (.iload_n 1, 1) := by decide +kernel
theorem dX6_joined_72 : decode cX6_joined 72 = .ok (.iload_n 2, 1) := by decide +kernel
theorem dX6_joined_73 : decode cX6_joined 73 = .ok (.if_icmp .le 7, 3) := by decide +kernel
theorem dX6_joined_76 : decode cX6_joined 76 = .ok (.iconst 1, 1) := by decide +kernel
theorem dX6_joined_77 : decode cX6_joined 77 = .ok (.goto 4, 3) := by decide +kernel
theorem dX6_joined_80 : decode cX6_joined 80 = .ok (.iconst 0, 1) := by decide +kernel
theorem dX6_joined_81 : decode cX6_joined 81 = .ok (.ireturn, 1) := by decide +kernel
theorem dX6_joined_82 : decode cX6_joined 82 = .ok (.iload_n 1, 1) := by decide +kernel
theorem dX6_joined_83 : decode cX6_joined 83 = .ok (.iload_n 2, 1) := by decide +kernel
theorem dX6_joined_84 : decode cX6_joined 84 = .ok (.if_icmp .ne 7, 3) := by decide +kernel
theorem dX6_joined_87 : decode cX6_joined 87 = .ok (.iconst 1, 1) := by decide +kernel
theorem dX6_joined_88 : decode cX6_joined 88 = .ok (.goto 4, 3) := by decide +kernel
theorem dX6_joined_91 : decode cX6_joined 91 = .ok (.iconst 0, 1) := by decide +kernel
theorem dX6_joined_92 : decode cX6_joined 92 = .ok (.ireturn, 1) := by decide +kernel
theorem dX6_joined_93 : decode cX6_joined 93 = .ok (.iload_n 1, 1) := by decide +kernel
theorem dX6_joined_94 : decode cX6_joined 94 = .ok (.iload_n 2, 1) := by decide +kernel
theorem dX6_joined_95 : decode cX6_joined 95 = .ok (.iadd, 1) := by decide +kernel
theorem dX6_joined_96 : decode cX6_joined 96 = .ok (.ireturn, 1) := by decide +kernel
theorem dX6_joined_97 : decode cX6_joined 97 = .ok (.iload_n 1, 1) := by decide +kernel
theorem dX6_joined_98 : decode cX6_joined 98 = .ok (.iload_n 2, 1) := by decide +kernel
theorem dX6_joined_99 : decode cX6_joined 99 = .ok (.isub, 1) := by decide +kernel
theorem dX6_joined_100 : decode cX6_joined 100 = .ok (.ireturn, 1) := by decide +kernel
theorem dX6_joined_101 : decode cX6_joined 101 = .ok (.iload_n 1, 1) := by decide +kernel
theorem dX6_joined_102 : decode cX6_joined 102 = .ok (.iload_n 2, 1) := by decide +kernel
theorem dX6_joined_103 : decode cX6_joined 103 = .ok (.imul, 1) := by decide +kernel
theorem dX6_joined_104 : decode cX6_joined 104 = .ok (.ireturn, 1) := by decide +kernel
theorem dX6_joined_105 : decode cX6_joined 105 = .ok (.iload_n 2, 1) := by decide +kernel
theorem dX6_joined_106 : decode cX6_joined 106 = .ok (.ifCond .ne 7, 3) := by decide +kernel
theorem dX6_joined_109 : decode cX6_joined 109 = .ok (.iconst 0, 1) := by decide +kernel
theorem dX6_joined_110 : decode cX6_joined 110 = .ok (.goto 6, 3) := by decide +kernel
theorem dX6_joined_113 : decode cX6_joined 113 = .ok (.iload_n 1, 1) := by decide +kernel
theorem dX6_joined_114 : decode cX6_joined 114 = .ok (.iload_n 2, 1) := by decide +kernel
theorem dX6_joined_115 : decode cX6_joined 115 = .ok (.idiv, 1) := by decide +kernel
theorem dX6_joined_116 : decode cX6_joined 116 = .ok (.ireturn, 1) := by decide +kernel
def xX6_joined_116 (Q : zq_Q) (ls : zq_L) (st : List Value) (h : zq_H) : Prop := (zi_iret Q) ls st h
theorem kX6_joined_116 {X : zq_X} {d : Nat} (C : zq_C X cX6_joined 3 RX6 d) {Q : zq_Q} (hq : zq_R X (some .int) 1 Q) : zq_ok X 3 116 (xX6_joined_116 Q) := by
  exact zs_iret C hq dX6_joined_116
def xX6_joined_113 (Q : zq_Q) (ls : zq_L) (st : List Value) (h : zq_H) : Prop := (zi_iload 1 (zi_iload 2 (zi_idv (fun x y => x / y) ((xX6_joined_116 Q))))) ls st h
theorem kX6_joined_113 {X : zq_X} {d : Nat} (C : zq_C X cX6_joined 3 RX6 d) {Q : zq_Q} (hq : zq_R X (some .int) 1 Q) : zq_ok X 3 113 (xX6_joined_113 Q) := by
  refine zs_iload_n C dX6_joined_113 rfl ?_
  refine zs_iload_n C dX6_joined_114 rfl ?_
  refine zs_idiv C dX6_joined_115 ?_
  exact kX6_joined_116 C hq
def xX6_joined_109 (Q : zq_Q) (ls : zq_L) (st : List Value) (h : zq_H) : Prop := (zi_push (.int 0) ((xX6_joined_116 Q))) ls st h
theorem kX6_joined_109 {X : zq_X} {d : Nat} (C : zq_C X cX6_joined 3 RX6 d) {Q : zq_Q} (hq : zq_R X (some .int) 1 Q) : zq_ok X 3 109 (xX6_joined_109 Q) := by
  refine zs_iconst C dX6_joined_109 (by decide) ?_
  exact zs_goto C dX6_joined_110 (by decide) (kX6_joined_116 C hq)
def xX6_joined_105 (Q : zq_Q) (ls : zq_L) (st : List Value) (h : zq_H) : Prop := (zi_iload 2 (zi_if1 (fun x => x = 0) (xX6_joined_109 Q) (xX6_joined_113 Q))) ls st h
theorem kX6_joined_105 {X : zq_X} {d : Nat} (C : zq_C X cX6_joined 3 RX6 d) {Q : zq_Q} (hq : zq_R X (some .int) 1 Q) : zq_ok X 3 105 (xX6_joined_105 Q) := by
  refine zs_iload_n C dX6_joined_105 rfl ?_
  exact zs_if_ne C dX6_joined_106 (by decide) (kX6_joined_113 C hq) (kX6_joined_109 C hq)
def xX6_joined_101 (Q : zq_Q) (ls : zq_L) (st : List Value) (h : zq_H) : Prop := (zi_iload 1 (zi_iload 2 (zi_i2 (fun x y => x * y) (zi_iret Q)))) ls st h
theorem kX6_joined_101 {X : zq_X} {d : Nat} (C : zq_C X cX6_joined 3 RX6 d) {Q : zq_Q} (hq : zq_R X (some .int) 1 Q) : zq_ok X 3 101 (xX6_joined_101 Q) := by
  refine zs_iload_n C dX6_joined_101 rfl ?_
  refine zs_iload_n C dX6_joined_102 rfl ?_
  refine zs_imul C dX6_joined_103 ?_
  exact zs_iret C hq dX6_joined_104
def xX6_joined_97 (Q : zq_Q) (ls : zq_L) (st : List Value) (h : zq_H) : Prop := (zi_iload 1 (zi_iload 2 (zi_i2 (fun x y => x - y) (zi_iret Q)))) ls st h
theorem kX6_joined_97 {X : zq_X} {d : Nat} (C : zq_C X cX6_joined 3 RX6 d) {Q : zq_Q} (hq : zq_R X (some .int) 1 Q) : zq_ok X 3 97 (xX6_joined_97 Q) := by
  refine zs_iload_n C dX6_joined_97 rfl ?_
  refine zs_iload_n C dX6_joined_98 rfl ?_
  refine zs_isub C dX6_joined_99 ?_
  exact zs_iret C hq dX6_joined_100
def xX6_joined_93 (Q : zq_Q) (ls : zq_L) (st : List Value) (h : zq_H) : Prop := (zi_iload 1 (zi_iload 2 (zi_i2 (fun x y => x + y) (zi_iret Q)))) ls st h
theorem kX6_joined_93 {X : zq_X} {d : Nat} (C : zq_C X cX6_joined 3 RX6 d) {Q : zq_Q} (hq : zq_R X (some .int) 1 Q) : zq_ok X 3 93 (xX6_joined_93 Q) := by
  refine zs_iload_n C dX6_joined_93 rfl ?_
  refine zs_iload_n C dX6_joined_94 rfl ?_
  refine zs_iadd C dX6_joined_95 ?_
  exact zs_iret C hq dX6_joined_96
def xX6_joined_92 (Q : zq_Q) (ls : zq_L) (st : List Value) (h : zq_H) : Prop := (zi_iret Q) ls st h
theorem kX6_joined_92 {X : zq_X} {d : Nat} (C : zq_C X cX6_joined 3 RX6 d) {Q : zq_Q} (hq : zq_R X (some .int) 1 Q) : zq_ok X 3 92 (xX6_joined_92 Q) := by
  exact zs_iret C hq dX6_joined_92
def xX6_joined_91 (Q : zq_Q) (ls : zq_L) (st : List Value) (h : zq_H) : Prop := (zi_push (.int 0) ((xX6_joined_92 Q))) ls st h
theorem kX6_joined_91 {X : zq_X} {d : Nat} (C : zq_C X cX6_joined 3 RX6 d) {Q : zq_Q} (hq : zq_R X (some .int) 1 Q) : zq_ok X 3 91 (xX6_joined_91 Q) := by
  refine zs_iconst C dX6_joined_91 (by decide) ?_
  exact kX6_joined_92 C hq
def xX6_joined_87 (Q : zq_Q) (ls : zq_L) (st : List Value) (h : zq_H) : Prop := (zi_push (.int 1) ((xX6_joined_92 Q))) ls st h
theorem kX6_joined_87 {X : zq_X} {d : Nat} (C : zq_C X cX6_joined 3 RX6 d) {Q : zq_Q} (hq : zq_R X (some .int) 1 Q) : zq_ok X 3 87 (xX6_joined_87 Q) := by
  refine zs_iconst C dX6_joined_87 (by decide) ?_
  exact zs_goto C dX6_joined_88 (by decide) (kX6_joined_92 C hq)
def xX6_joined_82 (Q : zq_Q) (ls : zq_L) (st : List Value) (h : zq_H) : Prop := (zi_iload 1 (zi_iload 2 (zi_if2 (fun x y => x = y) (xX6_joined_87 Q) (xX6_joined_91 Q)))) ls st h
theorem kX6_joined_82 {X : zq_X} {d : Nat} (C : zq_C X cX6_joined 3 RX6 d) {Q : zq_Q} (hq : zq_R X (some .int) 1 Q) : zq_ok X 3 82 (xX6_joined_82 Q) := by
  refine zs_iload_n C dX6_joined_82 rfl ?_
  refine zs_iload_n C dX6_joined_83 rfl ?_
  exact zs_icmp_ne C dX6_joined_84 (by decide) (kX6_joined_91 C hq) (kX6_joined_87 C hq)
def xX6_joined_81 (Q : zq_Q) (ls : zq_L) (st : List Value) (h : zq_H) : Prop := (zi_iret Q) ls st h
theorem kX6_joined_81 {X : zq_X} {d : Nat} (C : zq_C X cX6_joined 3 RX6 d) {Q : zq_Q} (hq : zq_R X (some .int) 1 Q) : zq_ok X 3 81 (xX6_joined_81 Q) := by
  exact zs_iret C hq dX6_joined_81
def xX6_joined_80 (Q : zq_Q) (ls : zq_L) (st : List Value) (h : zq_H) : Prop := (zi_push (.int 0) ((xX6_joined_81 Q))) ls st h
theorem kX6_joined_80 {X : zq_X} {d : Nat} (C : zq_C X cX6_joined 3 RX6 d) {Q : zq_Q} (hq : zq_R X (some .int) 1 Q) : zq_ok X 3 80 (xX6_joined_80 Q) := by
  refine zs_iconst C dX6_joined_80 (by decide) ?_
  exact kX6_joined_81 C hq
def xX6_joined_76 (Q : zq_Q) (ls : zq_L) (st : List Value) (h : zq_H) : Prop := (zi_push (.int 1) ((xX6_joined_81 Q))) ls st h
theorem kX6_joined_76 {X : zq_X} {d : Nat} (C : zq_C X cX6_joined 3 RX6 d) {Q : zq_Q} (hq : zq_R X (some .int) 1 Q) : zq_ok X 3 76 (xX6_joined_76 Q) := by
  refine zs_iconst C dX6_joined_76 (by decide) ?_
  exact zs_goto C dX6_joined_77 (by decide) (kX6_joined_81 C hq)
def xX6_joined_71 (Q : zq_Q) (ls : zq_L) (st : List Value) (h : zq_H) : Prop := (zi_iload 1 (zi_iload 2 (zi_if2 (fun x y => x ≤ y) (xX6_joined_80 Q) (xX6_joined_76 Q)))) ls st h
theorem kX6_joined_71 {X : zq_X} {d : Nat} (C : zq_C X cX6_joined 3 RX6 d) {Q : zq_Q} (hq : zq_R X (some .int) 1 Q) : zq_ok X 3 71 (xX6_joined_71 Q) := by
  refine zs_iload_n C dX6_joined_71 rfl ?_
  refine zs_iload_n C dX6_joined_72 rfl ?_
  exact zs_icmp_le C dX6_joined_73 (by decide) (kX6_joined_80 C hq) (kX6_joined_76 C hq)
def xX6_joined_70 (Q : zq_Q) (ls : zq_L) (st : List Value) (h : zq_H) : Prop := (zi_iret Q) ls st h
theorem kX6_joined_70 {X : zq_X} {d : Nat} (C : zq_C X cX6_joined 3 RX6 d) {Q : zq_Q} (hq : zq_R X (some .int) 1 Q) : zq_ok X 3 70 (xX6_joined_70 Q) := by
  exact zs_iret C hq dX6_joined_70
def xX6_joined_69 (Q : zq_Q) (ls : zq_L) (st : List Value) (h : zq_H) : Prop := (zi_push (.int 0) ((xX6_joined_70 Q))) ls st h
theorem kX6_joined_69 {X : zq_X} {d : Nat} (C : zq_C X cX6_joined 3 RX6 d) {Q : zq_Q} (hq : zq_R X (some .int) 1 Q) : zq_ok X 3 69 (xX6_joined_69 Q) := by
  refine zs_iconst C dX6_joined_69 (by decide) ?_
  exact kX6_joined_70 C hq
def xX6_joined_65 (Q : zq_Q) (ls : zq_L) (st : List Value) (h : zq_H) : Prop := (zi_push (.int 1) ((xX6_joined_70 Q))) ls st h
theorem kX6_joined_65 {X : zq_X} {d : Nat} (C : zq_C X cX6_joined 3 RX6 d) {Q : zq_Q} (hq : zq_R X (some .int) 1 Q) : zq_ok X 3 65 (xX6_joined_65 Q) := by
  refine zs_iconst C dX6_joined_65 (by decide) ?_
  exact zs_goto C dX6_joined_66 (by decide) (kX6_joined_70 C hq)
def xX6_joined_60 (Q : zq_Q) (ls : zq_L) (st : List Value) (h : zq_H) : Prop := (zi_iload 1 (zi_iload 2 (zi_if2 (fun x y => y ≤ x) (xX6_joined_69 Q) (xX6_joined_65 Q)))) ls st h
theorem kX6_joined_60 {X : zq_X} {d : Nat} (C : zq_C X cX6_joined 3 RX6 d) {Q : zq_Q} (hq : zq_R X (some .int) 1 Q) : zq_ok X 3 60 (xX6_joined_60 Q) := by
  refine zs_iload_n C dX6_joined_60 rfl ?_
  refine zs_iload_n C dX6_joined_61 rfl ?_
  exact zs_icmp_ge C dX6_joined_62 (by decide) (kX6_joined_69 C hq) (kX6_joined_65 C hq)
def xX6_joined_0 (Q : zq_Q) (ls : zq_L) (st : List Value) (h : zq_H) : Prop := (zi_iload 0 (zi_sw [(42, (xX6_joined_101 Q)), (43, (xX6_joined_93 Q)), (45, (xX6_joined_97 Q)), (60, (xX6_joined_60 Q)), (61, (xX6_joined_82 Q)), (62, (xX6_joined_71 Q))] (xX6_joined_105 Q))) ls st h
theorem kX6_joined_0 {X : zq_X} {d : Nat} (C : zq_C X cX6_joined 3 RX6 d) {Q : zq_Q} (hq : zq_R X (some .int) 1 Q) : zq_ok X 3 0 (xX6_joined_0 Q) := by
  refine zs_iload_n C dX6_joined_0 rfl ?_
  exact zs_lsw C dX6_joined_1 (by decide) ⟨⟨by decide, _, by decide, kX6_joined_101 C hq⟩, ⟨by decide, _, by decide, kX6_joined_93 C hq⟩, ⟨by decide, _, by decide, kX6_joined_97 C hq⟩, ⟨by decide, _, by decide, kX6_joined_60 C hq⟩, ⟨by decide, _, by decide, kX6_joined_82 C hq⟩, ⟨by decide, _, by decide, kX6_joined_71 C hq⟩, trivial⟩ (by decide) (kX6_joined_105 C hq)
theorem mX6_joined {d : Nat} {spec : zq_Sp} (v : ∀ args h Q, spec args h Q → (zq_a args).length ≤ 3 ∧ xX6_joined_0 Q (zq_l0 3 args) [] h) : zq_M yX6_joined cX6_joined 3 (some .int) 1 d spec := by
  refine zq_met (by decide +kernel) (by decide) (fun X Q args h C hq hs => ⟨(v args h Q hs).1, _, ?_, (v args h Q hs).2⟩)
  exact kX6_joined_0 C hq
/-! ToOneCrumb$Worths.renew(LToOneCrumb$Rule;LToOneCrumb$Loaf;LToOneCrumb$Party;)V -/
theorem dX10_renew_0 : decode cX10_renew 0 = .ok (.aload_n 0, 1) := by decide +kernel
theorem dX10_renew_1 : decode cX10_renew 1 = .ok (.aload_n 2, 1) := by decide +kernel
theorem dX10_renew_2 : decode cX10_renew 2 = .ok (.getfield 18, 3) := by decide +kernel
theorem dX10_renew_5 : decode cX10_renew 5 = .ok (.putfield 24, 3) := by decide +kernel
theorem dX10_renew_8 : decode cX10_renew 8 = .ok (.iconst 0, 1) := by decide +kernel
theorem dX10_renew_9 : decode cX10_renew 9 = .ok (.istore 4, 2) := by decide +kernel
theorem dX10_renew_11 : decode cX10_renew 11 = .ok (.iload 4, 2) := by decide +kernel
theorem dX10_renew_13 : decode cX10_renew 13 = .ok (.aload_n 3, 1) := by decide +kernel
theorem dX10_renew_14 : decode cX10_renew 14 = .ok (.getfield 25, 3) := by decide +kernel
theorem dX10_renew_17 : decode cX10_renew 17 = .ok (.if_icmp .ge 88, 3) := by decide +kernel
theorem dX10_renew_20 : decode cX10_renew 20 = .ok (.iconst 0, 1) := by decide +kernel
theorem dX10_renew_21 : decode cX10_renew 21 = .ok (.istore 5, 2) := by decide +kernel
theorem dX10_renew_23 : decode cX10_renew 23 = .ok (.iconst 0, 1) := by decide +kernel
theorem dX10_renew_24 : decode cX10_renew 24 = .ok (.istore 6, 2) := by decide +kernel
theorem dX10_renew_26 : decode cX10_renew 26 = .ok (.iload 6, 2) := by decide +kernel
theorem dX10_renew_28 : decode cX10_renew 28 = .ok (.aload_n 0, 1) := by decide +kernel
theorem dX10_renew_29 : decode cX10_renew 29 = .ok (.getfield 24, 3) := by decide +kernel
theorem dX10_renew_32 : decode cX10_renew 32 = .ok (.if_icmp .ge 67, 3) := by decide +kernel
theorem dX10_renew_35 : decode cX10_renew 35 = .ok (.aload_n 1, 1) := by decide +kernel
theorem dX10_renew_36 : decode cX10_renew 36 = .ok (.aload_n 2, 1) := by decide +kernel
theorem dX10_renew_37 : decode cX10_renew 37 = .ok (.iload 6, 2) := by decide +kernel
theorem dX10_renew_39 : decode cX10_renew 39 = .ok (.iload 4, 2) := by decide +kernel
theorem dX10_renew_41 : decode cX10_renew 41 = .ok (.aload_n 3, 1) := by decide +kernel
theorem dX10_renew_42 : decode cX10_renew 42 = .ok (.getfield 30, 3) := by decide +kernel
theorem dX10_renew_45 : decode cX10_renew 45 = .ok (.iload 4, 2) := by decide +kernel
theorem dX10_renew_47 : decode cX10_renew 47 = .ok (.iconst 3, 1) := by decide +kernel
theorem dX10_renew_48 : decode cX10_renew 48 = .ok (.imul, 1) := by decide +kernel
theorem dX10_renew_49 : decode cX10_renew 49 = .ok (.invokevirtual 33, 3) := by decide +kernel
theorem dX10_renew_52 : decode cX10_renew 52 = .ok (.istore 7, 2) := by decide +kernel
theorem dX10_renew_54 : decode cX10_renew 54 = .ok (.aload_n 0, 1) := by decide +kernel
theorem dX10_renew_55 : decode cX10_renew 55 = .ok (.getfield 9, 3) := by decide +kernel
theorem dX10_renew_58 : decode cX10_renew 58 = .ok (.iload 4, 2) := by decide +kernel
theorem dX10_renew_60 : decode cX10_renew 60 = .ok (.bipush 16, 2) := by decide +kernel
theorem dX10_renew_62 : decode cX10_renew 62 = .ok (.imul, 1) := by decide +kernel
theorem dX10_renew_63 : decode cX10_renew 63 = .ok (.iload 6, 2) := by decide +kernel
theorem dX10_renew_65 : decode cX10_renew 65 = .ok (.iadd, 1) := by decide +kernel
theorem dX10_renew_66 : decode cX10_renew 66 = .ok (.iload 7, 2) := by decide +kernel
theorem dX10_renew_68 : decode cX10_renew 68 = .ok (.iastore, 1) := by decide +kernel
theorem dX10_renew_69 : decode cX10_renew 69 = .ok (.iload 5, 2) := by decide +kernel
theorem dX10_renew_71 : decode cX10_renew 71 = .ok (.iload 7, 2) := by decide +kernel
theorem dX10_renew_73 : decode cX10_renew 73 = .ok (.iadd, 1) := by decide +kernel
theorem dX10_renew_74 : decode cX10_renew 74 = .ok (.istore 5, 2) := by decide +kernel
theorem dX10_renew_76 : decode cX10_renew 76 = .ok (.aload_n 0, 1) := by decide +kernel
theorem dX10_renew_77 : decode cX10_renew 77 = .ok (.getfield 15, 3) := by decide +kernel
theorem dX10_renew_80 : decode cX10_renew 80 = .ok (.iload 4, 2) := by decide +kernel
theorem dX10_renew_82 : decode cX10_renew 82 = .ok (.bipush 17, 2) := by decide +kernel
theorem dX10_renew_84 : decode cX10_renew 84 = .ok (.imul, 1) := by decide +kernel
theorem dX10_renew_85 : decode cX10_renew 85 = .ok (.iload 6, 2) := by decide +kernel
theorem dX10_renew_87 : decode cX10_renew 87 = .ok (.iadd, 1) := by decide +kernel
theorem dX10_renew_88 : decode cX10_renew 88 = .ok (.iconst 1, 1) := by decide +kernel
theorem dX10_renew_89 : decode cX10_renew 89 = .ok (.iadd, 1) := by decide +kernel
theorem dX10_renew_90 : decode cX10_renew 90 = .ok (.iload 5, 2) := by decide +kernel
theorem dX10_renew_92 : decode cX10_renew 92 = .ok (.iastore, 1) := by decide +kernel
theorem dX10_renew_93 : decode cX10_renew 93 = .ok (.iinc 6 1, 3) := by decide +kernel
theorem dX10_renew_96 : decode cX10_renew 96 = .ok (.goto (-70), 3) := by decide +kernel
theorem dX10_renew_99 : decode cX10_renew 99 = .ok (.iinc 4 1, 3) := by decide +kernel
theorem dX10_renew_102 : decode cX10_renew 102 = .ok (.goto (-91), 3) := by decide +kernel
theorem dX10_renew_105 : decode cX10_renew 105 = .ok (.return_, 1) := by decide +kernel
def xX10_renew_105 (s_X6_worthOf : zq_Sp) (J11 : zq_P) (J26 : zq_P) (Q : zq_Q) (ls : zq_L) (st : List Value) (h : zq_H) : Prop := (zi_vret Q) ls st h
theorem kX10_renew_105 {X : zq_X} {d : Nat} (C : zq_C X cX10_renew 8 RX10 d) {d_X6_worthOf : Nat} {s_X6_worthOf : zq_Sp} (h_X6_worthOf : zq_M yX6_worthOf cX6_worthOf 7 (some .int) 1 d_X6_worthOf s_X6_worthOf) (g_X6_worthOf : d_X6_worthOf + 1 ≤ d) {J11 : zq_P} (j11 : zq_ok X 8 11 J11) {J26 : zq_P} (j26 : zq_ok X 8 26 J26) {Q : zq_Q} (hq : zq_R X none 0 Q) : zq_ok X 8 105 (xX10_renew_105 s_X6_worthOf J11 J26 Q) := by
  exact zs_vret C hq dX10_renew_105
def xX10_renew_99 (s_X6_worthOf : zq_Sp) (J11 : zq_P) (J26 : zq_P) (Q : zq_Q) (ls : zq_L) (st : List Value) (h : zq_H) : Prop := (zi_iinc 4 1 (J11)) ls st h
theorem kX10_renew_99 {X : zq_X} {d : Nat} (C : zq_C X cX10_renew 8 RX10 d) {d_X6_worthOf : Nat} {s_X6_worthOf : zq_Sp} (h_X6_worthOf : zq_M yX6_worthOf cX6_worthOf 7 (some .int) 1 d_X6_worthOf s_X6_worthOf) (g_X6_worthOf : d_X6_worthOf + 1 ≤ d) {J11 : zq_P} (j11 : zq_ok X 8 11 J11) {J26 : zq_P} (j26 : zq_ok X 8 26 J26) {Q : zq_Q} (hq : zq_R X none 0 Q) : zq_ok X 8 99 (xX10_renew_99 s_X6_worthOf J11 J26 Q) := by
  refine zs_iinc C dX10_renew_99 (by decide) (by decide) ?_
  exact zs_goto C dX10_renew_102 (by decide) (j11)
def xX10_renew_35 (s_X6_worthOf : zq_Sp) (J11 : zq_P) (J26 : zq_P) (Q : zq_Q) (ls : zq_L) (st : List Value) (h : zq_H) : Prop := (zi_aload 1 (zi_aload 2 (zi_iload 6 (zi_iload 4 (zi_aload 3 (zi_getR 5 6 (zi_iload 4 (zi_push (.int 3) (zi_i2 (fun x y => x * y) (zi_callV 5 48 s_X6_worthOf (zi_istore 7 (zi_aload 0 (zi_getR 9 10 (zi_iload 4 (zi_push (.int 16) (zi_i2 (fun x y => x * y) (zi_iload 6 (zi_i2 (fun x y => x + y) (zi_iload 7 (zi_astI 10 96 (zi_iload 5 (zi_iload 7 (zi_i2 (fun x y => x + y) (zi_istore 5 (zi_aload 0 (zi_getR 9 11 (zi_iload 4 (zi_push (.int 17) (zi_i2 (fun x y => x * y) (zi_iload 6 (zi_i2 (fun x y => x + y) (zi_push (.int 1) (zi_i2 (fun x y => x + y) (zi_iload 5 (zi_astI 11 102 (zi_iinc 6 1 (J26))))))))))))))))))))))))))))))))))))) ls st h
theorem kX10_renew_35 {X : zq_X} {d : Nat} (C : zq_C X cX10_renew 8 RX10 d) {d_X6_worthOf : Nat} {s_X6_worthOf : zq_Sp} (h_X6_worthOf : zq_M yX6_worthOf cX6_worthOf 7 (some .int) 1 d_X6_worthOf s_X6_worthOf) (g_X6_worthOf : d_X6_worthOf + 1 ≤ d) {J11 : zq_P} (j11 : zq_ok X 8 11 J11) {J26 : zq_P} (j26 : zq_ok X 8 26 J26) {Q : zq_Q} (hq : zq_R X none 0 Q) : zq_ok X 8 35 (xX10_renew_35 s_X6_worthOf J11 J26 Q) := by
  refine zs_aload_n C dX10_renew_35 rfl ?_
  refine zs_aload_n C dX10_renew_36 rfl ?_
  refine zs_iload C dX10_renew_37 ?_
  refine zs_iload C dX10_renew_39 ?_
  refine zs_aload_n C dX10_renew_41 rfl ?_
  refine zs_getRN C zp_5 zF3 (j := 0) ⟨by decide, rfl⟩ zw_78 dX10_renew_42 ?_
  refine zs_iload C dX10_renew_45 ?_
  refine zs_iconst C dX10_renew_47 (by decide) ?_
  refine zs_imul C dX10_renew_48 ?_
  refine zs_callV C h_X6_worthOf g_X6_worthOf zy_X6_worthOf zp_48 (show vwCl[6]? = some (RX6, TX6, 8) from rfl) zw_435 zw_436 zs9_X6_worthOf dX10_renew_49 ?_
  refine zs_istore C dX10_renew_52 (by decide) ?_
  refine zs_aload_n C dX10_renew_54 rfl ?_
  refine zs_getR C zp_9 zF10 (j := 0) ⟨by decide, rfl⟩ zw_101 dX10_renew_55 ?_
  refine zs_iload C dX10_renew_58 ?_
  refine zs_bipush C dX10_renew_60 (by decide) ?_
  refine zs_imul C dX10_renew_62 ?_
  refine zs_iload C dX10_renew_63 ?_
  refine zs_iadd C dX10_renew_65 ?_
  refine zs_iload C dX10_renew_66 ?_
  refine zs_iastore C zp_10 dX10_renew_68 ?_
  refine zs_iload C dX10_renew_69 ?_
  refine zs_iload C dX10_renew_71 ?_
  refine zs_iadd C dX10_renew_73 ?_
  refine zs_istore C dX10_renew_74 (by decide) ?_
  refine zs_aload_n C dX10_renew_76 rfl ?_
  refine zs_getR C zp_9 zF10 (j := 1) ⟨by decide, rfl⟩ zw_103 dX10_renew_77 ?_
  refine zs_iload C dX10_renew_80 ?_
  refine zs_bipush C dX10_renew_82 (by decide) ?_
  refine zs_imul C dX10_renew_84 ?_
  refine zs_iload C dX10_renew_85 ?_
  refine zs_iadd C dX10_renew_87 ?_
  refine zs_iconst C dX10_renew_88 (by decide) ?_
  refine zs_iadd C dX10_renew_89 ?_
  refine zs_iload C dX10_renew_90 ?_
  refine zs_iastore C zp_11 dX10_renew_92 ?_
  refine zs_iinc C dX10_renew_93 (by decide) (by decide) ?_
  exact zs_goto C dX10_renew_96 (by decide) (j26)
def xX10_renew_26 (s_X6_worthOf : zq_Sp) (J11 : zq_P) (J26 : zq_P) (Q : zq_Q) (ls : zq_L) (st : List Value) (h : zq_H) : Prop := (zi_iload 6 (zi_aload 0 (zi_getI 9 2 (zi_if2 (fun x y => y ≤ x) (xX10_renew_99 s_X6_worthOf J11 J26 Q) (xX10_renew_35 s_X6_worthOf J11 J26 Q))))) ls st h
theorem kX10_renew_26 {X : zq_X} {d : Nat} (C : zq_C X cX10_renew 8 RX10 d) {d_X6_worthOf : Nat} {s_X6_worthOf : zq_Sp} (h_X6_worthOf : zq_M yX6_worthOf cX6_worthOf 7 (some .int) 1 d_X6_worthOf s_X6_worthOf) (g_X6_worthOf : d_X6_worthOf + 1 ≤ d) {J11 : zq_P} (j11 : zq_ok X 8 11 J11) {J26 : zq_P} (j26 : zq_ok X 8 26 J26) {Q : zq_Q} (hq : zq_R X none 0 Q) : zq_ok X 8 26 (xX10_renew_26 s_X6_worthOf J11 J26 Q) := by
  refine zs_iload C dX10_renew_26 ?_
  refine zs_aload_n C dX10_renew_28 rfl ?_
  refine zs_getI C zp_9 zF10 (j := 2) ⟨by decide, rfl⟩ zw_104 dX10_renew_29 ?_
  exact zs_icmp_ge C dX10_renew_32 (by decide) (kX10_renew_99 C h_X6_worthOf g_X6_worthOf j11 j26 hq) (kX10_renew_35 C h_X6_worthOf g_X6_worthOf j11 j26 hq)
def xX10_renew_20 (s_X6_worthOf : zq_Sp) (J11 : zq_P) (J26 : zq_P) (Q : zq_Q) (ls : zq_L) (st : List Value) (h : zq_H) : Prop := (zi_push (.int 0) (zi_istore 5 (zi_push (.int 0) (zi_istore 6 (J26))))) ls st h
theorem kX10_renew_20 {X : zq_X} {d : Nat} (C : zq_C X cX10_renew 8 RX10 d) {d_X6_worthOf : Nat} {s_X6_worthOf : zq_Sp} (h_X6_worthOf : zq_M yX6_worthOf cX6_worthOf 7 (some .int) 1 d_X6_worthOf s_X6_worthOf) (g_X6_worthOf : d_X6_worthOf + 1 ≤ d) {J11 : zq_P} (j11 : zq_ok X 8 11 J11) {J26 : zq_P} (j26 : zq_ok X 8 26 J26) {Q : zq_Q} (hq : zq_R X none 0 Q) : zq_ok X 8 20 (xX10_renew_20 s_X6_worthOf J11 J26 Q) := by
  refine zs_iconst C dX10_renew_20 (by decide) ?_
  refine zs_istore C dX10_renew_21 (by decide) ?_
  refine zs_iconst C dX10_renew_23 (by decide) ?_
  refine zs_istore C dX10_renew_24 (by decide) ?_
  exact j26
def xX10_renew_11 (s_X6_worthOf : zq_Sp) (J11 : zq_P) (J26 : zq_P) (Q : zq_Q) (ls : zq_L) (st : List Value) (h : zq_H) : Prop := (zi_iload 4 (zi_aload 3 (zi_getI 5 3 (zi_if2 (fun x y => y ≤ x) (xX10_renew_105 s_X6_worthOf J11 J26 Q) (xX10_renew_20 s_X6_worthOf J11 J26 Q))))) ls st h
theorem kX10_renew_11 {X : zq_X} {d : Nat} (C : zq_C X cX10_renew 8 RX10 d) {d_X6_worthOf : Nat} {s_X6_worthOf : zq_Sp} (h_X6_worthOf : zq_M yX6_worthOf cX6_worthOf 7 (some .int) 1 d_X6_worthOf s_X6_worthOf) (g_X6_worthOf : d_X6_worthOf + 1 ≤ d) {J11 : zq_P} (j11 : zq_ok X 8 11 J11) {J26 : zq_P} (j26 : zq_ok X 8 26 J26) {Q : zq_Q} (hq : zq_R X none 0 Q) : zq_ok X 8 11 (xX10_renew_11 s_X6_worthOf J11 J26 Q) := by
  refine zs_iload C dX10_renew_11 ?_
  refine zs_aload_n C dX10_renew_13 rfl ?_
  refine zs_getIN C zp_5 zF3 (j := 3) ⟨by decide, rfl⟩ zw_83 dX10_renew_14 ?_
  exact zs_icmp_ge C dX10_renew_17 (by decide) (kX10_renew_105 C h_X6_worthOf g_X6_worthOf j11 j26 hq) (kX10_renew_20 C h_X6_worthOf g_X6_worthOf j11 j26 hq)
def xX10_renew_0 (s_X6_worthOf : zq_Sp) (J11 : zq_P) (J26 : zq_P) (Q : zq_Q) (ls : zq_L) (st : List Value) (h : zq_H) : Prop := (zi_aload 0 (zi_aload 2 (zi_getI 40 3 (zi_putI 9 2 (zi_push (.int 0) (zi_istore 4 (J11))))))) ls st h
theorem kX10_renew_0 {X : zq_X} {d : Nat} (C : zq_C X cX10_renew 8 RX10 d) {d_X6_worthOf : Nat} {s_X6_worthOf : zq_Sp} (h_X6_worthOf : zq_M yX6_worthOf cX6_worthOf 7 (some .int) 1 d_X6_worthOf s_X6_worthOf) (g_X6_worthOf : d_X6_worthOf + 1 ≤ d) {J11 : zq_P} (j11 : zq_ok X 8 11 J11) {J26 : zq_P} (j26 : zq_ok X 8 26 J26) {Q : zq_Q} (hq : zq_R X none 0 Q) : zq_ok X 8 0 (xX10_renew_0 s_X6_worthOf J11 J26 Q) := by
  refine zs_aload_n C dX10_renew_0 rfl ?_
  refine zs_aload_n C dX10_renew_1 rfl ?_
  refine zs_getIN C zp_40 zF2 (j := 3) ⟨by decide, rfl⟩ zw_270 dX10_renew_2 ?_
  refine zs_putI C zp_9 zF10 (j := 2) ⟨by decide, rfl⟩ ⟨rfl, by decide +kernel⟩ zw_104 dX10_renew_5 ?_
  refine zs_iconst C dX10_renew_8 (by decide) ?_
  refine zs_istore C dX10_renew_9 (by decide) ?_
  exact j11
theorem mX10_renew {d : Nat} {spec : zq_Sp} {σ11 : Type} {σ26 : Type} {d_X6_worthOf : Nat} {s_X6_worthOf : zq_Sp} (h_X6_worthOf : zq_M yX6_worthOf cX6_worthOf 7 (some .int) 1 d_X6_worthOf s_X6_worthOf) (g_X6_worthOf : d_X6_worthOf + 1 ≤ d) (μ11 : σ11 → Nat) (I11 : zq_Q → σ11 → zq_P) (μ26 : σ26 → Nat) (I26 : zq_Q → σ26 → zq_P) (v : ∀ args h Q, spec args h Q → (zq_a args).length ≤ 8 ∧ xX10_renew_0 s_X6_worthOf (fun ls st h => ∃ b, I11 Q b ls st h) (fun ls st h => ∃ b, I26 Q b ls st h) Q (zq_l0 8 args) [] h) (v11 : ∀ Q a ls st h, I11 Q a ls st h → xX10_renew_11 s_X6_worthOf (fun ls st h => ∃ b, μ11 b < μ11 a ∧ I11 Q b ls st h) (fun ls st h => ∃ b, μ26 b < μ11 a ∧ I26 Q b ls st h) Q ls st h) (v26 : ∀ Q a ls st h, I26 Q a ls st h → xX10_renew_26 s_X6_worthOf (fun ls st h => ∃ b, μ11 b < μ26 a ∧ I11 Q b ls st h) (fun ls st h => ∃ b, μ26 b < μ26 a ∧ I26 Q b ls st h) Q ls st h) : zq_M yX10_renew cX10_renew 8 none 0 d spec := by
  refine zq_met (by decide +kernel) (by decide) (fun X Q args h C hq hs => ⟨(v args h Q hs).1, _, ?_, (v args h Q hs).2⟩)
  have hl := zq_loop2 (X := X) (nL := 8) (pc1 := 11) (pc2 := 26) μ11 μ26 (I11 Q) (I26 Q) (fun J11 J26 => xX10_renew_11 s_X6_worthOf J11 J26 Q) (fun J11 J26 => xX10_renew_26 s_X6_worthOf J11 J26 Q) (fun j11 j26 => kX10_renew_11 C h_X6_worthOf g_X6_worthOf j11 j26 hq) (fun j11 j26 => kX10_renew_26 C h_X6_worthOf g_X6_worthOf j11 j26 hq) (v11 Q) (v26 Q)
  exact kX10_renew_0 C h_X6_worthOf g_X6_worthOf hl.1 hl.2 hq
/-! ToOneCrumb$Worths.of(II)I -/
theorem dX10_of_0 : decode cX10_of 0 = .ok (.aload_n 0, 1) := by decide +kernel
theorem dX10_of_1 : decode cX10_of 1 = .ok (.getfield 9, 3) := by decide +kernel
theorem dX10_of_4 : decode cX10_of 4 = .ok (.iload_n 1, 1) := by decide +kernel
theorem dX10_of_5 : decode cX10_of 5 = .ok (.bipush 16, 2) := by decide +kernel
theorem dX10_of_7 : decode cX10_of 7 = .ok (.imul, 1) := by decide +kernel
theorem dX10_of_8 : decode cX10_of 8 = .ok (.iload_n 2, 1) := by decide +kernel
theorem dX10_of_9 : decode cX10_of 9 = .ok (.iadd, 1) := by decide +kernel
theorem dX10_of_10 : decode cX10_of 10 = .ok (.iaload, 1) := by decide +kernel
theorem dX10_of_11 : decode cX10_of 11 = .ok (.ireturn, 1) := by decide +kernel
def xX10_of_0 (Q : zq_Q) (ls : zq_L) (st : List Value) (h : zq_H) : Prop := (zi_aload 0 (zi_getR 9 10 (zi_iload 1 (zi_push (.int 16) (zi_i2 (fun x y => x * y) (zi_iload 2 (zi_i2 (fun x y => x + y) (zi_aldI 10 96 (zi_iret Q))))))))) ls st h
theorem kX10_of_0 {X : zq_X} {d : Nat} (C : zq_C X cX10_of 3 RX10 d) {Q : zq_Q} (hq : zq_R X (some .int) 1 Q) : zq_ok X 3 0 (xX10_of_0 Q) := by
  refine zs_aload_n C dX10_of_0 rfl ?_
  refine zs_getR C zp_9 zF10 (j := 0) ⟨by decide, rfl⟩ zw_101 dX10_of_1 ?_
  refine zs_iload_n C dX10_of_4 rfl ?_
  refine zs_bipush C dX10_of_5 (by decide) ?_
  refine zs_imul C dX10_of_7 ?_
  refine zs_iload_n C dX10_of_8 rfl ?_
  refine zs_iadd C dX10_of_9 ?_
  refine zs_iaload C zp_10 dX10_of_10 ?_
  exact zs_iret C hq dX10_of_11
theorem mX10_of {d : Nat} {spec : zq_Sp} (v : ∀ args h Q, spec args h Q → (zq_a args).length ≤ 3 ∧ xX10_of_0 Q (zq_l0 3 args) [] h) : zq_M yX10_of cX10_of 3 (some .int) 1 d spec := by
  refine zq_met (by decide +kernel) (by decide) (fun X Q args h C hq hs => ⟨(v args h Q hs).1, _, ?_, (v args h Q hs).2⟩)
  exact kX10_of_0 C hq
/-! ToOneCrumb$Worths.between(III)I -/
theorem dX10_between_0 : decode cX10_between 0 = .ok (.aload_n 0, 1) := by decide +kernel
theorem dX10_between_1 : decode cX10_between 1 = .ok (.getfield 15, 3) := by decide +kernel
theorem dX10_between_4 : decode cX10_between 4 = .ok (.iload_n 1, 1) := by decide +kernel
theorem dX10_between_5 : decode cX10_between 5 = .ok (.bipush 17, 2) := by decide +kernel
theorem dX10_between_7 : decode cX10_between 7 = .ok (.imul, 1) := by decide +kernel
theorem dX10_between_8 : decode cX10_between 8 = .ok (.iload_n 3, 1) := by decide +kernel
theorem dX10_between_9 : decode cX10_between 9 = .ok (.iadd, 1) := by decide +kernel
theorem dX10_between_10 : decode cX10_between 10 = .ok (.iaload, 1) := by decide +kernel
theorem dX10_between_11 : decode cX10_between 11 = .ok (.aload_n 0, 1) := by decide +kernel
theorem dX10_between_12 : decode cX10_between 12 = .ok (.getfield 15, 3) := by decide +kernel
theorem dX10_between_15 : decode cX10_between 15 = .ok (.iload_n 1, 1) := by decide +kernel
theorem dX10_between_16 : decode cX10_between 16 = .ok (.bipush 17, 2) := by decide +kernel
theorem dX10_between_18 : decode cX10_between 18 = .ok (.imul, 1) := by decide +kernel
theorem dX10_between_19 : decode cX10_between 19 = .ok (.iload_n 2, 1) := by decide +kernel
theorem dX10_between_20 : decode cX10_between 20 = .ok (.iadd, 1) := by decide +kernel
theorem dX10_between_21 : decode cX10_between 21 = .ok (.iaload, 1) := by decide +kernel
theorem dX10_between_22 : decode cX10_between 22 = .ok (.isub, 1) := by decide +kernel
theorem dX10_between_23 : decode cX10_between 23 = .ok (.ireturn, 1) := by decide +kernel
def xX10_between_0 (Q : zq_Q) (ls : zq_L) (st : List Value) (h : zq_H) : Prop := (zi_aload 0 (zi_getR 9 11 (zi_iload 1 (zi_push (.int 17) (zi_i2 (fun x y => x * y) (zi_iload 3 (zi_i2 (fun x y => x + y) (zi_aldI 11 102 (zi_aload 0 (zi_getR 9 11 (zi_iload 1 (zi_push (.int 17) (zi_i2 (fun x y => x * y) (zi_iload 2 (zi_i2 (fun x y => x + y) (zi_aldI 11 102 (zi_i2 (fun x y => x - y) (zi_iret Q)))))))))))))))))) ls st h
theorem kX10_between_0 {X : zq_X} {d : Nat} (C : zq_C X cX10_between 4 RX10 d) {Q : zq_Q} (hq : zq_R X (some .int) 1 Q) : zq_ok X 4 0 (xX10_between_0 Q) := by
  refine zs_aload_n C dX10_between_0 rfl ?_
  refine zs_getR C zp_9 zF10 (j := 1) ⟨by decide, rfl⟩ zw_103 dX10_between_1 ?_
  refine zs_iload_n C dX10_between_4 rfl ?_
  refine zs_bipush C dX10_between_5 (by decide) ?_
  refine zs_imul C dX10_between_7 ?_
  refine zs_iload_n C dX10_between_8 rfl ?_
  refine zs_iadd C dX10_between_9 ?_
  refine zs_iaload C zp_11 dX10_between_10 ?_
  refine zs_aload_n C dX10_between_11 rfl ?_
  refine zs_getR C zp_9 zF10 (j := 1) ⟨by decide, rfl⟩ zw_103 dX10_between_12 ?_
  refine zs_iload_n C dX10_between_15 rfl ?_
  refine zs_bipush C dX10_between_16 (by decide) ?_
  refine zs_imul C dX10_between_18 ?_
  refine zs_iload_n C dX10_between_19 rfl ?_
  refine zs_iadd C dX10_between_20 ?_
  refine zs_iaload C zp_11 dX10_between_21 ?_
  refine zs_isub C dX10_between_22 ?_
  exact zs_iret C hq dX10_between_23
theorem mX10_between {d : Nat} {spec : zq_Sp} (v : ∀ args h Q, spec args h Q → (zq_a args).length ≤ 4 ∧ xX10_between_0 Q (zq_l0 4 args) [] h) : zq_M yX10_between cX10_between 4 (some .int) 1 d spec := by
  refine zq_met (by decide +kernel) (by decide) (fun X Q args h C hq hs => ⟨(v args h Q hs).1, _, ?_, (v args h Q hs).2⟩)
  exact kX10_between_0 C hq
/-! ToOneCrumb$Worths.whole(I)I -/
theorem dX10_whole_0 : decode cX10_whole 0 = .ok (.aload_n 0, 1) := by decide +kernel
theorem dX10_whole_1 : decode cX10_whole 1 = .ok (.iload_n 1, 1) := by decide +kernel
theorem dX10_whole_2 : decode cX10_whole 2 = .ok (.iconst 0, 1) := by decide +kernel
theorem dX10_whole_3 : decode cX10_whole 3 = .ok (.aload_n 0, 1) := by decide +kernel
theorem dX10_whole_4 : decode cX10_whole 4 = .ok (.getfield 24, 3) := by decide +kernel
theorem dX10_whole_7 : decode cX10_whole 7 = .ok (.invokevirtual 39, 3) := by decide +kernel
theorem dX10_whole_10 : decode cX10_whole 10 = .ok (.ireturn, 1) := by decide +kernel
def xX10_whole_0 (s_X10_between : zq_Sp) (Q : zq_Q) (ls : zq_L) (st : List Value) (h : zq_H) : Prop := (zi_aload 0 (zi_iload 1 (zi_push (.int 0) (zi_aload 0 (zi_getI 9 2 (zi_callV 3 9 s_X10_between (zi_iret Q))))))) ls st h
theorem kX10_whole_0 {X : zq_X} {d : Nat} (C : zq_C X cX10_whole 2 RX10 d) {d_X10_between : Nat} {s_X10_between : zq_Sp} (h_X10_between : zq_M yX10_between cX10_between 4 (some .int) 1 d_X10_between s_X10_between) (g_X10_between : d_X10_between + 1 ≤ d) {Q : zq_Q} (hq : zq_R X (some .int) 1 Q) : zq_ok X 2 0 (xX10_whole_0 s_X10_between Q) := by
  refine zs_aload_n C dX10_whole_0 rfl ?_
  refine zs_iload_n C dX10_whole_1 rfl ?_
  refine zs_iconst C dX10_whole_2 (by decide) ?_
  refine zs_aload_n C dX10_whole_3 rfl ?_
  refine zs_getI C zp_9 zF10 (j := 2) ⟨by decide, rfl⟩ zw_104 dX10_whole_4 ?_
  refine zs_callV C h_X10_between g_X10_between zy_X10_between zp_9 (show vwCl[10]? = some (RX10, TX10, 3) from rfl) zw_694 zw_598 zs9_X10_between dX10_whole_7 ?_
  exact zs_iret C hq dX10_whole_10
theorem mX10_whole {d : Nat} {spec : zq_Sp} {d_X10_between : Nat} {s_X10_between : zq_Sp} (h_X10_between : zq_M yX10_between cX10_between 4 (some .int) 1 d_X10_between s_X10_between) (g_X10_between : d_X10_between + 1 ≤ d) (v : ∀ args h Q, spec args h Q → (zq_a args).length ≤ 2 ∧ xX10_whole_0 s_X10_between Q (zq_l0 2 args) [] h) : zq_M yX10_whole cX10_whole 2 (some .int) 1 d spec := by
  refine zq_met (by decide +kernel) (by decide) (fun X Q args h C hq hs => ⟨(v args h Q hs).1, _, ?_, (v args h Q hs).2⟩)
  exact kX10_whole_0 C h_X10_between g_X10_between hq
