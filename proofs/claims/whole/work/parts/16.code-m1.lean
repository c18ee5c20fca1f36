/-! ToOneCrumbModel.thrown()I -/
theorem dX12_thrown_0 : decode cX12_thrown 0 = .ok (.aload_n 0, 1) := by decide +kernel
theorem dX12_thrown_1 : decode cX12_thrown 1 = .ok (.getfield 147, 3) := by decide +kernel
theorem dX12_thrown_4 : decode cX12_thrown 4 = .ok (.ireturn, 1) := by decide +kernel
def xX12_thrown_0 (Q : zq_Q) (ls : zq_L) (st : List Value) (h : zq_H) : Prop := (zi_aload 0 (zi_getI 56 0 (zi_iret Q))) ls st h
theorem kX12_thrown_0 {X : zq_X} {d : Nat} (C : zq_C X cX12_thrown 1 RX12 d) {Q : zq_Q} (hq : zq_R X (some .int) 1 Q) : zq_ok X 1 0 (xX12_thrown_0 Q) := by
  refine zs_aload_n C dX12_thrown_0 rfl ?_
  refine zs_getI C zp_56 zF12 (j := 0) ⟨by decide, rfl⟩ zw_1096 dX12_thrown_1 ?_
  exact zs_iret C hq dX12_thrown_4
theorem mX12_thrown {d : Nat} {spec : zq_Sp} (v : ∀ args h Q, spec args h Q → (zq_a args).length ≤ 1 ∧ xX12_thrown_0 Q (zq_l0 1 args) [] h) : zq_M yX12_thrown cX12_thrown 1 (some .int) 1 d spec := by
  refine zq_met (by decide +kernel) (by decide) (fun X Q args h C hq hs => ⟨(v args h Q hs).1, _, ?_, (v args h Q hs).2⟩)
  exact kX12_thrown_0 C hq
/-! ToOneCrumbModel.refuse()I -/
theorem dX12_refuse_0 : decode cX12_refuse 0 = .ok (.aload_n 0, 1) := by decide +kernel
theorem dX12_refuse_1 : decode cX12_refuse 1 = .ok (.iconst 1, 1) := by decide +kernel
theorem dX12_refuse_2 : decode cX12_refuse 2 = .ok (.putfield 147, 3) := by decide +kernel
theorem dX12_refuse_5 : decode cX12_refuse 5 = .ok (.iconst 0, 1) := by decide +kernel
theorem dX12_refuse_6 : decode cX12_refuse 6 = .ok (.ireturn, 1) := by decide +kernel
def xX12_refuse_0 (Q : zq_Q) (ls : zq_L) (st : List Value) (h : zq_H) : Prop := (zi_aload 0 (zi_push (.int 1) (zi_putI 56 0 (zi_push (.int 0) (zi_iret Q))))) ls st h
theorem kX12_refuse_0 {X : zq_X} {d : Nat} (C : zq_C X cX12_refuse 1 RX12 d) {Q : zq_Q} (hq : zq_R X (some .int) 1 Q) : zq_ok X 1 0 (xX12_refuse_0 Q) := by
  refine zs_aload_n C dX12_refuse_0 rfl ?_
  refine zs_iconst C dX12_refuse_1 (by decide) ?_
  refine zs_putI C zp_56 zF12 (j := 0) ⟨by decide, rfl⟩ ⟨rfl, by decide +kernel⟩ zw_1096 dX12_refuse_2 ?_
  refine zs_iconst C dX12_refuse_5 (by decide) ?_
  exact zs_iret C hq dX12_refuse_6
theorem mX12_refuse {d : Nat} {spec : zq_Sp} (v : ∀ args h Q, spec args h Q → (zq_a args).length ≤ 1 ∧ xX12_refuse_0 Q (zq_l0 1 args) [] h) : zq_M yX12_refuse cX12_refuse 1 (some .int) 1 d spec := by
  refine zq_met (by decide +kernel) (by decide) (fun X Q args h C hq hs => ⟨(v args h Q hs).1, _, ?_, (v args h Q hs).2⟩)
  exact kX12_refuse_0 C hq
/-! ToOneCrumbModel.in(JJJ)Z -/
theorem dX12_in_0 : decode cX12_in 0 = .ok (.lload_n 0, 1) := by decide +kernel
theorem dX12_in_1 : decode cX12_in 1 = .ok (.lload_n 2, 1) := by decide +kernel
theorem dX12_in_2 : decode cX12_in 2 = .ok (.lcmp, 1) := by decide +kernel
theorem dX12_in_3 : decode cX12_in 3 = .ok (.ifCond .lt 14, 3) := by decide +kernel
theorem dX12_in_6 : decode cX12_in 6 = .ok (.lload_n 0, 1) := by decide +kernel
theorem dX12_in_7 : decode cX12_in 7 = .ok (.lload 4, 2) := by decide +kernel
theorem dX12_in_9 : decode cX12_in 9 = .ok (.lcmp, 1) := by decide +kernel
theorem dX12_in_10 : decode cX12_in 10 = .ok (.ifCond .gt 7, 3) := by decide +kernel
theorem dX12_in_13 : decode cX12_in 13 = .ok (.iconst 1, 1) := by decide +kernel
theorem dX12_in_14 : decode cX12_in 14 = .ok (.goto 4, 3) := by decide +kernel
theorem dX12_in_17 : decode cX12_in 17 = .ok (.iconst 0, 1) := by decide +kernel
theorem dX12_in_18 : decode cX12_in 18 = .ok (.ireturn, 1) := by decide +kernel
def xX12_in_18 (Q : zq_Q) (ls : zq_L) (st : List Value) (h : zq_H) : Prop := (zi_zret Q) ls st h
theorem kX12_in_18 {X : zq_X} {d : Nat} (C : zq_C X cX12_in 6 RX12 d) {Q : zq_Q} (hq : zq_R X (some .boolean) 1 Q) : zq_ok X 6 18 (xX12_in_18 Q) := by
  exact zs_zret C hq dX12_in_18
def xX12_in_17 (Q : zq_Q) (ls : zq_L) (st : List Value) (h : zq_H) : Prop := (zi_push (.int 0) ((xX12_in_18 Q))) ls st h
theorem kX12_in_17 {X : zq_X} {d : Nat} (C : zq_C X cX12_in 6 RX12 d) {Q : zq_Q} (hq : zq_R X (some .boolean) 1 Q) : zq_ok X 6 17 (xX12_in_17 Q) := by
  refine zs_iconst C dX12_in_17 (by decide) ?_
  exact kX12_in_18 C hq
def xX12_in_13 (Q : zq_Q) (ls : zq_L) (st : List Value) (h : zq_H) : Prop := (zi_push (.int 1) ((xX12_in_18 Q))) ls st h
theorem kX12_in_13 {X : zq_X} {d : Nat} (C : zq_C X cX12_in 6 RX12 d) {Q : zq_Q} (hq : zq_R X (some .boolean) 1 Q) : zq_ok X 6 13 (xX12_in_13 Q) := by
  refine zs_iconst C dX12_in_13 (by decide) ?_
  exact zs_goto C dX12_in_14 (by decide) (kX12_in_18 C hq)
def xX12_in_6 (Q : zq_Q) (ls : zq_L) (st : List Value) (h : zq_H) : Prop := (zi_lload 0 (zi_lload 4 (zi_lcmp (zi_if1 (fun x => 0 < x) (xX12_in_17 Q) (xX12_in_13 Q))))) ls st h
theorem kX12_in_6 {X : zq_X} {d : Nat} (C : zq_C X cX12_in 6 RX12 d) {Q : zq_Q} (hq : zq_R X (some .boolean) 1 Q) : zq_ok X 6 6 (xX12_in_6 Q) := by
  refine zs_lload_n C dX12_in_6 rfl ?_
  refine zs_lload C dX12_in_7 ?_
  refine zs_lcmp C dX12_in_9 ?_
  exact zs_if_gt C dX12_in_10 (by decide) (kX12_in_17 C hq) (kX12_in_13 C hq)
def xX12_in_0 (Q : zq_Q) (ls : zq_L) (st : List Value) (h : zq_H) : Prop := (zi_lload 0 (zi_lload 2 (zi_lcmp (zi_if1 (fun x => x < 0) (xX12_in_17 Q) (xX12_in_6 Q))))) ls st h
theorem kX12_in_0 {X : zq_X} {d : Nat} (C : zq_C X cX12_in 6 RX12 d) {Q : zq_Q} (hq : zq_R X (some .boolean) 1 Q) : zq_ok X 6 0 (xX12_in_0 Q) := by
  refine zs_lload_n C dX12_in_0 rfl ?_
  refine zs_lload_n C dX12_in_1 rfl ?_
  refine zs_lcmp C dX12_in_2 ?_
  exact zs_if_lt C dX12_in_3 (by decide) (kX12_in_17 C hq) (kX12_in_6 C hq)
theorem mX12_in {d : Nat} {spec : zq_Sp} (v : ∀ args h Q, spec args h Q → (zq_a args).length ≤ 6 ∧ xX12_in_0 Q (zq_l0 6 args) [] h) : zq_M yX12_in cX12_in 6 (some .boolean) 1 d spec := by
  refine zq_met (by decide +kernel) (by decide) (fun X Q args h C hq hs => ⟨(v args h Q hs).1, _, ?_, (v args h Q hs).2⟩)
  exact kX12_in_0 C hq
/-! ToOneCrumbModel.has(II)Z -/
theorem dX12_has_0 : decode cX12_has 0 = .ok (.iload_n 0, 1) := by decide +kernel
theorem dX12_has_1 : decode cX12_has 1 = .ok (.iload_n 1, 1) := by decide +kernel
theorem dX12_has_2 : decode cX12_has 2 = .ok (.ishr, 1) := by decide +kernel
theorem dX12_has_3 : decode cX12_has 3 = .ok (.iconst 1, 1) := by decide +kernel
theorem dX12_has_4 : decode cX12_has 4 = .ok (.iand, 1) := by decide +kernel
theorem dX12_has_5 : decode cX12_has 5 = .ok (.iconst 1, 1) := by decide +kernel
theorem dX12_has_6 : decode cX12_has 6 = .ok (.if_icmp .ne 7, 3) := by decide +kernel
theorem dX12_has_9 : decode cX12_has 9 = .ok (.iconst 1, 1) := by decide +kernel
theorem dX12_has_10 : decode cX12_has 10 = .ok (.goto 4, 3) := by decide +kernel
theorem dX12_has_13 : decode cX12_has 13 = .ok (.iconst 0, 1) := by decide +kernel
theorem dX12_has_14 : decode cX12_has 14 = .ok (.ireturn, 1) := by decide +kernel
def xX12_has_14 (Q : zq_Q) (ls : zq_L) (st : List Value) (h : zq_H) : Prop := (zi_zret Q) ls st h
theorem kX12_has_14 {X : zq_X} {d : Nat} (C : zq_C X cX12_has 2 RX12 d) {Q : zq_Q} (hq : zq_R X (some .boolean) 1 Q) : zq_ok X 2 14 (xX12_has_14 Q) := by
  exact zs_zret C hq dX12_has_14
def xX12_has_13 (Q : zq_Q) (ls : zq_L) (st : List Value) (h : zq_H) : Prop := (zi_push (.int 0) ((xX12_has_14 Q))) ls st h
theorem kX12_has_13 {X : zq_X} {d : Nat} (C : zq_C X cX12_has 2 RX12 d) {Q : zq_Q} (hq : zq_R X (some .boolean) 1 Q) : zq_ok X 2 13 (xX12_has_13 Q) := by
  refine zs_iconst C dX12_has_13 (by decide) ?_
  exact kX12_has_14 C hq
def xX12_has_9 (Q : zq_Q) (ls : zq_L) (st : List Value) (h : zq_H) : Prop := (zi_push (.int 1) ((xX12_has_14 Q))) ls st h
theorem kX12_has_9 {X : zq_X} {d : Nat} (C : zq_C X cX12_has 2 RX12 d) {Q : zq_Q} (hq : zq_R X (some .boolean) 1 Q) : zq_ok X 2 9 (xX12_has_9 Q) := by
  refine zs_iconst C dX12_has_9 (by decide) ?_
  exact zs_goto C dX12_has_10 (by decide) (kX12_has_14 C hq)
def xX12_has_0 (Q : zq_Q) (ls : zq_L) (st : List Value) (h : zq_H) : Prop := (zi_iload 0 (zi_iload 1 (zi_i2 zf_shr (zi_push (.int 1) (zi_i2 (fun x y => x &&& y) (zi_push (.int 1) (zi_if2 (fun x y => x = y) (xX12_has_9 Q) (xX12_has_13 Q)))))))) ls st h
theorem kX12_has_0 {X : zq_X} {d : Nat} (C : zq_C X cX12_has 2 RX12 d) {Q : zq_Q} (hq : zq_R X (some .boolean) 1 Q) : zq_ok X 2 0 (xX12_has_0 Q) := by
  refine zs_iload_n C dX12_has_0 rfl ?_
  refine zs_iload_n C dX12_has_1 rfl ?_
  refine zs_ishr C dX12_has_2 ?_
  refine zs_iconst C dX12_has_3 (by decide) ?_
  refine zs_iand C dX12_has_4 ?_
  refine zs_iconst C dX12_has_5 (by decide) ?_
  exact zs_icmp_ne C dX12_has_6 (by decide) (kX12_has_13 C hq) (kX12_has_9 C hq)
theorem mX12_has {d : Nat} {spec : zq_Sp} (v : ∀ args h Q, spec args h Q → (zq_a args).length ≤ 2 ∧ xX12_has_0 Q (zq_l0 2 args) [] h) : zq_M yX12_has cX12_has 2 (some .boolean) 1 d spec := by
  refine zq_met (by decide +kernel) (by decide) (fun X Q args h C hq hs => ⟨(v args h Q hs).1, _, ?_, (v args h Q hs).2⟩)
  exact kX12_has_0 C hq
/-! ToOneCrumbModel.flag(Z)I -/
theorem dX12_flag_0 : decode cX12_flag 0 = .ok (.iload_n 0, 1) := by decide +kernel
theorem dX12_flag_1 : decode cX12_flag 1 = .ok (.ifCond .eq 7, 3) := by decide +kernel
theorem dX12_flag_4 : decode cX12_flag 4 = .ok (.iconst 1, 1) := by decide +kernel
theorem dX12_flag_5 : decode cX12_flag 5 = .ok (.goto 4, 3) := by decide +kernel
theorem dX12_flag_8 : decode cX12_flag 8 = .ok (.iconst 0, 1) := by decide +kernel
theorem dX12_flag_9 : decode cX12_flag 9 = .ok (.ireturn, 1) := by decide +kernel
def xX12_flag_9 (Q : zq_Q) (ls : zq_L) (st : List Value) (h : zq_H) : Prop := (zi_iret Q) ls st h
theorem kX12_flag_9 {X : zq_X} {d : Nat} (C : zq_C X cX12_flag 1 RX12 d) {Q : zq_Q} (hq : zq_R X (some .int) 1 Q) : zq_ok X 1 9 (xX12_flag_9 Q) := by
  exact zs_iret C hq dX12_flag_9
def xX12_flag_8 (Q : zq_Q) (ls : zq_L) (st : List Value) (h : zq_H) : Prop := (zi_push (.int 0) ((xX12_flag_9 Q))) ls st h
theorem kX12_flag_8 {X : zq_X} {d : Nat} (C : zq_C X cX12_flag 1 RX12 d) {Q : zq_Q} (hq : zq_R X (some .int) 1 Q) : zq_ok X 1 8 (xX12_flag_8 Q) := by
  refine zs_iconst C dX12_flag_8 (by decide) ?_
  exact kX12_flag_9 C hq
def xX12_flag_4 (Q : zq_Q) (ls : zq_L) (st : List Value) (h : zq_H) : Prop := (zi_push (.int 1) ((xX12_flag_9 Q))) ls st h
theorem kX12_flag_4 {X : zq_X} {d : Nat} (C : zq_C X cX12_flag 1 RX12 d) {Q : zq_Q} (hq : zq_R X (some .int) 1 Q) : zq_ok X 1 4 (xX12_flag_4 Q) := by
  refine zs_iconst C dX12_flag_4 (by decide) ?_
  exact zs_goto C dX12_flag_5 (by decide) (kX12_flag_9 C hq)
def xX12_flag_0 (Q : zq_Q) (ls : zq_L) (st : List Value) (h : zq_H) : Prop := (zi_iload 0 (zi_if1 (fun x => x = 0) (xX12_flag_8 Q) (xX12_flag_4 Q))) ls st h
theorem kX12_flag_0 {X : zq_X} {d : Nat} (C : zq_C X cX12_flag 1 RX12 d) {Q : zq_Q} (hq : zq_R X (some .int) 1 Q) : zq_ok X 1 0 (xX12_flag_0 Q) := by
  refine zs_iload_n C dX12_flag_0 rfl ?_
  exact zs_if_eq C dX12_flag_1 (by decide) (kX12_flag_8 C hq) (kX12_flag_4 C hq)
theorem mX12_flag {d : Nat} {spec : zq_Sp} (v : ∀ args h Q, spec args h Q → (zq_a args).length ≤ 1 ∧ xX12_flag_0 Q (zq_l0 1 args) [] h) : zq_M yX12_flag cX12_flag 1 (some .int) 1 d spec := by
  refine zq_met (by decide +kernel) (by decide) (fun X Q args h C hq hs => ⟨(v args h Q hs).1, _, ?_, (v args h Q hs).2⟩)
  exact kX12_flag_0 C hq
/-! ToOneCrumbModel.common(JJ)J -/
theorem dX12_common_0 : decode cX12_common 0 = .ok (.lload_n 2, 1) := by decide +kernel
theorem dX12_common_1 : decode cX12_common 1 = .ok (.lconst 0, 1) := by decide +kernel
theorem dX12_common_2 : decode cX12_common 2 = .ok (.lcmp, 1) := by decide +kernel
theorem dX12_common_3 : decode cX12_common 3 = .ok (.ifCond .ne 7, 3) := by decide +kernel
theorem dX12_common_6 : decode cX12_common 6 = .ok (.lload_n 0, 1) := by decide +kernel
theorem dX12_common_7 : decode cX12_common 7 = .ok (.goto 10, 3) := by decide +kernel
theorem dX12_common_10 : decode cX12_common 10 = .ok (.lload_n 2, 1) := by decide +kernel
theorem dX12_common_11 : decode cX12_common 11 = .ok (.lload_n 0, 1) := by decide +kernel
theorem dX12_common_12 : decode cX12_common 12 = .ok (.lload_n 2, 1) := by decide +kernel
theorem dX12_common_13 : decode cX12_common 13 = .ok (.lrem, 1) := by decide +kernel
theorem dX12_common_14 : decode cX12_common 14 = .ok (.invokestatic 151, 3) := by decide +kernel
theorem dX12_common_17 : decode cX12_common 17 = .ok (.lreturn, 1) := by decide +kernel
def xX12_common_17 (s_X12_common : zq_Sp) (Q : zq_Q) (ls : zq_L) (st : List Value) (h : zq_H) : Prop := (zi_lret Q) ls st h
theorem kX12_common_17 {X : zq_X} {d : Nat} (C : zq_C X cX12_common 4 RX12 d) {d_X12_common : Nat} {s_X12_common : zq_Sp} (h_X12_common : zq_M yX12_common cX12_common 4 (some .long) 2 d_X12_common s_X12_common) (g_X12_common : d_X12_common + 1 ≤ d) {Q : zq_Q} (hq : zq_R X (some .long) 2 Q) : zq_ok X 4 17 (xX12_common_17 s_X12_common Q) := by
  exact zs_lret C hq dX12_common_17
def xX12_common_10 (s_X12_common : zq_Sp) (Q : zq_Q) (ls : zq_L) (st : List Value) (h : zq_H) : Prop := (zi_lload 2 (zi_lload 0 (zi_lload 2 (zi_ldv zf_lrem (zi_callS 2 s_X12_common ((xX12_common_17 s_X12_common Q))))))) ls st h
theorem kX12_common_10 {X : zq_X} {d : Nat} (C : zq_C X cX12_common 4 RX12 d) {d_X12_common : Nat} {s_X12_common : zq_Sp} (h_X12_common : zq_M yX12_common cX12_common 4 (some .long) 2 d_X12_common s_X12_common) (g_X12_common : d_X12_common + 1 ≤ d) {Q : zq_Q} (hq : zq_R X (some .long) 2 Q) : zq_ok X 4 10 (xX12_common_10 s_X12_common Q) := by
  refine zs_lload_n C dX12_common_10 rfl ?_
  refine zs_lload_n C dX12_common_11 rfl ?_
  refine zs_lload_n C dX12_common_12 rfl ?_
  refine zs_lrem C dX12_common_13 ?_
  refine zs_callS C h_X12_common g_X12_common zy_X12_common zw_1595 zw_1596 dX12_common_14 ?_
  exact kX12_common_17 C h_X12_common g_X12_common hq
def xX12_common_6 (s_X12_common : zq_Sp) (Q : zq_Q) (ls : zq_L) (st : List Value) (h : zq_H) : Prop := (zi_lload 0 ((xX12_common_17 s_X12_common Q))) ls st h
theorem kX12_common_6 {X : zq_X} {d : Nat} (C : zq_C X cX12_common 4 RX12 d) {d_X12_common : Nat} {s_X12_common : zq_Sp} (h_X12_common : zq_M yX12_common cX12_common 4 (some .long) 2 d_X12_common s_X12_common) (g_X12_common : d_X12_common + 1 ≤ d) {Q : zq_Q} (hq : zq_R X (some .long) 2 Q) : zq_ok X 4 6 (xX12_common_6 s_X12_common Q) := by
  refine zs_lload_n C dX12_common_6 rfl ?_
  exact zs_goto C dX12_common_7 (by decide) (kX12_common_17 C h_X12_common g_X12_common hq)
def xX12_common_0 (s_X12_common : zq_Sp) (Q : zq_Q) (ls : zq_L) (st : List Value) (h : zq_H) : Prop := (zi_lload 2 (zi_push (.long 0) (zi_lcmp (zi_if1 (fun x => x = 0) (xX12_common_6 s_X12_common Q) (xX12_common_10 s_X12_common Q))))) ls st h
theorem kX12_common_0 {X : zq_X} {d : Nat} (C : zq_C X cX12_common 4 RX12 d) {d_X12_common : Nat} {s_X12_common : zq_Sp} (h_X12_common : zq_M yX12_common cX12_common 4 (some .long) 2 d_X12_common s_X12_common) (g_X12_common : d_X12_common + 1 ≤ d) {Q : zq_Q} (hq : zq_R X (some .long) 2 Q) : zq_ok X 4 0 (xX12_common_0 s_X12_common Q) := by
  refine zs_lload_n C dX12_common_0 rfl ?_
  refine zs_lconst C dX12_common_1 (by decide) ?_
  refine zs_lcmp C dX12_common_2 ?_
  exact zs_if_ne C dX12_common_3 (by decide) (kX12_common_10 C h_X12_common g_X12_common hq) (kX12_common_6 C h_X12_common g_X12_common hq)
theorem mX12_common {d : Nat} {spec : zq_Sp} {d_X12_common : Nat} {s_X12_common : zq_Sp} (h_X12_common : zq_M yX12_common cX12_common 4 (some .long) 2 d_X12_common s_X12_common) (g_X12_common : d_X12_common + 1 ≤ d) (v : ∀ args h Q, spec args h Q → (zq_a args).length ≤ 4 ∧ xX12_common_0 s_X12_common Q (zq_l0 4 args) [] h) : zq_M yX12_common cX12_common 4 (some .long) 2 d spec := by
  refine zq_met (by decide +kernel) (by decide) (fun X Q args h C hq hs => ⟨(v args h Q hs).1, _, ?_, (v args h Q hs).2⟩)
  exact kX12_common_0 C h_X12_common g_X12_common hq
/-! ToOneCrumbModel.enters(J)V -/
theorem dX12_enters_0 : decode cX12_enters 0 = .ok (.aload_n 0, 1) := by decide +kernel
theorem dX12_enters_1 : decode cX12_enters 1 = .ok (.getfield 7, 3) := by decide +kernel
theorem dX12_enters_4 : decode cX12_enters 4 = .ok (.aload_n 0, 1) := by decide +kernel
theorem dX12_enters_5 : decode cX12_enters 5 = .ok (.getfield 155, 3) := by decide +kernel
theorem dX12_enters_8 : decode cX12_enters 8 = .ok (.lload_n 1, 1) := by decide +kernel
theorem dX12_enters_9 : decode cX12_enters 9 = .ok (.lastore, 1) := by decide +kernel
theorem dX12_enters_10 : decode cX12_enters 10 = .ok (.aload_n 0, 1) := by decide +kernel
theorem dX12_enters_11 : decode cX12_enters 11 = .ok (.dup, 1) := by decide +kernel
theorem dX12_enters_12 : decode cX12_enters 12 = .ok (.getfield 155, 3) := by decide +kernel
theorem dX12_enters_15 : decode cX12_enters 15 = .ok (.iconst 1, 1) := by decide +kernel
theorem dX12_enters_16 : decode cX12_enters 16 = .ok (.iadd, 1) := by decide +kernel
theorem dX12_enters_17 : decode cX12_enters 17 = .ok (.putfield 155, 3) := by decide +kernel
theorem dX12_enters_20 : decode cX12_enters 20 = .ok (.return_, 1) := by decide +kernel
def xX12_enters_0 (Q : zq_Q) (ls : zq_L) (st : List Value) (h : zq_H) : Prop := (zi_aload 0 (zi_getR 56 57 (zi_aload 0 (zi_getI 56 1 (zi_lload 1 (zi_astL 57 24 (zi_aload 0 (zi_dup (zi_getI 56 1 (zi_push (.int 1) (zi_i2 (fun x y => x + y) (zi_putI 56 1 (zi_vret Q))))))))))))) ls st h
theorem kX12_enters_0 {X : zq_X} {d : Nat} (C : zq_C X cX12_enters 3 RX12 d) {Q : zq_Q} (hq : zq_R X none 0 Q) : zq_ok X 3 0 (xX12_enters_0 Q) := by
  refine zs_aload_n C dX12_enters_0 rfl ?_
  refine zs_getR C zp_56 zF12 (j := 2) ⟨by decide, rfl⟩ zw_1098 dX12_enters_1 ?_
  refine zs_aload_n C dX12_enters_4 rfl ?_
  refine zs_getI C zp_56 zF12 (j := 1) ⟨by decide, rfl⟩ zw_1097 dX12_enters_5 ?_
  refine zs_lload_n C dX12_enters_8 rfl ?_
  refine zs_lastore C zp_57 dX12_enters_9 ?_
  refine zs_aload_n C dX12_enters_10 rfl ?_
  refine zs_dup C dX12_enters_11 ?_
  refine zs_getI C zp_56 zF12 (j := 1) ⟨by decide, rfl⟩ zw_1097 dX12_enters_12 ?_
  refine zs_iconst C dX12_enters_15 (by decide) ?_
  refine zs_iadd C dX12_enters_16 ?_
  refine zs_putI C zp_56 zF12 (j := 1) ⟨by decide, rfl⟩ ⟨rfl, by decide +kernel⟩ zw_1097 dX12_enters_17 ?_
  exact zs_vret C hq dX12_enters_20
theorem mX12_enters {d : Nat} {spec : zq_Sp} (v : ∀ args h Q, spec args h Q → (zq_a args).length ≤ 3 ∧ xX12_enters_0 Q (zq_l0 3 args) [] h) : zq_M yX12_enters cX12_enters 3 none 0 d spec := by
  refine zq_met (by decide +kernel) (by decide) (fun X Q args h C hq hs => ⟨(v args h Q hs).1, _, ?_, (v args h Q hs).2⟩)
  exact kX12_enters_0 C hq
/-! ToOneCrumbModel.isCell(I)Z -/
theorem dX12_isCell_0 : decode cX12_isCell 0 = .ok (.iload_n 1, 1) := by decide +kernel
theorem dX12_isCell_1 : decode cX12_isCell 1 = .ok (.i2l, 1) := by decide +kernel
theorem dX12_isCell_2 : decode cX12_isCell 2 = .ok (.lconst 0, 1) := by decide +kernel
theorem dX12_isCell_3 : decode cX12_isCell 3 = .ok (.aload_n 0, 1) := by decide +kernel
theorem dX12_isCell_4 : decode cX12_isCell 4 = .ok (.getfield 158, 3) := by decide +kernel
theorem dX12_isCell_7 : decode cX12_isCell 7 = .ok (.iconst 1, 1) := by decide +kernel
theorem dX12_isCell_8 : decode cX12_isCell 8 = .ok (.isub, 1) := by decide +kernel
theorem dX12_isCell_9 : decode cX12_isCell 9 = .ok (.i2l, 1) := by decide +kernel
theorem dX12_isCell_10 : decode cX12_isCell 10 = .ok (.invokestatic 161, 3) := by decide +kernel
theorem dX12_isCell_13 : decode cX12_isCell 13 = .ok (.ireturn, 1) := by decide +kernel
def xX12_isCell_0 (s_X12_in : zq_Sp) (Q : zq_Q) (ls : zq_L) (st : List Value) (h : zq_H) : Prop := (zi_iload 1 (zi_i2l (zi_push (.long 0) (zi_aload 0 (zi_getI 56 3 (zi_push (.int 1) (zi_i2 (fun x y => x - y) (zi_i2l (zi_callS 3 s_X12_in (zi_zret Q)))))))))) ls st h
theorem kX12_isCell_0 {X : zq_X} {d : Nat} (C : zq_C X cX12_isCell 2 RX12 d) {d_X12_in : Nat} {s_X12_in : zq_Sp} (h_X12_in : zq_M yX12_in cX12_in 6 (some .boolean) 1 d_X12_in s_X12_in) (g_X12_in : d_X12_in + 1 ≤ d) {Q : zq_Q} (hq : zq_R X (some .boolean) 1 Q) : zq_ok X 2 0 (xX12_isCell_0 s_X12_in Q) := by
  refine zs_iload_n C dX12_isCell_0 rfl ?_
  refine zs_i2l C dX12_isCell_1 ?_
  refine zs_lconst C dX12_isCell_2 (by decide) ?_
  refine zs_aload_n C dX12_isCell_3 rfl ?_
  refine zs_getI C zp_56 zF12 (j := 3) ⟨by decide, rfl⟩ zw_1099 dX12_isCell_4 ?_
  refine zs_iconst C dX12_isCell_7 (by decide) ?_
  refine zs_isub C dX12_isCell_8 ?_
  refine zs_i2l C dX12_isCell_9 ?_
  refine zs_callS C h_X12_in g_X12_in zy_X12_in zw_1311 zw_1312 dX12_isCell_10 ?_
  exact zs_zret C hq dX12_isCell_13
theorem mX12_isCell {d : Nat} {spec : zq_Sp} {d_X12_in : Nat} {s_X12_in : zq_Sp} (h_X12_in : zq_M yX12_in cX12_in 6 (some .boolean) 1 d_X12_in s_X12_in) (g_X12_in : d_X12_in + 1 ≤ d) (v : ∀ args h Q, spec args h Q → (zq_a args).length ≤ 2 ∧ xX12_isCell_0 s_X12_in Q (zq_l0 2 args) [] h) : zq_M yX12_isCell cX12_isCell 2 (some .boolean) 1 d spec := by
  refine zq_met (by decide +kernel) (by decide) (fun X Q args h C hq hs => ⟨(v args h Q hs).1, _, ?_, (v args h Q hs).2⟩)
  exact kX12_isCell_0 C h_X12_in g_X12_in hq
/-! ToOneCrumbModel.isGuest(I)Z -/
theorem dX12_isGuest_0 : decode cX12_isGuest 0 = .ok (.iload_n 1, 1) := by decide +kernel
theorem dX12_isGuest_1 : decode cX12_isGuest 1 = .ok (.i2l, 1) := by decide +kernel
theorem dX12_isGuest_2 : decode cX12_isGuest 2 = .ok (.lconst 0, 1) := by decide +kernel
theorem dX12_isGuest_3 : decode cX12_isGuest 3 = .ok (.aload_n 0, 1) := by decide +kernel
theorem dX12_isGuest_4 : decode cX12_isGuest 4 = .ok (.getfield 165, 3) := by decide +kernel
theorem dX12_isGuest_7 : decode cX12_isGuest 7 = .ok (.iconst 1, 1) := by decide +kernel
theorem dX12_isGuest_8 : decode cX12_isGuest 8 = .ok (.isub, 1) := by decide +kernel
theorem dX12_isGuest_9 : decode cX12_isGuest 9 = .ok (.i2l, 1) := by decide +kernel
theorem dX12_isGuest_10 : decode cX12_isGuest 10 = .ok (.invokestatic 161, 3) := by decide +kernel
theorem dX12_isGuest_13 : decode cX12_isGuest 13 = .ok (.ireturn, 1) := by decide +kernel
def xX12_isGuest_0 (s_X12_in : zq_Sp) (Q : zq_Q) (ls : zq_L) (st : List Value) (h : zq_H) : Prop := (zi_iload 1 (zi_i2l (zi_push (.long 0) (zi_aload 0 (zi_getI 56 4 (zi_push (.int 1) (zi_i2 (fun x y => x - y) (zi_i2l (zi_callS 3 s_X12_in (zi_zret Q)))))))))) ls st h
theorem kX12_isGuest_0 {X : zq_X} {d : Nat} (C : zq_C X cX12_isGuest 2 RX12 d) {d_X12_in : Nat} {s_X12_in : zq_Sp} (h_X12_in : zq_M yX12_in cX12_in 6 (some .boolean) 1 d_X12_in s_X12_in) (g_X12_in : d_X12_in + 1 ≤ d) {Q : zq_Q} (hq : zq_R X (some .boolean) 1 Q) : zq_ok X 2 0 (xX12_isGuest_0 s_X12_in Q) := by
  refine zs_iload_n C dX12_isGuest_0 rfl ?_
  refine zs_i2l C dX12_isGuest_1 ?_
  refine zs_lconst C dX12_isGuest_2 (by decide) ?_
  refine zs_aload_n C dX12_isGuest_3 rfl ?_
  refine zs_getI C zp_56 zF12 (j := 4) ⟨by decide, rfl⟩ zw_1100 dX12_isGuest_4 ?_
  refine zs_iconst C dX12_isGuest_7 (by decide) ?_
  refine zs_isub C dX12_isGuest_8 ?_
  refine zs_i2l C dX12_isGuest_9 ?_
  refine zs_callS C h_X12_in g_X12_in zy_X12_in zw_1311 zw_1312 dX12_isGuest_10 ?_
  exact zs_zret C hq dX12_isGuest_13
theorem mX12_isGuest {d : Nat} {spec : zq_Sp} {d_X12_in : Nat} {s_X12_in : zq_Sp} (h_X12_in : zq_M yX12_in cX12_in 6 (some .boolean) 1 d_X12_in s_X12_in) (g_X12_in : d_X12_in + 1 ≤ d) (v : ∀ args h Q, spec args h Q → (zq_a args).length ≤ 2 ∧ xX12_isGuest_0 s_X12_in Q (zq_l0 2 args) [] h) : zq_M yX12_isGuest cX12_isGuest 2 (some .boolean) 1 d spec := by
  refine zq_met (by decide +kernel) (by decide) (fun X Q args h C hq hs => ⟨(v args h Q hs).1, _, ?_, (v args h Q hs).2⟩)
  exact kX12_isGuest_0 C h_X12_in g_X12_in hq
/-! ToOneCrumbModel.all()I -/
theorem dX12_all_0 : decode cX12_all 0 = .ok (.iconst 1, 1) := by decide +kernel
theorem dX12_all_1 : decode cX12_all 1 = .ok (.aload_n 0, 1) := by decide +kernel
theorem dX12_all_2 : decode cX12_all 2 = .ok (.getfield 165, 3) := by decide +kernel
theorem dX12_all_5 : decode cX12_all 5 = .ok (.ishl, 1) := by decide +kernel
theorem dX12_all_6 : decode cX12_all 6 = .ok (.iconst 1, 1) := by decide +kernel
theorem dX12_all_7 : decode cX12_all 7 = .ok (.isub, 1) := by decide +kernel
theorem dX12_all_8 : decode cX12_all 8 = .ok (.ireturn, 1) := by decide +kernel
def xX12_all_0 (Q : zq_Q) (ls : zq_L) (st : List Value) (h : zq_H) : Prop := (zi_push (.int 1) (zi_aload 0 (zi_getI 56 4 (zi_i2 zf_shl (zi_push (.int 1) (zi_i2 (fun x y => x - y) (zi_iret Q))))))) ls st h
theorem kX12_all_0 {X : zq_X} {d : Nat} (C : zq_C X cX12_all 1 RX12 d) {Q : zq_Q} (hq : zq_R X (some .int) 1 Q) : zq_ok X 1 0 (xX12_all_0 Q) := by
  refine zs_iconst C dX12_all_0 (by decide) ?_
  refine zs_aload_n C dX12_all_1 rfl ?_
  refine zs_getI C zp_56 zF12 (j := 4) ⟨by decide, rfl⟩ zw_1100 dX12_all_2 ?_
  refine zs_ishl C dX12_all_5 ?_
  refine zs_iconst C dX12_all_6 (by decide) ?_
  refine zs_isub C dX12_all_7 ?_
  exact zs_iret C hq dX12_all_8
theorem mX12_all {d : Nat} {spec : zq_Sp} (v : ∀ args h Q, spec args h Q → (zq_a args).length ≤ 1 ∧ xX12_all_0 Q (zq_l0 1 args) [] h) : zq_M yX12_all cX12_all 1 (some .int) 1 d spec := by
  refine zq_met (by decide +kernel) (by decide) (fun X Q args h C hq hs => ⟨(v args h Q hs).1, _, ?_, (v args h Q hs).2⟩)
  exact kX12_all_0 C hq
/-! ToOneCrumbModel.isSlice(II)Z -/
theorem dX12_isSlice_0 : decode cX12_isSlice 0 = .ok (.aload_n 0, 1) := by decide +kernel
theorem dX12_isSlice_1 : decode cX12_isSlice 1 = .ok (.iload_n 1, 1) := by decide +kernel
theorem dX12_isSlice_2 : decode cX12_isSlice 2 = .ok (.invokevirtual 168, 3) := by decide +kernel
theorem dX12_isSlice_5 : decode cX12_isSlice 5 = .ok (.ifCond .eq 20, 3) := by decide +kernel
theorem dX12_isSlice_8 : decode cX12_isSlice 8 = .ok (.aload_n 0, 1) := by decide +kernel
theorem dX12_isSlice_9 : decode cX12_isSlice 9 = .ok (.iload_n 2, 1) := by decide +kernel
theorem dX12_isSlice_10 : decode cX12_isSlice 10 = .ok (.invokevirtual 168, 3) := by decide +kernel
theorem dX12_isSlice_13 : decode cX12_isSlice 13 = .ok (.ifCond .eq 12, 3) := by decide +kernel
theorem dX12_isSlice_16 : decode cX12_isSlice 16 = .ok (.iload_n 1, 1) := by decide +kernel
theorem dX12_isSlice_17 : decode cX12_isSlice 17 = .ok (.iload_n 2, 1) := by decide +kernel
theorem dX12_isSlice_18 : decode cX12_isSlice 18 = .ok (.if_icmp .gt 7, 3) := by decide +kernel
theorem dX12_isSlice_21 : decode cX12_isSlice 21 = .ok (.iconst 1, 1) := by decide +kernel
theorem dX12_isSlice_22 : decode cX12_isSlice 22 = .ok (.goto 4, 3) := by decide +kernel
theorem dX12_isSlice_25 : decode cX12_isSlice 25 = .ok (.iconst 0, 1) := by decide +kernel
theorem dX12_isSlice_26 : decode cX12_isSlice 26 = .ok (.ireturn, 1) := by decide +kernel
def xX12_isSlice_26 (s_X12_isCell : zq_Sp) (Q : zq_Q) (ls : zq_L) (st : List Value) (h : zq_H) : Prop := (zi_zret Q) ls st h
theorem kX12_isSlice_26 {X : zq_X} {d : Nat} (C : zq_C X cX12_isSlice 3 RX12 d) {d_X12_isCell : Nat} {s_X12_isCell : zq_Sp} (h_X12_isCell : zq_M yX12_isCell cX12_isCell 2 (some .boolean) 1 d_X12_isCell s_X12_isCell) (g_X12_isCell : d_X12_isCell + 1 ≤ d) {Q : zq_Q} (hq : zq_R X (some .boolean) 1 Q) : zq_ok X 3 26 (xX12_isSlice_26 s_X12_isCell Q) := by
  exact zs_zret C hq dX12_isSlice_26
def xX12_isSlice_25 (s_X12_isCell : zq_Sp) (Q : zq_Q) (ls : zq_L) (st : List Value) (h : zq_H) : Prop := (zi_push (.int 0) ((xX12_isSlice_26 s_X12_isCell Q))) ls st h
theorem kX12_isSlice_25 {X : zq_X} {d : Nat} (C : zq_C X cX12_isSlice 3 RX12 d) {d_X12_isCell : Nat} {s_X12_isCell : zq_Sp} (h_X12_isCell : zq_M yX12_isCell cX12_isCell 2 (some .boolean) 1 d_X12_isCell s_X12_isCell) (g_X12_isCell : d_X12_isCell + 1 ≤ d) {Q : zq_Q} (hq : zq_R X (some .boolean) 1 Q) : zq_ok X 3 25 (xX12_isSlice_25 s_X12_isCell Q) := by
  refine zs_iconst C dX12_isSlice_25 (by decide) ?_
  exact kX12_isSlice_26 C h_X12_isCell g_X12_isCell hq
def xX12_isSlice_21 (s_X12_isCell : zq_Sp) (Q : zq_Q) (ls : zq_L) (st : List Value) (h : zq_H) : Prop := (zi_push (.int 1) ((xX12_isSlice_26 s_X12_isCell Q))) ls st h
theorem kX12_isSlice_21 {X : zq_X} {d : Nat} (C : zq_C X cX12_isSlice 3 RX12 d) {d_X12_isCell : Nat} {s_X12_isCell : zq_Sp} (h_X12_isCell : zq_M yX12_isCell cX12_isCell 2 (some .boolean) 1 d_X12_isCell s_X12_isCell) (g_X12_isCell : d_X12_isCell + 1 ≤ d) {Q : zq_Q} (hq : zq_R X (some .boolean) 1 Q) : zq_ok X 3 21 (xX12_isSlice_21 s_X12_isCell Q) := by
  refine zs_iconst C dX12_isSlice_21 (by decide) ?_
  exact zs_goto C dX12_isSlice_22 (by decide) (kX12_isSlice_26 C h_X12_isCell g_X12_isCell hq)
def xX12_isSlice_16 (s_X12_isCell : zq_Sp) (Q : zq_Q) (ls : zq_L) (st : List Value) (h : zq_H) : Prop := (zi_iload 1 (zi_iload 2 (zi_if2 (fun x y => y < x) (xX12_isSlice_25 s_X12_isCell Q) (xX12_isSlice_21 s_X12_isCell Q)))) ls st h
theorem kX12_isSlice_16 {X : zq_X} {d : Nat} (C : zq_C X cX12_isSlice 3 RX12 d) {d_X12_isCell : Nat} {s_X12_isCell : zq_Sp} (h_X12_isCell : zq_M yX12_isCell cX12_isCell 2 (some .boolean) 1 d_X12_isCell s_X12_isCell) (g_X12_isCell : d_X12_isCell + 1 ≤ d) {Q : zq_Q} (hq : zq_R X (some .boolean) 1 Q) : zq_ok X 3 16 (xX12_isSlice_16 s_X12_isCell Q) := by
  refine zs_iload_n C dX12_isSlice_16 rfl ?_
  refine zs_iload_n C dX12_isSlice_17 rfl ?_
  exact zs_icmp_gt C dX12_isSlice_18 (by decide) (kX12_isSlice_25 C h_X12_isCell g_X12_isCell hq) (kX12_isSlice_21 C h_X12_isCell g_X12_isCell hq)
def xX12_isSlice_8 (s_X12_isCell : zq_Sp) (Q : zq_Q) (ls : zq_L) (st : List Value) (h : zq_H) : Prop := (zi_aload 0 (zi_iload 2 (zi_callV 1 56 s_X12_isCell (zi_if1 (fun x => x = 0) (xX12_isSlice_25 s_X12_isCell Q) (xX12_isSlice_16 s_X12_isCell Q))))) ls st h
theorem kX12_isSlice_8 {X : zq_X} {d : Nat} (C : zq_C X cX12_isSlice 3 RX12 d) {d_X12_isCell : Nat} {s_X12_isCell : zq_Sp} (h_X12_isCell : zq_M yX12_isCell cX12_isCell 2 (some .boolean) 1 d_X12_isCell s_X12_isCell) (g_X12_isCell : d_X12_isCell + 1 ≤ d) {Q : zq_Q} (hq : zq_R X (some .boolean) 1 Q) : zq_ok X 3 8 (xX12_isSlice_8 s_X12_isCell Q) := by
  refine zs_aload_n C dX12_isSlice_8 rfl ?_
  refine zs_iload_n C dX12_isSlice_9 rfl ?_
  refine zs_callV C h_X12_isCell g_X12_isCell zy_X12_isCell zp_56 (show vwCl[12]? = some (RX12, TX12, 67) from rfl) zw_1453 zw_1455 zs9_X12_isCell dX12_isSlice_10 ?_
  exact zs_if_eq C dX12_isSlice_13 (by decide) (kX12_isSlice_25 C h_X12_isCell g_X12_isCell hq) (kX12_isSlice_16 C h_X12_isCell g_X12_isCell hq)
def xX12_isSlice_0 (s_X12_isCell : zq_Sp) (Q : zq_Q) (ls : zq_L) (st : List Value) (h : zq_H) : Prop := (zi_aload 0 (zi_iload 1 (zi_callV 1 56 s_X12_isCell (zi_if1 (fun x => x = 0) (xX12_isSlice_25 s_X12_isCell Q) (xX12_isSlice_8 s_X12_isCell Q))))) ls st h
theorem kX12_isSlice_0 {X : zq_X} {d : Nat} (C : zq_C X cX12_isSlice 3 RX12 d) {d_X12_isCell : Nat} {s_X12_isCell : zq_Sp} (h_X12_isCell : zq_M yX12_isCell cX12_isCell 2 (some .boolean) 1 d_X12_isCell s_X12_isCell) (g_X12_isCell : d_X12_isCell + 1 ≤ d) {Q : zq_Q} (hq : zq_R X (some .boolean) 1 Q) : zq_ok X 3 0 (xX12_isSlice_0 s_X12_isCell Q) := by
  refine zs_aload_n C dX12_isSlice_0 rfl ?_
  refine zs_iload_n C dX12_isSlice_1 rfl ?_
  refine zs_callV C h_X12_isCell g_X12_isCell zy_X12_isCell zp_56 (show vwCl[12]? = some (RX12, TX12, 67) from rfl) zw_1453 zw_1455 zs9_X12_isCell dX12_isSlice_2 ?_
  exact zs_if_eq C dX12_isSlice_5 (by decide) (kX12_isSlice_25 C h_X12_isCell g_X12_isCell hq) (kX12_isSlice_8 C h_X12_isCell g_X12_isCell hq)
theorem mX12_isSlice {d : Nat} {spec : zq_Sp} {d_X12_isCell : Nat} {s_X12_isCell : zq_Sp} (h_X12_isCell : zq_M yX12_isCell cX12_isCell 2 (some .boolean) 1 d_X12_isCell s_X12_isCell) (g_X12_isCell : d_X12_isCell + 1 ≤ d) (v : ∀ args h Q, spec args h Q → (zq_a args).length ≤ 3 ∧ xX12_isSlice_0 s_X12_isCell Q (zq_l0 3 args) [] h) : zq_M yX12_isSlice cX12_isSlice 3 (some .boolean) 1 d spec := by
  refine zq_met (by decide +kernel) (by decide) (fun X Q args h C hq hs => ⟨(v args h Q hs).1, _, ?_, (v args h Q hs).2⟩)
  exact kX12_isSlice_0 C h_X12_isCell g_X12_isCell hq
/-! ToOneCrumbModel.sign(I)I -/
theorem dX12_sign_0 : decode cX12_sign 0 = .ok (.aload_n 0, 1) := by decide +kernel
theorem dX12_sign_1 : decode cX12_sign 1 = .ok (.iconst 0, 1) := by decide +kernel
theorem dX12_sign_2 : decode cX12_sign 2 = .ok (.putfield 147, 3) := by decide +kernel
theorem dX12_sign_5 : decode cX12_sign 5 = .ok (.aload_n 0, 1) := by decide +kernel
theorem dX12_sign_6 : decode cX12_sign 6 = .ok (.getfield 172, 3) := by decide +kernel
theorem dX12_sign_9 : decode cX12_sign 9 = .ok (.bipush 76, 2) := by decide +kernel
theorem dX12_sign_11 : decode cX12_sign 11 = .ok (.if_icmp .le 5, 3) := by decide +kernel
theorem dX12_sign_14 : decode cX12_sign 14 = .ok (.iconst (-1), 1) := by decide +kernel
theorem dX12_sign_15 : decode cX12_sign 15 = .ok (.ireturn, 1) := by decide +kernel
theorem dX12_sign_16 : decode cX12_sign 16 = .ok (.iconst 0, 1) := by decide +kernel
theorem dX12_sign_17 : decode cX12_sign 17 = .ok (.istore_n 2, 1) := by decide +kernel
theorem dX12_sign_18 : decode cX12_sign 18 = .ok (.iload_n 2, 1) := by decide +kernel
theorem dX12_sign_19 : decode cX12_sign 19 = .ok (.iconst 4, 1) := by decide +kernel
theorem dX12_sign_20 : decode cX12_sign 20 = .ok (.if_icmp .ge 33, 3) := by decide +kernel
theorem dX12_sign_23 : decode cX12_sign 23 = .ok (.aload_n 0, 1) := by decide +kernel
theorem dX12_sign_24 : decode cX12_sign 24 = .ok (.getfield 33, 3) := by decide +kernel
theorem dX12_sign_27 : decode cX12_sign 27 = .ok (.aload_n 0, 1) := by decide +kernel
theorem dX12_sign_28 : decode cX12_sign 28 = .ok (.getfield 172, 3) := by decide +kernel
theorem dX12_sign_31 : decode cX12_sign 31 = .ok (.iload_n 2, 1) := by decide +kernel
theorem dX12_sign_32 : decode cX12_sign 32 = .ok (.iadd, 1) := by decide +kernel
theorem dX12_sign_33 : decode cX12_sign 33 = .ok (.iload_n 1, 1) := by decide +kernel
theorem dX12_sign_34 : decode cX12_sign 34 = .ok (.bipush 24, 2) := by decide +kernel
theorem dX12_sign_36 : decode cX12_sign 36 = .ok (.bipush 8, 2) := by decide +kernel
theorem dX12_sign_38 : decode cX12_sign 38 = .ok (.iload_n 2, 1) := by decide +kernel
theorem dX12_sign_39 : decode cX12_sign 39 = .ok (.imul, 1) := by decide +kernel
theorem dX12_sign_40 : decode cX12_sign 40 = .ok (.isub, 1) := by decide +kernel
theorem dX12_sign_41 : decode cX12_sign 41 = .ok (.ishr, 1) := by decide +kernel
theorem dX12_sign_42 : decode cX12_sign 42 = .ok (.sipush 255, 3) := by decide +kernel
theorem dX12_sign_45 : decode cX12_sign 45 = .ok (.iand, 1) := by decide +kernel
theorem dX12_sign_46 : decode cX12_sign 46 = .ok (.iastore, 1) := by decide +kernel
theorem dX12_sign_47 : decode cX12_sign 47 = .ok (.iinc 2 1, 3) := by decide +kernel
theorem dX12_sign_50 : decode cX12_sign 50 = .ok (.goto (-32), 3) := by decide +kernel
theorem dX12_sign_53 : decode cX12_sign 53 = .ok (.aload_n 0, 1) := by decide +kernel
theorem dX12_sign_54 : decode cX12_sign 54 = .ok (.dup, 1) := by decide +kernel
theorem dX12_sign_55 : decode cX12_sign 55 = .ok (.getfield 172, 3) := by decide +kernel
theorem dX12_sign_58 : decode cX12_sign 58 = .ok (.iconst 4, 1) := by decide +kernel
theorem dX12_sign_59 : decode cX12_sign 59 = .ok (.iadd, 1) := by decide +kernel
theorem dX12_sign_60 : decode cX12_sign 60 = .ok (.putfield 172, 3) := by decide +kernel
theorem dX12_sign_63 : decode cX12_sign 63 = .ok (.aload_n 0, 1) := by decide +kernel
theorem dX12_sign_64 : decode cX12_sign 64 = .ok (.getfield 172, 3) := by decide +kernel
theorem dX12_sign_67 : decode cX12_sign 67 = .ok (.ireturn, 1) := by decide +kernel
def xX12_sign_53 (J18 : zq_P) (Q : zq_Q) (ls : zq_L) (st : List Value) (h : zq_H) : Prop := (zi_aload 0 (zi_dup (zi_getI 56 13 (zi_push (.int 4) (zi_i2 (fun x y => x + y) (zi_putI 56 13 (zi_aload 0 (zi_getI 56 13 (zi_iret Q))))))))) ls st h
theorem kX12_sign_53 {X : zq_X} {d : Nat} (C : zq_C X cX12_sign 3 RX12 d) {J18 : zq_P} (j18 : zq_ok X 3 18 J18) {Q : zq_Q} (hq : zq_R X (some .int) 1 Q) : zq_ok X 3 53 (xX12_sign_53 J18 Q) := by
  refine zs_aload_n C dX12_sign_53 rfl ?_
  refine zs_dup C dX12_sign_54 ?_
  refine zs_getI C zp_56 zF12 (j := 13) ⟨by decide, rfl⟩ zw_1109 dX12_sign_55 ?_
  refine zs_iconst C dX12_sign_58 (by decide) ?_
  refine zs_iadd C dX12_sign_59 ?_
  refine zs_putI C zp_56 zF12 (j := 13) ⟨by decide, rfl⟩ ⟨rfl, by decide +kernel⟩ zw_1109 dX12_sign_60 ?_
  refine zs_aload_n C dX12_sign_63 rfl ?_
  refine zs_getI C zp_56 zF12 (j := 13) ⟨by decide, rfl⟩ zw_1109 dX12_sign_64 ?_
  exact zs_iret C hq dX12_sign_67
def xX12_sign_23 (J18 : zq_P) (Q : zq_Q) (ls : zq_L) (st : List Value) (h : zq_H) : Prop := (zi_aload 0 (zi_getR 56 64 (zi_aload 0 (zi_getI 56 13 (zi_iload 2 (zi_i2 (fun x y => x + y) (zi_iload 1 (zi_push (.int 24) (zi_push (.int 8) (zi_iload 2 (zi_i2 (fun x y => x * y) (zi_i2 (fun x y => x - y) (zi_i2 zf_shr (zi_push (.int 255) (zi_i2 (fun x y => x &&& y) (zi_astI 64 80 (zi_iinc 2 1 (J18)))))))))))))))))) ls st h
theorem kX12_sign_23 {X : zq_X} {d : Nat} (C : zq_C X cX12_sign 3 RX12 d) {J18 : zq_P} (j18 : zq_ok X 3 18 J18) {Q : zq_Q} (hq : zq_R X (some .int) 1 Q) : zq_ok X 3 23 (xX12_sign_23 J18 Q) := by
  refine zs_aload_n C dX12_sign_23 rfl ?_
  refine zs_getR C zp_56 zF12 (j := 12) ⟨by decide, rfl⟩ zw_1108 dX12_sign_24 ?_
  refine zs_aload_n C dX12_sign_27 rfl ?_
  refine zs_getI C zp_56 zF12 (j := 13) ⟨by decide, rfl⟩ zw_1109 dX12_sign_28 ?_
  refine zs_iload_n C dX12_sign_31 rfl ?_
  refine zs_iadd C dX12_sign_32 ?_
  refine zs_iload_n C dX12_sign_33 rfl ?_
  refine zs_bipush C dX12_sign_34 (by decide) ?_
  refine zs_bipush C dX12_sign_36 (by decide) ?_
  refine zs_iload_n C dX12_sign_38 rfl ?_
  refine zs_imul C dX12_sign_39 ?_
  refine zs_isub C dX12_sign_40 ?_
  refine zs_ishr C dX12_sign_41 ?_
  refine zs_sipush C dX12_sign_42 (by decide) ?_
  refine zs_iand C dX12_sign_45 ?_
  refine zs_iastore C zp_64 dX12_sign_46 ?_
  refine zs_iinc C dX12_sign_47 (by decide) (by decide) ?_
  exact zs_goto C dX12_sign_50 (by decide) (j18)
def xX12_sign_18 (J18 : zq_P) (Q : zq_Q) (ls : zq_L) (st : List Value) (h : zq_H) : Prop := (zi_iload 2 (zi_push (.int 4) (zi_if2 (fun x y => y ≤ x) (xX12_sign_53 J18 Q) (xX12_sign_23 J18 Q)))) ls st h
theorem kX12_sign_18 {X : zq_X} {d : Nat} (C : zq_C X cX12_sign 3 RX12 d) {J18 : zq_P} (j18 : zq_ok X 3 18 J18) {Q : zq_Q} (hq : zq_R X (some .int) 1 Q) : zq_ok X 3 18 (xX12_sign_18 J18 Q) := by
  refine zs_iload_n C dX12_sign_18 rfl ?_
  refine zs_iconst C dX12_sign_19 (by decide) ?_
  exact zs_icmp_ge C dX12_sign_20 (by decide) (kX12_sign_53 C j18 hq) (kX12_sign_23 C j18 hq)
def xX12_sign_16 (J18 : zq_P) (Q : zq_Q) (ls : zq_L) (st : List Value) (h : zq_H) : Prop := (zi_push (.int 0) (zi_istore 2 (J18))) ls st h
theorem kX12_sign_16 {X : zq_X} {d : Nat} (C : zq_C X cX12_sign 3 RX12 d) {J18 : zq_P} (j18 : zq_ok X 3 18 J18) {Q : zq_Q} (hq : zq_R X (some .int) 1 Q) : zq_ok X 3 16 (xX12_sign_16 J18 Q) := by
  refine zs_iconst C dX12_sign_16 (by decide) ?_
  refine zs_istore_n C dX12_sign_17 rfl (by decide) ?_
  exact j18
def xX12_sign_14 (J18 : zq_P) (Q : zq_Q) (ls : zq_L) (st : List Value) (h : zq_H) : Prop := (zi_push (.int (-1)) (zi_iret Q)) ls st h
theorem kX12_sign_14 {X : zq_X} {d : Nat} (C : zq_C X cX12_sign 3 RX12 d) {J18 : zq_P} (j18 : zq_ok X 3 18 J18) {Q : zq_Q} (hq : zq_R X (some .int) 1 Q) : zq_ok X 3 14 (xX12_sign_14 J18 Q) := by
  refine zs_iconst C dX12_sign_14 (by decide) ?_
  exact zs_iret C hq dX12_sign_15
def xX12_sign_0 (J18 : zq_P) (Q : zq_Q) (ls : zq_L) (st : List Value) (h : zq_H) : Prop := (zi_aload 0 (zi_push (.int 0) (zi_putI 56 0 (zi_aload 0 (zi_getI 56 13 (zi_push (.int 76) (zi_if2 (fun x y => x ≤ y) (xX12_sign_16 J18 Q) (xX12_sign_14 J18 Q)))))))) ls st h
theorem kX12_sign_0 {X : zq_X} {d : Nat} (C : zq_C X cX12_sign 3 RX12 d) {J18 : zq_P} (j18 : zq_ok X 3 18 J18) {Q : zq_Q} (hq : zq_R X (some .int) 1 Q) : zq_ok X 3 0 (xX12_sign_0 J18 Q) := by
  refine zs_aload_n C dX12_sign_0 rfl ?_
  refine zs_iconst C dX12_sign_1 (by decide) ?_
  refine zs_putI C zp_56 zF12 (j := 0) ⟨by decide, rfl⟩ ⟨rfl, by decide +kernel⟩ zw_1096 dX12_sign_2 ?_
  refine zs_aload_n C dX12_sign_5 rfl ?_
  refine zs_getI C zp_56 zF12 (j := 13) ⟨by decide, rfl⟩ zw_1109 dX12_sign_6 ?_
  refine zs_bipush C dX12_sign_9 (by decide) ?_
  exact zs_icmp_le C dX12_sign_11 (by decide) (kX12_sign_16 C j18 hq) (kX12_sign_14 C j18 hq)
theorem mX12_sign {d : Nat} {spec : zq_Sp} {σ18 : Type} (μ18 : σ18 → Nat) (I18 : zq_Q → σ18 → zq_P) (v : ∀ args h Q, spec args h Q → (zq_a args).length ≤ 3 ∧ xX12_sign_0 (fun ls st h => ∃ b, I18 Q b ls st h) Q (zq_l0 3 args) [] h) (v18 : ∀ Q a ls st h, I18 Q a ls st h → xX12_sign_18 (fun ls st h => ∃ b, μ18 b < μ18 a ∧ I18 Q b ls st h) Q ls st h) : zq_M yX12_sign cX12_sign 3 (some .int) 1 d spec := by
  refine zq_met (by decide +kernel) (by decide) (fun X Q args h C hq hs => ⟨(v args h Q hs).1, _, ?_, (v args h Q hs).2⟩)
  have hl := zq_loop1 (X := X) (nL := 3) (pc1 := 18) μ18 (I18 Q) (fun J18 => xX12_sign_18 J18 Q) (fun j18 => kX12_sign_18 C j18 hq) (v18 Q)
  exact kX12_sign_0 C hl hq
/-! ToOneCrumbModel.end(I)Z -/
theorem dX12_end_0 : decode cX12_end 0 = .ok (.aload_n 0, 1) := by decide +kernel
theorem dX12_end_1 : decode cX12_end 1 = .ok (.iconst 0, 1) := by decide +kernel
theorem dX12_end_2 : decode cX12_end 2 = .ok (.putfield 147, 3) := by decide +kernel
theorem dX12_end_5 : decode cX12_end 5 = .ok (.iload_n 1, 1) := by decide +kernel
theorem dX12_end_6 : decode cX12_end 6 = .ok (.i2l, 1) := by decide +kernel
theorem dX12_end_7 : decode cX12_end 7 = .ok (.lconst 0, 1) := by decide +kernel
theorem dX12_end_8 : decode cX12_end 8 = .ok (.aload_n 0, 1) := by decide +kernel
theorem dX12_end_9 : decode cX12_end 9 = .ok (.getfield 172, 3) := by decide +kernel
theorem dX12_end_12 : decode cX12_end 12 = .ok (.i2l, 1) := by decide +kernel
theorem dX12_end_13 : decode cX12_end 13 = .ok (.invokestatic 161, 3) := by decide +kernel
theorem dX12_end_16 : decode cX12_end 16 = .ok (.ifCond .ne 5, 3) := by decide +kernel
theorem dX12_end_19 : decode cX12_end 19 = .ok (.iconst 0, 1) := by decide +kernel
theorem dX12_end_20 : decode cX12_end 20 = .ok (.ireturn, 1) := by decide +kernel
theorem dX12_end_21 : decode cX12_end 21 = .ok (.aload_n 0, 1) := by decide +kernel
theorem dX12_end_22 : decode cX12_end 22 = .ok (.iload_n 1, 1) := by decide +kernel
theorem dX12_end_23 : decode cX12_end 23 = .ok (.putfield 172, 3) := by decide +kernel
theorem dX12_end_26 : decode cX12_end 26 = .ok (.iconst 1, 1) := by decide +kernel
theorem dX12_end_27 : decode cX12_end 27 = .ok (.ireturn, 1) := by decide +kernel
def xX12_end_21 (s_X12_in : zq_Sp) (Q : zq_Q) (ls : zq_L) (st : List Value) (h : zq_H) : Prop := (zi_aload 0 (zi_iload 1 (zi_putI 56 13 (zi_push (.int 1) (zi_zret Q))))) ls st h
theorem kX12_end_21 {X : zq_X} {d : Nat} (C : zq_C X cX12_end 2 RX12 d) {d_X12_in : Nat} {s_X12_in : zq_Sp} (h_X12_in : zq_M yX12_in cX12_in 6 (some .boolean) 1 d_X12_in s_X12_in) (g_X12_in : d_X12_in + 1 ≤ d) {Q : zq_Q} (hq : zq_R X (some .boolean) 1 Q) : zq_ok X 2 21 (xX12_end_21 s_X12_in Q) := by
  refine zs_aload_n C dX12_end_21 rfl ?_
  refine zs_iload_n C dX12_end_22 rfl ?_
  refine zs_putI C zp_56 zF12 (j := 13) ⟨by decide, rfl⟩ ⟨rfl, by decide +kernel⟩ zw_1109 dX12_end_23 ?_
  refine zs_iconst C dX12_end_26 (by decide) ?_
  exact zs_zret C hq dX12_end_27
def xX12_end_19 (s_X12_in : zq_Sp) (Q : zq_Q) (ls : zq_L) (st : List Value) (h : zq_H) : Prop := (zi_push (.int 0) (zi_zret Q)) ls st h
theorem kX12_end_19 {X : zq_X} {d : Nat} (C : zq_C X cX12_end 2 RX12 d) {d_X12_in : Nat} {s_X12_in : zq_Sp} (h_X12_in : zq_M yX12_in cX12_in 6 (some .boolean) 1 d_X12_in s_X12_in) (g_X12_in : d_X12_in + 1 ≤ d) {Q : zq_Q} (hq : zq_R X (some .boolean) 1 Q) : zq_ok X 2 19 (xX12_end_19 s_X12_in Q) := by
  refine zs_iconst C dX12_end_19 (by decide) ?_
  exact zs_zret C hq dX12_end_20
def xX12_end_0 (s_X12_in : zq_Sp) (Q : zq_Q) (ls : zq_L) (st : List Value) (h : zq_H) : Prop := (zi_aload 0 (zi_push (.int 0) (zi_putI 56 0 (zi_iload 1 (zi_i2l (zi_push (.long 0) (zi_aload 0 (zi_getI 56 13 (zi_i2l (zi_callS 3 s_X12_in (zi_if1 (fun x => x = 0) (xX12_end_19 s_X12_in Q) (xX12_end_21 s_X12_in Q)))))))))))) ls st h
theorem kX12_end_0 {X : zq_X} {d : Nat} (C : zq_C X cX12_end 2 RX12 d) {d_X12_in : Nat} {s_X12_in : zq_Sp} (h_X12_in : zq_M yX12_in cX12_in 6 (some .boolean) 1 d_X12_in s_X12_in) (g_X12_in : d_X12_in + 1 ≤ d) {Q : zq_Q} (hq : zq_R X (some .boolean) 1 Q) : zq_ok X 2 0 (xX12_end_0 s_X12_in Q) := by
  refine zs_aload_n C dX12_end_0 rfl ?_
  refine zs_iconst C dX12_end_1 (by decide) ?_
  refine zs_putI C zp_56 zF12 (j := 0) ⟨by decide, rfl⟩ ⟨rfl, by decide +kernel⟩ zw_1096 dX12_end_2 ?_
  refine zs_iload_n C dX12_end_5 rfl ?_
  refine zs_i2l C dX12_end_6 ?_
  refine zs_lconst C dX12_end_7 (by decide) ?_
  refine zs_aload_n C dX12_end_8 rfl ?_
  refine zs_getI C zp_56 zF12 (j := 13) ⟨by decide, rfl⟩ zw_1109 dX12_end_9 ?_
  refine zs_i2l C dX12_end_12 ?_
  refine zs_callS C h_X12_in g_X12_in zy_X12_in zw_1311 zw_1312 dX12_end_13 ?_
  exact zs_if_ne C dX12_end_16 (by decide) (kX12_end_21 C h_X12_in g_X12_in hq) (kX12_end_19 C h_X12_in g_X12_in hq)
theorem mX12_end {d : Nat} {spec : zq_Sp} {d_X12_in : Nat} {s_X12_in : zq_Sp} (h_X12_in : zq_M yX12_in cX12_in 6 (some .boolean) 1 d_X12_in s_X12_in) (g_X12_in : d_X12_in + 1 ≤ d) (v : ∀ args h Q, spec args h Q → (zq_a args).length ≤ 2 ∧ xX12_end_0 s_X12_in Q (zq_l0 2 args) [] h) : zq_M yX12_end cX12_end 2 (some .boolean) 1 d spec := by
  refine zq_met (by decide +kernel) (by decide) (fun X Q args h C hq hs => ⟨(v args h Q hs).1, _, ?_, (v args h Q hs).2⟩)
  exact kX12_end_0 C h_X12_in g_X12_in hq
/-! ToOneCrumbModel.begins(I)I -/
theorem dX12_begins_0 : decode cX12_begins 0 = .ok (.aload_n 0, 1) := by decide +kernel
theorem dX12_begins_1 : decode cX12_begins 1 = .ok (.getfield 172, 3) := by decide +kernel
theorem dX12_begins_4 : decode cX12_begins 4 = .ok (.istore_n 2, 1) := by decide +kernel
theorem dX12_begins_5 : decode cX12_begins 5 = .ok (.aload_n 0, 1) := by decide +kernel
theorem dX12_begins_6 : decode cX12_begins 6 = .ok (.iconst 0, 1) := by decide +kernel
theorem dX12_begins_7 : decode cX12_begins 7 = .ok (.putfield 172, 3) := by decide +kernel
theorem dX12_begins_10 : decode cX12_begins 10 = .ok (.aload_n 0, 1) := by decide +kernel
theorem dX12_begins_11 : decode cX12_begins 11 = .ok (.iconst 0, 1) := by decide +kernel
theorem dX12_begins_12 : decode cX12_begins 12 = .ok (.putfield 175, 3) := by decide +kernel
theorem dX12_begins_15 : decode cX12_begins 15 = .ok (.aload_n 0, 1) := by decide +kernel
theorem dX12_begins_16 : decode cX12_begins 16 = .ok (.iconst 0, 1) := by decide +kernel
theorem dX12_begins_17 : decode cX12_begins 17 = .ok (.putfield 178, 3) := by decide +kernel
theorem dX12_begins_20 : decode cX12_begins 20 = .ok (.aload_n 0, 1) := by decide +kernel
theorem dX12_begins_21 : decode cX12_begins 21 = .ok (.iload_n 2, 1) := by decide +kernel
theorem dX12_begins_22 : decode cX12_begins 22 = .ok (.iload_n 1, 1) := by decide +kernel
theorem dX12_begins_23 : decode cX12_begins 23 = .ok (.invokestatic 181, 3) := by decide +kernel
theorem dX12_begins_26 : decode cX12_begins 26 = .ok (.putfield 187, 3) := by decide +kernel
theorem dX12_begins_29 : decode cX12_begins 29 = .ok (.iload_n 2, 1) := by decide +kernel
theorem dX12_begins_30 : decode cX12_begins 30 = .ok (.ireturn, 1) := by decide +kernel
def xX12_begins_0 (Q : zq_Q) (ls : zq_L) (st : List Value) (h : zq_H) : Prop := (zi_aload 0 (zi_getI 56 13 (zi_istore 2 (zi_aload 0 (zi_push (.int 0) (zi_putI 56 13 (zi_aload 0 (zi_push (.int 0) (zi_putI 56 14 (zi_aload 0 (zi_push (.int 0) (zi_putI 56 16 (zi_aload 0 (zi_iload 2 (zi_iload 1 (zi_m2 zf_min (zi_putI 56 15 (zi_iload 2 (zi_iret Q))))))))))))))))))) ls st h
theorem kX12_begins_0 {X : zq_X} {d : Nat} (C : zq_C X cX12_begins 3 RX12 d) (hd1 : 1 ≤ d) {Q : zq_Q} (hq : zq_R X (some .int) 1 Q) : zq_ok X 3 0 (xX12_begins_0 Q) := by
  refine zs_aload_n C dX12_begins_0 rfl ?_
  refine zs_getI C zp_56 zF12 (j := 13) ⟨by decide, rfl⟩ zw_1109 dX12_begins_1 ?_
  refine zs_istore_n C dX12_begins_4 rfl (by decide) ?_
  refine zs_aload_n C dX12_begins_5 rfl ?_
  refine zs_iconst C dX12_begins_6 (by decide) ?_
  refine zs_putI C zp_56 zF12 (j := 13) ⟨by decide, rfl⟩ ⟨rfl, by decide +kernel⟩ zw_1109 dX12_begins_7 ?_
  refine zs_aload_n C dX12_begins_10 rfl ?_
  refine zs_iconst C dX12_begins_11 (by decide) ?_
  refine zs_putI C zp_56 zF12 (j := 14) ⟨by decide, rfl⟩ ⟨rfl, by decide +kernel⟩ zw_1110 dX12_begins_12 ?_
  refine zs_aload_n C dX12_begins_15 rfl ?_
  refine zs_iconst C dX12_begins_16 (by decide) ?_
  refine zs_putI C zp_56 zF12 (j := 16) ⟨by decide, rfl⟩ ⟨rfl, by decide +kernel⟩ zw_1112 dX12_begins_17 ?_
  refine zs_aload_n C dX12_begins_20 rfl ?_
  refine zs_iload_n C dX12_begins_21 rfl ?_
  refine zs_iload_n C dX12_begins_22 rfl ?_
  refine zs_mmin C hd1 zw_1322 zw_393 zw_14 zw_394 dX12_begins_23 ?_
  refine zs_putI C zp_56 zF12 (j := 15) ⟨by decide, rfl⟩ ⟨rfl, by decide +kernel⟩ zw_1111 dX12_begins_26 ?_
  refine zs_iload_n C dX12_begins_29 rfl ?_
  exact zs_iret C hq dX12_begins_30
theorem mX12_begins {d : Nat} {spec : zq_Sp} (hd1 : 1 ≤ d) (v : ∀ args h Q, spec args h Q → (zq_a args).length ≤ 3 ∧ xX12_begins_0 Q (zq_l0 3 args) [] h) : zq_M yX12_begins cX12_begins 3 (some .int) 1 d spec := by
  refine zq_met (by decide +kernel) (by decide) (fun X Q args h C hq hs => ⟨(v args h Q hs).1, _, ?_, (v args h Q hs).2⟩)
  exact kX12_begins_0 C hd1 hq
/-! ToOneCrumbModel.takes(I)Z -/
theorem dX12_takes_0 : decode cX12_takes 0 = .ok (.aload_n 0, 1) := by decide +kernel
theorem dX12_takes_1 : decode cX12_takes 1 = .ok (.getfield 175, 3) := by decide +kernel
theorem dX12_takes_4 : decode cX12_takes 4 = .ok (.aload_n 0, 1) := by decide +kernel
theorem dX12_takes_5 : decode cX12_takes 5 = .ok (.getfield 187, 3) := by decide +kernel
theorem dX12_takes_8 : decode cX12_takes 8 = .ok (.if_icmp .ge 20, 3) := by decide +kernel
theorem dX12_takes_11 : decode cX12_takes 11 = .ok (.aload_n 0, 1) := by decide +kernel
theorem dX12_takes_12 : decode cX12_takes 12 = .ok (.getfield 33, 3) := by decide +kernel
theorem dX12_takes_15 : decode cX12_takes 15 = .ok (.aload_n 0, 1) := by decide +kernel
theorem dX12_takes_16 : decode cX12_takes 16 = .ok (.getfield 175, 3) := by decide +kernel
theorem dX12_takes_19 : decode cX12_takes 19 = .ok (.iaload, 1) := by decide +kernel
theorem dX12_takes_20 : decode cX12_takes 20 = .ok (.iload_n 1, 1) := by decide +kernel
theorem dX12_takes_21 : decode cX12_takes 21 = .ok (.if_icmp .ne 7, 3) := by decide +kernel
theorem dX12_takes_24 : decode cX12_takes 24 = .ok (.iconst 1, 1) := by decide +kernel
theorem dX12_takes_25 : decode cX12_takes 25 = .ok (.goto 4, 3) := by decide +kernel
theorem dX12_takes_28 : decode cX12_takes 28 = .ok (.iconst 0, 1) := by decide +kernel
theorem dX12_takes_29 : decode cX12_takes 29 = .ok (.istore_n 2, 1) := by decide +kernel
theorem dX12_takes_30 : decode cX12_takes 30 = .ok (.aload_n 0, 1) := by decide +kernel
theorem dX12_takes_31 : decode cX12_takes 31 = .ok (.dup, 1) := by decide +kernel
theorem dX12_takes_32 : decode cX12_takes 32 = .ok (.getfield 175, 3) := by decide +kernel
theorem dX12_takes_35 : decode cX12_takes 35 = .ok (.iload_n 2, 1) := by decide +kernel
theorem dX12_takes_36 : decode cX12_takes 36 = .ok (.invokestatic 190, 3) := by decide +kernel
theorem dX12_takes_39 : decode cX12_takes 39 = .ok (.iadd, 1) := by decide +kernel
theorem dX12_takes_40 : decode cX12_takes 40 = .ok (.putfield 175, 3) := by decide +kernel
theorem dX12_takes_43 : decode cX12_takes 43 = .ok (.iload_n 2, 1) := by decide +kernel
theorem dX12_takes_44 : decode cX12_takes 44 = .ok (.ireturn, 1) := by decide +kernel
def xX12_takes_29 (s_X12_flag : zq_Sp) (Q : zq_Q) (ls : zq_L) (st : List Value) (h : zq_H) : Prop := (zi_istore 2 (zi_aload 0 (zi_dup (zi_getI 56 14 (zi_iload 2 (zi_callS 1 s_X12_flag (zi_i2 (fun x y => x + y) (zi_putI 56 14 (zi_iload 2 (zi_zret Q)))))))))) ls st h
theorem kX12_takes_29 {X : zq_X} {d : Nat} (C : zq_C X cX12_takes 3 RX12 d) {d_X12_flag : Nat} {s_X12_flag : zq_Sp} (h_X12_flag : zq_M yX12_flag cX12_flag 1 (some .int) 1 d_X12_flag s_X12_flag) (g_X12_flag : d_X12_flag + 1 ≤ d) {Q : zq_Q} (hq : zq_R X (some .boolean) 1 Q) : zq_ok X 3 29 (xX12_takes_29 s_X12_flag Q) := by
  refine zs_istore_n C dX12_takes_29 rfl (by decide) ?_
  refine zs_aload_n C dX12_takes_30 rfl ?_
  refine zs_dup C dX12_takes_31 ?_
  refine zs_getI C zp_56 zF12 (j := 14) ⟨by decide, rfl⟩ zw_1110 dX12_takes_32 ?_
  refine zs_iload_n C dX12_takes_35 rfl ?_
  refine zs_callS C h_X12_flag g_X12_flag zy_X12_flag zw_1380 zw_1381 dX12_takes_36 ?_
  refine zs_iadd C dX12_takes_39 ?_
  refine zs_putI C zp_56 zF12 (j := 14) ⟨by decide, rfl⟩ ⟨rfl, by decide +kernel⟩ zw_1110 dX12_takes_40 ?_
  refine zs_iload_n C dX12_takes_43 rfl ?_
  exact zs_zret C hq dX12_takes_44
def xX12_takes_28 (s_X12_flag : zq_Sp) (Q : zq_Q) (ls : zq_L) (st : List Value) (h : zq_H) : Prop := (zi_push (.int 0) ((xX12_takes_29 s_X12_flag Q))) ls st h
theorem kX12_takes_28 {X : zq_X} {d : Nat} (C : zq_C X cX12_takes 3 RX12 d) {d_X12_flag : Nat} {s_X12_flag : zq_Sp} (h_X12_flag : zq_M yX12_flag cX12_flag 1 (some .int) 1 d_X12_flag s_X12_flag) (g_X12_flag : d_X12_flag + 1 ≤ d) {Q : zq_Q} (hq : zq_R X (some .boolean) 1 Q) : zq_ok X 3 28 (xX12_takes_28 s_X12_flag Q) := by
  refine zs_iconst C dX12_takes_28 (by decide) ?_
  exact kX12_takes_29 C h_X12_flag g_X12_flag hq
def xX12_takes_24 (s_X12_flag : zq_Sp) (Q : zq_Q) (ls : zq_L) (st : List Value) (h : zq_H) : Prop := (zi_push (.int 1) ((xX12_takes_29 s_X12_flag Q))) ls st h
theorem kX12_takes_24 {X : zq_X} {d : Nat} (C : zq_C X cX12_takes 3 RX12 d) {d_X12_flag : Nat} {s_X12_flag : zq_Sp} (h_X12_flag : zq_M yX12_flag cX12_flag 1 (some .int) 1 d_X12_flag s_X12_flag) (g_X12_flag : d_X12_flag + 1 ≤ d) {Q : zq_Q} (hq : zq_R X (some .boolean) 1 Q) : zq_ok X 3 24 (xX12_takes_24 s_X12_flag Q) := by
  refine zs_iconst C dX12_takes_24 (by decide) ?_
  exact zs_goto C dX12_takes_25 (by decide) (kX12_takes_29 C h_X12_flag g_X12_flag hq)
def xX12_takes_11 (s_X12_flag : zq_Sp) (Q : zq_Q) (ls : zq_L) (st : List Value) (h : zq_H) : Prop := (zi_aload 0 (zi_getR 56 64 (zi_aload 0 (zi_getI 56 14 (zi_aldI 64 80 (zi_iload 1 (zi_if2 (fun x y => x = y) (xX12_takes_24 s_X12_flag Q) (xX12_takes_28 s_X12_flag Q)))))))) ls st h
theorem kX12_takes_11 {X : zq_X} {d : Nat} (C : zq_C X cX12_takes 3 RX12 d) {d_X12_flag : Nat} {s_X12_flag : zq_Sp} (h_X12_flag : zq_M yX12_flag cX12_flag 1 (some .int) 1 d_X12_flag s_X12_flag) (g_X12_flag : d_X12_flag + 1 ≤ d) {Q : zq_Q} (hq : zq_R X (some .boolean) 1 Q) : zq_ok X 3 11 (xX12_takes_11 s_X12_flag Q) := by
  refine zs_aload_n C dX12_takes_11 rfl ?_
  refine zs_getR C zp_56 zF12 (j := 12) ⟨by decide, rfl⟩ zw_1108 dX12_takes_12 ?_
  refine zs_aload_n C dX12_takes_15 rfl ?_
  refine zs_getI C zp_56 zF12 (j := 14) ⟨by decide, rfl⟩ zw_1110 dX12_takes_16 ?_
  refine zs_iaload C zp_64 dX12_takes_19 ?_
  refine zs_iload_n C dX12_takes_20 rfl ?_
  exact zs_icmp_ne C dX12_takes_21 (by decide) (kX12_takes_28 C h_X12_flag g_X12_flag hq) (kX12_takes_24 C h_X12_flag g_X12_flag hq)
def xX12_takes_0 (s_X12_flag : zq_Sp) (Q : zq_Q) (ls : zq_L) (st : List Value) (h : zq_H) : Prop := (zi_aload 0 (zi_getI 56 14 (zi_aload 0 (zi_getI 56 15 (zi_if2 (fun x y => y ≤ x) (xX12_takes_28 s_X12_flag Q) (xX12_takes_11 s_X12_flag Q)))))) ls st h
theorem kX12_takes_0 {X : zq_X} {d : Nat} (C : zq_C X cX12_takes 3 RX12 d) {d_X12_flag : Nat} {s_X12_flag : zq_Sp} (h_X12_flag : zq_M yX12_flag cX12_flag 1 (some .int) 1 d_X12_flag s_X12_flag) (g_X12_flag : d_X12_flag + 1 ≤ d) {Q : zq_Q} (hq : zq_R X (some .boolean) 1 Q) : zq_ok X 3 0 (xX12_takes_0 s_X12_flag Q) := by
  refine zs_aload_n C dX12_takes_0 rfl ?_
  refine zs_getI C zp_56 zF12 (j := 14) ⟨by decide, rfl⟩ zw_1110 dX12_takes_1 ?_
  refine zs_aload_n C dX12_takes_4 rfl ?_
  refine zs_getI C zp_56 zF12 (j := 15) ⟨by decide, rfl⟩ zw_1111 dX12_takes_5 ?_
  exact zs_icmp_ge C dX12_takes_8 (by decide) (kX12_takes_28 C h_X12_flag g_X12_flag hq) (kX12_takes_11 C h_X12_flag g_X12_flag hq)
theorem mX12_takes {d : Nat} {spec : zq_Sp} {d_X12_flag : Nat} {s_X12_flag : zq_Sp} (h_X12_flag : zq_M yX12_flag cX12_flag 1 (some .int) 1 d_X12_flag s_X12_flag) (g_X12_flag : d_X12_flag + 1 ≤ d) (v : ∀ args h Q, spec args h Q → (zq_a args).length ≤ 3 ∧ xX12_takes_0 s_X12_flag Q (zq_l0 3 args) [] h) : zq_M yX12_takes cX12_takes 3 (some .boolean) 1 d spec := by
  refine zq_met (by decide +kernel) (by decide) (fun X Q args h C hq hs => ⟨(v args h Q hs).1, _, ?_, (v args h Q hs).2⟩)
  exact kX12_takes_0 C h_X12_flag g_X12_flag hq
/-! ToOneCrumbModel.isDigit()Z -/
theorem dX12_isDigit_0 : decode cX12_isDigit 0 = .ok (.aload_n 0, 1) := by decide +kernel
theorem dX12_isDigit_1 : decode cX12_isDigit 1 = .ok (.getfield 175, 3) := by decide +kernel
theorem dX12_isDigit_4 : decode cX12_isDigit 4 = .ok (.aload_n 0, 1) := by decide +kernel
theorem dX12_isDigit_5 : decode cX12_isDigit 5 = .ok (.getfield 187, 3) := by decide +kernel
theorem dX12_isDigit_8 : decode cX12_isDigit 8 = .ok (.if_icmp .ge 29, 3) := by decide +kernel
theorem dX12_isDigit_11 : decode cX12_isDigit 11 = .ok (.aload_n 0, 1) := by decide +kernel
theorem dX12_isDigit_12 : decode cX12_isDigit 12 = .ok (.getfield 33, 3) := by decide +kernel
theorem dX12_isDigit_15 : decode cX12_isDigit 15 = .ok (.aload_n 0, 1) := by decide +kernel
theorem dX12_isDigit_16 : decode cX12_isDigit 16 = .ok (.getfield 175, 3) := by decide +kernel
theorem dX12_isDigit_19 : decode cX12_isDigit 19 = .ok (.iaload, 1) := by decide +kernel
theorem dX12_isDigit_20 : decode cX12_isDigit 20 = .ok (.i2l, 1) := by decide +kernel
theorem dX12_isDigit_21 : decode cX12_isDigit 21 = .ok (.ldc2_w 194, 3) := by decide +kernel
theorem dX12_isDigit_24 : decode cX12_isDigit 24 = .ok (.ldc2_w 196, 3) := by decide +kernel
theorem dX12_isDigit_27 : decode cX12_isDigit 27 = .ok (.invokestatic 161, 3) := by decide +kernel
theorem dX12_isDigit_30 : decode cX12_isDigit 30 = .ok (.ifCond .eq 7, 3) := by decide +kernel
theorem dX12_isDigit_33 : decode cX12_isDigit 33 = .ok (.iconst 1, 1) := by decide +kernel
theorem dX12_isDigit_34 : decode cX12_isDigit 34 = .ok (.goto 4, 3) := by decide +kernel
theorem dX12_isDigit_37 : decode cX12_isDigit 37 = .ok (.iconst 0, 1) := by decide +kernel
theorem dX12_isDigit_38 : decode cX12_isDigit 38 = .ok (.ireturn, 1) := by decide +kernel
def xX12_isDigit_38 (s_X12_in : zq_Sp) (Q : zq_Q) (ls : zq_L) (st : List Value) (h : zq_H) : Prop := (zi_zret Q) ls st h
theorem kX12_isDigit_38 {X : zq_X} {d : Nat} (C : zq_C X cX12_isDigit 1 RX12 d) {d_X12_in : Nat} {s_X12_in : zq_Sp} (h_X12_in : zq_M yX12_in cX12_in 6 (some .boolean) 1 d_X12_in s_X12_in) (g_X12_in : d_X12_in + 1 ≤ d) {Q : zq_Q} (hq : zq_R X (some .boolean) 1 Q) : zq_ok X 1 38 (xX12_isDigit_38 s_X12_in Q) := by
  exact zs_zret C hq dX12_isDigit_38
def xX12_isDigit_37 (s_X12_in : zq_Sp) (Q : zq_Q) (ls : zq_L) (st : List Value) (h : zq_H) : Prop := (zi_push (.int 0) ((xX12_isDigit_38 s_X12_in Q))) ls st h
theorem kX12_isDigit_37 {X : zq_X} {d : Nat} (C : zq_C X cX12_isDigit 1 RX12 d) {d_X12_in : Nat} {s_X12_in : zq_Sp} (h_X12_in : zq_M yX12_in cX12_in 6 (some .boolean) 1 d_X12_in s_X12_in) (g_X12_in : d_X12_in + 1 ≤ d) {Q : zq_Q} (hq : zq_R X (some .boolean) 1 Q) : zq_ok X 1 37 (xX12_isDigit_37 s_X12_in Q) := by
  refine zs_iconst C dX12_isDigit_37 (by decide) ?_
  exact kX12_isDigit_38 C h_X12_in g_X12_in hq
def xX12_isDigit_33 (s_X12_in : zq_Sp) (Q : zq_Q) (ls : zq_L) (st : List Value) (h : zq_H) : Prop := (zi_push (.int 1) ((xX12_isDigit_38 s_X12_in Q))) ls st h
theorem kX12_isDigit_33 {X : zq_X} {d : Nat} (C : zq_C X cX12_isDigit 1 RX12 d) {d_X12_in : Nat} {s_X12_in : zq_Sp} (h_X12_in : zq_M yX12_in cX12_in 6 (some .boolean) 1 d_X12_in s_X12_in) (g_X12_in : d_X12_in + 1 ≤ d) {Q : zq_Q} (hq : zq_R X (some .boolean) 1 Q) : zq_ok X 1 33 (xX12_isDigit_33 s_X12_in Q) := by
  refine zs_iconst C dX12_isDigit_33 (by decide) ?_
  exact zs_goto C dX12_isDigit_34 (by decide) (kX12_isDigit_38 C h_X12_in g_X12_in hq)
def xX12_isDigit_11 (s_X12_in : zq_Sp) (Q : zq_Q) (ls : zq_L) (st : List Value) (h : zq_H) : Prop := (zi_aload 0 (zi_getR 56 64 (zi_aload 0 (zi_getI 56 14 (zi_aldI 64 80 (zi_i2l (zi_push (.long 48) (zi_push (.long 57) (zi_callS 3 s_X12_in (zi_if1 (fun x => x = 0) (xX12_isDigit_37 s_X12_in Q) (xX12_isDigit_33 s_X12_in Q))))))))))) ls st h
theorem kX12_isDigit_11 {X : zq_X} {d : Nat} (C : zq_C X cX12_isDigit 1 RX12 d) {d_X12_in : Nat} {s_X12_in : zq_Sp} (h_X12_in : zq_M yX12_in cX12_in 6 (some .boolean) 1 d_X12_in s_X12_in) (g_X12_in : d_X12_in + 1 ≤ d) {Q : zq_Q} (hq : zq_R X (some .boolean) 1 Q) : zq_ok X 1 11 (xX12_isDigit_11 s_X12_in Q) := by
  refine zs_aload_n C dX12_isDigit_11 rfl ?_
  refine zs_getR C zp_56 zF12 (j := 12) ⟨by decide, rfl⟩ zw_1108 dX12_isDigit_12 ?_
  refine zs_aload_n C dX12_isDigit_15 rfl ?_
  refine zs_getI C zp_56 zF12 (j := 14) ⟨by decide, rfl⟩ zw_1110 dX12_isDigit_16 ?_
  refine zs_iaload C zp_64 dX12_isDigit_19 ?_
  refine zs_i2l C dX12_isDigit_20 ?_
  refine zs_ldc2 C dX12_isDigit_21 zw_1408 ?_
  refine zs_ldc2 C dX12_isDigit_24 zw_1409 ?_
  refine zs_callS C h_X12_in g_X12_in zy_X12_in zw_1311 zw_1312 dX12_isDigit_27 ?_
  exact zs_if_eq C dX12_isDigit_30 (by decide) (kX12_isDigit_37 C h_X12_in g_X12_in hq) (kX12_isDigit_33 C h_X12_in g_X12_in hq)
def xX12_isDigit_0 (s_X12_in : zq_Sp) (Q : zq_Q) (ls : zq_L) (st : List Value) (h : zq_H) : Prop := (zi_aload 0 (zi_getI 56 14 (zi_aload 0 (zi_getI 56 15 (zi_if2 (fun x y => y ≤ x) (xX12_isDigit_37 s_X12_in Q) (xX12_isDigit_11 s_X12_in Q)))))) ls st h
theorem kX12_isDigit_0 {X : zq_X} {d : Nat} (C : zq_C X cX12_isDigit 1 RX12 d) {d_X12_in : Nat} {s_X12_in : zq_Sp} (h_X12_in : zq_M yX12_in cX12_in 6 (some .boolean) 1 d_X12_in s_X12_in) (g_X12_in : d_X12_in + 1 ≤ d) {Q : zq_Q} (hq : zq_R X (some .boolean) 1 Q) : zq_ok X 1 0 (xX12_isDigit_0 s_X12_in Q) := by
  refine zs_aload_n C dX12_isDigit_0 rfl ?_
  refine zs_getI C zp_56 zF12 (j := 14) ⟨by decide, rfl⟩ zw_1110 dX12_isDigit_1 ?_
  refine zs_aload_n C dX12_isDigit_4 rfl ?_
  refine zs_getI C zp_56 zF12 (j := 15) ⟨by decide, rfl⟩ zw_1111 dX12_isDigit_5 ?_
  exact zs_icmp_ge C dX12_isDigit_8 (by decide) (kX12_isDigit_37 C h_X12_in g_X12_in hq) (kX12_isDigit_11 C h_X12_in g_X12_in hq)
theorem mX12_isDigit {d : Nat} {spec : zq_Sp} {d_X12_in : Nat} {s_X12_in : zq_Sp} (h_X12_in : zq_M yX12_in cX12_in 6 (some .boolean) 1 d_X12_in s_X12_in) (g_X12_in : d_X12_in + 1 ≤ d) (v : ∀ args h Q, spec args h Q → (zq_a args).length ≤ 1 ∧ xX12_isDigit_0 s_X12_in Q (zq_l0 1 args) [] h) : zq_M yX12_isDigit cX12_isDigit 1 (some .boolean) 1 d spec := by
  refine zq_met (by decide +kernel) (by decide) (fun X Q args h C hq hs => ⟨(v args h Q hs).1, _, ?_, (v args h Q hs).2⟩)
  exact kX12_isDigit_0 C h_X12_in g_X12_in hq
/-! ToOneCrumbModel.among(Ljava/lang/String;)I -/
theorem dX12_among_0 : decode cX12_among 0 = .ok (.iconst 0, 1) := by decide +kernel
theorem dX12_among_1 : decode cX12_among 1 = .ok (.istore_n 2, 1) := by decide +kernel
theorem dX12_among_2 : decode cX12_among 2 = .ok (.iload_n 2, 1) := by decide +kernel
theorem dX12_among_3 : decode cX12_among 3 = .ok (.aload_n 1, 1) := by decide +kernel
theorem dX12_among_4 : decode cX12_among 4 = .ok (.invokevirtual 198, 3) := by decide +kernel
theorem dX12_among_7 : decode cX12_among 7 = .ok (.if_icmp .ge 39, 3) := by decide +kernel
theorem dX12_among_10 : decode cX12_among 10 = .ok (.aload_n 0, 1) := by decide +kernel
theorem dX12_among_11 : decode cX12_among 11 = .ok (.getfield 175, 3) := by decide +kernel
theorem dX12_among_14 : decode cX12_among 14 = .ok (.aload_n 0, 1) := by decide +kernel
theorem dX12_among_15 : decode cX12_among 15 = .ok (.getfield 187, 3) := by decide +kernel
theorem dX12_among_18 : decode cX12_among 18 = .ok (.if_icmp .ge 28, 3) := by decide +kernel
theorem dX12_among_21 : decode cX12_among 21 = .ok (.aload_n 1, 1) := by decide +kernel
theorem dX12_among_22 : decode cX12_among 22 = .ok (.iload_n 2, 1) := by decide +kernel
theorem dX12_among_23 : decode cX12_among 23 = .ok (.invokevirtual 204, 3) := by decide +kernel
theorem dX12_among_26 : decode cX12_among 26 = .ok (.aload_n 0, 1) := by decide +kernel
theorem dX12_among_27 : decode cX12_among 27 = .ok (.getfield 33, 3) := by decide +kernel
theorem dX12_among_30 : decode cX12_among 30 = .ok (.aload_n 0, 1) := by decide +kernel
theorem dX12_among_31 : decode cX12_among 31 = .ok (.getfield 175, 3) := by decide +kernel
theorem dX12_among_34 : decode cX12_among 34 = .ok (.iaload, 1) := by decide +kernel
theorem dX12_among_35 : decode cX12_among 35 = .ok (.if_icmp .ne 5, 3) := by decide +kernel
theorem dX12_among_38 : decode cX12_among 38 = .ok (.iload_n 2, 1) := by decide +kernel
theorem dX12_among_39 : decode cX12_among 39 = .ok (.ireturn, 1) := by decide +kernel
theorem dX12_among_40 : decode cX12_among 40 = .ok (.iinc 2 1, 3) := by decide +kernel
theorem dX12_among_43 : decode cX12_among 43 = .ok (.goto (-41), 3) := by decide +kernel
theorem dX12_among_46 : decode cX12_among 46 = .ok (.iconst (-1), 1) := by decide +kernel
theorem dX12_among_47 : decode cX12_among 47 = .ok (.ireturn, 1) := by decide +kernel
def xX12_among_46 (s_J0_length_8abf5 : zq_Sp) (s_J0_charAt_5068e : zq_Sp) (J2 : zq_P) (Q : zq_Q) (ls : zq_L) (st : List Value) (h : zq_H) : Prop := (zi_push (.int (-1)) (zi_iret Q)) ls st h
theorem kX12_among_46 {X : zq_X} {d : Nat} (C : zq_C X cX12_among 3 RX12 d) {d_J0_length_8abf5 : Nat} {s_J0_length_8abf5 : zq_Sp} (h_J0_length_8abf5 : zq_M yJ0_length_8abf5 cJ0_length_8abf5 1 (some .int) 1 d_J0_length_8abf5 s_J0_length_8abf5) (g_J0_length_8abf5 : d_J0_length_8abf5 + 1 ≤ d) {d_J0_charAt_5068e : Nat} {s_J0_charAt_5068e : zq_Sp} (h_J0_charAt_5068e : zq_M yJ0_charAt_5068e cJ0_charAt_5068e 2 (some .char) 1 d_J0_charAt_5068e s_J0_charAt_5068e) (g_J0_charAt_5068e : d_J0_charAt_5068e + 1 ≤ d) {J2 : zq_P} (j2 : zq_ok X 3 2 J2) {Q : zq_Q} (hq : zq_R X (some .int) 1 Q) : zq_ok X 3 46 (xX12_among_46 s_J0_length_8abf5 s_J0_charAt_5068e J2 Q) := by
  refine zs_iconst C dX12_among_46 (by decide) ?_
  exact zs_iret C hq dX12_among_47
def xX12_among_40 (s_J0_length_8abf5 : zq_Sp) (s_J0_charAt_5068e : zq_Sp) (J2 : zq_P) (Q : zq_Q) (ls : zq_L) (st : List Value) (h : zq_H) : Prop := (zi_iinc 2 1 (J2)) ls st h
theorem kX12_among_40 {X : zq_X} {d : Nat} (C : zq_C X cX12_among 3 RX12 d) {d_J0_length_8abf5 : Nat} {s_J0_length_8abf5 : zq_Sp} (h_J0_length_8abf5 : zq_M yJ0_length_8abf5 cJ0_length_8abf5 1 (some .int) 1 d_J0_length_8abf5 s_J0_length_8abf5) (g_J0_length_8abf5 : d_J0_length_8abf5 + 1 ≤ d) {d_J0_charAt_5068e : Nat} {s_J0_charAt_5068e : zq_Sp} (h_J0_charAt_5068e : zq_M yJ0_charAt_5068e cJ0_charAt_5068e 2 (some .char) 1 d_J0_charAt_5068e s_J0_charAt_5068e) (g_J0_charAt_5068e : d_J0_charAt_5068e + 1 ≤ d) {J2 : zq_P} (j2 : zq_ok X 3 2 J2) {Q : zq_Q} (hq : zq_R X (some .int) 1 Q) : zq_ok X 3 40 (xX12_among_40 s_J0_length_8abf5 s_J0_charAt_5068e J2 Q) := by
  refine zs_iinc C dX12_among_40 (by decide) (by decide) ?_
  exact zs_goto C dX12_among_43 (by decide) (j2)
def xX12_among_38 (s_J0_length_8abf5 : zq_Sp) (s_J0_charAt_5068e : zq_Sp) (J2 : zq_P) (Q : zq_Q) (ls : zq_L) (st : List Value) (h : zq_H) : Prop := (zi_iload 2 (zi_iret Q)) ls st h
theorem kX12_among_38 {X : zq_X} {d : Nat} (C : zq_C X cX12_among 3 RX12 d) {d_J0_length_8abf5 : Nat} {s_J0_length_8abf5 : zq_Sp} (h_J0_length_8abf5 : zq_M yJ0_length_8abf5 cJ0_length_8abf5 1 (some .int) 1 d_J0_length_8abf5 s_J0_length_8abf5) (g_J0_length_8abf5 : d_J0_length_8abf5 + 1 ≤ d) {d_J0_charAt_5068e : Nat} {s_J0_charAt_5068e : zq_Sp} (h_J0_charAt_5068e : zq_M yJ0_charAt_5068e cJ0_charAt_5068e 2 (some .char) 1 d_J0_charAt_5068e s_J0_charAt_5068e) (g_J0_charAt_5068e : d_J0_charAt_5068e + 1 ≤ d) {J2 : zq_P} (j2 : zq_ok X 3 2 J2) {Q : zq_Q} (hq : zq_R X (some .int) 1 Q) : zq_ok X 3 38 (xX12_among_38 s_J0_length_8abf5 s_J0_charAt_5068e J2 Q) := by
  refine zs_iload_n C dX12_among_38 rfl ?_
  exact zs_iret C hq dX12_among_39
def xX12_among_21 (s_J0_length_8abf5 : zq_Sp) (s_J0_charAt_5068e : zq_Sp) (J2 : zq_P) (Q : zq_Q) (ls : zq_L) (st : List Value) (h : zq_H) : Prop := (zi_aload 1 (zi_iload 2 (zi_callT 1 s_J0_charAt_5068e (zi_aload 0 (zi_getR 56 64 (zi_aload 0 (zi_getI 56 14 (zi_aldI 64 80 (zi_if2 (fun x y => x = y) (xX12_among_38 s_J0_length_8abf5 s_J0_charAt_5068e J2 Q) (xX12_among_40 s_J0_length_8abf5 s_J0_charAt_5068e J2 Q)))))))))) ls st h
theorem kX12_among_21 {X : zq_X} {d : Nat} (C : zq_C X cX12_among 3 RX12 d) {d_J0_length_8abf5 : Nat} {s_J0_length_8abf5 : zq_Sp} (h_J0_length_8abf5 : zq_M yJ0_length_8abf5 cJ0_length_8abf5 1 (some .int) 1 d_J0_length_8abf5 s_J0_length_8abf5) (g_J0_length_8abf5 : d_J0_length_8abf5 + 1 ≤ d) {d_J0_charAt_5068e : Nat} {s_J0_charAt_5068e : zq_Sp} (h_J0_charAt_5068e : zq_M yJ0_charAt_5068e cJ0_charAt_5068e 2 (some .char) 1 d_J0_charAt_5068e s_J0_charAt_5068e) (g_J0_charAt_5068e : d_J0_charAt_5068e + 1 ≤ d) {J2 : zq_P} (j2 : zq_ok X 3 2 J2) {Q : zq_Q} (hq : zq_R X (some .int) 1 Q) : zq_ok X 3 21 (xX12_among_21 s_J0_length_8abf5 s_J0_charAt_5068e J2 Q) := by
  refine zs_aload_n C dX12_among_21 rfl ?_
  refine zs_iload_n C dX12_among_22 rfl ?_
  refine zs_callT C h_J0_charAt_5068e g_J0_charAt_5068e zy_J0_charAt_5068e rfl zw_1338 zw_1339 zs9_J0_charAt_5068e dX12_among_23 ?_
  refine zs_aload_n C dX12_among_26 rfl ?_
  refine zs_getR C zp_56 zF12 (j := 12) ⟨by decide, rfl⟩ zw_1108 dX12_among_27 ?_
  refine zs_aload_n C dX12_among_30 rfl ?_
  refine zs_getI C zp_56 zF12 (j := 14) ⟨by decide, rfl⟩ zw_1110 dX12_among_31 ?_
  refine zs_iaload C zp_64 dX12_among_34 ?_
  exact zs_icmp_ne C dX12_among_35 (by decide) (kX12_among_40 C h_J0_length_8abf5 g_J0_length_8abf5 h_J0_charAt_5068e g_J0_charAt_5068e j2 hq) (kX12_among_38 C h_J0_length_8abf5 g_J0_length_8abf5 h_J0_charAt_5068e g_J0_charAt_5068e j2 hq)
def xX12_among_10 (s_J0_length_8abf5 : zq_Sp) (s_J0_charAt_5068e : zq_Sp) (J2 : zq_P) (Q : zq_Q) (ls : zq_L) (st : List Value) (h : zq_H) : Prop := (zi_aload 0 (zi_getI 56 14 (zi_aload 0 (zi_getI 56 15 (zi_if2 (fun x y => y ≤ x) (xX12_among_46 s_J0_length_8abf5 s_J0_charAt_5068e J2 Q) (xX12_among_21 s_J0_length_8abf5 s_J0_charAt_5068e J2 Q)))))) ls st h
theorem kX12_among_10 {X : zq_X} {d : Nat} (C : zq_C X cX12_among 3 RX12 d) {d_J0_length_8abf5 : Nat} {s_J0_length_8abf5 : zq_Sp} (h_J0_length_8abf5 : zq_M yJ0_length_8abf5 cJ0_length_8abf5 1 (some .int) 1 d_J0_length_8abf5 s_J0_length_8abf5) (g_J0_length_8abf5 : d_J0_length_8abf5 + 1 ≤ d) {d_J0_charAt_5068e : Nat} {s_J0_charAt_5068e : zq_Sp} (h_J0_charAt_5068e : zq_M yJ0_charAt_5068e cJ0_charAt_5068e 2 (some .char) 1 d_J0_charAt_5068e s_J0_charAt_5068e) (g_J0_charAt_5068e : d_J0_charAt_5068e + 1 ≤ d) {J2 : zq_P} (j2 : zq_ok X 3 2 J2) {Q : zq_Q} (hq : zq_R X (some .int) 1 Q) : zq_ok X 3 10 (xX12_among_10 s_J0_length_8abf5 s_J0_charAt_5068e J2 Q) := by
  refine zs_aload_n C dX12_among_10 rfl ?_
  refine zs_getI C zp_56 zF12 (j := 14) ⟨by decide, rfl⟩ zw_1110 dX12_among_11 ?_
  refine zs_aload_n C dX12_among_14 rfl ?_
  refine zs_getI C zp_56 zF12 (j := 15) ⟨by decide, rfl⟩ zw_1111 dX12_among_15 ?_
  exact zs_icmp_ge C dX12_among_18 (by decide) (kX12_among_46 C h_J0_length_8abf5 g_J0_length_8abf5 h_J0_charAt_5068e g_J0_charAt_5068e j2 hq) (kX12_among_21 C h_J0_length_8abf5 g_J0_length_8abf5 h_J0_charAt_5068e g_J0_charAt_5068e j2 hq)
def xX12_among_2 (s_J0_length_8abf5 : zq_Sp) (s_J0_charAt_5068e : zq_Sp) (J2 : zq_P) (Q : zq_Q) (ls : zq_L) (st : List Value) (h : zq_H) : Prop := (zi_iload 2 (zi_aload 1 (zi_callT 0 s_J0_length_8abf5 (zi_if2 (fun x y => y ≤ x) (xX12_among_46 s_J0_length_8abf5 s_J0_charAt_5068e J2 Q) (xX12_among_10 s_J0_length_8abf5 s_J0_charAt_5068e J2 Q))))) ls st h
theorem kX12_among_2 {X : zq_X} {d : Nat} (C : zq_C X cX12_among 3 RX12 d) {d_J0_length_8abf5 : Nat} {s_J0_length_8abf5 : zq_Sp} (h_J0_length_8abf5 : zq_M yJ0_length_8abf5 cJ0_length_8abf5 1 (some .int) 1 d_J0_length_8abf5 s_J0_length_8abf5) (g_J0_length_8abf5 : d_J0_length_8abf5 + 1 ≤ d) {d_J0_charAt_5068e : Nat} {s_J0_charAt_5068e : zq_Sp} (h_J0_charAt_5068e : zq_M yJ0_charAt_5068e cJ0_charAt_5068e 2 (some .char) 1 d_J0_charAt_5068e s_J0_charAt_5068e) (g_J0_charAt_5068e : d_J0_charAt_5068e + 1 ≤ d) {J2 : zq_P} (j2 : zq_ok X 3 2 J2) {Q : zq_Q} (hq : zq_R X (some .int) 1 Q) : zq_ok X 3 2 (xX12_among_2 s_J0_length_8abf5 s_J0_charAt_5068e J2 Q) := by
  refine zs_iload_n C dX12_among_2 rfl ?_
  refine zs_aload_n C dX12_among_3 rfl ?_
  refine zs_callT C h_J0_length_8abf5 g_J0_length_8abf5 zy_J0_length_8abf5 rfl zw_1328 zw_1329 zs9_J0_length_8abf5 dX12_among_4 ?_
  exact zs_icmp_ge C dX12_among_7 (by decide) (kX12_among_46 C h_J0_length_8abf5 g_J0_length_8abf5 h_J0_charAt_5068e g_J0_charAt_5068e j2 hq) (kX12_among_10 C h_J0_length_8abf5 g_J0_length_8abf5 h_J0_charAt_5068e g_J0_charAt_5068e j2 hq)
def xX12_among_0 (s_J0_length_8abf5 : zq_Sp) (s_J0_charAt_5068e : zq_Sp) (J2 : zq_P) (Q : zq_Q) (ls : zq_L) (st : List Value) (h : zq_H) : Prop := (zi_push (.int 0) (zi_istore 2 (J2))) ls st h
theorem kX12_among_0 {X : zq_X} {d : Nat} (C : zq_C X cX12_among 3 RX12 d) {d_J0_length_8abf5 : Nat} {s_J0_length_8abf5 : zq_Sp} (h_J0_length_8abf5 : zq_M yJ0_length_8abf5 cJ0_length_8abf5 1 (some .int) 1 d_J0_length_8abf5 s_J0_length_8abf5) (g_J0_length_8abf5 : d_J0_length_8abf5 + 1 ≤ d) {d_J0_charAt_5068e : Nat} {s_J0_charAt_5068e : zq_Sp} (h_J0_charAt_5068e : zq_M yJ0_charAt_5068e cJ0_charAt_5068e 2 (some .char) 1 d_J0_charAt_5068e s_J0_charAt_5068e) (g_J0_charAt_5068e : d_J0_charAt_5068e + 1 ≤ d) {J2 : zq_P} (j2 : zq_ok X 3 2 J2) {Q : zq_Q} (hq : zq_R X (some .int) 1 Q) : zq_ok X 3 0 (xX12_among_0 s_J0_length_8abf5 s_J0_charAt_5068e J2 Q) := by
  refine zs_iconst C dX12_among_0 (by decide) ?_
  refine zs_istore_n C dX12_among_1 rfl (by decide) ?_
  exact j2
theorem mX12_among {d : Nat} {spec : zq_Sp} {σ2 : Type} {d_J0_length_8abf5 : Nat} {s_J0_length_8abf5 : zq_Sp} (h_J0_length_8abf5 : zq_M yJ0_length_8abf5 cJ0_length_8abf5 1 (some .int) 1 d_J0_length_8abf5 s_J0_length_8abf5) (g_J0_length_8abf5 : d_J0_length_8abf5 + 1 ≤ d) {d_J0_charAt_5068e : Nat} {s_J0_charAt_5068e : zq_Sp} (h_J0_charAt_5068e : zq_M yJ0_charAt_5068e cJ0_charAt_5068e 2 (some .char) 1 d_J0_charAt_5068e s_J0_charAt_5068e) (g_J0_charAt_5068e : d_J0_charAt_5068e + 1 ≤ d) (μ2 : σ2 → Nat) (I2 : zq_Q → σ2 → zq_P) (v : ∀ args h Q, spec args h Q → (zq_a args).length ≤ 3 ∧ xX12_among_0 s_J0_length_8abf5 s_J0_charAt_5068e (fun ls st h => ∃ b, I2 Q b ls st h) Q (zq_l0 3 args) [] h) (v2 : ∀ Q a ls st h, I2 Q a ls st h → xX12_among_2 s_J0_length_8abf5 s_J0_charAt_5068e (fun ls st h => ∃ b, μ2 b < μ2 a ∧ I2 Q b ls st h) Q ls st h) : zq_M yX12_among cX12_among 3 (some .int) 1 d spec := by
  refine zq_met (by decide +kernel) (by decide) (fun X Q args h C hq hs => ⟨(v args h Q hs).1, _, ?_, (v args h Q hs).2⟩)
  have hl := zq_loop1 (X := X) (nL := 3) (pc1 := 2) μ2 (I2 Q) (fun J2 => xX12_among_2 s_J0_length_8abf5 s_J0_charAt_5068e J2 Q) (fun j2 => kX12_among_2 C h_J0_length_8abf5 g_J0_length_8abf5 h_J0_charAt_5068e g_J0_charAt_5068e j2 hq) (v2 Q)
  exact kX12_among_0 C h_J0_length_8abf5 g_J0_length_8abf5 h_J0_charAt_5068e g_J0_charAt_5068e hl hq
/-! ToOneCrumbModel.takesOf(Ljava/lang/String;)I -/
theorem dX12_takesOf_0 : decode cX12_takesOf 0 = .ok (.aload_n 0, 1) := by decide +kernel
theorem dX12_takesOf_1 : decode cX12_takesOf 1 = .ok (.aload_n 1, 1) := by decide +kernel
theorem dX12_takesOf_2 : decode cX12_takesOf 2 = .ok (.invokevirtual 208, 3) := by decide +kernel
theorem dX12_takesOf_5 : decode cX12_takesOf 5 = .ok (.istore_n 2, 1) := by decide +kernel
theorem dX12_takesOf_6 : decode cX12_takesOf 6 = .ok (.aload_n 0, 1) := by decide +kernel
theorem dX12_takesOf_7 : decode cX12_takesOf 7 = .ok (.dup, 1) := by decide +kernel
theorem dX12_takesOf_8 : decode cX12_takesOf 8 = .ok (.getfield 175, 3) := by decide +kernel
theorem dX12_takesOf_11 : decode cX12_takesOf 11 = .ok (.iload_n 2, 1) := by decide +kernel
theorem dX12_takesOf_12 : decode cX12_takesOf 12 = .ok (.ifCond .lt 7, 3) := by decide +kernel
theorem dX12_takesOf_15 : decode cX12_takesOf 15 = .ok (.iconst 1, 1) := by decide +kernel
theorem dX12_takesOf_16 : decode cX12_takesOf 16 = .ok (.goto 4, 3) := by decide +kernel
theorem dX12_takesOf_19 : decode cX12_takesOf 19 = .ok (.iconst 0, 1) := by decide +kernel
theorem dX12_takesOf_20 : decode cX12_takesOf 20 = .ok (.invokestatic 190, 3) := by decide +kernel
theorem dX12_takesOf_23 : decode cX12_takesOf 23 = .ok (.iadd, 1) := by decide +kernel
theorem dX12_takesOf_24 : decode cX12_takesOf 24 = .ok (.putfield 175, 3) := by decide +kernel
theorem dX12_takesOf_27 : decode cX12_takesOf 27 = .ok (.iload_n 2, 1) := by decide +kernel
theorem dX12_takesOf_28 : decode cX12_takesOf 28 = .ok (.ireturn, 1) := by decide +kernel
def xX12_takesOf_20 (s_X12_among : zq_Sp) (s_X12_flag : zq_Sp) (Q : zq_Q) (ls : zq_L) (st : List Value) (h : zq_H) : Prop := (zi_callS 1 s_X12_flag (zi_i2 (fun x y => x + y) (zi_putI 56 14 (zi_iload 2 (zi_iret Q))))) ls st h
theorem kX12_takesOf_20 {X : zq_X} {d : Nat} (C : zq_C X cX12_takesOf 3 RX12 d) {d_X12_among : Nat} {s_X12_among : zq_Sp} (h_X12_among : zq_M yX12_among cX12_among 3 (some .int) 1 d_X12_among s_X12_among) (g_X12_among : d_X12_among + 1 ≤ d) {d_X12_flag : Nat} {s_X12_flag : zq_Sp} (h_X12_flag : zq_M yX12_flag cX12_flag 1 (some .int) 1 d_X12_flag s_X12_flag) (g_X12_flag : d_X12_flag + 1 ≤ d) {Q : zq_Q} (hq : zq_R X (some .int) 1 Q) : zq_ok X 3 20 (xX12_takesOf_20 s_X12_among s_X12_flag Q) := by
  refine zs_callS C h_X12_flag g_X12_flag zy_X12_flag zw_1380 zw_1381 dX12_takesOf_20 ?_
  refine zs_iadd C dX12_takesOf_23 ?_
  refine zs_putI C zp_56 zF12 (j := 14) ⟨by decide, rfl⟩ ⟨rfl, by decide +kernel⟩ zw_1110 dX12_takesOf_24 ?_
  refine zs_iload_n C dX12_takesOf_27 rfl ?_
  exact zs_iret C hq dX12_takesOf_28
def xX12_takesOf_19 (s_X12_among : zq_Sp) (s_X12_flag : zq_Sp) (Q : zq_Q) (ls : zq_L) (st : List Value) (h : zq_H) : Prop := (zi_push (.int 0) ((xX12_takesOf_20 s_X12_among s_X12_flag Q))) ls st h
theorem kX12_takesOf_19 {X : zq_X} {d : Nat} (C : zq_C X cX12_takesOf 3 RX12 d) {d_X12_among : Nat} {s_X12_among : zq_Sp} (h_X12_among : zq_M yX12_among cX12_among 3 (some .int) 1 d_X12_among s_X12_among) (g_X12_among : d_X12_among + 1 ≤ d) {d_X12_flag : Nat} {s_X12_flag : zq_Sp} (h_X12_flag : zq_M yX12_flag cX12_flag 1 (some .int) 1 d_X12_flag s_X12_flag) (g_X12_flag : d_X12_flag + 1 ≤ d) {Q : zq_Q} (hq : zq_R X (some .int) 1 Q) : zq_ok X 3 19 (xX12_takesOf_19 s_X12_among s_X12_flag Q) := by
  refine zs_iconst C dX12_takesOf_19 (by decide) ?_
  exact kX12_takesOf_20 C h_X12_among g_X12_among h_X12_flag g_X12_flag hq
def xX12_takesOf_15 (s_X12_among : zq_Sp) (s_X12_flag : zq_Sp) (Q : zq_Q) (ls : zq_L) (st : List Value) (h : zq_H) : Prop := (zi_push (.int 1) ((xX12_takesOf_20 s_X12_among s_X12_flag Q))) ls st h
theorem kX12_takesOf_15 {X : zq_X} {d : Nat} (C : zq_C X cX12_takesOf 3 RX12 d) {d_X12_among : Nat} {s_X12_among : zq_Sp} (h_X12_among : zq_M yX12_among cX12_among 3 (some .int) 1 d_X12_among s_X12_among) (g_X12_among : d_X12_among + 1 ≤ d) {d_X12_flag : Nat} {s_X12_flag : zq_Sp} (h_X12_flag : zq_M yX12_flag cX12_flag 1 (some .int) 1 d_X12_flag s_X12_flag) (g_X12_flag : d_X12_flag + 1 ≤ d) {Q : zq_Q} (hq : zq_R X (some .int) 1 Q) : zq_ok X 3 15 (xX12_takesOf_15 s_X12_among s_X12_flag Q) := by
  refine zs_iconst C dX12_takesOf_15 (by decide) ?_
  exact zs_goto C dX12_takesOf_16 (by decide) (kX12_takesOf_20 C h_X12_among g_X12_among h_X12_flag g_X12_flag hq)
def xX12_takesOf_0 (s_X12_among : zq_Sp) (s_X12_flag : zq_Sp) (Q : zq_Q) (ls : zq_L) (st : List Value) (h : zq_H) : Prop := (zi_aload 0 (zi_aload 1 (zi_callV 1 56 s_X12_among (zi_istore 2 (zi_aload 0 (zi_dup (zi_getI 56 14 (zi_iload 2 (zi_if1 (fun x => x < 0) (xX12_takesOf_19 s_X12_among s_X12_flag Q) (xX12_takesOf_15 s_X12_among s_X12_flag Q)))))))))) ls st h
theorem kX12_takesOf_0 {X : zq_X} {d : Nat} (C : zq_C X cX12_takesOf 3 RX12 d) {d_X12_among : Nat} {s_X12_among : zq_Sp} (h_X12_among : zq_M yX12_among cX12_among 3 (some .int) 1 d_X12_among s_X12_among) (g_X12_among : d_X12_among + 1 ≤ d) {d_X12_flag : Nat} {s_X12_flag : zq_Sp} (h_X12_flag : zq_M yX12_flag cX12_flag 1 (some .int) 1 d_X12_flag s_X12_flag) (g_X12_flag : d_X12_flag + 1 ≤ d) {Q : zq_Q} (hq : zq_R X (some .int) 1 Q) : zq_ok X 3 0 (xX12_takesOf_0 s_X12_among s_X12_flag Q) := by
  refine zs_aload_n C dX12_takesOf_0 rfl ?_
  refine zs_aload_n C dX12_takesOf_1 rfl ?_
  refine zs_callV C h_X12_among g_X12_among zy_X12_among zp_56 (show vwCl[12]? = some (RX12, TX12, 67) from rfl) zw_1324 zw_1326 zs9_X12_among dX12_takesOf_2 ?_
  refine zs_istore_n C dX12_takesOf_5 rfl (by decide) ?_
  refine zs_aload_n C dX12_takesOf_6 rfl ?_
  refine zs_dup C dX12_takesOf_7 ?_
  refine zs_getI C zp_56 zF12 (j := 14) ⟨by decide, rfl⟩ zw_1110 dX12_takesOf_8 ?_
  refine zs_iload_n C dX12_takesOf_11 rfl ?_
  exact zs_if_lt C dX12_takesOf_12 (by decide) (kX12_takesOf_19 C h_X12_among g_X12_among h_X12_flag g_X12_flag hq) (kX12_takesOf_15 C h_X12_among g_X12_among h_X12_flag g_X12_flag hq)
theorem mX12_takesOf {d : Nat} {spec : zq_Sp} {d_X12_among : Nat} {s_X12_among : zq_Sp} (h_X12_among : zq_M yX12_among cX12_among 3 (some .int) 1 d_X12_among s_X12_among) (g_X12_among : d_X12_among + 1 ≤ d) {d_X12_flag : Nat} {s_X12_flag : zq_Sp} (h_X12_flag : zq_M yX12_flag cX12_flag 1 (some .int) 1 d_X12_flag s_X12_flag) (g_X12_flag : d_X12_flag + 1 ≤ d) (v : ∀ args h Q, spec args h Q → (zq_a args).length ≤ 3 ∧ xX12_takesOf_0 s_X12_among s_X12_flag Q (zq_l0 3 args) [] h) : zq_M yX12_takesOf cX12_takesOf 3 (some .int) 1 d spec := by
  refine zq_met (by decide +kernel) (by decide) (fun X Q args h C hq hs => ⟨(v args h Q hs).1, _, ?_, (v args h Q hs).2⟩)
  exact kX12_takesOf_0 C h_X12_among g_X12_among h_X12_flag g_X12_flag hq
/-! ToOneCrumbModel.number(I)I -/
theorem dX12_number_0 : decode cX12_number 0 = .ok (.aload_n 0, 1) := by decide +kernel
theorem dX12_number_1 : decode cX12_number 1 = .ok (.invokevirtual 212, 3) := by decide +kernel
theorem dX12_number_4 : decode cX12_number 4 = .ok (.ifCond .ne 5, 3) := by decide +kernel
theorem dX12_number_7 : decode cX12_number 7 = .ok (.iconst (-1), 1) := by decide +kernel
theorem dX12_number_8 : decode cX12_number 8 = .ok (.ireturn, 1) := by decide +kernel
theorem dX12_number_9 : decode cX12_number 9 = .ok (.iconst 0, 1) := by decide +kernel
theorem dX12_number_10 : decode cX12_number 10 = .ok (.istore_n 2, 1) := by decide +kernel
theorem dX12_number_11 : decode cX12_number 11 = .ok (.iconst 0, 1) := by decide +kernel
theorem dX12_number_12 : decode cX12_number 12 = .ok (.istore_n 3, 1) := by decide +kernel
theorem dX12_number_13 : decode cX12_number 13 = .ok (.iload_n 3, 1) := by decide +kernel
theorem dX12_number_14 : decode cX12_number 14 = .ok (.iload_n 1, 1) := by decide +kernel
theorem dX12_number_15 : decode cX12_number 15 = .ok (.if_icmp .ge 44, 3) := by decide +kernel
theorem dX12_number_18 : decode cX12_number 18 = .ok (.aload_n 0, 1) := by decide +kernel
theorem dX12_number_19 : decode cX12_number 19 = .ok (.invokevirtual 212, 3) := by decide +kernel
theorem dX12_number_22 : decode cX12_number 22 = .ok (.ifCond .eq 37, 3) := by decide +kernel
theorem dX12_number_25 : decode cX12_number 25 = .ok (.bipush 10, 2) := by decide +kernel
theorem dX12_number_27 : decode cX12_number 27 = .ok (.iload_n 2, 1) := by decide +kernel
theorem dX12_number_28 : decode cX12_number 28 = .ok (.imul, 1) := by decide +kernel
theorem dX12_number_29 : decode cX12_number 29 = .ok (.aload_n 0, 1) := by decide +kernel
theorem dX12_number_30 : decode cX12_number 30 = .ok (.getfield 33, 3) := by decide +kernel
theorem dX12_number_33 : decode cX12_number 33 = .ok (.aload_n 0, 1) := by decide +kernel
theorem dX12_number_34 : decode cX12_number 34 = .ok (.getfield 175, 3) := by decide +kernel
theorem dX12_number_37 : decode cX12_number 37 = .ok (.iaload, 1) := by decide +kernel
theorem dX12_number_38 : decode cX12_number 38 = .ok (.iadd, 1) := by decide +kernel
theorem dX12_number_39 : decode cX12_number 39 = .ok (.bipush 48, 2) := by decide +kernel
theorem dX12_number_41 : decode cX12_number 41 = .ok (.isub, 1) := by decide +kernel
theorem dX12_number_42 : decode cX12_number 42 = .ok (.istore_n 2, 1) := by decide +kernel
theorem dX12_number_43 : decode cX12_number 43 = .ok (.aload_n 0, 1) := by decide +kernel
theorem dX12_number_44 : decode cX12_number 44 = .ok (.dup, 1) := by decide +kernel
theorem dX12_number_45 : decode cX12_number 45 = .ok (.getfield 175, 3) := by decide +kernel
theorem dX12_number_48 : decode cX12_number 48 = .ok (.iconst 1, 1) := by decide +kernel
theorem dX12_number_49 : decode cX12_number 49 = .ok (.iadd, 1) := by decide +kernel
theorem dX12_number_50 : decode cX12_number 50 = .ok (.putfield 175, 3) := by decide +kernel
theorem dX12_number_53 : decode cX12_number 53 = .ok (.iinc 3 1, 3) := by decide +kernel
theorem dX12_number_56 : decode cX12_number 56 = .ok (.goto (-43), 3) := by decide +kernel
theorem dX12_number_59 : decode cX12_number 59 = .ok (.iload_n 2, 1) := by decide +kernel
theorem dX12_number_60 : decode cX12_number 60 = .ok (.ireturn, 1) := by decide +kernel
def xX12_number_59 (s_X12_isDigit : zq_Sp) (J13 : zq_P) (Q : zq_Q) (ls : zq_L) (st : List Value) (h : zq_H) : Prop := (zi_iload 2 (zi_iret Q)) ls st h
theorem kX12_number_59 {X : zq_X} {d : Nat} (C : zq_C X cX12_number 4 RX12 d) {d_X12_isDigit : Nat} {s_X12_isDigit : zq_Sp} (h_X12_isDigit : zq_M yX12_isDigit cX12_isDigit 1 (some .boolean) 1 d_X12_isDigit s_X12_isDigit) (g_X12_isDigit : d_X12_isDigit + 1 ≤ d) {J13 : zq_P} (j13 : zq_ok X 4 13 J13) {Q : zq_Q} (hq : zq_R X (some .int) 1 Q) : zq_ok X 4 59 (xX12_number_59 s_X12_isDigit J13 Q) := by
  refine zs_iload_n C dX12_number_59 rfl ?_
  exact zs_iret C hq dX12_number_60
def xX12_number_25 (s_X12_isDigit : zq_Sp) (J13 : zq_P) (Q : zq_Q) (ls : zq_L) (st : List Value) (h : zq_H) : Prop := (zi_push (.int 10) (zi_iload 2 (zi_i2 (fun x y => x * y) (zi_aload 0 (zi_getR 56 64 (zi_aload 0 (zi_getI 56 14 (zi_aldI 64 80 (zi_i2 (fun x y => x + y) (zi_push (.int 48) (zi_i2 (fun x y => x - y) (zi_istore 2 (zi_aload 0 (zi_dup (zi_getI 56 14 (zi_push (.int 1) (zi_i2 (fun x y => x + y) (zi_putI 56 14 (zi_iinc 3 1 (J13)))))))))))))))))))) ls st h
theorem kX12_number_25 {X : zq_X} {d : Nat} (C : zq_C X cX12_number 4 RX12 d) {d_X12_isDigit : Nat} {s_X12_isDigit : zq_Sp} (h_X12_isDigit : zq_M yX12_isDigit cX12_isDigit 1 (some .boolean) 1 d_X12_isDigit s_X12_isDigit) (g_X12_isDigit : d_X12_isDigit + 1 ≤ d) {J13 : zq_P} (j13 : zq_ok X 4 13 J13) {Q : zq_Q} (hq : zq_R X (some .int) 1 Q) : zq_ok X 4 25 (xX12_number_25 s_X12_isDigit J13 Q) := by
  refine zs_bipush C dX12_number_25 (by decide) ?_
  refine zs_iload_n C dX12_number_27 rfl ?_
  refine zs_imul C dX12_number_28 ?_
  refine zs_aload_n C dX12_number_29 rfl ?_
  refine zs_getR C zp_56 zF12 (j := 12) ⟨by decide, rfl⟩ zw_1108 dX12_number_30 ?_
  refine zs_aload_n C dX12_number_33 rfl ?_
  refine zs_getI C zp_56 zF12 (j := 14) ⟨by decide, rfl⟩ zw_1110 dX12_number_34 ?_
  refine zs_iaload C zp_64 dX12_number_37 ?_
  refine zs_iadd C dX12_number_38 ?_
  refine zs_bipush C dX12_number_39 (by decide) ?_
  refine zs_isub C dX12_number_41 ?_
  refine zs_istore_n C dX12_number_42 rfl (by decide) ?_
  refine zs_aload_n C dX12_number_43 rfl ?_
  refine zs_dup C dX12_number_44 ?_
  refine zs_getI C zp_56 zF12 (j := 14) ⟨by decide, rfl⟩ zw_1110 dX12_number_45 ?_
  refine zs_iconst C dX12_number_48 (by decide) ?_
  refine zs_iadd C dX12_number_49 ?_
  refine zs_putI C zp_56 zF12 (j := 14) ⟨by decide, rfl⟩ ⟨rfl, by decide +kernel⟩ zw_1110 dX12_number_50 ?_
  refine zs_iinc C dX12_number_53 (by decide) (by decide) ?_
  exact zs_goto C dX12_number_56 (by decide) (j13)
def xX12_number_18 (s_X12_isDigit : zq_Sp) (J13 : zq_P) (Q : zq_Q) (ls : zq_L) (st : List Value) (h : zq_H) : Prop := (zi_aload 0 (zi_callV 0 56 s_X12_isDigit (zi_if1 (fun x => x = 0) (xX12_number_59 s_X12_isDigit J13 Q) (xX12_number_25 s_X12_isDigit J13 Q)))) ls st h
theorem kX12_number_18 {X : zq_X} {d : Nat} (C : zq_C X cX12_number 4 RX12 d) {d_X12_isDigit : Nat} {s_X12_isDigit : zq_Sp} (h_X12_isDigit : zq_M yX12_isDigit cX12_isDigit 1 (some .boolean) 1 d_X12_isDigit s_X12_isDigit) (g_X12_isDigit : d_X12_isDigit + 1 ≤ d) {J13 : zq_P} (j13 : zq_ok X 4 13 J13) {Q : zq_Q} (hq : zq_R X (some .int) 1 Q) : zq_ok X 4 18 (xX12_number_18 s_X12_isDigit J13 Q) := by
  refine zs_aload_n C dX12_number_18 rfl ?_
  refine zs_callV C h_X12_isDigit g_X12_isDigit zy_X12_isDigit zp_56 (show vwCl[12]? = some (RX12, TX12, 67) from rfl) zw_1404 zw_1406 zs9_X12_isDigit dX12_number_19 ?_
  exact zs_if_eq C dX12_number_22 (by decide) (kX12_number_59 C h_X12_isDigit g_X12_isDigit j13 hq) (kX12_number_25 C h_X12_isDigit g_X12_isDigit j13 hq)
def xX12_number_13 (s_X12_isDigit : zq_Sp) (J13 : zq_P) (Q : zq_Q) (ls : zq_L) (st : List Value) (h : zq_H) : Prop := (zi_iload 3 (zi_iload 1 (zi_if2 (fun x y => y ≤ x) (xX12_number_59 s_X12_isDigit J13 Q) (xX12_number_18 s_X12_isDigit J13 Q)))) ls st h
theorem kX12_number_13 {X : zq_X} {d : Nat} (C : zq_C X cX12_number 4 RX12 d) {d_X12_isDigit : Nat} {s_X12_isDigit : zq_Sp} (h_X12_isDigit : zq_M yX12_isDigit cX12_isDigit 1 (some .boolean) 1 d_X12_isDigit s_X12_isDigit) (g_X12_isDigit : d_X12_isDigit + 1 ≤ d) {J13 : zq_P} (j13 : zq_ok X 4 13 J13) {Q : zq_Q} (hq : zq_R X (some .int) 1 Q) : zq_ok X 4 13 (xX12_number_13 s_X12_isDigit J13 Q) := by
  refine zs_iload_n C dX12_number_13 rfl ?_
  refine zs_iload_n C dX12_number_14 rfl ?_
  exact zs_icmp_ge C dX12_number_15 (by decide) (kX12_number_59 C h_X12_isDigit g_X12_isDigit j13 hq) (kX12_number_18 C h_X12_isDigit g_X12_isDigit j13 hq)
def xX12_number_9 (s_X12_isDigit : zq_Sp) (J13 : zq_P) (Q : zq_Q) (ls : zq_L) (st : List Value) (h : zq_H) : Prop := (zi_push (.int 0) (zi_istore 2 (zi_push (.int 0) (zi_istore 3 (J13))))) ls st h
theorem kX12_number_9 {X : zq_X} {d : Nat} (C : zq_C X cX12_number 4 RX12 d) {d_X12_isDigit : Nat} {s_X12_isDigit : zq_Sp} (h_X12_isDigit : zq_M yX12_isDigit cX12_isDigit 1 (some .boolean) 1 d_X12_isDigit s_X12_isDigit) (g_X12_isDigit : d_X12_isDigit + 1 ≤ d) {J13 : zq_P} (j13 : zq_ok X 4 13 J13) {Q : zq_Q} (hq : zq_R X (some .int) 1 Q) : zq_ok X 4 9 (xX12_number_9 s_X12_isDigit J13 Q) := by
  refine zs_iconst C dX12_number_9 (by decide) ?_
  refine zs_istore_n C dX12_number_10 rfl (by decide) ?_
  refine zs_iconst C dX12_number_11 (by decide) ?_
  refine zs_istore_n C dX12_number_12 rfl (by decide) ?_
  exact j13
def xX12_number_7 (s_X12_isDigit : zq_Sp) (J13 : zq_P) (Q : zq_Q) (ls : zq_L) (st : List Value) (h : zq_H) : Prop := (zi_push (.int (-1)) (zi_iret Q)) ls st h
theorem kX12_number_7 {X : zq_X} {d : Nat} (C : zq_C X cX12_number 4 RX12 d) {d_X12_isDigit : Nat} {s_X12_isDigit : zq_Sp} (h_X12_isDigit : zq_M yX12_isDigit cX12_isDigit 1 (some .boolean) 1 d_X12_isDigit s_X12_isDigit) (g_X12_isDigit : d_X12_isDigit + 1 ≤ d) {J13 : zq_P} (j13 : zq_ok X 4 13 J13) {Q : zq_Q} (hq : zq_R X (some .int) 1 Q) : zq_ok X 4 7 (xX12_number_7 s_X12_isDigit J13 Q) := by
  refine zs_iconst C dX12_number_7 (by decide) ?_
  exact zs_iret C hq dX12_number_8
def xX12_number_0 (s_X12_isDigit : zq_Sp) (J13 : zq_P) (Q : zq_Q) (ls : zq_L) (st : List Value) (h : zq_H) : Prop := (zi_aload 0 (zi_callV 0 56 s_X12_isDigit (zi_if1 (fun x => x = 0) (xX12_number_7 s_X12_isDigit J13 Q) (xX12_number_9 s_X12_isDigit J13 Q)))) ls st h
theorem kX12_number_0 {X : zq_X} {d : Nat} (C : zq_C X cX12_number 4 RX12 d) {d_X12_isDigit : Nat} {s_X12_isDigit : zq_Sp} (h_X12_isDigit : zq_M yX12_isDigit cX12_isDigit 1 (some .boolean) 1 d_X12_isDigit s_X12_isDigit) (g_X12_isDigit : d_X12_isDigit + 1 ≤ d) {J13 : zq_P} (j13 : zq_ok X 4 13 J13) {Q : zq_Q} (hq : zq_R X (some .int) 1 Q) : zq_ok X 4 0 (xX12_number_0 s_X12_isDigit J13 Q) := by
  refine zs_aload_n C dX12_number_0 rfl ?_
  refine zs_callV C h_X12_isDigit g_X12_isDigit zy_X12_isDigit zp_56 (show vwCl[12]? = some (RX12, TX12, 67) from rfl) zw_1404 zw_1406 zs9_X12_isDigit dX12_number_1 ?_
  exact zs_if_ne C dX12_number_4 (by decide) (kX12_number_9 C h_X12_isDigit g_X12_isDigit j13 hq) (kX12_number_7 C h_X12_isDigit g_X12_isDigit j13 hq)
theorem mX12_number {d : Nat} {spec : zq_Sp} {σ13 : Type} {d_X12_isDigit : Nat} {s_X12_isDigit : zq_Sp} (h_X12_isDigit : zq_M yX12_isDigit cX12_isDigit 1 (some .boolean) 1 d_X12_isDigit s_X12_isDigit) (g_X12_isDigit : d_X12_isDigit + 1 ≤ d) (μ13 : σ13 → Nat) (I13 : zq_Q → σ13 → zq_P) (v : ∀ args h Q, spec args h Q → (zq_a args).length ≤ 4 ∧ xX12_number_0 s_X12_isDigit (fun ls st h => ∃ b, I13 Q b ls st h) Q (zq_l0 4 args) [] h) (v13 : ∀ Q a ls st h, I13 Q a ls st h → xX12_number_13 s_X12_isDigit (fun ls st h => ∃ b, μ13 b < μ13 a ∧ I13 Q b ls st h) Q ls st h) : zq_M yX12_number cX12_number 4 (some .int) 1 d spec := by
  refine zq_met (by decide +kernel) (by decide) (fun X Q args h C hq hs => ⟨(v args h Q hs).1, _, ?_, (v args h Q hs).2⟩)
  have hl := zq_loop1 (X := X) (nL := 4) (pc1 := 13) μ13 (I13 Q) (fun J13 => xX12_number_13 s_X12_isDigit J13 Q) (fun j13 => kX12_number_13 C h_X12_isDigit g_X12_isDigit j13 hq) (v13 Q)
  exact kX12_number_0 C h_X12_isDigit g_X12_isDigit hl hq
/-! ToOneCrumbModel.letter(I)I -/
theorem dX12_letter_0 : decode cX12_letter 0 = .ok (.aload_n 0, 1) := by decide +kernel
theorem dX12_letter_1 : decode cX12_letter 1 = .ok (.getfield 175, 3) := by decide +kernel
theorem dX12_letter_4 : decode cX12_letter 4 = .ok (.aload_n 0, 1) := by decide +kernel
theorem dX12_letter_5 : decode cX12_letter 5 = .ok (.getfield 187, 3) := by decide +kernel
theorem dX12_letter_8 : decode cX12_letter 8 = .ok (.if_icmp .ge 29, 3) := by decide +kernel
theorem dX12_letter_11 : decode cX12_letter 11 = .ok (.aload_n 0, 1) := by decide +kernel
theorem dX12_letter_12 : decode cX12_letter 12 = .ok (.getfield 33, 3) := by decide +kernel
theorem dX12_letter_15 : decode cX12_letter 15 = .ok (.aload_n 0, 1) := by decide +kernel
theorem dX12_letter_16 : decode cX12_letter 16 = .ok (.getfield 175, 3) := by decide +kernel
theorem dX12_letter_19 : decode cX12_letter 19 = .ok (.iaload, 1) := by decide +kernel
theorem dX12_letter_20 : decode cX12_letter 20 = .ok (.i2l, 1) := by decide +kernel
theorem dX12_letter_21 : decode cX12_letter 21 = .ok (.ldc2_w 216, 3) := by decide +kernel
theorem dX12_letter_24 : decode cX12_letter 24 = .ok (.bipush 97, 2) := by decide +kernel
theorem dX12_letter_26 : decode cX12_letter 26 = .ok (.iload_n 1, 1) := by decide +kernel
theorem dX12_letter_27 : decode cX12_letter 27 = .ok (.iadd, 1) := by decide +kernel
theorem dX12_letter_28 : decode cX12_letter 28 = .ok (.iconst 1, 1) := by decide +kernel
theorem dX12_letter_29 : decode cX12_letter 29 = .ok (.isub, 1) := by decide +kernel
theorem dX12_letter_30 : decode cX12_letter 30 = .ok (.i2l, 1) := by decide +kernel
theorem dX12_letter_31 : decode cX12_letter 31 = .ok (.invokestatic 161, 3) := by decide +kernel
theorem dX12_letter_34 : decode cX12_letter 34 = .ok (.ifCond .ne 5, 3) := by decide +kernel
theorem dX12_letter_37 : decode cX12_letter 37 = .ok (.iconst (-1), 1) := by decide +kernel
theorem dX12_letter_38 : decode cX12_letter 38 = .ok (.ireturn, 1) := by decide +kernel
theorem dX12_letter_39 : decode cX12_letter 39 = .ok (.aload_n 0, 1) := by decide +kernel
theorem dX12_letter_40 : decode cX12_letter 40 = .ok (.dup, 1) := by decide +kernel
theorem dX12_letter_41 : decode cX12_letter 41 = .ok (.getfield 175, 3) := by decide +kernel
theorem dX12_letter_44 : decode cX12_letter 44 = .ok (.iconst 1, 1) := by decide +kernel
theorem dX12_letter_45 : decode cX12_letter 45 = .ok (.iadd, 1) := by decide +kernel
theorem dX12_letter_46 : decode cX12_letter 46 = .ok (.putfield 175, 3) := by decide +kernel
theorem dX12_letter_49 : decode cX12_letter 49 = .ok (.aload_n 0, 1) := by decide +kernel
theorem dX12_letter_50 : decode cX12_letter 50 = .ok (.getfield 33, 3) := by decide +kernel
theorem dX12_letter_53 : decode cX12_letter 53 = .ok (.aload_n 0, 1) := by decide +kernel
theorem dX12_letter_54 : decode cX12_letter 54 = .ok (.getfield 175, 3) := by decide +kernel
theorem dX12_letter_57 : decode cX12_letter 57 = .ok (.iconst 1, 1) := by decide +kernel
theorem dX12_letter_58 : decode cX12_letter 58 = .ok (.isub, 1) := by decide +kernel
theorem dX12_letter_59 : decode cX12_letter 59 = .ok (.iaload, 1) := by decide +kernel
theorem dX12_letter_60 : decode cX12_letter 60 = .ok (.bipush 97, 2) := by decide +kernel
theorem dX12_letter_62 : decode cX12_letter 62 = .ok (.isub, 1) := by decide +kernel
theorem dX12_letter_63 : decode cX12_letter 63 = .ok (.ireturn, 1) := by decide +kernel
def xX12_letter_39 (s_X12_in : zq_Sp) (Q : zq_Q) (ls : zq_L) (st : List Value) (h : zq_H) : Prop := (zi_aload 0 (zi_dup (zi_getI 56 14 (zi_push (.int 1) (zi_i2 (fun x y => x + y) (zi_putI 56 14 (zi_aload 0 (zi_getR 56 64 (zi_aload 0 (zi_getI 56 14 (zi_push (.int 1) (zi_i2 (fun x y => x - y) (zi_aldI 64 80 (zi_push (.int 97) (zi_i2 (fun x y => x - y) (zi_iret Q)))))))))))))))) ls st h
theorem kX12_letter_39 {X : zq_X} {d : Nat} (C : zq_C X cX12_letter 2 RX12 d) {d_X12_in : Nat} {s_X12_in : zq_Sp} (h_X12_in : zq_M yX12_in cX12_in 6 (some .boolean) 1 d_X12_in s_X12_in) (g_X12_in : d_X12_in + 1 ≤ d) {Q : zq_Q} (hq : zq_R X (some .int) 1 Q) : zq_ok X 2 39 (xX12_letter_39 s_X12_in Q) := by
  refine zs_aload_n C dX12_letter_39 rfl ?_
  refine zs_dup C dX12_letter_40 ?_
  refine zs_getI C zp_56 zF12 (j := 14) ⟨by decide, rfl⟩ zw_1110 dX12_letter_41 ?_
  refine zs_iconst C dX12_letter_44 (by decide) ?_
  refine zs_iadd C dX12_letter_45 ?_
  refine zs_putI C zp_56 zF12 (j := 14) ⟨by decide, rfl⟩ ⟨rfl, by decide +kernel⟩ zw_1110 dX12_letter_46 ?_
  refine zs_aload_n C dX12_letter_49 rfl ?_
  refine zs_getR C zp_56 zF12 (j := 12) ⟨by decide, rfl⟩ zw_1108 dX12_letter_50 ?_
  refine zs_aload_n C dX12_letter_53 rfl ?_
  refine zs_getI C zp_56 zF12 (j := 14) ⟨by decide, rfl⟩ zw_1110 dX12_letter_54 ?_
  refine zs_iconst C dX12_letter_57 (by decide) ?_
  refine zs_isub C dX12_letter_58 ?_
  refine zs_iaload C zp_64 dX12_letter_59 ?_
  refine zs_bipush C dX12_letter_60 (by decide) ?_
  refine zs_isub C dX12_letter_62 ?_
  exact zs_iret C hq dX12_letter_63
def xX12_letter_37 (s_X12_in : zq_Sp) (Q : zq_Q) (ls : zq_L) (st : List Value) (h : zq_H) : Prop := (zi_push (.int (-1)) (zi_iret Q)) ls st h
theorem kX12_letter_37 {X : zq_X} {d : Nat} (C : zq_C X cX12_letter 2 RX12 d) {d_X12_in : Nat} {s_X12_in : zq_Sp} (h_X12_in : zq_M yX12_in cX12_in 6 (some .boolean) 1 d_X12_in s_X12_in) (g_X12_in : d_X12_in + 1 ≤ d) {Q : zq_Q} (hq : zq_R X (some .int) 1 Q) : zq_ok X 2 37 (xX12_letter_37 s_X12_in Q) := by
  refine zs_iconst C dX12_letter_37 (by decide) ?_
  exact zs_iret C hq dX12_letter_38
def xX12_letter_11 (s_X12_in : zq_Sp) (Q : zq_Q) (ls : zq_L) (st : List Value) (h : zq_H) : Prop := (zi_aload 0 (zi_getR 56 64 (zi_aload 0 (zi_getI 56 14 (zi_aldI 64 80 (zi_i2l (zi_push (.long 97) (zi_push (.int 97) (zi_iload 1 (zi_i2 (fun x y => x + y) (zi_push (.int 1) (zi_i2 (fun x y => x - y) (zi_i2l (zi_callS 3 s_X12_in (zi_if1 (fun x => x = 0) (xX12_letter_37 s_X12_in Q) (xX12_letter_39 s_X12_in Q)))))))))))))))) ls st h
theorem kX12_letter_11 {X : zq_X} {d : Nat} (C : zq_C X cX12_letter 2 RX12 d) {d_X12_in : Nat} {s_X12_in : zq_Sp} (h_X12_in : zq_M yX12_in cX12_in 6 (some .boolean) 1 d_X12_in s_X12_in) (g_X12_in : d_X12_in + 1 ≤ d) {Q : zq_Q} (hq : zq_R X (some .int) 1 Q) : zq_ok X 2 11 (xX12_letter_11 s_X12_in Q) := by
  refine zs_aload_n C dX12_letter_11 rfl ?_
  refine zs_getR C zp_56 zF12 (j := 12) ⟨by decide, rfl⟩ zw_1108 dX12_letter_12 ?_
  refine zs_aload_n C dX12_letter_15 rfl ?_
  refine zs_getI C zp_56 zF12 (j := 14) ⟨by decide, rfl⟩ zw_1110 dX12_letter_16 ?_
  refine zs_iaload C zp_64 dX12_letter_19 ?_
  refine zs_i2l C dX12_letter_20 ?_
  refine zs_ldc2 C dX12_letter_21 zw_1423 ?_
  refine zs_bipush C dX12_letter_24 (by decide) ?_
  refine zs_iload_n C dX12_letter_26 rfl ?_
  refine zs_iadd C dX12_letter_27 ?_
  refine zs_iconst C dX12_letter_28 (by decide) ?_
  refine zs_isub C dX12_letter_29 ?_
  refine zs_i2l C dX12_letter_30 ?_
  refine zs_callS C h_X12_in g_X12_in zy_X12_in zw_1311 zw_1312 dX12_letter_31 ?_
  exact zs_if_ne C dX12_letter_34 (by decide) (kX12_letter_39 C h_X12_in g_X12_in hq) (kX12_letter_37 C h_X12_in g_X12_in hq)
def xX12_letter_0 (s_X12_in : zq_Sp) (Q : zq_Q) (ls : zq_L) (st : List Value) (h : zq_H) : Prop := (zi_aload 0 (zi_getI 56 14 (zi_aload 0 (zi_getI 56 15 (zi_if2 (fun x y => y ≤ x) (xX12_letter_37 s_X12_in Q) (xX12_letter_11 s_X12_in Q)))))) ls st h
theorem kX12_letter_0 {X : zq_X} {d : Nat} (C : zq_C X cX12_letter 2 RX12 d) {d_X12_in : Nat} {s_X12_in : zq_Sp} (h_X12_in : zq_M yX12_in cX12_in 6 (some .boolean) 1 d_X12_in s_X12_in) (g_X12_in : d_X12_in + 1 ≤ d) {Q : zq_Q} (hq : zq_R X (some .int) 1 Q) : zq_ok X 2 0 (xX12_letter_0 s_X12_in Q) := by
  refine zs_aload_n C dX12_letter_0 rfl ?_
  refine zs_getI C zp_56 zF12 (j := 14) ⟨by decide, rfl⟩ zw_1110 dX12_letter_1 ?_
  refine zs_aload_n C dX12_letter_4 rfl ?_
  refine zs_getI C zp_56 zF12 (j := 15) ⟨by decide, rfl⟩ zw_1111 dX12_letter_5 ?_
  exact zs_icmp_ge C dX12_letter_8 (by decide) (kX12_letter_37 C h_X12_in g_X12_in hq) (kX12_letter_11 C h_X12_in g_X12_in hq)
theorem mX12_letter {d : Nat} {spec : zq_Sp} {d_X12_in : Nat} {s_X12_in : zq_Sp} (h_X12_in : zq_M yX12_in cX12_in 6 (some .boolean) 1 d_X12_in s_X12_in) (g_X12_in : d_X12_in + 1 ≤ d) (v : ∀ args h Q, spec args h Q → (zq_a args).length ≤ 2 ∧ xX12_letter_0 s_X12_in Q (zq_l0 2 args) [] h) : zq_M yX12_letter cX12_letter 2 (some .int) 1 d spec := by
  refine zq_met (by decide +kernel) (by decide) (fun X Q args h C hq hs => ⟨(v args h Q hs).1, _, ?_, (v args h Q hs).2⟩)
  exact kX12_letter_0 C h_X12_in g_X12_in hq
/-! ToOneCrumbModel.faultOf(IIZ)I -/
theorem dX12_faultOf_0 : decode cX12_faultOf 0 = .ok (.iload_n 3, 1) := by decide +kernel
theorem dX12_faultOf_1 : decode cX12_faultOf 1 = .ok (.ifCond .eq 18, 3) := by decide +kernel
theorem dX12_faultOf_4 : decode cX12_faultOf 4 = .ok (.aload_n 0, 1) := by decide +kernel
theorem dX12_faultOf_5 : decode cX12_faultOf 5 = .ok (.getfield 175, 3) := by decide +kernel
theorem dX12_faultOf_8 : decode cX12_faultOf 8 = .ok (.aload_n 0, 1) := by decide +kernel
theorem dX12_faultOf_9 : decode cX12_faultOf 9 = .ok (.getfield 187, 3) := by decide +kernel
theorem dX12_faultOf_12 : decode cX12_faultOf 12 = .ok (.if_icmp .ne 7, 3) := by decide +kernel
theorem dX12_faultOf_15 : decode cX12_faultOf 15 = .ok (.iconst 1, 1) := by decide +kernel
theorem dX12_faultOf_16 : decode cX12_faultOf 16 = .ok (.goto 4, 3) := by decide +kernel
theorem dX12_faultOf_19 : decode cX12_faultOf 19 = .ok (.iconst 0, 1) := by decide +kernel
theorem dX12_faultOf_20 : decode cX12_faultOf 20 = .ok (.istore 4, 2) := by decide +kernel
theorem dX12_faultOf_22 : decode cX12_faultOf 22 = .ok (.iload_n 1, 1) := by decide +kernel
theorem dX12_faultOf_23 : decode cX12_faultOf 23 = .ok (.iload_n 2, 1) := by decide +kernel
theorem dX12_faultOf_24 : decode cX12_faultOf 24 = .ok (.if_icmp .le 20, 3) := by decide +kernel
theorem dX12_faultOf_27 : decode cX12_faultOf 27 = .ok (.iload 4, 2) := by decide +kernel
theorem dX12_faultOf_29 : decode cX12_faultOf 29 = .ok (.ifCond .ne 11, 3) := by decide +kernel
theorem dX12_faultOf_32 : decode cX12_faultOf 32 = .ok (.aload_n 0, 1) := by decide +kernel
theorem dX12_faultOf_33 : decode cX12_faultOf 33 = .ok (.getfield 175, 3) := by decide +kernel
theorem dX12_faultOf_36 : decode cX12_faultOf 36 = .ok (.iload_n 2, 1) := by decide +kernel
theorem dX12_faultOf_37 : decode cX12_faultOf 37 = .ok (.if_icmp .lt 7, 3) := by decide +kernel
theorem dX12_faultOf_40 : decode cX12_faultOf 40 = .ok (.iconst (-1), 1) := by decide +kernel
theorem dX12_faultOf_41 : decode cX12_faultOf 41 = .ok (.iload_n 2, 1) := by decide +kernel
theorem dX12_faultOf_42 : decode cX12_faultOf 42 = .ok (.isub, 1) := by decide +kernel
theorem dX12_faultOf_43 : decode cX12_faultOf 43 = .ok (.ireturn, 1) := by decide +kernel
theorem dX12_faultOf_44 : decode cX12_faultOf 44 = .ok (.iload 4, 2) := by decide +kernel
theorem dX12_faultOf_46 : decode cX12_faultOf 46 = .ok (.ifCond .eq 7, 3) := by decide +kernel
theorem dX12_faultOf_49 : decode cX12_faultOf 49 = .ok (.iconst 0, 1) := by decide +kernel
theorem dX12_faultOf_50 : decode cX12_faultOf 50 = .ok (.goto 9, 3) := by decide +kernel
theorem dX12_faultOf_53 : decode cX12_faultOf 53 = .ok (.iconst (-1), 1) := by decide +kernel
theorem dX12_faultOf_54 : decode cX12_faultOf 54 = .ok (.aload_n 0, 1) := by decide +kernel
theorem dX12_faultOf_55 : decode cX12_faultOf 55 = .ok (.getfield 175, 3) := by decide +kernel
theorem dX12_faultOf_58 : decode cX12_faultOf 58 = .ok (.isub, 1) := by decide +kernel
theorem dX12_faultOf_59 : decode cX12_faultOf 59 = .ok (.ireturn, 1) := by decide +kernel
def xX12_faultOf_59 (Q : zq_Q) (ls : zq_L) (st : List Value) (h : zq_H) : Prop := (zi_iret Q) ls st h
theorem kX12_faultOf_59 {X : zq_X} {d : Nat} (C : zq_C X cX12_faultOf 5 RX12 d) {Q : zq_Q} (hq : zq_R X (some .int) 1 Q) : zq_ok X 5 59 (xX12_faultOf_59 Q) := by
  exact zs_iret C hq dX12_faultOf_59
def xX12_faultOf_53 (Q : zq_Q) (ls : zq_L) (st : List Value) (h : zq_H) : Prop := (zi_push (.int (-1)) (zi_aload 0 (zi_getI 56 14 (zi_i2 (fun x y => x - y) ((xX12_faultOf_59 Q)))))) ls st h
theorem kX12_faultOf_53 {X : zq_X} {d : Nat} (C : zq_C X cX12_faultOf 5 RX12 d) {Q : zq_Q} (hq : zq_R X (some .int) 1 Q) : zq_ok X 5 53 (xX12_faultOf_53 Q) := by
  refine zs_iconst C dX12_faultOf_53 (by decide) ?_
  refine zs_aload_n C dX12_faultOf_54 rfl ?_
  refine zs_getI C zp_56 zF12 (j := 14) ⟨by decide, rfl⟩ zw_1110 dX12_faultOf_55 ?_
  refine zs_isub C dX12_faultOf_58 ?_
  exact kX12_faultOf_59 C hq
def xX12_faultOf_49 (Q : zq_Q) (ls : zq_L) (st : List Value) (h : zq_H) : Prop := (zi_push (.int 0) ((xX12_faultOf_59 Q))) ls st h
theorem kX12_faultOf_49 {X : zq_X} {d : Nat} (C : zq_C X cX12_faultOf 5 RX12 d) {Q : zq_Q} (hq : zq_R X (some .int) 1 Q) : zq_ok X 5 49 (xX12_faultOf_49 Q) := by
  refine zs_iconst C dX12_faultOf_49 (by decide) ?_
  exact zs_goto C dX12_faultOf_50 (by decide) (kX12_faultOf_59 C hq)
def xX12_faultOf_44 (Q : zq_Q) (ls : zq_L) (st : List Value) (h : zq_H) : Prop := (zi_iload 4 (zi_if1 (fun x => x = 0) (xX12_faultOf_53 Q) (xX12_faultOf_49 Q))) ls st h
theorem kX12_faultOf_44 {X : zq_X} {d : Nat} (C : zq_C X cX12_faultOf 5 RX12 d) {Q : zq_Q} (hq : zq_R X (some .int) 1 Q) : zq_ok X 5 44 (xX12_faultOf_44 Q) := by
  refine zs_iload C dX12_faultOf_44 ?_
  exact zs_if_eq C dX12_faultOf_46 (by decide) (kX12_faultOf_53 C hq) (kX12_faultOf_49 C hq)
def xX12_faultOf_40 (Q : zq_Q) (ls : zq_L) (st : List Value) (h : zq_H) : Prop := (zi_push (.int (-1)) (zi_iload 2 (zi_i2 (fun x y => x - y) (zi_iret Q)))) ls st h
theorem kX12_faultOf_40 {X : zq_X} {d : Nat} (C : zq_C X cX12_faultOf 5 RX12 d) {Q : zq_Q} (hq : zq_R X (some .int) 1 Q) : zq_ok X 5 40 (xX12_faultOf_40 Q) := by
  refine zs_iconst C dX12_faultOf_40 (by decide) ?_
  refine zs_iload_n C dX12_faultOf_41 rfl ?_
  refine zs_isub C dX12_faultOf_42 ?_
  exact zs_iret C hq dX12_faultOf_43
def xX12_faultOf_32 (Q : zq_Q) (ls : zq_L) (st : List Value) (h : zq_H) : Prop := (zi_aload 0 (zi_getI 56 14 (zi_iload 2 (zi_if2 (fun x y => x < y) (xX12_faultOf_44 Q) (xX12_faultOf_40 Q))))) ls st h
theorem kX12_faultOf_32 {X : zq_X} {d : Nat} (C : zq_C X cX12_faultOf 5 RX12 d) {Q : zq_Q} (hq : zq_R X (some .int) 1 Q) : zq_ok X 5 32 (xX12_faultOf_32 Q) := by
  refine zs_aload_n C dX12_faultOf_32 rfl ?_
  refine zs_getI C zp_56 zF12 (j := 14) ⟨by decide, rfl⟩ zw_1110 dX12_faultOf_33 ?_
  refine zs_iload_n C dX12_faultOf_36 rfl ?_
  exact zs_icmp_lt C dX12_faultOf_37 (by decide) (kX12_faultOf_44 C hq) (kX12_faultOf_40 C hq)
def xX12_faultOf_27 (Q : zq_Q) (ls : zq_L) (st : List Value) (h : zq_H) : Prop := (zi_iload 4 (zi_if1 (fun x => x = 0) (xX12_faultOf_32 Q) (xX12_faultOf_40 Q))) ls st h
theorem kX12_faultOf_27 {X : zq_X} {d : Nat} (C : zq_C X cX12_faultOf 5 RX12 d) {Q : zq_Q} (hq : zq_R X (some .int) 1 Q) : zq_ok X 5 27 (xX12_faultOf_27 Q) := by
  refine zs_iload C dX12_faultOf_27 ?_
  exact zs_if_ne C dX12_faultOf_29 (by decide) (kX12_faultOf_40 C hq) (kX12_faultOf_32 C hq)
def xX12_faultOf_20 (Q : zq_Q) (ls : zq_L) (st : List Value) (h : zq_H) : Prop := (zi_istore 4 (zi_iload 1 (zi_iload 2 (zi_if2 (fun x y => x ≤ y) (xX12_faultOf_44 Q) (xX12_faultOf_27 Q))))) ls st h
theorem kX12_faultOf_20 {X : zq_X} {d : Nat} (C : zq_C X cX12_faultOf 5 RX12 d) {Q : zq_Q} (hq : zq_R X (some .int) 1 Q) : zq_ok X 5 20 (xX12_faultOf_20 Q) := by
  refine zs_istore C dX12_faultOf_20 (by decide) ?_
  refine zs_iload_n C dX12_faultOf_22 rfl ?_
  refine zs_iload_n C dX12_faultOf_23 rfl ?_
  exact zs_icmp_le C dX12_faultOf_24 (by decide) (kX12_faultOf_44 C hq) (kX12_faultOf_27 C hq)
def xX12_faultOf_19 (Q : zq_Q) (ls : zq_L) (st : List Value) (h : zq_H) : Prop := (zi_push (.int 0) ((xX12_faultOf_20 Q))) ls st h
theorem kX12_faultOf_19 {X : zq_X} {d : Nat} (C : zq_C X cX12_faultOf 5 RX12 d) {Q : zq_Q} (hq : zq_R X (some .int) 1 Q) : zq_ok X 5 19 (xX12_faultOf_19 Q) := by
  refine zs_iconst C dX12_faultOf_19 (by decide) ?_
  exact kX12_faultOf_20 C hq
def xX12_faultOf_15 (Q : zq_Q) (ls : zq_L) (st : List Value) (h : zq_H) : Prop := (zi_push (.int 1) ((xX12_faultOf_20 Q))) ls st h
theorem kX12_faultOf_15 {X : zq_X} {d : Nat} (C : zq_C X cX12_faultOf 5 RX12 d) {Q : zq_Q} (hq : zq_R X (some .int) 1 Q) : zq_ok X 5 15 (xX12_faultOf_15 Q) := by
  refine zs_iconst C dX12_faultOf_15 (by decide) ?_
  exact zs_goto C dX12_faultOf_16 (by decide) (kX12_faultOf_20 C hq)
def xX12_faultOf_4 (Q : zq_Q) (ls : zq_L) (st : List Value) (h : zq_H) : Prop := (zi_aload 0 (zi_getI 56 14 (zi_aload 0 (zi_getI 56 15 (zi_if2 (fun x y => x = y) (xX12_faultOf_15 Q) (xX12_faultOf_19 Q)))))) ls st h
theorem kX12_faultOf_4 {X : zq_X} {d : Nat} (C : zq_C X cX12_faultOf 5 RX12 d) {Q : zq_Q} (hq : zq_R X (some .int) 1 Q) : zq_ok X 5 4 (xX12_faultOf_4 Q) := by
  refine zs_aload_n C dX12_faultOf_4 rfl ?_
  refine zs_getI C zp_56 zF12 (j := 14) ⟨by decide, rfl⟩ zw_1110 dX12_faultOf_5 ?_
  refine zs_aload_n C dX12_faultOf_8 rfl ?_
  refine zs_getI C zp_56 zF12 (j := 15) ⟨by decide, rfl⟩ zw_1111 dX12_faultOf_9 ?_
  exact zs_icmp_ne C dX12_faultOf_12 (by decide) (kX12_faultOf_19 C hq) (kX12_faultOf_15 C hq)
def xX12_faultOf_0 (Q : zq_Q) (ls : zq_L) (st : List Value) (h : zq_H) : Prop := (zi_iload 3 (zi_if1 (fun x => x = 0) (xX12_faultOf_19 Q) (xX12_faultOf_4 Q))) ls st h
theorem kX12_faultOf_0 {X : zq_X} {d : Nat} (C : zq_C X cX12_faultOf 5 RX12 d) {Q : zq_Q} (hq : zq_R X (some .int) 1 Q) : zq_ok X 5 0 (xX12_faultOf_0 Q) := by
  refine zs_iload_n C dX12_faultOf_0 rfl ?_
  exact zs_if_eq C dX12_faultOf_1 (by decide) (kX12_faultOf_19 C hq) (kX12_faultOf_4 C hq)
theorem mX12_faultOf {d : Nat} {spec : zq_Sp} (v : ∀ args h Q, spec args h Q → (zq_a args).length ≤ 5 ∧ xX12_faultOf_0 Q (zq_l0 5 args) [] h) : zq_M yX12_faultOf cX12_faultOf 5 (some .int) 1 d spec := by
  refine zq_met (by decide +kernel) (by decide) (fun X Q args h C hq hs => ⟨(v args h Q hs).1, _, ?_, (v args h Q hs).2⟩)
  exact kX12_faultOf_0 C hq
/-! ToOneCrumbModel.loaf()I -/
theorem dX12_loaf_0 : decode cX12_loaf 0 = .ok (.aload_n 0, 1) := by decide +kernel
theorem dX12_loaf_1 : decode cX12_loaf 1 = .ok (.iconst 0, 1) := by decide +kernel
theorem dX12_loaf_2 : decode cX12_loaf 2 = .ok (.putfield 147, 3) := by decide +kernel
theorem dX12_loaf_5 : decode cX12_loaf 5 = .ok (.aload_n 0, 1) := by decide +kernel
theorem dX12_loaf_6 : decode cX12_loaf 6 = .ok (.bipush 64, 2) := by decide +kernel
theorem dX12_loaf_8 : decode cX12_loaf 8 = .ok (.invokevirtual 218, 3) := by decide +kernel
theorem dX12_loaf_11 : decode cX12_loaf 11 = .ok (.istore_n 1, 1) := by decide +kernel
theorem dX12_loaf_12 : decode cX12_loaf 12 = .ok (.iconst 0, 1) := by decide +kernel
theorem dX12_loaf_13 : decode cX12_loaf 13 = .ok (.istore_n 2, 1) := by decide +kernel
theorem dX12_loaf_14 : decode cX12_loaf 14 = .ok (.iload_n 2, 1) := by decide +kernel
theorem dX12_loaf_15 : decode cX12_loaf 15 = .ok (.bipush 16, 2) := by decide +kernel
theorem dX12_loaf_17 : decode cX12_loaf 17 = .ok (.if_icmp .ge 58, 3) := by decide +kernel
theorem dX12_loaf_20 : decode cX12_loaf 20 = .ok (.aload_n 0, 1) := by decide +kernel
theorem dX12_loaf_21 : decode cX12_loaf 21 = .ok (.ldc 222, 2) := by decide +kernel
theorem dX12_loaf_23 : decode cX12_loaf 23 = .ok (.invokevirtual 208, 3) := by decide +kernel
theorem dX12_loaf_26 : decode cX12_loaf 26 = .ok (.ifCond .lt 49, 3) := by decide +kernel
theorem dX12_loaf_29 : decode cX12_loaf 29 = .ok (.aload_n 0, 1) := by decide +kernel
theorem dX12_loaf_30 : decode cX12_loaf 30 = .ok (.getfield 36, 3) := by decide +kernel
theorem dX12_loaf_33 : decode cX12_loaf 33 = .ok (.iload_n 2, 1) := by decide +kernel
theorem dX12_loaf_34 : decode cX12_loaf 34 = .ok (.iconst 1, 1) := by decide +kernel
theorem dX12_loaf_35 : decode cX12_loaf 35 = .ok (.aload_n 0, 1) := by decide +kernel
theorem dX12_loaf_36 : decode cX12_loaf 36 = .ok (.ldc 222, 2) := by decide +kernel
theorem dX12_loaf_38 : decode cX12_loaf 38 = .ok (.invokevirtual 224, 3) := by decide +kernel
theorem dX12_loaf_41 : decode cX12_loaf 41 = .ok (.iadd, 1) := by decide +kernel
theorem dX12_loaf_42 : decode cX12_loaf 42 = .ok (.iastore, 1) := by decide +kernel
theorem dX12_loaf_43 : decode cX12_loaf 43 = .ok (.aload_n 0, 1) := by decide +kernel
theorem dX12_loaf_44 : decode cX12_loaf 44 = .ok (.getfield 39, 3) := by decide +kernel
theorem dX12_loaf_47 : decode cX12_loaf 47 = .ok (.iload_n 2, 1) := by decide +kernel
theorem dX12_loaf_48 : decode cX12_loaf 48 = .ok (.iconst 1, 1) := by decide +kernel
theorem dX12_loaf_49 : decode cX12_loaf 49 = .ok (.aload_n 0, 1) := by decide +kernel
theorem dX12_loaf_50 : decode cX12_loaf 50 = .ok (.ldc 227, 2) := by decide +kernel
theorem dX12_loaf_52 : decode cX12_loaf 52 = .ok (.invokevirtual 224, 3) := by decide +kernel
theorem dX12_loaf_55 : decode cX12_loaf 55 = .ok (.iadd, 1) := by decide +kernel
theorem dX12_loaf_56 : decode cX12_loaf 56 = .ok (.iastore, 1) := by decide +kernel
theorem dX12_loaf_57 : decode cX12_loaf 57 = .ok (.aload_n 0, 1) := by decide +kernel
theorem dX12_loaf_58 : decode cX12_loaf 58 = .ok (.getfield 42, 3) := by decide +kernel
theorem dX12_loaf_61 : decode cX12_loaf 61 = .ok (.iload_n 2, 1) := by decide +kernel
theorem dX12_loaf_62 : decode cX12_loaf 62 = .ok (.aload_n 0, 1) := by decide +kernel
theorem dX12_loaf_63 : decode cX12_loaf 63 = .ok (.bipush 42, 2) := by decide +kernel
theorem dX12_loaf_65 : decode cX12_loaf 65 = .ok (.invokevirtual 229, 3) := by decide +kernel
theorem dX12_loaf_68 : decode cX12_loaf 68 = .ok (.bastore, 1) := by decide +kernel
theorem dX12_loaf_69 : decode cX12_loaf 69 = .ok (.iinc 2 1, 3) := by decide +kernel
theorem dX12_loaf_72 : decode cX12_loaf 72 = .ok (.goto (-58), 3) := by decide +kernel
theorem dX12_loaf_75 : decode cX12_loaf 75 = .ok (.aload_n 0, 1) := by decide +kernel
theorem dX12_loaf_76 : decode cX12_loaf 76 = .ok (.iload_n 1, 1) := by decide +kernel
theorem dX12_loaf_77 : decode cX12_loaf 77 = .ok (.bipush 64, 2) := by decide +kernel
theorem dX12_loaf_79 : decode cX12_loaf 79 = .ok (.iconst 1, 1) := by decide +kernel
theorem dX12_loaf_80 : decode cX12_loaf 80 = .ok (.invokevirtual 232, 3) := by decide +kernel
theorem dX12_loaf_83 : decode cX12_loaf 83 = .ok (.istore_n 3, 1) := by decide +kernel
theorem dX12_loaf_84 : decode cX12_loaf 84 = .ok (.iload_n 3, 1) := by decide +kernel
theorem dX12_loaf_85 : decode cX12_loaf 85 = .ok (.ifCond .ge 5, 3) := by decide +kernel
theorem dX12_loaf_88 : decode cX12_loaf 88 = .ok (.iload_n 3, 1) := by decide +kernel
theorem dX12_loaf_89 : decode cX12_loaf 89 = .ok (.ireturn, 1) := by decide +kernel
theorem dX12_loaf_90 : decode cX12_loaf 90 = .ok (.aload_n 0, 1) := by decide +kernel
theorem dX12_loaf_91 : decode cX12_loaf 91 = .ok (.iload_n 2, 1) := by decide +kernel
theorem dX12_loaf_92 : decode cX12_loaf 92 = .ok (.putfield 158, 3) := by decide +kernel
theorem dX12_loaf_95 : decode cX12_loaf 95 = .ok (.iconst 0, 1) := by decide +kernel
theorem dX12_loaf_96 : decode cX12_loaf 96 = .ok (.istore 4, 2) := by decide +kernel
theorem dX12_loaf_98 : decode cX12_loaf 98 = .ok (.iload 4, 2) := by decide +kernel
theorem dX12_loaf_100 : decode cX12_loaf 100 = .ok (.iload_n 2, 1) := by decide +kernel
theorem dX12_loaf_101 : decode cX12_loaf 101 = .ok (.if_icmp .ge 59, 3) := by decide +kernel
theorem dX12_loaf_104 : decode cX12_loaf 104 = .ok (.aload_n 0, 1) := by decide +kernel
theorem dX12_loaf_105 : decode cX12_loaf 105 = .ok (.getfield 13, 3) := by decide +kernel
theorem dX12_loaf_108 : decode cX12_loaf 108 = .ok (.iload 4, 2) := by decide +kernel
theorem dX12_loaf_110 : decode cX12_loaf 110 = .ok (.aload_n 0, 1) := by decide +kernel
theorem dX12_loaf_111 : decode cX12_loaf 111 = .ok (.getfield 36, 3) := by decide +kernel
theorem dX12_loaf_114 : decode cX12_loaf 114 = .ok (.iload 4, 2) := by decide +kernel
theorem dX12_loaf_116 : decode cX12_loaf 116 = .ok (.iaload, 1) := by decide +kernel
theorem dX12_loaf_117 : decode cX12_loaf 117 = .ok (.iastore, 1) := by decide +kernel
theorem dX12_loaf_118 : decode cX12_loaf 118 = .ok (.aload_n 0, 1) := by decide +kernel
theorem dX12_loaf_119 : decode cX12_loaf 119 = .ok (.getfield 17, 3) := by decide +kernel
theorem dX12_loaf_122 : decode cX12_loaf 122 = .ok (.iload 4, 2) := by decide +kernel
theorem dX12_loaf_124 : decode cX12_loaf 124 = .ok (.aload_n 0, 1) := by decide +kernel
theorem dX12_loaf_125 : decode cX12_loaf 125 = .ok (.getfield 39, 3) := by decide +kernel
theorem dX12_loaf_128 : decode cX12_loaf 128 = .ok (.iload 4, 2) := by decide +kernel
theorem dX12_loaf_130 : decode cX12_loaf 130 = .ok (.iaload, 1) := by decide +kernel
theorem dX12_loaf_131 : decode cX12_loaf 131 = .ok (.iastore, 1) := by decide +kernel
theorem dX12_loaf_132 : decode cX12_loaf 132 = .ok (.aload_n 0, 1) := by decide +kernel
theorem dX12_loaf_133 : decode cX12_loaf 133 = .ok (.getfield 20, 3) := by decide +kernel
theorem dX12_loaf_136 : decode cX12_loaf 136 = .ok (.iload 4, 2) := by decide +kernel
theorem dX12_loaf_138 : decode cX12_loaf 138 = .ok (.aload_n 0, 1) := by decide +kernel
theorem dX12_loaf_139 : decode cX12_loaf 139 = .ok (.getfield 42, 3) := by decide +kernel
theorem dX12_loaf_142 : decode cX12_loaf 142 = .ok (.iload 4, 2) := by decide +kernel
theorem dX12_loaf_144 : decode cX12_loaf 144 = .ok (.baload, 1) := by decide +kernel
theorem dX12_loaf_145 : decode cX12_loaf 145 = .ok (.bastore, 1) := by decide +kernel
theorem dX12_loaf_146 : decode cX12_loaf 146 = .ok (.aload_n 0, 1) := by decide +kernel
theorem dX12_loaf_147 : decode cX12_loaf 147 = .ok (.getfield 30, 3) := by decide +kernel
theorem dX12_loaf_150 : decode cX12_loaf 150 = .ok (.iload 4, 2) := by decide +kernel
theorem dX12_loaf_152 : decode cX12_loaf 152 = .ok (.iconst (-1), 1) := by decide +kernel
theorem dX12_loaf_153 : decode cX12_loaf 153 = .ok (.iastore, 1) := by decide +kernel
theorem dX12_loaf_154 : decode cX12_loaf 154 = .ok (.iinc 4 1, 3) := by decide +kernel
theorem dX12_loaf_157 : decode cX12_loaf 157 = .ok (.goto (-59), 3) := by decide +kernel
theorem dX12_loaf_160 : decode cX12_loaf 160 = .ok (.aload_n 0, 1) := by decide +kernel
theorem dX12_loaf_161 : decode cX12_loaf 161 = .ok (.iconst 0, 1) := by decide +kernel
theorem dX12_loaf_162 : decode cX12_loaf 162 = .ok (.putfield 236, 3) := by decide +kernel
theorem dX12_loaf_165 : decode cX12_loaf 165 = .ok (.aload_n 0, 1) := by decide +kernel
theorem dX12_loaf_166 : decode cX12_loaf 166 = .ok (.iconst 0, 1) := by decide +kernel
theorem dX12_loaf_167 : decode cX12_loaf 167 = .ok (.putfield 239, 3) := by decide +kernel
theorem dX12_loaf_170 : decode cX12_loaf 170 = .ok (.aload_n 0, 1) := by decide +kernel
theorem dX12_loaf_171 : decode cX12_loaf 171 = .ok (.dup, 1) := by decide +kernel
theorem dX12_loaf_172 : decode cX12_loaf 172 = .ok (.getfield 242, 3) := by decide +kernel
theorem dX12_loaf_175 : decode cX12_loaf 175 = .ok (.iconst 1, 1) := by decide +kernel
theorem dX12_loaf_176 : decode cX12_loaf 176 = .ok (.iadd, 1) := by decide +kernel
theorem dX12_loaf_177 : decode cX12_loaf 177 = .ok (.putfield 242, 3) := by decide +kernel
theorem dX12_loaf_180 : decode cX12_loaf 180 = .ok (.iload_n 2, 1) := by decide +kernel
theorem dX12_loaf_181 : decode cX12_loaf 181 = .ok (.ireturn, 1) := by decide +kernel
def xX12_loaf_160 (s_X12_begins : zq_Sp) (s_X12_among : zq_Sp) (s_X12_takesOf : zq_Sp) (s_X12_takes : zq_Sp) (s_X12_faultOf : zq_Sp) (J14 : zq_P) (J98 : zq_P) (Q : zq_Q) (ls : zq_L) (st : List Value) (h : zq_H) : Prop := (zi_aload 0 (zi_push (.int 0) (zi_putI 56 31 (zi_aload 0 (zi_push (.int 0) (zi_putI 56 53 (zi_aload 0 (zi_dup (zi_getI 56 5 (zi_push (.int 1) (zi_i2 (fun x y => x + y) (zi_putI 56 5 (zi_iload 2 (zi_iret Q)))))))))))))) ls st h
theorem kX12_loaf_160 {X : zq_X} {d : Nat} (C : zq_C X cX12_loaf 5 RX12 d) {d_X12_begins : Nat} {s_X12_begins : zq_Sp} (h_X12_begins : zq_M yX12_begins cX12_begins 3 (some .int) 1 d_X12_begins s_X12_begins) (g_X12_begins : d_X12_begins + 1 ≤ d) {d_X12_among : Nat} {s_X12_among : zq_Sp} (h_X12_among : zq_M yX12_among cX12_among 3 (some .int) 1 d_X12_among s_X12_among) (g_X12_among : d_X12_among + 1 ≤ d) {d_X12_takesOf : Nat} {s_X12_takesOf : zq_Sp} (h_X12_takesOf : zq_M yX12_takesOf cX12_takesOf 3 (some .int) 1 d_X12_takesOf s_X12_takesOf) (g_X12_takesOf : d_X12_takesOf + 1 ≤ d) {d_X12_takes : Nat} {s_X12_takes : zq_Sp} (h_X12_takes : zq_M yX12_takes cX12_takes 3 (some .boolean) 1 d_X12_takes s_X12_takes) (g_X12_takes : d_X12_takes + 1 ≤ d) {d_X12_faultOf : Nat} {s_X12_faultOf : zq_Sp} (h_X12_faultOf : zq_M yX12_faultOf cX12_faultOf 5 (some .int) 1 d_X12_faultOf s_X12_faultOf) (g_X12_faultOf : d_X12_faultOf + 1 ≤ d) {J14 : zq_P} (j14 : zq_ok X 5 14 J14) {J98 : zq_P} (j98 : zq_ok X 5 98 J98) {Q : zq_Q} (hq : zq_R X (some .int) 1 Q) : zq_ok X 5 160 (xX12_loaf_160 s_X12_begins s_X12_among s_X12_takesOf s_X12_takes s_X12_faultOf J14 J98 Q) := by
  refine zs_aload_n C dX12_loaf_160 rfl ?_
  refine zs_iconst C dX12_loaf_161 (by decide) ?_
  refine zs_putI C zp_56 zF12 (j := 31) ⟨by decide, rfl⟩ ⟨rfl, by decide +kernel⟩ zw_1127 dX12_loaf_162 ?_
  refine zs_aload_n C dX12_loaf_165 rfl ?_
  refine zs_iconst C dX12_loaf_166 (by decide) ?_
  refine zs_putI C zp_56 zF12 (j := 53) ⟨by decide, rfl⟩ ⟨rfl, by decide +kernel⟩ zw_1149 dX12_loaf_167 ?_
  refine zs_aload_n C dX12_loaf_170 rfl ?_
  refine zs_dup C dX12_loaf_171 ?_
  refine zs_getI C zp_56 zF12 (j := 5) ⟨by decide, rfl⟩ zw_1101 dX12_loaf_172 ?_
  refine zs_iconst C dX12_loaf_175 (by decide) ?_
  refine zs_iadd C dX12_loaf_176 ?_
  refine zs_putI C zp_56 zF12 (j := 5) ⟨by decide, rfl⟩ ⟨rfl, by decide +kernel⟩ zw_1101 dX12_loaf_177 ?_
  refine zs_iload_n C dX12_loaf_180 rfl ?_
  exact zs_iret C hq dX12_loaf_181
def xX12_loaf_104 (s_X12_begins : zq_Sp) (s_X12_among : zq_Sp) (s_X12_takesOf : zq_Sp) (s_X12_takes : zq_Sp) (s_X12_faultOf : zq_Sp) (J14 : zq_P) (J98 : zq_P) (Q : zq_Q) (ls : zq_L) (st : List Value) (h : zq_H) : Prop := (zi_aload 0 (zi_getR 56 58 (zi_iload 4 (zi_aload 0 (zi_getR 56 65 (zi_iload 4 (zi_aldI 65 16 (zi_astI 58 16 (zi_aload 0 (zi_getR 56 59 (zi_iload 4 (zi_aload 0 (zi_getR 56 66 (zi_iload 4 (zi_aldI 66 16 (zi_astI 59 16 (zi_aload 0 (zi_getR 56 60 (zi_iload 4 (zi_aload 0 (zi_getR 56 67 (zi_iload 4 (zi_aldI 67 16 (zi_astZ 60 16 (zi_aload 0 (zi_getR 56 63 (zi_iload 4 (zi_push (.int (-1)) (zi_astI 63 16 (zi_iinc 4 1 (J98))))))))))))))))))))))))))))))) ls st h
theorem kX12_loaf_104 {X : zq_X} {d : Nat} (C : zq_C X cX12_loaf 5 RX12 d) {d_X12_begins : Nat} {s_X12_begins : zq_Sp} (h_X12_begins : zq_M yX12_begins cX12_begins 3 (some .int) 1 d_X12_begins s_X12_begins) (g_X12_begins : d_X12_begins + 1 ≤ d) {d_X12_among : Nat} {s_X12_among : zq_Sp} (h_X12_among : zq_M yX12_among cX12_among 3 (some .int) 1 d_X12_among s_X12_among) (g_X12_among : d_X12_among + 1 ≤ d) {d_X12_takesOf : Nat} {s_X12_takesOf : zq_Sp} (h_X12_takesOf : zq_M yX12_takesOf cX12_takesOf 3 (some .int) 1 d_X12_takesOf s_X12_takesOf) (g_X12_takesOf : d_X12_takesOf + 1 ≤ d) {d_X12_takes : Nat} {s_X12_takes : zq_Sp} (h_X12_takes : zq_M yX12_takes cX12_takes 3 (some .boolean) 1 d_X12_takes s_X12_takes) (g_X12_takes : d_X12_takes + 1 ≤ d) {d_X12_faultOf : Nat} {s_X12_faultOf : zq_Sp} (h_X12_faultOf : zq_M yX12_faultOf cX12_faultOf 5 (some .int) 1 d_X12_faultOf s_X12_faultOf) (g_X12_faultOf : d_X12_faultOf + 1 ≤ d) {J14 : zq_P} (j14 : zq_ok X 5 14 J14) {J98 : zq_P} (j98 : zq_ok X 5 98 J98) {Q : zq_Q} (hq : zq_R X (some .int) 1 Q) : zq_ok X 5 104 (xX12_loaf_104 s_X12_begins s_X12_among s_X12_takesOf s_X12_takes s_X12_faultOf J14 J98 Q) := by
  refine zs_aload_n C dX12_loaf_104 rfl ?_
  refine zs_getR C zp_56 zF12 (j := 6) ⟨by decide, rfl⟩ zw_1102 dX12_loaf_105 ?_
  refine zs_iload C dX12_loaf_108 ?_
  refine zs_aload_n C dX12_loaf_110 rfl ?_
  refine zs_getR C zp_56 zF12 (j := 17) ⟨by decide, rfl⟩ zw_1113 dX12_loaf_111 ?_
  refine zs_iload C dX12_loaf_114 ?_
  refine zs_iaload C zp_65 dX12_loaf_116 ?_
  refine zs_iastore C zp_58 dX12_loaf_117 ?_
  refine zs_aload_n C dX12_loaf_118 rfl ?_
  refine zs_getR C zp_56 zF12 (j := 7) ⟨by decide, rfl⟩ zw_1103 dX12_loaf_119 ?_
  refine zs_iload C dX12_loaf_122 ?_
  refine zs_aload_n C dX12_loaf_124 rfl ?_
  refine zs_getR C zp_56 zF12 (j := 18) ⟨by decide, rfl⟩ zw_1114 dX12_loaf_125 ?_
  refine zs_iload C dX12_loaf_128 ?_
  refine zs_iaload C zp_66 dX12_loaf_130 ?_
  refine zs_iastore C zp_59 dX12_loaf_131 ?_
  refine zs_aload_n C dX12_loaf_132 rfl ?_
  refine zs_getR C zp_56 zF12 (j := 8) ⟨by decide, rfl⟩ zw_1104 dX12_loaf_133 ?_
  refine zs_iload C dX12_loaf_136 ?_
  refine zs_aload_n C dX12_loaf_138 rfl ?_
  refine zs_getR C zp_56 zF12 (j := 19) ⟨by decide, rfl⟩ zw_1115 dX12_loaf_139 ?_
  refine zs_iload C dX12_loaf_142 ?_
  refine zs_baload C zp_67 dX12_loaf_144 ?_
  refine zs_bastore C zp_60 dX12_loaf_145 ?_
  refine zs_aload_n C dX12_loaf_146 rfl ?_
  refine zs_getR C zp_56 zF12 (j := 11) ⟨by decide, rfl⟩ zw_1107 dX12_loaf_147 ?_
  refine zs_iload C dX12_loaf_150 ?_
  refine zs_iconst C dX12_loaf_152 (by decide) ?_
  refine zs_iastore C zp_63 dX12_loaf_153 ?_
  refine zs_iinc C dX12_loaf_154 (by decide) (by decide) ?_
  exact zs_goto C dX12_loaf_157 (by decide) (j98)
def xX12_loaf_98 (s_X12_begins : zq_Sp) (s_X12_among : zq_Sp) (s_X12_takesOf : zq_Sp) (s_X12_takes : zq_Sp) (s_X12_faultOf : zq_Sp) (J14 : zq_P) (J98 : zq_P) (Q : zq_Q) (ls : zq_L) (st : List Value) (h : zq_H) : Prop := (zi_iload 4 (zi_iload 2 (zi_if2 (fun x y => y ≤ x) (xX12_loaf_160 s_X12_begins s_X12_among s_X12_takesOf s_X12_takes s_X12_faultOf J14 J98 Q) (xX12_loaf_104 s_X12_begins s_X12_among s_X12_takesOf s_X12_takes s_X12_faultOf J14 J98 Q)))) ls st h
theorem kX12_loaf_98 {X : zq_X} {d : Nat} (C : zq_C X cX12_loaf 5 RX12 d) {d_X12_begins : Nat} {s_X12_begins : zq_Sp} (h_X12_begins : zq_M yX12_begins cX12_begins 3 (some .int) 1 d_X12_begins s_X12_begins) (g_X12_begins : d_X12_begins + 1 ≤ d) {d_X12_among : Nat} {s_X12_among : zq_Sp} (h_X12_among : zq_M yX12_among cX12_among 3 (some .int) 1 d_X12_among s_X12_among) (g_X12_among : d_X12_among + 1 ≤ d) {d_X12_takesOf : Nat} {s_X12_takesOf : zq_Sp} (h_X12_takesOf : zq_M yX12_takesOf cX12_takesOf 3 (some .int) 1 d_X12_takesOf s_X12_takesOf) (g_X12_takesOf : d_X12_takesOf + 1 ≤ d) {d_X12_takes : Nat} {s_X12_takes : zq_Sp} (h_X12_takes : zq_M yX12_takes cX12_takes 3 (some .boolean) 1 d_X12_takes s_X12_takes) (g_X12_takes : d_X12_takes + 1 ≤ d) {d_X12_faultOf : Nat} {s_X12_faultOf : zq_Sp} (h_X12_faultOf : zq_M yX12_faultOf cX12_faultOf 5 (some .int) 1 d_X12_faultOf s_X12_faultOf) (g_X12_faultOf : d_X12_faultOf + 1 ≤ d) {J14 : zq_P} (j14 : zq_ok X 5 14 J14) {J98 : zq_P} (j98 : zq_ok X 5 98 J98) {Q : zq_Q} (hq : zq_R X (some .int) 1 Q) : zq_ok X 5 98 (xX12_loaf_98 s_X12_begins s_X12_among s_X12_takesOf s_X12_takes s_X12_faultOf J14 J98 Q) := by
  refine zs_iload C dX12_loaf_98 ?_
  refine zs_iload_n C dX12_loaf_100 rfl ?_
  exact zs_icmp_ge C dX12_loaf_101 (by decide) (kX12_loaf_160 C h_X12_begins g_X12_begins h_X12_among g_X12_among h_X12_takesOf g_X12_takesOf h_X12_takes g_X12_takes h_X12_faultOf g_X12_faultOf j14 j98 hq) (kX12_loaf_104 C h_X12_begins g_X12_begins h_X12_among g_X12_among h_X12_takesOf g_X12_takesOf h_X12_takes g_X12_takes h_X12_faultOf g_X12_faultOf j14 j98 hq)
def xX12_loaf_90 (s_X12_begins : zq_Sp) (s_X12_among : zq_Sp) (s_X12_takesOf : zq_Sp) (s_X12_takes : zq_Sp) (s_X12_faultOf : zq_Sp) (J14 : zq_P) (J98 : zq_P) (Q : zq_Q) (ls : zq_L) (st : List Value) (h : zq_H) : Prop := (zi_aload 0 (zi_iload 2 (zi_putI 56 3 (zi_push (.int 0) (zi_istore 4 (J98)))))) ls st h
theorem kX12_loaf_90 {X : zq_X} {d : Nat} (C : zq_C X cX12_loaf 5 RX12 d) {d_X12_begins : Nat} {s_X12_begins : zq_Sp} (h_X12_begins : zq_M yX12_begins cX12_begins 3 (some .int) 1 d_X12_begins s_X12_begins) (g_X12_begins : d_X12_begins + 1 ≤ d) {d_X12_among : Nat} {s_X12_among : zq_Sp} (h_X12_among : zq_M yX12_among cX12_among 3 (some .int) 1 d_X12_among s_X12_among) (g_X12_among : d_X12_among + 1 ≤ d) {d_X12_takesOf : Nat} {s_X12_takesOf : zq_Sp} (h_X12_takesOf : zq_M yX12_takesOf cX12_takesOf 3 (some .int) 1 d_X12_takesOf s_X12_takesOf) (g_X12_takesOf : d_X12_takesOf + 1 ≤ d) {d_X12_takes : Nat} {s_X12_takes : zq_Sp} (h_X12_takes : zq_M yX12_takes cX12_takes 3 (some .boolean) 1 d_X12_takes s_X12_takes) (g_X12_takes : d_X12_takes + 1 ≤ d) {d_X12_faultOf : Nat} {s_X12_faultOf : zq_Sp} (h_X12_faultOf : zq_M yX12_faultOf cX12_faultOf 5 (some .int) 1 d_X12_faultOf s_X12_faultOf) (g_X12_faultOf : d_X12_faultOf + 1 ≤ d) {J14 : zq_P} (j14 : zq_ok X 5 14 J14) {J98 : zq_P} (j98 : zq_ok X 5 98 J98) {Q : zq_Q} (hq : zq_R X (some .int) 1 Q) : zq_ok X 5 90 (xX12_loaf_90 s_X12_begins s_X12_among s_X12_takesOf s_X12_takes s_X12_faultOf J14 J98 Q) := by
  refine zs_aload_n C dX12_loaf_90 rfl ?_
  refine zs_iload_n C dX12_loaf_91 rfl ?_
  refine zs_putI C zp_56 zF12 (j := 3) ⟨by decide, rfl⟩ ⟨rfl, by decide +kernel⟩ zw_1099 dX12_loaf_92 ?_
  refine zs_iconst C dX12_loaf_95 (by decide) ?_
  refine zs_istore C dX12_loaf_96 (by decide) ?_
  exact j98
def xX12_loaf_88 (s_X12_begins : zq_Sp) (s_X12_among : zq_Sp) (s_X12_takesOf : zq_Sp) (s_X12_takes : zq_Sp) (s_X12_faultOf : zq_Sp) (J14 : zq_P) (J98 : zq_P) (Q : zq_Q) (ls : zq_L) (st : List Value) (h : zq_H) : Prop := (zi_iload 3 (zi_iret Q)) ls st h
theorem kX12_loaf_88 {X : zq_X} {d : Nat} (C : zq_C X cX12_loaf 5 RX12 d) {d_X12_begins : Nat} {s_X12_begins : zq_Sp} (h_X12_begins : zq_M yX12_begins cX12_begins 3 (some .int) 1 d_X12_begins s_X12_begins) (g_X12_begins : d_X12_begins + 1 ≤ d) {d_X12_among : Nat} {s_X12_among : zq_Sp} (h_X12_among : zq_M yX12_among cX12_among 3 (some .int) 1 d_X12_among s_X12_among) (g_X12_among : d_X12_among + 1 ≤ d) {d_X12_takesOf : Nat} {s_X12_takesOf : zq_Sp} (h_X12_takesOf : zq_M yX12_takesOf cX12_takesOf 3 (some .int) 1 d_X12_takesOf s_X12_takesOf) (g_X12_takesOf : d_X12_takesOf + 1 ≤ d) {d_X12_takes : Nat} {s_X12_takes : zq_Sp} (h_X12_takes : zq_M yX12_takes cX12_takes 3 (some .boolean) 1 d_X12_takes s_X12_takes) (g_X12_takes : d_X12_takes + 1 ≤ d) {d_X12_faultOf : Nat} {s_X12_faultOf : zq_Sp} (h_X12_faultOf : zq_M yX12_faultOf cX12_faultOf 5 (some .int) 1 d_X12_faultOf s_X12_faultOf) (g_X12_faultOf : d_X12_faultOf + 1 ≤ d) {J14 : zq_P} (j14 : zq_ok X 5 14 J14) {J98 : zq_P} (j98 : zq_ok X 5 98 J98) {Q : zq_Q} (hq : zq_R X (some .int) 1 Q) : zq_ok X 5 88 (xX12_loaf_88 s_X12_begins s_X12_among s_X12_takesOf s_X12_takes s_X12_faultOf J14 J98 Q) := by
  refine zs_iload_n C dX12_loaf_88 rfl ?_
  exact zs_iret C hq dX12_loaf_89
def xX12_loaf_75 (s_X12_begins : zq_Sp) (s_X12_among : zq_Sp) (s_X12_takesOf : zq_Sp) (s_X12_takes : zq_Sp) (s_X12_faultOf : zq_Sp) (J14 : zq_P) (J98 : zq_P) (Q : zq_Q) (ls : zq_L) (st : List Value) (h : zq_H) : Prop := (zi_aload 0 (zi_iload 1 (zi_push (.int 64) (zi_push (.int 1) (zi_callV 3 56 s_X12_faultOf (zi_istore 3 (zi_iload 3 (zi_if1 (fun x => 0 ≤ x) (xX12_loaf_90 s_X12_begins s_X12_among s_X12_takesOf s_X12_takes s_X12_faultOf J14 J98 Q) (xX12_loaf_88 s_X12_begins s_X12_among s_X12_takesOf s_X12_takes s_X12_faultOf J14 J98 Q))))))))) ls st h
theorem kX12_loaf_75 {X : zq_X} {d : Nat} (C : zq_C X cX12_loaf 5 RX12 d) {d_X12_begins : Nat} {s_X12_begins : zq_Sp} (h_X12_begins : zq_M yX12_begins cX12_begins 3 (some .int) 1 d_X12_begins s_X12_begins) (g_X12_begins : d_X12_begins + 1 ≤ d) {d_X12_among : Nat} {s_X12_among : zq_Sp} (h_X12_among : zq_M yX12_among cX12_among 3 (some .int) 1 d_X12_among s_X12_among) (g_X12_among : d_X12_among + 1 ≤ d) {d_X12_takesOf : Nat} {s_X12_takesOf : zq_Sp} (h_X12_takesOf : zq_M yX12_takesOf cX12_takesOf 3 (some .int) 1 d_X12_takesOf s_X12_takesOf) (g_X12_takesOf : d_X12_takesOf + 1 ≤ d) {d_X12_takes : Nat} {s_X12_takes : zq_Sp} (h_X12_takes : zq_M yX12_takes cX12_takes 3 (some .boolean) 1 d_X12_takes s_X12_takes) (g_X12_takes : d_X12_takes + 1 ≤ d) {d_X12_faultOf : Nat} {s_X12_faultOf : zq_Sp} (h_X12_faultOf : zq_M yX12_faultOf cX12_faultOf 5 (some .int) 1 d_X12_faultOf s_X12_faultOf) (g_X12_faultOf : d_X12_faultOf + 1 ≤ d) {J14 : zq_P} (j14 : zq_ok X 5 14 J14) {J98 : zq_P} (j98 : zq_ok X 5 98 J98) {Q : zq_Q} (hq : zq_R X (some .int) 1 Q) : zq_ok X 5 75 (xX12_loaf_75 s_X12_begins s_X12_among s_X12_takesOf s_X12_takes s_X12_faultOf J14 J98 Q) := by
  refine zs_aload_n C dX12_loaf_75 rfl ?_
  refine zs_iload_n C dX12_loaf_76 rfl ?_
  refine zs_bipush C dX12_loaf_77 (by decide) ?_
  refine zs_iconst C dX12_loaf_79 (by decide) ?_
  refine zs_callV C h_X12_faultOf g_X12_faultOf zy_X12_faultOf zp_56 (show vwCl[12]? = some (RX12, TX12, 67) from rfl) zw_1388 zw_1390 zs9_X12_faultOf dX12_loaf_80 ?_
  refine zs_istore_n C dX12_loaf_83 rfl (by decide) ?_
  refine zs_iload_n C dX12_loaf_84 rfl ?_
  exact zs_if_ge C dX12_loaf_85 (by decide) (kX12_loaf_90 C h_X12_begins g_X12_begins h_X12_among g_X12_among h_X12_takesOf g_X12_takesOf h_X12_takes g_X12_takes h_X12_faultOf g_X12_faultOf j14 j98 hq) (kX12_loaf_88 C h_X12_begins g_X12_begins h_X12_among g_X12_among h_X12_takesOf g_X12_takesOf h_X12_takes g_X12_takes h_X12_faultOf g_X12_faultOf j14 j98 hq)
def xX12_loaf_29 (s_X12_begins : zq_Sp) (s_X12_among : zq_Sp) (s_X12_takesOf : zq_Sp) (s_X12_takes : zq_Sp) (s_X12_faultOf : zq_Sp) (J14 : zq_P) (J98 : zq_P) (Q : zq_Q) (ls : zq_L) (st : List Value) (h : zq_H) : Prop := (zi_aload 0 (zi_getR 56 65 (zi_iload 2 (zi_push (.int 1) (zi_aload 0 (zi_push (.ref 200) (zi_callV 1 56 s_X12_takesOf (zi_i2 (fun x y => x + y) (zi_astI 65 16 (zi_aload 0 (zi_getR 56 66 (zi_iload 2 (zi_push (.int 1) (zi_aload 0 (zi_push (.ref 201) (zi_callV 1 56 s_X12_takesOf (zi_i2 (fun x y => x + y) (zi_astI 66 16 (zi_aload 0 (zi_getR 56 67 (zi_iload 2 (zi_aload 0 (zi_push (.int 42) (zi_callV 1 56 s_X12_takes (zi_astZ 67 16 (zi_iinc 2 1 (J14))))))))))))))))))))))))))) ls st h
theorem kX12_loaf_29 {X : zq_X} {d : Nat} (C : zq_C X cX12_loaf 5 RX12 d) {d_X12_begins : Nat} {s_X12_begins : zq_Sp} (h_X12_begins : zq_M yX12_begins cX12_begins 3 (some .int) 1 d_X12_begins s_X12_begins) (g_X12_begins : d_X12_begins + 1 ≤ d) {d_X12_among : Nat} {s_X12_among : zq_Sp} (h_X12_among : zq_M yX12_among cX12_among 3 (some .int) 1 d_X12_among s_X12_among) (g_X12_among : d_X12_among + 1 ≤ d) {d_X12_takesOf : Nat} {s_X12_takesOf : zq_Sp} (h_X12_takesOf : zq_M yX12_takesOf cX12_takesOf 3 (some .int) 1 d_X12_takesOf s_X12_takesOf) (g_X12_takesOf : d_X12_takesOf + 1 ≤ d) {d_X12_takes : Nat} {s_X12_takes : zq_Sp} (h_X12_takes : zq_M yX12_takes cX12_takes 3 (some .boolean) 1 d_X12_takes s_X12_takes) (g_X12_takes : d_X12_takes + 1 ≤ d) {d_X12_faultOf : Nat} {s_X12_faultOf : zq_Sp} (h_X12_faultOf : zq_M yX12_faultOf cX12_faultOf 5 (some .int) 1 d_X12_faultOf s_X12_faultOf) (g_X12_faultOf : d_X12_faultOf + 1 ≤ d) {J14 : zq_P} (j14 : zq_ok X 5 14 J14) {J98 : zq_P} (j98 : zq_ok X 5 98 J98) {Q : zq_Q} (hq : zq_R X (some .int) 1 Q) : zq_ok X 5 29 (xX12_loaf_29 s_X12_begins s_X12_among s_X12_takesOf s_X12_takes s_X12_faultOf J14 J98 Q) := by
  refine zs_aload_n C dX12_loaf_29 rfl ?_
  refine zs_getR C zp_56 zF12 (j := 17) ⟨by decide, rfl⟩ zw_1113 dX12_loaf_30 ?_
  refine zs_iload_n C dX12_loaf_33 rfl ?_
  refine zs_iconst C dX12_loaf_34 (by decide) ?_
  refine zs_aload_n C dX12_loaf_35 rfl ?_
  refine zs_ldcS C (i := 0) rfl rfl dX12_loaf_36 ?_
  refine zs_callV C h_X12_takesOf g_X12_takesOf zy_X12_takesOf zp_56 (show vwCl[12]? = some (RX12, TX12, 67) from rfl) zw_1376 zw_1378 zs9_X12_takesOf dX12_loaf_38 ?_
  refine zs_iadd C dX12_loaf_41 ?_
  refine zs_iastore C zp_65 dX12_loaf_42 ?_
  refine zs_aload_n C dX12_loaf_43 rfl ?_
  refine zs_getR C zp_56 zF12 (j := 18) ⟨by decide, rfl⟩ zw_1114 dX12_loaf_44 ?_
  refine zs_iload_n C dX12_loaf_47 rfl ?_
  refine zs_iconst C dX12_loaf_48 (by decide) ?_
  refine zs_aload_n C dX12_loaf_49 rfl ?_
  refine zs_ldcS C (i := 1) rfl rfl dX12_loaf_50 ?_
  refine zs_callV C h_X12_takesOf g_X12_takesOf zy_X12_takesOf zp_56 (show vwCl[12]? = some (RX12, TX12, 67) from rfl) zw_1376 zw_1378 zs9_X12_takesOf dX12_loaf_52 ?_
  refine zs_iadd C dX12_loaf_55 ?_
  refine zs_iastore C zp_66 dX12_loaf_56 ?_
  refine zs_aload_n C dX12_loaf_57 rfl ?_
  refine zs_getR C zp_56 zF12 (j := 19) ⟨by decide, rfl⟩ zw_1115 dX12_loaf_58 ?_
  refine zs_iload_n C dX12_loaf_61 rfl ?_
  refine zs_aload_n C dX12_loaf_62 rfl ?_
  refine zs_bipush C dX12_loaf_63 (by decide) ?_
  refine zs_callV C h_X12_takes g_X12_takes zy_X12_takes zp_56 (show vwCl[12]? = some (RX12, TX12, 67) from rfl) zw_1384 zw_1386 zs9_X12_takes dX12_loaf_65 ?_
  refine zs_bastore C zp_67 dX12_loaf_68 ?_
  refine zs_iinc C dX12_loaf_69 (by decide) (by decide) ?_
  exact zs_goto C dX12_loaf_72 (by decide) (j14)
def xX12_loaf_20 (s_X12_begins : zq_Sp) (s_X12_among : zq_Sp) (s_X12_takesOf : zq_Sp) (s_X12_takes : zq_Sp) (s_X12_faultOf : zq_Sp) (J14 : zq_P) (J98 : zq_P) (Q : zq_Q) (ls : zq_L) (st : List Value) (h : zq_H) : Prop := (zi_aload 0 (zi_push (.ref 200) (zi_callV 1 56 s_X12_among (zi_if1 (fun x => x < 0) (xX12_loaf_75 s_X12_begins s_X12_among s_X12_takesOf s_X12_takes s_X12_faultOf J14 J98 Q) (xX12_loaf_29 s_X12_begins s_X12_among s_X12_takesOf s_X12_takes s_X12_faultOf J14 J98 Q))))) ls st h
theorem kX12_loaf_20 {X : zq_X} {d : Nat} (C : zq_C X cX12_loaf 5 RX12 d) {d_X12_begins : Nat} {s_X12_begins : zq_Sp} (h_X12_begins : zq_M yX12_begins cX12_begins 3 (some .int) 1 d_X12_begins s_X12_begins) (g_X12_begins : d_X12_begins + 1 ≤ d) {d_X12_among : Nat} {s_X12_among : zq_Sp} (h_X12_among : zq_M yX12_among cX12_among 3 (some .int) 1 d_X12_among s_X12_among) (g_X12_among : d_X12_among + 1 ≤ d) {d_X12_takesOf : Nat} {s_X12_takesOf : zq_Sp} (h_X12_takesOf : zq_M yX12_takesOf cX12_takesOf 3 (some .int) 1 d_X12_takesOf s_X12_takesOf) (g_X12_takesOf : d_X12_takesOf + 1 ≤ d) {d_X12_takes : Nat} {s_X12_takes : zq_Sp} (h_X12_takes : zq_M yX12_takes cX12_takes 3 (some .boolean) 1 d_X12_takes s_X12_takes) (g_X12_takes : d_X12_takes + 1 ≤ d) {d_X12_faultOf : Nat} {s_X12_faultOf : zq_Sp} (h_X12_faultOf : zq_M yX12_faultOf cX12_faultOf 5 (some .int) 1 d_X12_faultOf s_X12_faultOf) (g_X12_faultOf : d_X12_faultOf + 1 ≤ d) {J14 : zq_P} (j14 : zq_ok X 5 14 J14) {J98 : zq_P} (j98 : zq_ok X 5 98 J98) {Q : zq_Q} (hq : zq_R X (some .int) 1 Q) : zq_ok X 5 20 (xX12_loaf_20 s_X12_begins s_X12_among s_X12_takesOf s_X12_takes s_X12_faultOf J14 J98 Q) := by
  refine zs_aload_n C dX12_loaf_20 rfl ?_
  refine zs_ldcS C (i := 0) rfl rfl dX12_loaf_21 ?_
  refine zs_callV C h_X12_among g_X12_among zy_X12_among zp_56 (show vwCl[12]? = some (RX12, TX12, 67) from rfl) zw_1324 zw_1326 zs9_X12_among dX12_loaf_23 ?_
  exact zs_if_lt C dX12_loaf_26 (by decide) (kX12_loaf_75 C h_X12_begins g_X12_begins h_X12_among g_X12_among h_X12_takesOf g_X12_takesOf h_X12_takes g_X12_takes h_X12_faultOf g_X12_faultOf j14 j98 hq) (kX12_loaf_29 C h_X12_begins g_X12_begins h_X12_among g_X12_among h_X12_takesOf g_X12_takesOf h_X12_takes g_X12_takes h_X12_faultOf g_X12_faultOf j14 j98 hq)
def xX12_loaf_14 (s_X12_begins : zq_Sp) (s_X12_among : zq_Sp) (s_X12_takesOf : zq_Sp) (s_X12_takes : zq_Sp) (s_X12_faultOf : zq_Sp) (J14 : zq_P) (J98 : zq_P) (Q : zq_Q) (ls : zq_L) (st : List Value) (h : zq_H) : Prop := (zi_iload 2 (zi_push (.int 16) (zi_if2 (fun x y => y ≤ x) (xX12_loaf_75 s_X12_begins s_X12_among s_X12_takesOf s_X12_takes s_X12_faultOf J14 J98 Q) (xX12_loaf_20 s_X12_begins s_X12_among s_X12_takesOf s_X12_takes s_X12_faultOf J14 J98 Q)))) ls st h
theorem kX12_loaf_14 {X : zq_X} {d : Nat} (C : zq_C X cX12_loaf 5 RX12 d) {d_X12_begins : Nat} {s_X12_begins : zq_Sp} (h_X12_begins : zq_M yX12_begins cX12_begins 3 (some .int) 1 d_X12_begins s_X12_begins) (g_X12_begins : d_X12_begins + 1 ≤ d) {d_X12_among : Nat} {s_X12_among : zq_Sp} (h_X12_among : zq_M yX12_among cX12_among 3 (some .int) 1 d_X12_among s_X12_among) (g_X12_among : d_X12_among + 1 ≤ d) {d_X12_takesOf : Nat} {s_X12_takesOf : zq_Sp} (h_X12_takesOf : zq_M yX12_takesOf cX12_takesOf 3 (some .int) 1 d_X12_takesOf s_X12_takesOf) (g_X12_takesOf : d_X12_takesOf + 1 ≤ d) {d_X12_takes : Nat} {s_X12_takes : zq_Sp} (h_X12_takes : zq_M yX12_takes cX12_takes 3 (some .boolean) 1 d_X12_takes s_X12_takes) (g_X12_takes : d_X12_takes + 1 ≤ d) {d_X12_faultOf : Nat} {s_X12_faultOf : zq_Sp} (h_X12_faultOf : zq_M yX12_faultOf cX12_faultOf 5 (some .int) 1 d_X12_faultOf s_X12_faultOf) (g_X12_faultOf : d_X12_faultOf + 1 ≤ d) {J14 : zq_P} (j14 : zq_ok X 5 14 J14) {J98 : zq_P} (j98 : zq_ok X 5 98 J98) {Q : zq_Q} (hq : zq_R X (some .int) 1 Q) : zq_ok X 5 14 (xX12_loaf_14 s_X12_begins s_X12_among s_X12_takesOf s_X12_takes s_X12_faultOf J14 J98 Q) := by
  refine zs_iload_n C dX12_loaf_14 rfl ?_
  refine zs_bipush C dX12_loaf_15 (by decide) ?_
  exact zs_icmp_ge C dX12_loaf_17 (by decide) (kX12_loaf_75 C h_X12_begins g_X12_begins h_X12_among g_X12_among h_X12_takesOf g_X12_takesOf h_X12_takes g_X12_takes h_X12_faultOf g_X12_faultOf j14 j98 hq) (kX12_loaf_20 C h_X12_begins g_X12_begins h_X12_among g_X12_among h_X12_takesOf g_X12_takesOf h_X12_takes g_X12_takes h_X12_faultOf g_X12_faultOf j14 j98 hq)
def xX12_loaf_0 (s_X12_begins : zq_Sp) (s_X12_among : zq_Sp) (s_X12_takesOf : zq_Sp) (s_X12_takes : zq_Sp) (s_X12_faultOf : zq_Sp) (J14 : zq_P) (J98 : zq_P) (Q : zq_Q) (ls : zq_L) (st : List Value) (h : zq_H) : Prop := (zi_aload 0 (zi_push (.int 0) (zi_putI 56 0 (zi_aload 0 (zi_push (.int 64) (zi_callV 1 56 s_X12_begins (zi_istore 1 (zi_push (.int 0) (zi_istore 2 (J14)))))))))) ls st h
theorem kX12_loaf_0 {X : zq_X} {d : Nat} (C : zq_C X cX12_loaf 5 RX12 d) {d_X12_begins : Nat} {s_X12_begins : zq_Sp} (h_X12_begins : zq_M yX12_begins cX12_begins 3 (some .int) 1 d_X12_begins s_X12_begins) (g_X12_begins : d_X12_begins + 1 ≤ d) {d_X12_among : Nat} {s_X12_among : zq_Sp} (h_X12_among : zq_M yX12_among cX12_among 3 (some .int) 1 d_X12_among s_X12_among) (g_X12_among : d_X12_among + 1 ≤ d) {d_X12_takesOf : Nat} {s_X12_takesOf : zq_Sp} (h_X12_takesOf : zq_M yX12_takesOf cX12_takesOf 3 (some .int) 1 d_X12_takesOf s_X12_takesOf) (g_X12_takesOf : d_X12_takesOf + 1 ≤ d) {d_X12_takes : Nat} {s_X12_takes : zq_Sp} (h_X12_takes : zq_M yX12_takes cX12_takes 3 (some .boolean) 1 d_X12_takes s_X12_takes) (g_X12_takes : d_X12_takes + 1 ≤ d) {d_X12_faultOf : Nat} {s_X12_faultOf : zq_Sp} (h_X12_faultOf : zq_M yX12_faultOf cX12_faultOf 5 (some .int) 1 d_X12_faultOf s_X12_faultOf) (g_X12_faultOf : d_X12_faultOf + 1 ≤ d) {J14 : zq_P} (j14 : zq_ok X 5 14 J14) {J98 : zq_P} (j98 : zq_ok X 5 98 J98) {Q : zq_Q} (hq : zq_R X (some .int) 1 Q) : zq_ok X 5 0 (xX12_loaf_0 s_X12_begins s_X12_among s_X12_takesOf s_X12_takes s_X12_faultOf J14 J98 Q) := by
  refine zs_aload_n C dX12_loaf_0 rfl ?_
  refine zs_iconst C dX12_loaf_1 (by decide) ?_
  refine zs_putI C zp_56 zF12 (j := 0) ⟨by decide, rfl⟩ ⟨rfl, by decide +kernel⟩ zw_1096 dX12_loaf_2 ?_
  refine zs_aload_n C dX12_loaf_5 rfl ?_
  refine zs_bipush C dX12_loaf_6 (by decide) ?_
  refine zs_callV C h_X12_begins g_X12_begins zy_X12_begins zp_56 (show vwCl[12]? = some (RX12, TX12, 67) from rfl) zw_1318 zw_1320 zs9_X12_begins dX12_loaf_8 ?_
  refine zs_istore_n C dX12_loaf_11 rfl (by decide) ?_
  refine zs_iconst C dX12_loaf_12 (by decide) ?_
  refine zs_istore_n C dX12_loaf_13 rfl (by decide) ?_
  exact j14
theorem mX12_loaf {d : Nat} {spec : zq_Sp} {σ14 : Type} {σ98 : Type} {d_X12_begins : Nat} {s_X12_begins : zq_Sp} (h_X12_begins : zq_M yX12_begins cX12_begins 3 (some .int) 1 d_X12_begins s_X12_begins) (g_X12_begins : d_X12_begins + 1 ≤ d) {d_X12_among : Nat} {s_X12_among : zq_Sp} (h_X12_among : zq_M yX12_among cX12_among 3 (some .int) 1 d_X12_among s_X12_among) (g_X12_among : d_X12_among + 1 ≤ d) {d_X12_takesOf : Nat} {s_X12_takesOf : zq_Sp} (h_X12_takesOf : zq_M yX12_takesOf cX12_takesOf 3 (some .int) 1 d_X12_takesOf s_X12_takesOf) (g_X12_takesOf : d_X12_takesOf + 1 ≤ d) {d_X12_takes : Nat} {s_X12_takes : zq_Sp} (h_X12_takes : zq_M yX12_takes cX12_takes 3 (some .boolean) 1 d_X12_takes s_X12_takes) (g_X12_takes : d_X12_takes + 1 ≤ d) {d_X12_faultOf : Nat} {s_X12_faultOf : zq_Sp} (h_X12_faultOf : zq_M yX12_faultOf cX12_faultOf 5 (some .int) 1 d_X12_faultOf s_X12_faultOf) (g_X12_faultOf : d_X12_faultOf + 1 ≤ d) (μ14 : σ14 → Nat) (I14 : zq_Q → σ14 → zq_P) (μ98 : σ98 → Nat) (I98 : zq_Q → σ98 → zq_P) (v : ∀ args h Q, spec args h Q → (zq_a args).length ≤ 5 ∧ xX12_loaf_0 s_X12_begins s_X12_among s_X12_takesOf s_X12_takes s_X12_faultOf (fun ls st h => ∃ b, I14 Q b ls st h) (fun ls st h => ∃ b, I98 Q b ls st h) Q (zq_l0 5 args) [] h) (v14 : ∀ Q a ls st h, I14 Q a ls st h → xX12_loaf_14 s_X12_begins s_X12_among s_X12_takesOf s_X12_takes s_X12_faultOf (fun ls st h => ∃ b, μ14 b < μ14 a ∧ I14 Q b ls st h) (fun ls st h => ∃ b, μ98 b < μ14 a ∧ I98 Q b ls st h) Q ls st h) (v98 : ∀ Q a ls st h, I98 Q a ls st h → xX12_loaf_98 s_X12_begins s_X12_among s_X12_takesOf s_X12_takes s_X12_faultOf (fun ls st h => ∃ b, μ14 b < μ98 a ∧ I14 Q b ls st h) (fun ls st h => ∃ b, μ98 b < μ98 a ∧ I98 Q b ls st h) Q ls st h) : zq_M yX12_loaf cX12_loaf 5 (some .int) 1 d spec := by
  refine zq_met (by decide +kernel) (by decide) (fun X Q args h C hq hs => ⟨(v args h Q hs).1, _, ?_, (v args h Q hs).2⟩)
  have hl := zq_loop2 (X := X) (nL := 5) (pc1 := 14) (pc2 := 98) μ14 μ98 (I14 Q) (I98 Q) (fun J14 J98 => xX12_loaf_14 s_X12_begins s_X12_among s_X12_takesOf s_X12_takes s_X12_faultOf J14 J98 Q) (fun J14 J98 => xX12_loaf_98 s_X12_begins s_X12_among s_X12_takesOf s_X12_takes s_X12_faultOf J14 J98 Q) (fun j14 j98 => kX12_loaf_14 C h_X12_begins g_X12_begins h_X12_among g_X12_among h_X12_takesOf g_X12_takesOf h_X12_takes g_X12_takes h_X12_faultOf g_X12_faultOf j14 j98 hq) (fun j14 j98 => kX12_loaf_98 C h_X12_begins g_X12_begins h_X12_among g_X12_among h_X12_takesOf g_X12_takesOf h_X12_takes g_X12_takes h_X12_faultOf g_X12_faultOf j14 j98 hq) (v14 Q) (v98 Q)
  exact kX12_loaf_0 C h_X12_begins g_X12_begins h_X12_among g_X12_among h_X12_takesOf g_X12_takesOf h_X12_takes g_X12_takes h_X12_faultOf g_X12_faultOf hl.1 hl.2 hq
/-! ToOneCrumbModel.readsGuest()Z -/
theorem dX12_readsGuest_0 : decode cX12_readsGuest 0 = .ok (.aload_n 0, 1) := by decide +kernel
theorem dX12_readsGuest_1 : decode cX12_readsGuest 1 = .ok (.getfield 165, 3) := by decide +kernel
theorem dX12_readsGuest_4 : decode cX12_readsGuest 4 = .ok (.aload_n 0, 1) := by decide +kernel
theorem dX12_readsGuest_5 : decode cX12_readsGuest 5 = .ok (.getfield 245, 3) := by decide +kernel
theorem dX12_readsGuest_8 : decode cX12_readsGuest 8 = .ok (.iadd, 1) := by decide +kernel
theorem dX12_readsGuest_9 : decode cX12_readsGuest 9 = .ok (.bipush 6, 2) := by decide +kernel
theorem dX12_readsGuest_11 : decode cX12_readsGuest 11 = .ok (.if_icmp .ne 5, 3) := by decide +kernel
theorem dX12_readsGuest_14 : decode cX12_readsGuest 14 = .ok (.iconst 0, 1) := by decide +kernel
theorem dX12_readsGuest_15 : decode cX12_readsGuest 15 = .ok (.ireturn, 1) := by decide +kernel
theorem dX12_readsGuest_16 : decode cX12_readsGuest 16 = .ok (.iconst 1, 1) := by decide +kernel
theorem dX12_readsGuest_17 : decode cX12_readsGuest 17 = .ok (.istore_n 1, 1) := by decide +kernel
theorem dX12_readsGuest_18 : decode cX12_readsGuest 18 = .ok (.iconst 0, 1) := by decide +kernel
theorem dX12_readsGuest_19 : decode cX12_readsGuest 19 = .ok (.istore_n 2, 1) := by decide +kernel
theorem dX12_readsGuest_20 : decode cX12_readsGuest 20 = .ok (.iload_n 2, 1) := by decide +kernel
theorem dX12_readsGuest_21 : decode cX12_readsGuest 21 = .ok (.iconst 3, 1) := by decide +kernel
theorem dX12_readsGuest_22 : decode cX12_readsGuest 22 = .ok (.if_icmp .ge 53, 3) := by decide +kernel
theorem dX12_readsGuest_25 : decode cX12_readsGuest 25 = .ok (.iload_n 1, 1) := by decide +kernel
theorem dX12_readsGuest_26 : decode cX12_readsGuest 26 = .ok (.ifCond .eq 49, 3) := by decide +kernel
theorem dX12_readsGuest_29 : decode cX12_readsGuest 29 = .ok (.aload_n 0, 1) := by decide +kernel
theorem dX12_readsGuest_30 : decode cX12_readsGuest 30 = .ok (.getfield 45, 3) := by decide +kernel
theorem dX12_readsGuest_33 : decode cX12_readsGuest 33 = .ok (.iconst 3, 1) := by decide +kernel
theorem dX12_readsGuest_34 : decode cX12_readsGuest 34 = .ok (.aload_n 0, 1) := by decide +kernel
theorem dX12_readsGuest_35 : decode cX12_readsGuest 35 = .ok (.getfield 245, 3) := by decide +kernel
theorem dX12_readsGuest_38 : decode cX12_readsGuest 38 = .ok (.imul, 1) := by decide +kernel
theorem dX12_readsGuest_39 : decode cX12_readsGuest 39 = .ok (.iload_n 2, 1) := by decide +kernel
theorem dX12_readsGuest_40 : decode cX12_readsGuest 40 = .ok (.iadd, 1) := by decide +kernel
theorem dX12_readsGuest_41 : decode cX12_readsGuest 41 = .ok (.aload_n 0, 1) := by decide +kernel
theorem dX12_readsGuest_42 : decode cX12_readsGuest 42 = .ok (.iconst 1, 1) := by decide +kernel
theorem dX12_readsGuest_43 : decode cX12_readsGuest 43 = .ok (.invokevirtual 248, 3) := by decide +kernel
theorem dX12_readsGuest_46 : decode cX12_readsGuest 46 = .ok (.iastore, 1) := by decide +kernel
theorem dX12_readsGuest_47 : decode cX12_readsGuest 47 = .ok (.aload_n 0, 1) := by decide +kernel
theorem dX12_readsGuest_48 : decode cX12_readsGuest 48 = .ok (.getfield 45, 3) := by decide +kernel
theorem dX12_readsGuest_51 : decode cX12_readsGuest 51 = .ok (.iconst 3, 1) := by decide +kernel
theorem dX12_readsGuest_52 : decode cX12_readsGuest 52 = .ok (.aload_n 0, 1) := by decide +kernel
theorem dX12_readsGuest_53 : decode cX12_readsGuest 53 = .ok (.getfield 245, 3) := by decide +kernel
theorem dX12_readsGuest_56 : decode cX12_readsGuest 56 = .ok (.imul, 1) := by decide +kernel
theorem dX12_readsGuest_57 : decode cX12_readsGuest 57 = .ok (.iload_n 2, 1) := by decide +kernel
theorem dX12_readsGuest_58 : decode cX12_readsGuest 58 = .ok (.iadd, 1) := by decide +kernel
theorem dX12_readsGuest_59 : decode cX12_readsGuest 59 = .ok (.iaload, 1) := by decide +kernel
theorem dX12_readsGuest_60 : decode cX12_readsGuest 60 = .ok (.ifCond .lt 7, 3) := by decide +kernel
theorem dX12_readsGuest_63 : decode cX12_readsGuest 63 = .ok (.iconst 1, 1) := by decide +kernel
theorem dX12_readsGuest_64 : decode cX12_readsGuest 64 = .ok (.goto 4, 3) := by decide +kernel
theorem dX12_readsGuest_67 : decode cX12_readsGuest 67 = .ok (.iconst 0, 1) := by decide +kernel
theorem dX12_readsGuest_68 : decode cX12_readsGuest 68 = .ok (.istore_n 1, 1) := by decide +kernel
theorem dX12_readsGuest_69 : decode cX12_readsGuest 69 = .ok (.iinc 2 1, 3) := by decide +kernel
theorem dX12_readsGuest_72 : decode cX12_readsGuest 72 = .ok (.goto (-52), 3) := by decide +kernel
theorem dX12_readsGuest_75 : decode cX12_readsGuest 75 = .ok (.aload_n 0, 1) := by decide +kernel
theorem dX12_readsGuest_76 : decode cX12_readsGuest 76 = .ok (.dup, 1) := by decide +kernel
theorem dX12_readsGuest_77 : decode cX12_readsGuest 77 = .ok (.getfield 245, 3) := by decide +kernel
theorem dX12_readsGuest_80 : decode cX12_readsGuest 80 = .ok (.iconst 1, 1) := by decide +kernel
theorem dX12_readsGuest_81 : decode cX12_readsGuest 81 = .ok (.iadd, 1) := by decide +kernel
theorem dX12_readsGuest_82 : decode cX12_readsGuest 82 = .ok (.putfield 245, 3) := by decide +kernel
theorem dX12_readsGuest_85 : decode cX12_readsGuest 85 = .ok (.iload_n 1, 1) := by decide +kernel
theorem dX12_readsGuest_86 : decode cX12_readsGuest 86 = .ok (.ireturn, 1) := by decide +kernel
def xX12_readsGuest_75 (s_X12_number : zq_Sp) (J20 : zq_P) (Q : zq_Q) (ls : zq_L) (st : List Value) (h : zq_H) : Prop := (zi_aload 0 (zi_dup (zi_getI 56 21 (zi_push (.int 1) (zi_i2 (fun x y => x + y) (zi_putI 56 21 (zi_iload 1 (zi_zret Q)))))))) ls st h
theorem kX12_readsGuest_75 {X : zq_X} {d : Nat} (C : zq_C X cX12_readsGuest 3 RX12 d) {d_X12_number : Nat} {s_X12_number : zq_Sp} (h_X12_number : zq_M yX12_number cX12_number 4 (some .int) 1 d_X12_number s_X12_number) (g_X12_number : d_X12_number + 1 ≤ d) {J20 : zq_P} (j20 : zq_ok X 3 20 J20) {Q : zq_Q} (hq : zq_R X (some .boolean) 1 Q) : zq_ok X 3 75 (xX12_readsGuest_75 s_X12_number J20 Q) := by
  refine zs_aload_n C dX12_readsGuest_75 rfl ?_
  refine zs_dup C dX12_readsGuest_76 ?_
  refine zs_getI C zp_56 zF12 (j := 21) ⟨by decide, rfl⟩ zw_1117 dX12_readsGuest_77 ?_
  refine zs_iconst C dX12_readsGuest_80 (by decide) ?_
  refine zs_iadd C dX12_readsGuest_81 ?_
  refine zs_putI C zp_56 zF12 (j := 21) ⟨by decide, rfl⟩ ⟨rfl, by decide +kernel⟩ zw_1117 dX12_readsGuest_82 ?_
  refine zs_iload_n C dX12_readsGuest_85 rfl ?_
  exact zs_zret C hq dX12_readsGuest_86
def xX12_readsGuest_68 (s_X12_number : zq_Sp) (J20 : zq_P) (Q : zq_Q) (ls : zq_L) (st : List Value) (h : zq_H) : Prop := (zi_istore 1 (zi_iinc 2 1 (J20))) ls st h
theorem kX12_readsGuest_68 {X : zq_X} {d : Nat} (C : zq_C X cX12_readsGuest 3 RX12 d) {d_X12_number : Nat} {s_X12_number : zq_Sp} (h_X12_number : zq_M yX12_number cX12_number 4 (some .int) 1 d_X12_number s_X12_number) (g_X12_number : d_X12_number + 1 ≤ d) {J20 : zq_P} (j20 : zq_ok X 3 20 J20) {Q : zq_Q} (hq : zq_R X (some .boolean) 1 Q) : zq_ok X 3 68 (xX12_readsGuest_68 s_X12_number J20 Q) := by
  refine zs_istore_n C dX12_readsGuest_68 rfl (by decide) ?_
  refine zs_iinc C dX12_readsGuest_69 (by decide) (by decide) ?_
  exact zs_goto C dX12_readsGuest_72 (by decide) (j20)
def xX12_readsGuest_67 (s_X12_number : zq_Sp) (J20 : zq_P) (Q : zq_Q) (ls : zq_L) (st : List Value) (h : zq_H) : Prop := (zi_push (.int 0) ((xX12_readsGuest_68 s_X12_number J20 Q))) ls st h
theorem kX12_readsGuest_67 {X : zq_X} {d : Nat} (C : zq_C X cX12_readsGuest 3 RX12 d) {d_X12_number : Nat} {s_X12_number : zq_Sp} (h_X12_number : zq_M yX12_number cX12_number 4 (some .int) 1 d_X12_number s_X12_number) (g_X12_number : d_X12_number + 1 ≤ d) {J20 : zq_P} (j20 : zq_ok X 3 20 J20) {Q : zq_Q} (hq : zq_R X (some .boolean) 1 Q) : zq_ok X 3 67 (xX12_readsGuest_67 s_X12_number J20 Q) := by
  refine zs_iconst C dX12_readsGuest_67 (by decide) ?_
  exact kX12_readsGuest_68 C h_X12_number g_X12_number j20 hq
def xX12_readsGuest_63 (s_X12_number : zq_Sp) (J20 : zq_P) (Q : zq_Q) (ls : zq_L) (st : List Value) (h : zq_H) : Prop := (zi_push (.int 1) ((xX12_readsGuest_68 s_X12_number J20 Q))) ls st h
theorem kX12_readsGuest_63 {X : zq_X} {d : Nat} (C : zq_C X cX12_readsGuest 3 RX12 d) {d_X12_number : Nat} {s_X12_number : zq_Sp} (h_X12_number : zq_M yX12_number cX12_number 4 (some .int) 1 d_X12_number s_X12_number) (g_X12_number : d_X12_number + 1 ≤ d) {J20 : zq_P} (j20 : zq_ok X 3 20 J20) {Q : zq_Q} (hq : zq_R X (some .boolean) 1 Q) : zq_ok X 3 63 (xX12_readsGuest_63 s_X12_number J20 Q) := by
  refine zs_iconst C dX12_readsGuest_63 (by decide) ?_
  exact zs_goto C dX12_readsGuest_64 (by decide) (kX12_readsGuest_68 C h_X12_number g_X12_number j20 hq)
def xX12_readsGuest_29 (s_X12_number : zq_Sp) (J20 : zq_P) (Q : zq_Q) (ls : zq_L) (st : List Value) (h : zq_H) : Prop := (zi_aload 0 (zi_getR 56 68 (zi_push (.int 3) (zi_aload 0 (zi_getI 56 21 (zi_i2 (fun x y => x * y) (zi_iload 2 (zi_i2 (fun x y => x + y) (zi_aload 0 (zi_push (.int 1) (zi_callV 1 56 s_X12_number (zi_astI 68 18 (zi_aload 0 (zi_getR 56 68 (zi_push (.int 3) (zi_aload 0 (zi_getI 56 21 (zi_i2 (fun x y => x * y) (zi_iload 2 (zi_i2 (fun x y => x + y) (zi_aldI 68 18 (zi_if1 (fun x => x < 0) (xX12_readsGuest_67 s_X12_number J20 Q) (xX12_readsGuest_63 s_X12_number J20 Q))))))))))))))))))))))) ls st h
theorem kX12_readsGuest_29 {X : zq_X} {d : Nat} (C : zq_C X cX12_readsGuest 3 RX12 d) {d_X12_number : Nat} {s_X12_number : zq_Sp} (h_X12_number : zq_M yX12_number cX12_number 4 (some .int) 1 d_X12_number s_X12_number) (g_X12_number : d_X12_number + 1 ≤ d) {J20 : zq_P} (j20 : zq_ok X 3 20 J20) {Q : zq_Q} (hq : zq_R X (some .boolean) 1 Q) : zq_ok X 3 29 (xX12_readsGuest_29 s_X12_number J20 Q) := by
  refine zs_aload_n C dX12_readsGuest_29 rfl ?_
  refine zs_getR C zp_56 zF12 (j := 20) ⟨by decide, rfl⟩ zw_1116 dX12_readsGuest_30 ?_
  refine zs_iconst C dX12_readsGuest_33 (by decide) ?_
  refine zs_aload_n C dX12_readsGuest_34 rfl ?_
  refine zs_getI C zp_56 zF12 (j := 21) ⟨by decide, rfl⟩ zw_1117 dX12_readsGuest_35 ?_
  refine zs_imul C dX12_readsGuest_38 ?_
  refine zs_iload_n C dX12_readsGuest_39 rfl ?_
  refine zs_iadd C dX12_readsGuest_40 ?_
  refine zs_aload_n C dX12_readsGuest_41 rfl ?_
  refine zs_iconst C dX12_readsGuest_42 (by decide) ?_
  refine zs_callV C h_X12_number g_X12_number zy_X12_number zp_56 (show vwCl[12]? = some (RX12, TX12, 67) from rfl) zw_1400 zw_1402 zs9_X12_number dX12_readsGuest_43 ?_
  refine zs_iastore C zp_68 dX12_readsGuest_46 ?_
  refine zs_aload_n C dX12_readsGuest_47 rfl ?_
  refine zs_getR C zp_56 zF12 (j := 20) ⟨by decide, rfl⟩ zw_1116 dX12_readsGuest_48 ?_
  refine zs_iconst C dX12_readsGuest_51 (by decide) ?_
  refine zs_aload_n C dX12_readsGuest_52 rfl ?_
  refine zs_getI C zp_56 zF12 (j := 21) ⟨by decide, rfl⟩ zw_1117 dX12_readsGuest_53 ?_
  refine zs_imul C dX12_readsGuest_56 ?_
  refine zs_iload_n C dX12_readsGuest_57 rfl ?_
  refine zs_iadd C dX12_readsGuest_58 ?_
  refine zs_iaload C zp_68 dX12_readsGuest_59 ?_
  exact zs_if_lt C dX12_readsGuest_60 (by decide) (kX12_readsGuest_67 C h_X12_number g_X12_number j20 hq) (kX12_readsGuest_63 C h_X12_number g_X12_number j20 hq)
def xX12_readsGuest_25 (s_X12_number : zq_Sp) (J20 : zq_P) (Q : zq_Q) (ls : zq_L) (st : List Value) (h : zq_H) : Prop := (zi_iload 1 (zi_if1 (fun x => x = 0) (xX12_readsGuest_75 s_X12_number J20 Q) (xX12_readsGuest_29 s_X12_number J20 Q))) ls st h
theorem kX12_readsGuest_25 {X : zq_X} {d : Nat} (C : zq_C X cX12_readsGuest 3 RX12 d) {d_X12_number : Nat} {s_X12_number : zq_Sp} (h_X12_number : zq_M yX12_number cX12_number 4 (some .int) 1 d_X12_number s_X12_number) (g_X12_number : d_X12_number + 1 ≤ d) {J20 : zq_P} (j20 : zq_ok X 3 20 J20) {Q : zq_Q} (hq : zq_R X (some .boolean) 1 Q) : zq_ok X 3 25 (xX12_readsGuest_25 s_X12_number J20 Q) := by
  refine zs_iload_n C dX12_readsGuest_25 rfl ?_
  exact zs_if_eq C dX12_readsGuest_26 (by decide) (kX12_readsGuest_75 C h_X12_number g_X12_number j20 hq) (kX12_readsGuest_29 C h_X12_number g_X12_number j20 hq)
def xX12_readsGuest_20 (s_X12_number : zq_Sp) (J20 : zq_P) (Q : zq_Q) (ls : zq_L) (st : List Value) (h : zq_H) : Prop := (zi_iload 2 (zi_push (.int 3) (zi_if2 (fun x y => y ≤ x) (xX12_readsGuest_75 s_X12_number J20 Q) (xX12_readsGuest_25 s_X12_number J20 Q)))) ls st h
theorem kX12_readsGuest_20 {X : zq_X} {d : Nat} (C : zq_C X cX12_readsGuest 3 RX12 d) {d_X12_number : Nat} {s_X12_number : zq_Sp} (h_X12_number : zq_M yX12_number cX12_number 4 (some .int) 1 d_X12_number s_X12_number) (g_X12_number : d_X12_number + 1 ≤ d) {J20 : zq_P} (j20 : zq_ok X 3 20 J20) {Q : zq_Q} (hq : zq_R X (some .boolean) 1 Q) : zq_ok X 3 20 (xX12_readsGuest_20 s_X12_number J20 Q) := by
  refine zs_iload_n C dX12_readsGuest_20 rfl ?_
  refine zs_iconst C dX12_readsGuest_21 (by decide) ?_
  exact zs_icmp_ge C dX12_readsGuest_22 (by decide) (kX12_readsGuest_75 C h_X12_number g_X12_number j20 hq) (kX12_readsGuest_25 C h_X12_number g_X12_number j20 hq)
def xX12_readsGuest_16 (s_X12_number : zq_Sp) (J20 : zq_P) (Q : zq_Q) (ls : zq_L) (st : List Value) (h : zq_H) : Prop := (zi_push (.int 1) (zi_istore 1 (zi_push (.int 0) (zi_istore 2 (J20))))) ls st h
theorem kX12_readsGuest_16 {X : zq_X} {d : Nat} (C : zq_C X cX12_readsGuest 3 RX12 d) {d_X12_number : Nat} {s_X12_number : zq_Sp} (h_X12_number : zq_M yX12_number cX12_number 4 (some .int) 1 d_X12_number s_X12_number) (g_X12_number : d_X12_number + 1 ≤ d) {J20 : zq_P} (j20 : zq_ok X 3 20 J20) {Q : zq_Q} (hq : zq_R X (some .boolean) 1 Q) : zq_ok X 3 16 (xX12_readsGuest_16 s_X12_number J20 Q) := by
  refine zs_iconst C dX12_readsGuest_16 (by decide) ?_
  refine zs_istore_n C dX12_readsGuest_17 rfl (by decide) ?_
  refine zs_iconst C dX12_readsGuest_18 (by decide) ?_
  refine zs_istore_n C dX12_readsGuest_19 rfl (by decide) ?_
  exact j20
def xX12_readsGuest_14 (s_X12_number : zq_Sp) (J20 : zq_P) (Q : zq_Q) (ls : zq_L) (st : List Value) (h : zq_H) : Prop := (zi_push (.int 0) (zi_zret Q)) ls st h
theorem kX12_readsGuest_14 {X : zq_X} {d : Nat} (C : zq_C X cX12_readsGuest 3 RX12 d) {d_X12_number : Nat} {s_X12_number : zq_Sp} (h_X12_number : zq_M yX12_number cX12_number 4 (some .int) 1 d_X12_number s_X12_number) (g_X12_number : d_X12_number + 1 ≤ d) {J20 : zq_P} (j20 : zq_ok X 3 20 J20) {Q : zq_Q} (hq : zq_R X (some .boolean) 1 Q) : zq_ok X 3 14 (xX12_readsGuest_14 s_X12_number J20 Q) := by
  refine zs_iconst C dX12_readsGuest_14 (by decide) ?_
  exact zs_zret C hq dX12_readsGuest_15
def xX12_readsGuest_0 (s_X12_number : zq_Sp) (J20 : zq_P) (Q : zq_Q) (ls : zq_L) (st : List Value) (h : zq_H) : Prop := (zi_aload 0 (zi_getI 56 4 (zi_aload 0 (zi_getI 56 21 (zi_i2 (fun x y => x + y) (zi_push (.int 6) (zi_if2 (fun x y => x = y) (xX12_readsGuest_14 s_X12_number J20 Q) (xX12_readsGuest_16 s_X12_number J20 Q)))))))) ls st h
theorem kX12_readsGuest_0 {X : zq_X} {d : Nat} (C : zq_C X cX12_readsGuest 3 RX12 d) {d_X12_number : Nat} {s_X12_number : zq_Sp} (h_X12_number : zq_M yX12_number cX12_number 4 (some .int) 1 d_X12_number s_X12_number) (g_X12_number : d_X12_number + 1 ≤ d) {J20 : zq_P} (j20 : zq_ok X 3 20 J20) {Q : zq_Q} (hq : zq_R X (some .boolean) 1 Q) : zq_ok X 3 0 (xX12_readsGuest_0 s_X12_number J20 Q) := by
  refine zs_aload_n C dX12_readsGuest_0 rfl ?_
  refine zs_getI C zp_56 zF12 (j := 4) ⟨by decide, rfl⟩ zw_1100 dX12_readsGuest_1 ?_
  refine zs_aload_n C dX12_readsGuest_4 rfl ?_
  refine zs_getI C zp_56 zF12 (j := 21) ⟨by decide, rfl⟩ zw_1117 dX12_readsGuest_5 ?_
  refine zs_iadd C dX12_readsGuest_8 ?_
  refine zs_bipush C dX12_readsGuest_9 (by decide) ?_
  exact zs_icmp_ne C dX12_readsGuest_11 (by decide) (kX12_readsGuest_16 C h_X12_number g_X12_number j20 hq) (kX12_readsGuest_14 C h_X12_number g_X12_number j20 hq)
theorem mX12_readsGuest {d : Nat} {spec : zq_Sp} {σ20 : Type} {d_X12_number : Nat} {s_X12_number : zq_Sp} (h_X12_number : zq_M yX12_number cX12_number 4 (some .int) 1 d_X12_number s_X12_number) (g_X12_number : d_X12_number + 1 ≤ d) (μ20 : σ20 → Nat) (I20 : zq_Q → σ20 → zq_P) (v : ∀ args h Q, spec args h Q → (zq_a args).length ≤ 3 ∧ xX12_readsGuest_0 s_X12_number (fun ls st h => ∃ b, I20 Q b ls st h) Q (zq_l0 3 args) [] h) (v20 : ∀ Q a ls st h, I20 Q a ls st h → xX12_readsGuest_20 s_X12_number (fun ls st h => ∃ b, μ20 b < μ20 a ∧ I20 Q b ls st h) Q ls st h) : zq_M yX12_readsGuest cX12_readsGuest 3 (some .boolean) 1 d spec := by
  refine zq_met (by decide +kernel) (by decide) (fun X Q args h C hq hs => ⟨(v args h Q hs).1, _, ?_, (v args h Q hs).2⟩)
  have hl := zq_loop1 (X := X) (nL := 3) (pc1 := 20) μ20 (I20 Q) (fun J20 => xX12_readsGuest_20 s_X12_number J20 Q) (fun j20 => kX12_readsGuest_20 C h_X12_number g_X12_number j20 hq) (v20 Q)
  exact kX12_readsGuest_0 C h_X12_number g_X12_number hl hq
/-! ToOneCrumbModel.guests()I -/
theorem dX12_guests_0 : decode cX12_guests 0 = .ok (.aload_n 0, 1) := by decide +kernel
theorem dX12_guests_1 : decode cX12_guests 1 = .ok (.iconst 0, 1) := by decide +kernel
theorem dX12_guests_2 : decode cX12_guests 2 = .ok (.putfield 147, 3) := by decide +kernel
theorem dX12_guests_5 : decode cX12_guests 5 = .ok (.aload_n 0, 1) := by decide +kernel
theorem dX12_guests_6 : decode cX12_guests 6 = .ok (.bipush 23, 2) := by decide +kernel
theorem dX12_guests_8 : decode cX12_guests 8 = .ok (.invokevirtual 218, 3) := by decide +kernel
theorem dX12_guests_11 : decode cX12_guests 11 = .ok (.istore_n 1, 1) := by decide +kernel
theorem dX12_guests_12 : decode cX12_guests 12 = .ok (.aload_n 0, 1) := by decide +kernel
theorem dX12_guests_13 : decode cX12_guests 13 = .ok (.iconst 0, 1) := by decide +kernel
theorem dX12_guests_14 : decode cX12_guests 14 = .ok (.putfield 245, 3) := by decide +kernel
theorem dX12_guests_17 : decode cX12_guests 17 = .ok (.iconst 1, 1) := by decide +kernel
theorem dX12_guests_18 : decode cX12_guests 18 = .ok (.istore_n 2, 1) := by decide +kernel
theorem dX12_guests_19 : decode cX12_guests 19 = .ok (.iload_n 1, 1) := by decide +kernel
theorem dX12_guests_20 : decode cX12_guests 20 = .ok (.ifCond .le 7, 3) := by decide +kernel
theorem dX12_guests_23 : decode cX12_guests 23 = .ok (.iconst 1, 1) := by decide +kernel
theorem dX12_guests_24 : decode cX12_guests 24 = .ok (.goto 4, 3) := by decide +kernel
theorem dX12_guests_27 : decode cX12_guests 27 = .ok (.iconst 0, 1) := by decide +kernel
theorem dX12_guests_28 : decode cX12_guests 28 = .ok (.istore_n 3, 1) := by decide +kernel
theorem dX12_guests_29 : decode cX12_guests 29 = .ok (.iload_n 3, 1) := by decide +kernel
theorem dX12_guests_30 : decode cX12_guests 30 = .ok (.ifCond .eq 30, 3) := by decide +kernel
theorem dX12_guests_33 : decode cX12_guests 33 = .ok (.aload_n 0, 1) := by decide +kernel
theorem dX12_guests_34 : decode cX12_guests 34 = .ok (.invokevirtual 251, 3) := by decide +kernel
theorem dX12_guests_37 : decode cX12_guests 37 = .ok (.istore_n 2, 1) := by decide +kernel
theorem dX12_guests_38 : decode cX12_guests 38 = .ok (.iload_n 2, 1) := by decide +kernel
theorem dX12_guests_39 : decode cX12_guests 39 = .ok (.ifCond .eq 16, 3) := by decide +kernel
theorem dX12_guests_42 : decode cX12_guests 42 = .ok (.aload_n 0, 1) := by decide +kernel
theorem dX12_guests_43 : decode cX12_guests 43 = .ok (.bipush 59, 2) := by decide +kernel
theorem dX12_guests_45 : decode cX12_guests 45 = .ok (.invokevirtual 229, 3) := by decide +kernel
theorem dX12_guests_48 : decode cX12_guests 48 = .ok (.ifCond .eq 7, 3) := by decide +kernel
theorem dX12_guests_51 : decode cX12_guests 51 = .ok (.iconst 1, 1) := by decide +kernel
theorem dX12_guests_52 : decode cX12_guests 52 = .ok (.goto 4, 3) := by decide +kernel
theorem dX12_guests_55 : decode cX12_guests 55 = .ok (.iconst 0, 1) := by decide +kernel
theorem dX12_guests_56 : decode cX12_guests 56 = .ok (.istore_n 3, 1) := by decide +kernel
theorem dX12_guests_57 : decode cX12_guests 57 = .ok (.goto (-28), 3) := by decide +kernel
theorem dX12_guests_60 : decode cX12_guests 60 = .ok (.aload_n 0, 1) := by decide +kernel
theorem dX12_guests_61 : decode cX12_guests 61 = .ok (.iload_n 1, 1) := by decide +kernel
theorem dX12_guests_62 : decode cX12_guests 62 = .ok (.bipush 23, 2) := by decide +kernel
theorem dX12_guests_64 : decode cX12_guests 64 = .ok (.iload_n 2, 1) := by decide +kernel
theorem dX12_guests_65 : decode cX12_guests 65 = .ok (.invokevirtual 232, 3) := by decide +kernel
theorem dX12_guests_68 : decode cX12_guests 68 = .ok (.istore 4, 2) := by decide +kernel
theorem dX12_guests_70 : decode cX12_guests 70 = .ok (.iload 4, 2) := by decide +kernel
theorem dX12_guests_72 : decode cX12_guests 72 = .ok (.ifCond .ge 6, 3) := by decide +kernel
theorem dX12_guests_75 : decode cX12_guests 75 = .ok (.iload 4, 2) := by decide +kernel
theorem dX12_guests_77 : decode cX12_guests 77 = .ok (.ireturn, 1) := by decide +kernel
theorem dX12_guests_78 : decode cX12_guests 78 = .ok (.iconst 0, 1) := by decide +kernel
theorem dX12_guests_79 : decode cX12_guests 79 = .ok (.istore 5, 2) := by decide +kernel
theorem dX12_guests_81 : decode cX12_guests 81 = .ok (.iload 5, 2) := by decide +kernel
theorem dX12_guests_83 : decode cX12_guests 83 = .ok (.aload_n 0, 1) := by decide +kernel
theorem dX12_guests_84 : decode cX12_guests 84 = .ok (.getfield 245, 3) := by decide +kernel
theorem dX12_guests_87 : decode cX12_guests 87 = .ok (.if_icmp .ge 70, 3) := by decide +kernel
theorem dX12_guests_90 : decode cX12_guests 90 = .ok (.iconst 0, 1) := by decide +kernel
theorem dX12_guests_91 : decode cX12_guests 91 = .ok (.istore 6, 2) := by decide +kernel
theorem dX12_guests_93 : decode cX12_guests 93 = .ok (.iload 6, 2) := by decide +kernel
theorem dX12_guests_95 : decode cX12_guests 95 = .ok (.iconst 3, 1) := by decide +kernel
theorem dX12_guests_96 : decode cX12_guests 96 = .ok (.if_icmp .ge 35, 3) := by decide +kernel
theorem dX12_guests_99 : decode cX12_guests 99 = .ok (.aload_n 0, 1) := by decide +kernel
theorem dX12_guests_100 : decode cX12_guests 100 = .ok (.getfield 24, 3) := by decide +kernel
theorem dX12_guests_103 : decode cX12_guests 103 = .ok (.iconst 3, 1) := by decide +kernel
theorem dX12_guests_104 : decode cX12_guests 104 = .ok (.aload_n 0, 1) := by decide +kernel
theorem dX12_guests_105 : decode cX12_guests 105 = .ok (.getfield 165, 3) := by decide +kernel
theorem dX12_guests_108 : decode cX12_guests 108 = .ok (.imul, 1) := by decide +kernel
theorem dX12_guests_109 : decode cX12_guests 109 = .ok (.iload 6, 2) := by decide +kernel
theorem dX12_guests_111 : decode cX12_guests 111 = .ok (.iadd, 1) := by decide +kernel
theorem dX12_guests_112 : decode cX12_guests 112 = .ok (.aload_n 0, 1) := by decide +kernel
theorem dX12_guests_113 : decode cX12_guests 113 = .ok (.getfield 45, 3) := by decide +kernel
theorem dX12_guests_116 : decode cX12_guests 116 = .ok (.iconst 3, 1) := by decide +kernel
theorem dX12_guests_117 : decode cX12_guests 117 = .ok (.iload 5, 2) := by decide +kernel
theorem dX12_guests_119 : decode cX12_guests 119 = .ok (.imul, 1) := by decide +kernel
theorem dX12_guests_120 : decode cX12_guests 120 = .ok (.iload 6, 2) := by decide +kernel
theorem dX12_guests_122 : decode cX12_guests 122 = .ok (.iadd, 1) := by decide +kernel
theorem dX12_guests_123 : decode cX12_guests 123 = .ok (.iaload, 1) := by decide +kernel
theorem dX12_guests_124 : decode cX12_guests 124 = .ok (.iastore, 1) := by decide +kernel
theorem dX12_guests_125 : decode cX12_guests 125 = .ok (.iinc 6 1, 3) := by decide +kernel
theorem dX12_guests_128 : decode cX12_guests 128 = .ok (.goto (-35), 3) := by decide +kernel
theorem dX12_guests_131 : decode cX12_guests 131 = .ok (.aload_n 0, 1) := by decide +kernel
theorem dX12_guests_132 : decode cX12_guests 132 = .ok (.getfield 27, 3) := by decide +kernel
theorem dX12_guests_135 : decode cX12_guests 135 = .ok (.aload_n 0, 1) := by decide +kernel
theorem dX12_guests_136 : decode cX12_guests 136 = .ok (.getfield 165, 3) := by decide +kernel
theorem dX12_guests_139 : decode cX12_guests 139 = .ok (.iconst 1, 1) := by decide +kernel
theorem dX12_guests_140 : decode cX12_guests 140 = .ok (.iastore, 1) := by decide +kernel
theorem dX12_guests_141 : decode cX12_guests 141 = .ok (.aload_n 0, 1) := by decide +kernel
theorem dX12_guests_142 : decode cX12_guests 142 = .ok (.dup, 1) := by decide +kernel
theorem dX12_guests_143 : decode cX12_guests 143 = .ok (.getfield 165, 3) := by decide +kernel
theorem dX12_guests_146 : decode cX12_guests 146 = .ok (.iconst 1, 1) := by decide +kernel
theorem dX12_guests_147 : decode cX12_guests 147 = .ok (.iadd, 1) := by decide +kernel
theorem dX12_guests_148 : decode cX12_guests 148 = .ok (.putfield 165, 3) := by decide +kernel
theorem dX12_guests_151 : decode cX12_guests 151 = .ok (.iinc 5 1, 3) := by decide +kernel
theorem dX12_guests_154 : decode cX12_guests 154 = .ok (.goto (-73), 3) := by decide +kernel
theorem dX12_guests_157 : decode cX12_guests 157 = .ok (.aload_n 0, 1) := by decide +kernel
theorem dX12_guests_158 : decode cX12_guests 158 = .ok (.getfield 245, 3) := by decide +kernel
theorem dX12_guests_161 : decode cX12_guests 161 = .ok (.ireturn, 1) := by decide +kernel
def xX12_guests_157 (s_X12_begins : zq_Sp) (s_X12_readsGuest : zq_Sp) (s_X12_takes : zq_Sp) (s_X12_faultOf : zq_Sp) (J29 : zq_P) (J81 : zq_P) (J93 : zq_P) (Q : zq_Q) (ls : zq_L) (st : List Value) (h : zq_H) : Prop := (zi_aload 0 (zi_getI 56 21 (zi_iret Q))) ls st h
theorem kX12_guests_157 {X : zq_X} {d : Nat} (C : zq_C X cX12_guests 7 RX12 d) {d_X12_begins : Nat} {s_X12_begins : zq_Sp} (h_X12_begins : zq_M yX12_begins cX12_begins 3 (some .int) 1 d_X12_begins s_X12_begins) (g_X12_begins : d_X12_begins + 1 ≤ d) {d_X12_readsGuest : Nat} {s_X12_readsGuest : zq_Sp} (h_X12_readsGuest : zq_M yX12_readsGuest cX12_readsGuest 3 (some .boolean) 1 d_X12_readsGuest s_X12_readsGuest) (g_X12_readsGuest : d_X12_readsGuest + 1 ≤ d) {d_X12_takes : Nat} {s_X12_takes : zq_Sp} (h_X12_takes : zq_M yX12_takes cX12_takes 3 (some .boolean) 1 d_X12_takes s_X12_takes) (g_X12_takes : d_X12_takes + 1 ≤ d) {d_X12_faultOf : Nat} {s_X12_faultOf : zq_Sp} (h_X12_faultOf : zq_M yX12_faultOf cX12_faultOf 5 (some .int) 1 d_X12_faultOf s_X12_faultOf) (g_X12_faultOf : d_X12_faultOf + 1 ≤ d) {J29 : zq_P} (j29 : zq_ok X 7 29 J29) {J81 : zq_P} (j81 : zq_ok X 7 81 J81) {J93 : zq_P} (j93 : zq_ok X 7 93 J93) {Q : zq_Q} (hq : zq_R X (some .int) 1 Q) : zq_ok X 7 157 (xX12_guests_157 s_X12_begins s_X12_readsGuest s_X12_takes s_X12_faultOf J29 J81 J93 Q) := by
  refine zs_aload_n C dX12_guests_157 rfl ?_
  refine zs_getI C zp_56 zF12 (j := 21) ⟨by decide, rfl⟩ zw_1117 dX12_guests_158 ?_
  exact zs_iret C hq dX12_guests_161
def xX12_guests_131 (s_X12_begins : zq_Sp) (s_X12_readsGuest : zq_Sp) (s_X12_takes : zq_Sp) (s_X12_faultOf : zq_Sp) (J29 : zq_P) (J81 : zq_P) (J93 : zq_P) (Q : zq_Q) (ls : zq_L) (st : List Value) (h : zq_H) : Prop := (zi_aload 0 (zi_getR 56 62 (zi_aload 0 (zi_getI 56 4 (zi_push (.int 1) (zi_astI 62 6 (zi_aload 0 (zi_dup (zi_getI 56 4 (zi_push (.int 1) (zi_i2 (fun x y => x + y) (zi_putI 56 4 (zi_iinc 5 1 (J81)))))))))))))) ls st h
theorem kX12_guests_131 {X : zq_X} {d : Nat} (C : zq_C X cX12_guests 7 RX12 d) {d_X12_begins : Nat} {s_X12_begins : zq_Sp} (h_X12_begins : zq_M yX12_begins cX12_begins 3 (some .int) 1 d_X12_begins s_X12_begins) (g_X12_begins : d_X12_begins + 1 ≤ d) {d_X12_readsGuest : Nat} {s_X12_readsGuest : zq_Sp} (h_X12_readsGuest : zq_M yX12_readsGuest cX12_readsGuest 3 (some .boolean) 1 d_X12_readsGuest s_X12_readsGuest) (g_X12_readsGuest : d_X12_readsGuest + 1 ≤ d) {d_X12_takes : Nat} {s_X12_takes : zq_Sp} (h_X12_takes : zq_M yX12_takes cX12_takes 3 (some .boolean) 1 d_X12_takes s_X12_takes) (g_X12_takes : d_X12_takes + 1 ≤ d) {d_X12_faultOf : Nat} {s_X12_faultOf : zq_Sp} (h_X12_faultOf : zq_M yX12_faultOf cX12_faultOf 5 (some .int) 1 d_X12_faultOf s_X12_faultOf) (g_X12_faultOf : d_X12_faultOf + 1 ≤ d) {J29 : zq_P} (j29 : zq_ok X 7 29 J29) {J81 : zq_P} (j81 : zq_ok X 7 81 J81) {J93 : zq_P} (j93 : zq_ok X 7 93 J93) {Q : zq_Q} (hq : zq_R X (some .int) 1 Q) : zq_ok X 7 131 (xX12_guests_131 s_X12_begins s_X12_readsGuest s_X12_takes s_X12_faultOf J29 J81 J93 Q) := by
  refine zs_aload_n C dX12_guests_131 rfl ?_
  refine zs_getR C zp_56 zF12 (j := 10) ⟨by decide, rfl⟩ zw_1106 dX12_guests_132 ?_
  refine zs_aload_n C dX12_guests_135 rfl ?_
  refine zs_getI C zp_56 zF12 (j := 4) ⟨by decide, rfl⟩ zw_1100 dX12_guests_136 ?_
  refine zs_iconst C dX12_guests_139 (by decide) ?_
  refine zs_iastore C zp_62 dX12_guests_140 ?_
  refine zs_aload_n C dX12_guests_141 rfl ?_
  refine zs_dup C dX12_guests_142 ?_
  refine zs_getI C zp_56 zF12 (j := 4) ⟨by decide, rfl⟩ zw_1100 dX12_guests_143 ?_
  refine zs_iconst C dX12_guests_146 (by decide) ?_
  refine zs_iadd C dX12_guests_147 ?_
  refine zs_putI C zp_56 zF12 (j := 4) ⟨by decide, rfl⟩ ⟨rfl, by decide +kernel⟩ zw_1100 dX12_guests_148 ?_
  refine zs_iinc C dX12_guests_151 (by decide) (by decide) ?_
  exact zs_goto C dX12_guests_154 (by decide) (j81)
def xX12_guests_99 (s_X12_begins : zq_Sp) (s_X12_readsGuest : zq_Sp) (s_X12_takes : zq_Sp) (s_X12_faultOf : zq_Sp) (J29 : zq_P) (J81 : zq_P) (J93 : zq_P) (Q : zq_Q) (ls : zq_L) (st : List Value) (h : zq_H) : Prop := (zi_aload 0 (zi_getR 56 61 (zi_push (.int 3) (zi_aload 0 (zi_getI 56 4 (zi_i2 (fun x y => x * y) (zi_iload 6 (zi_i2 (fun x y => x + y) (zi_aload 0 (zi_getR 56 68 (zi_push (.int 3) (zi_iload 5 (zi_i2 (fun x y => x * y) (zi_iload 6 (zi_i2 (fun x y => x + y) (zi_aldI 68 18 (zi_astI 61 18 (zi_iinc 6 1 (J93))))))))))))))))))) ls st h
theorem kX12_guests_99 {X : zq_X} {d : Nat} (C : zq_C X cX12_guests 7 RX12 d) {d_X12_begins : Nat} {s_X12_begins : zq_Sp} (h_X12_begins : zq_M yX12_begins cX12_begins 3 (some .int) 1 d_X12_begins s_X12_begins) (g_X12_begins : d_X12_begins + 1 ≤ d) {d_X12_readsGuest : Nat} {s_X12_readsGuest : zq_Sp} (h_X12_readsGuest : zq_M yX12_readsGuest cX12_readsGuest 3 (some .boolean) 1 d_X12_readsGuest s_X12_readsGuest) (g_X12_readsGuest : d_X12_readsGuest + 1 ≤ d) {d_X12_takes : Nat} {s_X12_takes : zq_Sp} (h_X12_takes : zq_M yX12_takes cX12_takes 3 (some .boolean) 1 d_X12_takes s_X12_takes) (g_X12_takes : d_X12_takes + 1 ≤ d) {d_X12_faultOf : Nat} {s_X12_faultOf : zq_Sp} (h_X12_faultOf : zq_M yX12_faultOf cX12_faultOf 5 (some .int) 1 d_X12_faultOf s_X12_faultOf) (g_X12_faultOf : d_X12_faultOf + 1 ≤ d) {J29 : zq_P} (j29 : zq_ok X 7 29 J29) {J81 : zq_P} (j81 : zq_ok X 7 81 J81) {J93 : zq_P} (j93 : zq_ok X 7 93 J93) {Q : zq_Q} (hq : zq_R X (some .int) 1 Q) : zq_ok X 7 99 (xX12_guests_99 s_X12_begins s_X12_readsGuest s_X12_takes s_X12_faultOf J29 J81 J93 Q) := by
  refine zs_aload_n C dX12_guests_99 rfl ?_
  refine zs_getR C zp_56 zF12 (j := 9) ⟨by decide, rfl⟩ zw_1105 dX12_guests_100 ?_
  refine zs_iconst C dX12_guests_103 (by decide) ?_
  refine zs_aload_n C dX12_guests_104 rfl ?_
  refine zs_getI C zp_56 zF12 (j := 4) ⟨by decide, rfl⟩ zw_1100 dX12_guests_105 ?_
  refine zs_imul C dX12_guests_108 ?_
  refine zs_iload C dX12_guests_109 ?_
  refine zs_iadd C dX12_guests_111 ?_
  refine zs_aload_n C dX12_guests_112 rfl ?_
  refine zs_getR C zp_56 zF12 (j := 20) ⟨by decide, rfl⟩ zw_1116 dX12_guests_113 ?_
  refine zs_iconst C dX12_guests_116 (by decide) ?_
  refine zs_iload C dX12_guests_117 ?_
  refine zs_imul C dX12_guests_119 ?_
  refine zs_iload C dX12_guests_120 ?_
  refine zs_iadd C dX12_guests_122 ?_
  refine zs_iaload C zp_68 dX12_guests_123 ?_
  refine zs_iastore C zp_61 dX12_guests_124 ?_
  refine zs_iinc C dX12_guests_125 (by decide) (by decide) ?_
  exact zs_goto C dX12_guests_128 (by decide) (j93)
def xX12_guests_93 (s_X12_begins : zq_Sp) (s_X12_readsGuest : zq_Sp) (s_X12_takes : zq_Sp) (s_X12_faultOf : zq_Sp) (J29 : zq_P) (J81 : zq_P) (J93 : zq_P) (Q : zq_Q) (ls : zq_L) (st : List Value) (h : zq_H) : Prop := (zi_iload 6 (zi_push (.int 3) (zi_if2 (fun x y => y ≤ x) (xX12_guests_131 s_X12_begins s_X12_readsGuest s_X12_takes s_X12_faultOf J29 J81 J93 Q) (xX12_guests_99 s_X12_begins s_X12_readsGuest s_X12_takes s_X12_faultOf J29 J81 J93 Q)))) ls st h
theorem kX12_guests_93 {X : zq_X} {d : Nat} (C : zq_C X cX12_guests 7 RX12 d) {d_X12_begins : Nat} {s_X12_begins : zq_Sp} (h_X12_begins : zq_M yX12_begins cX12_begins 3 (some .int) 1 d_X12_begins s_X12_begins) (g_X12_begins : d_X12_begins + 1 ≤ d) {d_X12_readsGuest : Nat} {s_X12_readsGuest : zq_Sp} (h_X12_readsGuest : zq_M yX12_readsGuest cX12_readsGuest 3 (some .boolean) 1 d_X12_readsGuest s_X12_readsGuest) (g_X12_readsGuest : d_X12_readsGuest + 1 ≤ d) {d_X12_takes : Nat} {s_X12_takes : zq_Sp} (h_X12_takes : zq_M yX12_takes cX12_takes 3 (some .boolean) 1 d_X12_takes s_X12_takes) (g_X12_takes : d_X12_takes + 1 ≤ d) {d_X12_faultOf : Nat} {s_X12_faultOf : zq_Sp} (h_X12_faultOf : zq_M yX12_faultOf cX12_faultOf 5 (some .int) 1 d_X12_faultOf s_X12_faultOf) (g_X12_faultOf : d_X12_faultOf + 1 ≤ d) {J29 : zq_P} (j29 : zq_ok X 7 29 J29) {J81 : zq_P} (j81 : zq_ok X 7 81 J81) {J93 : zq_P} (j93 : zq_ok X 7 93 J93) {Q : zq_Q} (hq : zq_R X (some .int) 1 Q) : zq_ok X 7 93 (xX12_guests_93 s_X12_begins s_X12_readsGuest s_X12_takes s_X12_faultOf J29 J81 J93 Q) := by
  refine zs_iload C dX12_guests_93 ?_
  refine zs_iconst C dX12_guests_95 (by decide) ?_
  exact zs_icmp_ge C dX12_guests_96 (by decide) (kX12_guests_131 C h_X12_begins g_X12_begins h_X12_readsGuest g_X12_readsGuest h_X12_takes g_X12_takes h_X12_faultOf g_X12_faultOf j29 j81 j93 hq) (kX12_guests_99 C h_X12_begins g_X12_begins h_X12_readsGuest g_X12_readsGuest h_X12_takes g_X12_takes h_X12_faultOf g_X12_faultOf j29 j81 j93 hq)
def xX12_guests_90 (s_X12_begins : zq_Sp) (s_X12_readsGuest : zq_Sp) (s_X12_takes : zq_Sp) (s_X12_faultOf : zq_Sp) (J29 : zq_P) (J81 : zq_P) (J93 : zq_P) (Q : zq_Q) (ls : zq_L) (st : List Value) (h : zq_H) : Prop := (zi_push (.int 0) (zi_istore 6 (J93))) ls st h
theorem kX12_guests_90 {X : zq_X} {d : Nat} (C : zq_C X cX12_guests 7 RX12 d) {d_X12_begins : Nat} {s_X12_begins : zq_Sp} (h_X12_begins : zq_M yX12_begins cX12_begins 3 (some .int) 1 d_X12_begins s_X12_begins) (g_X12_begins : d_X12_begins + 1 ≤ d) {d_X12_readsGuest : Nat} {s_X12_readsGuest : zq_Sp} (h_X12_readsGuest : zq_M yX12_readsGuest cX12_readsGuest 3 (some .boolean) 1 d_X12_readsGuest s_X12_readsGuest) (g_X12_readsGuest : d_X12_readsGuest + 1 ≤ d) {d_X12_takes : Nat} {s_X12_takes : zq_Sp} (h_X12_takes : zq_M yX12_takes cX12_takes 3 (some .boolean) 1 d_X12_takes s_X12_takes) (g_X12_takes : d_X12_takes + 1 ≤ d) {d_X12_faultOf : Nat} {s_X12_faultOf : zq_Sp} (h_X12_faultOf : zq_M yX12_faultOf cX12_faultOf 5 (some .int) 1 d_X12_faultOf s_X12_faultOf) (g_X12_faultOf : d_X12_faultOf + 1 ≤ d) {J29 : zq_P} (j29 : zq_ok X 7 29 J29) {J81 : zq_P} (j81 : zq_ok X 7 81 J81) {J93 : zq_P} (j93 : zq_ok X 7 93 J93) {Q : zq_Q} (hq : zq_R X (some .int) 1 Q) : zq_ok X 7 90 (xX12_guests_90 s_X12_begins s_X12_readsGuest s_X12_takes s_X12_faultOf J29 J81 J93 Q) := by
  refine zs_iconst C dX12_guests_90 (by decide) ?_
  refine zs_istore C dX12_guests_91 (by decide) ?_
  exact j93
def xX12_guests_81 (s_X12_begins : zq_Sp) (s_X12_readsGuest : zq_Sp) (s_X12_takes : zq_Sp) (s_X12_faultOf : zq_Sp) (J29 : zq_P) (J81 : zq_P) (J93 : zq_P) (Q : zq_Q) (ls : zq_L) (st : List Value) (h : zq_H) : Prop := (zi_iload 5 (zi_aload 0 (zi_getI 56 21 (zi_if2 (fun x y => y ≤ x) (xX12_guests_157 s_X12_begins s_X12_readsGuest s_X12_takes s_X12_faultOf J29 J81 J93 Q) (xX12_guests_90 s_X12_begins s_X12_readsGuest s_X12_takes s_X12_faultOf J29 J81 J93 Q))))) ls st h
theorem kX12_guests_81 {X : zq_X} {d : Nat} (C : zq_C X cX12_guests 7 RX12 d) {d_X12_begins : Nat} {s_X12_begins : zq_Sp} (h_X12_begins : zq_M yX12_begins cX12_begins 3 (some .int) 1 d_X12_begins s_X12_begins) (g_X12_begins : d_X12_begins + 1 ≤ d) {d_X12_readsGuest : Nat} {s_X12_readsGuest : zq_Sp} (h_X12_readsGuest : zq_M yX12_readsGuest cX12_readsGuest 3 (some .boolean) 1 d_X12_readsGuest s_X12_readsGuest) (g_X12_readsGuest : d_X12_readsGuest + 1 ≤ d) {d_X12_takes : Nat} {s_X12_takes : zq_Sp} (h_X12_takes : zq_M yX12_takes cX12_takes 3 (some .boolean) 1 d_X12_takes s_X12_takes) (g_X12_takes : d_X12_takes + 1 ≤ d) {d_X12_faultOf : Nat} {s_X12_faultOf : zq_Sp} (h_X12_faultOf : zq_M yX12_faultOf cX12_faultOf 5 (some .int) 1 d_X12_faultOf s_X12_faultOf) (g_X12_faultOf : d_X12_faultOf + 1 ≤ d) {J29 : zq_P} (j29 : zq_ok X 7 29 J29) {J81 : zq_P} (j81 : zq_ok X 7 81 J81) {J93 : zq_P} (j93 : zq_ok X 7 93 J93) {Q : zq_Q} (hq : zq_R X (some .int) 1 Q) : zq_ok X 7 81 (xX12_guests_81 s_X12_begins s_X12_readsGuest s_X12_takes s_X12_faultOf J29 J81 J93 Q) := by
  refine zs_iload C dX12_guests_81 ?_
  refine zs_aload_n C dX12_guests_83 rfl ?_
  refine zs_getI C zp_56 zF12 (j := 21) ⟨by decide, rfl⟩ zw_1117 dX12_guests_84 ?_
  exact zs_icmp_ge C dX12_guests_87 (by decide) (kX12_guests_157 C h_X12_begins g_X12_begins h_X12_readsGuest g_X12_readsGuest h_X12_takes g_X12_takes h_X12_faultOf g_X12_faultOf j29 j81 j93 hq) (kX12_guests_90 C h_X12_begins g_X12_begins h_X12_readsGuest g_X12_readsGuest h_X12_takes g_X12_takes h_X12_faultOf g_X12_faultOf j29 j81 j93 hq)
def xX12_guests_78 (s_X12_begins : zq_Sp) (s_X12_readsGuest : zq_Sp) (s_X12_takes : zq_Sp) (s_X12_faultOf : zq_Sp) (J29 : zq_P) (J81 : zq_P) (J93 : zq_P) (Q : zq_Q) (ls : zq_L) (st : List Value) (h : zq_H) : Prop := (zi_push (.int 0) (zi_istore 5 (J81))) ls st h
theorem kX12_guests_78 {X : zq_X} {d : Nat} (C : zq_C X cX12_guests 7 RX12 d) {d_X12_begins : Nat} {s_X12_begins : zq_Sp} (h_X12_begins : zq_M yX12_begins cX12_begins 3 (some .int) 1 d_X12_begins s_X12_begins) (g_X12_begins : d_X12_begins + 1 ≤ d) {d_X12_readsGuest : Nat} {s_X12_readsGuest : zq_Sp} (h_X12_readsGuest : zq_M yX12_readsGuest cX12_readsGuest 3 (some .boolean) 1 d_X12_readsGuest s_X12_readsGuest) (g_X12_readsGuest : d_X12_readsGuest + 1 ≤ d) {d_X12_takes : Nat} {s_X12_takes : zq_Sp} (h_X12_takes : zq_M yX12_takes cX12_takes 3 (some .boolean) 1 d_X12_takes s_X12_takes) (g_X12_takes : d_X12_takes + 1 ≤ d) {d_X12_faultOf : Nat} {s_X12_faultOf : zq_Sp} (h_X12_faultOf : zq_M yX12_faultOf cX12_faultOf 5 (some .int) 1 d_X12_faultOf s_X12_faultOf) (g_X12_faultOf : d_X12_faultOf + 1 ≤ d) {J29 : zq_P} (j29 : zq_ok X 7 29 J29) {J81 : zq_P} (j81 : zq_ok X 7 81 J81) {J93 : zq_P} (j93 : zq_ok X 7 93 J93) {Q : zq_Q} (hq : zq_R X (some .int) 1 Q) : zq_ok X 7 78 (xX12_guests_78 s_X12_begins s_X12_readsGuest s_X12_takes s_X12_faultOf J29 J81 J93 Q) := by
  refine zs_iconst C dX12_guests_78 (by decide) ?_
  refine zs_istore C dX12_guests_79 (by decide) ?_
  exact j81
def xX12_guests_75 (s_X12_begins : zq_Sp) (s_X12_readsGuest : zq_Sp) (s_X12_takes : zq_Sp) (s_X12_faultOf : zq_Sp) (J29 : zq_P) (J81 : zq_P) (J93 : zq_P) (Q : zq_Q) (ls : zq_L) (st : List Value) (h : zq_H) : Prop := (zi_iload 4 (zi_iret Q)) ls st h
theorem kX12_guests_75 {X : zq_X} {d : Nat} (C : zq_C X cX12_guests 7 RX12 d) {d_X12_begins : Nat} {s_X12_begins : zq_Sp} (h_X12_begins : zq_M yX12_begins cX12_begins 3 (some .int) 1 d_X12_begins s_X12_begins) (g_X12_begins : d_X12_begins + 1 ≤ d) {d_X12_readsGuest : Nat} {s_X12_readsGuest : zq_Sp} (h_X12_readsGuest : zq_M yX12_readsGuest cX12_readsGuest 3 (some .boolean) 1 d_X12_readsGuest s_X12_readsGuest) (g_X12_readsGuest : d_X12_readsGuest + 1 ≤ d) {d_X12_takes : Nat} {s_X12_takes : zq_Sp} (h_X12_takes : zq_M yX12_takes cX12_takes 3 (some .boolean) 1 d_X12_takes s_X12_takes) (g_X12_takes : d_X12_takes + 1 ≤ d) {d_X12_faultOf : Nat} {s_X12_faultOf : zq_Sp} (h_X12_faultOf : zq_M yX12_faultOf cX12_faultOf 5 (some .int) 1 d_X12_faultOf s_X12_faultOf) (g_X12_faultOf : d_X12_faultOf + 1 ≤ d) {J29 : zq_P} (j29 : zq_ok X 7 29 J29) {J81 : zq_P} (j81 : zq_ok X 7 81 J81) {J93 : zq_P} (j93 : zq_ok X 7 93 J93) {Q : zq_Q} (hq : zq_R X (some .int) 1 Q) : zq_ok X 7 75 (xX12_guests_75 s_X12_begins s_X12_readsGuest s_X12_takes s_X12_faultOf J29 J81 J93 Q) := by
  refine zs_iload C dX12_guests_75 ?_
  exact zs_iret C hq dX12_guests_77
def xX12_guests_60 (s_X12_begins : zq_Sp) (s_X12_readsGuest : zq_Sp) (s_X12_takes : zq_Sp) (s_X12_faultOf : zq_Sp) (J29 : zq_P) (J81 : zq_P) (J93 : zq_P) (Q : zq_Q) (ls : zq_L) (st : List Value) (h : zq_H) : Prop := (zi_aload 0 (zi_iload 1 (zi_push (.int 23) (zi_iload 2 (zi_callV 3 56 s_X12_faultOf (zi_istore 4 (zi_iload 4 (zi_if1 (fun x => 0 ≤ x) (xX12_guests_78 s_X12_begins s_X12_readsGuest s_X12_takes s_X12_faultOf J29 J81 J93 Q) (xX12_guests_75 s_X12_begins s_X12_readsGuest s_X12_takes s_X12_faultOf J29 J81 J93 Q))))))))) ls st h
theorem kX12_guests_60 {X : zq_X} {d : Nat} (C : zq_C X cX12_guests 7 RX12 d) {d_X12_begins : Nat} {s_X12_begins : zq_Sp} (h_X12_begins : zq_M yX12_begins cX12_begins 3 (some .int) 1 d_X12_begins s_X12_begins) (g_X12_begins : d_X12_begins + 1 ≤ d) {d_X12_readsGuest : Nat} {s_X12_readsGuest : zq_Sp} (h_X12_readsGuest : zq_M yX12_readsGuest cX12_readsGuest 3 (some .boolean) 1 d_X12_readsGuest s_X12_readsGuest) (g_X12_readsGuest : d_X12_readsGuest + 1 ≤ d) {d_X12_takes : Nat} {s_X12_takes : zq_Sp} (h_X12_takes : zq_M yX12_takes cX12_takes 3 (some .boolean) 1 d_X12_takes s_X12_takes) (g_X12_takes : d_X12_takes + 1 ≤ d) {d_X12_faultOf : Nat} {s_X12_faultOf : zq_Sp} (h_X12_faultOf : zq_M yX12_faultOf cX12_faultOf 5 (some .int) 1 d_X12_faultOf s_X12_faultOf) (g_X12_faultOf : d_X12_faultOf + 1 ≤ d) {J29 : zq_P} (j29 : zq_ok X 7 29 J29) {J81 : zq_P} (j81 : zq_ok X 7 81 J81) {J93 : zq_P} (j93 : zq_ok X 7 93 J93) {Q : zq_Q} (hq : zq_R X (some .int) 1 Q) : zq_ok X 7 60 (xX12_guests_60 s_X12_begins s_X12_readsGuest s_X12_takes s_X12_faultOf J29 J81 J93 Q) := by
  refine zs_aload_n C dX12_guests_60 rfl ?_
  refine zs_iload_n C dX12_guests_61 rfl ?_
  refine zs_bipush C dX12_guests_62 (by decide) ?_
  refine zs_iload_n C dX12_guests_64 rfl ?_
  refine zs_callV C h_X12_faultOf g_X12_faultOf zy_X12_faultOf zp_56 (show vwCl[12]? = some (RX12, TX12, 67) from rfl) zw_1388 zw_1390 zs9_X12_faultOf dX12_guests_65 ?_
  refine zs_istore C dX12_guests_68 (by decide) ?_
  refine zs_iload C dX12_guests_70 ?_
  exact zs_if_ge C dX12_guests_72 (by decide) (kX12_guests_78 C h_X12_begins g_X12_begins h_X12_readsGuest g_X12_readsGuest h_X12_takes g_X12_takes h_X12_faultOf g_X12_faultOf j29 j81 j93 hq) (kX12_guests_75 C h_X12_begins g_X12_begins h_X12_readsGuest g_X12_readsGuest h_X12_takes g_X12_takes h_X12_faultOf g_X12_faultOf j29 j81 j93 hq)
def xX12_guests_56 (s_X12_begins : zq_Sp) (s_X12_readsGuest : zq_Sp) (s_X12_takes : zq_Sp) (s_X12_faultOf : zq_Sp) (J29 : zq_P) (J81 : zq_P) (J93 : zq_P) (Q : zq_Q) (ls : zq_L) (st : List Value) (h : zq_H) : Prop := (zi_istore 3 (J29)) ls st h
theorem kX12_guests_56 {X : zq_X} {d : Nat} (C : zq_C X cX12_guests 7 RX12 d) {d_X12_begins : Nat} {s_X12_begins : zq_Sp} (h_X12_begins : zq_M yX12_begins cX12_begins 3 (some .int) 1 d_X12_begins s_X12_begins) (g_X12_begins : d_X12_begins + 1 ≤ d) {d_X12_readsGuest : Nat} {s_X12_readsGuest : zq_Sp} (h_X12_readsGuest : zq_M yX12_readsGuest cX12_readsGuest 3 (some .boolean) 1 d_X12_readsGuest s_X12_readsGuest) (g_X12_readsGuest : d_X12_readsGuest + 1 ≤ d) {d_X12_takes : Nat} {s_X12_takes : zq_Sp} (h_X12_takes : zq_M yX12_takes cX12_takes 3 (some .boolean) 1 d_X12_takes s_X12_takes) (g_X12_takes : d_X12_takes + 1 ≤ d) {d_X12_faultOf : Nat} {s_X12_faultOf : zq_Sp} (h_X12_faultOf : zq_M yX12_faultOf cX12_faultOf 5 (some .int) 1 d_X12_faultOf s_X12_faultOf) (g_X12_faultOf : d_X12_faultOf + 1 ≤ d) {J29 : zq_P} (j29 : zq_ok X 7 29 J29) {J81 : zq_P} (j81 : zq_ok X 7 81 J81) {J93 : zq_P} (j93 : zq_ok X 7 93 J93) {Q : zq_Q} (hq : zq_R X (some .int) 1 Q) : zq_ok X 7 56 (xX12_guests_56 s_X12_begins s_X12_readsGuest s_X12_takes s_X12_faultOf J29 J81 J93 Q) := by
  refine zs_istore_n C dX12_guests_56 rfl (by decide) ?_
  exact zs_goto C dX12_guests_57 (by decide) (j29)
def xX12_guests_55 (s_X12_begins : zq_Sp) (s_X12_readsGuest : zq_Sp) (s_X12_takes : zq_Sp) (s_X12_faultOf : zq_Sp) (J29 : zq_P) (J81 : zq_P) (J93 : zq_P) (Q : zq_Q) (ls : zq_L) (st : List Value) (h : zq_H) : Prop := (zi_push (.int 0) ((xX12_guests_56 s_X12_begins s_X12_readsGuest s_X12_takes s_X12_faultOf J29 J81 J93 Q))) ls st h
theorem kX12_guests_55 {X : zq_X} {d : Nat} (C : zq_C X cX12_guests 7 RX12 d) {d_X12_begins : Nat} {s_X12_begins : zq_Sp} (h_X12_begins : zq_M yX12_begins cX12_begins 3 (some .int) 1 d_X12_begins s_X12_begins) (g_X12_begins : d_X12_begins + 1 ≤ d) {d_X12_readsGuest : Nat} {s_X12_readsGuest : zq_Sp} (h_X12_readsGuest : zq_M yX12_readsGuest cX12_readsGuest 3 (some .boolean) 1 d_X12_readsGuest s_X12_readsGuest) (g_X12_readsGuest : d_X12_readsGuest + 1 ≤ d) {d_X12_takes : Nat} {s_X12_takes : zq_Sp} (h_X12_takes : zq_M yX12_takes cX12_takes 3 (some .boolean) 1 d_X12_takes s_X12_takes) (g_X12_takes : d_X12_takes + 1 ≤ d) {d_X12_faultOf : Nat} {s_X12_faultOf : zq_Sp} (h_X12_faultOf : zq_M yX12_faultOf cX12_faultOf 5 (some .int) 1 d_X12_faultOf s_X12_faultOf) (g_X12_faultOf : d_X12_faultOf + 1 ≤ d) {J29 : zq_P} (j29 : zq_ok X 7 29 J29) {J81 : zq_P} (j81 : zq_ok X 7 81 J81) {J93 : zq_P} (j93 : zq_ok X 7 93 J93) {Q : zq_Q} (hq : zq_R X (some .int) 1 Q) : zq_ok X 7 55 (xX12_guests_55 s_X12_begins s_X12_readsGuest s_X12_takes s_X12_faultOf J29 J81 J93 Q) := by
  refine zs_iconst C dX12_guests_55 (by decide) ?_
  exact kX12_guests_56 C h_X12_begins g_X12_begins h_X12_readsGuest g_X12_readsGuest h_X12_takes g_X12_takes h_X12_faultOf g_X12_faultOf j29 j81 j93 hq
def xX12_guests_51 (s_X12_begins : zq_Sp) (s_X12_readsGuest : zq_Sp) (s_X12_takes : zq_Sp) (s_X12_faultOf : zq_Sp) (J29 : zq_P) (J81 : zq_P) (J93 : zq_P) (Q : zq_Q) (ls : zq_L) (st : List Value) (h : zq_H) : Prop := (zi_push (.int 1) ((xX12_guests_56 s_X12_begins s_X12_readsGuest s_X12_takes s_X12_faultOf J29 J81 J93 Q))) ls st h
theorem kX12_guests_51 {X : zq_X} {d : Nat} (C : zq_C X cX12_guests 7 RX12 d) {d_X12_begins : Nat} {s_X12_begins : zq_Sp} (h_X12_begins : zq_M yX12_begins cX12_begins 3 (some .int) 1 d_X12_begins s_X12_begins) (g_X12_begins : d_X12_begins + 1 ≤ d) {d_X12_readsGuest : Nat} {s_X12_readsGuest : zq_Sp} (h_X12_readsGuest : zq_M yX12_readsGuest cX12_readsGuest 3 (some .boolean) 1 d_X12_readsGuest s_X12_readsGuest) (g_X12_readsGuest : d_X12_readsGuest + 1 ≤ d) {d_X12_takes : Nat} {s_X12_takes : zq_Sp} (h_X12_takes : zq_M yX12_takes cX12_takes 3 (some .boolean) 1 d_X12_takes s_X12_takes) (g_X12_takes : d_X12_takes + 1 ≤ d) {d_X12_faultOf : Nat} {s_X12_faultOf : zq_Sp} (h_X12_faultOf : zq_M yX12_faultOf cX12_faultOf 5 (some .int) 1 d_X12_faultOf s_X12_faultOf) (g_X12_faultOf : d_X12_faultOf + 1 ≤ d) {J29 : zq_P} (j29 : zq_ok X 7 29 J29) {J81 : zq_P} (j81 : zq_ok X 7 81 J81) {J93 : zq_P} (j93 : zq_ok X 7 93 J93) {Q : zq_Q} (hq : zq_R X (some .int) 1 Q) : zq_ok X 7 51 (xX12_guests_51 s_X12_begins s_X12_readsGuest s_X12_takes s_X12_faultOf J29 J81 J93 Q) := by
  refine zs_iconst C dX12_guests_51 (by decide) ?_
  exact zs_goto C dX12_guests_52 (by decide) (kX12_guests_56 C h_X12_begins g_X12_begins h_X12_readsGuest g_X12_readsGuest h_X12_takes g_X12_takes h_X12_faultOf g_X12_faultOf j29 j81 j93 hq)
def xX12_guests_42 (s_X12_begins : zq_Sp) (s_X12_readsGuest : zq_Sp) (s_X12_takes : zq_Sp) (s_X12_faultOf : zq_Sp) (J29 : zq_P) (J81 : zq_P) (J93 : zq_P) (Q : zq_Q) (ls : zq_L) (st : List Value) (h : zq_H) : Prop := (zi_aload 0 (zi_push (.int 59) (zi_callV 1 56 s_X12_takes (zi_if1 (fun x => x = 0) (xX12_guests_55 s_X12_begins s_X12_readsGuest s_X12_takes s_X12_faultOf J29 J81 J93 Q) (xX12_guests_51 s_X12_begins s_X12_readsGuest s_X12_takes s_X12_faultOf J29 J81 J93 Q))))) ls st h
theorem kX12_guests_42 {X : zq_X} {d : Nat} (C : zq_C X cX12_guests 7 RX12 d) {d_X12_begins : Nat} {s_X12_begins : zq_Sp} (h_X12_begins : zq_M yX12_begins cX12_begins 3 (some .int) 1 d_X12_begins s_X12_begins) (g_X12_begins : d_X12_begins + 1 ≤ d) {d_X12_readsGuest : Nat} {s_X12_readsGuest : zq_Sp} (h_X12_readsGuest : zq_M yX12_readsGuest cX12_readsGuest 3 (some .boolean) 1 d_X12_readsGuest s_X12_readsGuest) (g_X12_readsGuest : d_X12_readsGuest + 1 ≤ d) {d_X12_takes : Nat} {s_X12_takes : zq_Sp} (h_X12_takes : zq_M yX12_takes cX12_takes 3 (some .boolean) 1 d_X12_takes s_X12_takes) (g_X12_takes : d_X12_takes + 1 ≤ d) {d_X12_faultOf : Nat} {s_X12_faultOf : zq_Sp} (h_X12_faultOf : zq_M yX12_faultOf cX12_faultOf 5 (some .int) 1 d_X12_faultOf s_X12_faultOf) (g_X12_faultOf : d_X12_faultOf + 1 ≤ d) {J29 : zq_P} (j29 : zq_ok X 7 29 J29) {J81 : zq_P} (j81 : zq_ok X 7 81 J81) {J93 : zq_P} (j93 : zq_ok X 7 93 J93) {Q : zq_Q} (hq : zq_R X (some .int) 1 Q) : zq_ok X 7 42 (xX12_guests_42 s_X12_begins s_X12_readsGuest s_X12_takes s_X12_faultOf J29 J81 J93 Q) := by
  refine zs_aload_n C dX12_guests_42 rfl ?_
  refine zs_bipush C dX12_guests_43 (by decide) ?_
  refine zs_callV C h_X12_takes g_X12_takes zy_X12_takes zp_56 (show vwCl[12]? = some (RX12, TX12, 67) from rfl) zw_1384 zw_1386 zs9_X12_takes dX12_guests_45 ?_
  exact zs_if_eq C dX12_guests_48 (by decide) (kX12_guests_55 C h_X12_begins g_X12_begins h_X12_readsGuest g_X12_readsGuest h_X12_takes g_X12_takes h_X12_faultOf g_X12_faultOf j29 j81 j93 hq) (kX12_guests_51 C h_X12_begins g_X12_begins h_X12_readsGuest g_X12_readsGuest h_X12_takes g_X12_takes h_X12_faultOf g_X12_faultOf j29 j81 j93 hq)
def xX12_guests_33 (s_X12_begins : zq_Sp) (s_X12_readsGuest : zq_Sp) (s_X12_takes : zq_Sp) (s_X12_faultOf : zq_Sp) (J29 : zq_P) (J81 : zq_P) (J93 : zq_P) (Q : zq_Q) (ls : zq_L) (st : List Value) (h : zq_H) : Prop := (zi_aload 0 (zi_callV 0 56 s_X12_readsGuest (zi_istore 2 (zi_iload 2 (zi_if1 (fun x => x = 0) (xX12_guests_55 s_X12_begins s_X12_readsGuest s_X12_takes s_X12_faultOf J29 J81 J93 Q) (xX12_guests_42 s_X12_begins s_X12_readsGuest s_X12_takes s_X12_faultOf J29 J81 J93 Q)))))) ls st h
theorem kX12_guests_33 {X : zq_X} {d : Nat} (C : zq_C X cX12_guests 7 RX12 d) {d_X12_begins : Nat} {s_X12_begins : zq_Sp} (h_X12_begins : zq_M yX12_begins cX12_begins 3 (some .int) 1 d_X12_begins s_X12_begins) (g_X12_begins : d_X12_begins + 1 ≤ d) {d_X12_readsGuest : Nat} {s_X12_readsGuest : zq_Sp} (h_X12_readsGuest : zq_M yX12_readsGuest cX12_readsGuest 3 (some .boolean) 1 d_X12_readsGuest s_X12_readsGuest) (g_X12_readsGuest : d_X12_readsGuest + 1 ≤ d) {d_X12_takes : Nat} {s_X12_takes : zq_Sp} (h_X12_takes : zq_M yX12_takes cX12_takes 3 (some .boolean) 1 d_X12_takes s_X12_takes) (g_X12_takes : d_X12_takes + 1 ≤ d) {d_X12_faultOf : Nat} {s_X12_faultOf : zq_Sp} (h_X12_faultOf : zq_M yX12_faultOf cX12_faultOf 5 (some .int) 1 d_X12_faultOf s_X12_faultOf) (g_X12_faultOf : d_X12_faultOf + 1 ≤ d) {J29 : zq_P} (j29 : zq_ok X 7 29 J29) {J81 : zq_P} (j81 : zq_ok X 7 81 J81) {J93 : zq_P} (j93 : zq_ok X 7 93 J93) {Q : zq_Q} (hq : zq_R X (some .int) 1 Q) : zq_ok X 7 33 (xX12_guests_33 s_X12_begins s_X12_readsGuest s_X12_takes s_X12_faultOf J29 J81 J93 Q) := by
  refine zs_aload_n C dX12_guests_33 rfl ?_
  refine zs_callV C h_X12_readsGuest g_X12_readsGuest zy_X12_readsGuest zp_56 (show vwCl[12]? = some (RX12, TX12, 67) from rfl) zw_1396 zw_1398 zs9_X12_readsGuest dX12_guests_34 ?_
  refine zs_istore_n C dX12_guests_37 rfl (by decide) ?_
  refine zs_iload_n C dX12_guests_38 rfl ?_
  exact zs_if_eq C dX12_guests_39 (by decide) (kX12_guests_55 C h_X12_begins g_X12_begins h_X12_readsGuest g_X12_readsGuest h_X12_takes g_X12_takes h_X12_faultOf g_X12_faultOf j29 j81 j93 hq) (kX12_guests_42 C h_X12_begins g_X12_begins h_X12_readsGuest g_X12_readsGuest h_X12_takes g_X12_takes h_X12_faultOf g_X12_faultOf j29 j81 j93 hq)
def xX12_guests_29 (s_X12_begins : zq_Sp) (s_X12_readsGuest : zq_Sp) (s_X12_takes : zq_Sp) (s_X12_faultOf : zq_Sp) (J29 : zq_P) (J81 : zq_P) (J93 : zq_P) (Q : zq_Q) (ls : zq_L) (st : List Value) (h : zq_H) : Prop := (zi_iload 3 (zi_if1 (fun x => x = 0) (xX12_guests_60 s_X12_begins s_X12_readsGuest s_X12_takes s_X12_faultOf J29 J81 J93 Q) (xX12_guests_33 s_X12_begins s_X12_readsGuest s_X12_takes s_X12_faultOf J29 J81 J93 Q))) ls st h
theorem kX12_guests_29 {X : zq_X} {d : Nat} (C : zq_C X cX12_guests 7 RX12 d) {d_X12_begins : Nat} {s_X12_begins : zq_Sp} (h_X12_begins : zq_M yX12_begins cX12_begins 3 (some .int) 1 d_X12_begins s_X12_begins) (g_X12_begins : d_X12_begins + 1 ≤ d) {d_X12_readsGuest : Nat} {s_X12_readsGuest : zq_Sp} (h_X12_readsGuest : zq_M yX12_readsGuest cX12_readsGuest 3 (some .boolean) 1 d_X12_readsGuest s_X12_readsGuest) (g_X12_readsGuest : d_X12_readsGuest + 1 ≤ d) {d_X12_takes : Nat} {s_X12_takes : zq_Sp} (h_X12_takes : zq_M yX12_takes cX12_takes 3 (some .boolean) 1 d_X12_takes s_X12_takes) (g_X12_takes : d_X12_takes + 1 ≤ d) {d_X12_faultOf : Nat} {s_X12_faultOf : zq_Sp} (h_X12_faultOf : zq_M yX12_faultOf cX12_faultOf 5 (some .int) 1 d_X12_faultOf s_X12_faultOf) (g_X12_faultOf : d_X12_faultOf + 1 ≤ d) {J29 : zq_P} (j29 : zq_ok X 7 29 J29) {J81 : zq_P} (j81 : zq_ok X 7 81 J81) {J93 : zq_P} (j93 : zq_ok X 7 93 J93) {Q : zq_Q} (hq : zq_R X (some .int) 1 Q) : zq_ok X 7 29 (xX12_guests_29 s_X12_begins s_X12_readsGuest s_X12_takes s_X12_faultOf J29 J81 J93 Q) := by
  refine zs_iload_n C dX12_guests_29 rfl ?_
  exact zs_if_eq C dX12_guests_30 (by decide) (kX12_guests_60 C h_X12_begins g_X12_begins h_X12_readsGuest g_X12_readsGuest h_X12_takes g_X12_takes h_X12_faultOf g_X12_faultOf j29 j81 j93 hq) (kX12_guests_33 C h_X12_begins g_X12_begins h_X12_readsGuest g_X12_readsGuest h_X12_takes g_X12_takes h_X12_faultOf g_X12_faultOf j29 j81 j93 hq)
def xX12_guests_28 (s_X12_begins : zq_Sp) (s_X12_readsGuest : zq_Sp) (s_X12_takes : zq_Sp) (s_X12_faultOf : zq_Sp) (J29 : zq_P) (J81 : zq_P) (J93 : zq_P) (Q : zq_Q) (ls : zq_L) (st : List Value) (h : zq_H) : Prop := (zi_istore 3 (J29)) ls st h
theorem kX12_guests_28 {X : zq_X} {d : Nat} (C : zq_C X cX12_guests 7 RX12 d) {d_X12_begins : Nat} {s_X12_begins : zq_Sp} (h_X12_begins : zq_M yX12_begins cX12_begins 3 (some .int) 1 d_X12_begins s_X12_begins) (g_X12_begins : d_X12_begins + 1 ≤ d) {d_X12_readsGuest : Nat} {s_X12_readsGuest : zq_Sp} (h_X12_readsGuest : zq_M yX12_readsGuest cX12_readsGuest 3 (some .boolean) 1 d_X12_readsGuest s_X12_readsGuest) (g_X12_readsGuest : d_X12_readsGuest + 1 ≤ d) {d_X12_takes : Nat} {s_X12_takes : zq_Sp} (h_X12_takes : zq_M yX12_takes cX12_takes 3 (some .boolean) 1 d_X12_takes s_X12_takes) (g_X12_takes : d_X12_takes + 1 ≤ d) {d_X12_faultOf : Nat} {s_X12_faultOf : zq_Sp} (h_X12_faultOf : zq_M yX12_faultOf cX12_faultOf 5 (some .int) 1 d_X12_faultOf s_X12_faultOf) (g_X12_faultOf : d_X12_faultOf + 1 ≤ d) {J29 : zq_P} (j29 : zq_ok X 7 29 J29) {J81 : zq_P} (j81 : zq_ok X 7 81 J81) {J93 : zq_P} (j93 : zq_ok X 7 93 J93) {Q : zq_Q} (hq : zq_R X (some .int) 1 Q) : zq_ok X 7 28 (xX12_guests_28 s_X12_begins s_X12_readsGuest s_X12_takes s_X12_faultOf J29 J81 J93 Q) := by
  refine zs_istore_n C dX12_guests_28 rfl (by decide) ?_
  exact j29
def xX12_guests_27 (s_X12_begins : zq_Sp) (s_X12_readsGuest : zq_Sp) (s_X12_takes : zq_Sp) (s_X12_faultOf : zq_Sp) (J29 : zq_P) (J81 : zq_P) (J93 : zq_P) (Q : zq_Q) (ls : zq_L) (st : List Value) (h : zq_H) : Prop := (zi_push (.int 0) ((xX12_guests_28 s_X12_begins s_X12_readsGuest s_X12_takes s_X12_faultOf J29 J81 J93 Q))) ls st h
theorem kX12_guests_27 {X : zq_X} {d : Nat} (C : zq_C X cX12_guests 7 RX12 d) {d_X12_begins : Nat} {s_X12_begins : zq_Sp} (h_X12_begins : zq_M yX12_begins cX12_begins 3 (some .int) 1 d_X12_begins s_X12_begins) (g_X12_begins : d_X12_begins + 1 ≤ d) {d_X12_readsGuest : Nat} {s_X12_readsGuest : zq_Sp} (h_X12_readsGuest : zq_M yX12_readsGuest cX12_readsGuest 3 (some .boolean) 1 d_X12_readsGuest s_X12_readsGuest) (g_X12_readsGuest : d_X12_readsGuest + 1 ≤ d) {d_X12_takes : Nat} {s_X12_takes : zq_Sp} (h_X12_takes : zq_M yX12_takes cX12_takes 3 (some .boolean) 1 d_X12_takes s_X12_takes) (g_X12_takes : d_X12_takes + 1 ≤ d) {d_X12_faultOf : Nat} {s_X12_faultOf : zq_Sp} (h_X12_faultOf : zq_M yX12_faultOf cX12_faultOf 5 (some .int) 1 d_X12_faultOf s_X12_faultOf) (g_X12_faultOf : d_X12_faultOf + 1 ≤ d) {J29 : zq_P} (j29 : zq_ok X 7 29 J29) {J81 : zq_P} (j81 : zq_ok X 7 81 J81) {J93 : zq_P} (j93 : zq_ok X 7 93 J93) {Q : zq_Q} (hq : zq_R X (some .int) 1 Q) : zq_ok X 7 27 (xX12_guests_27 s_X12_begins s_X12_readsGuest s_X12_takes s_X12_faultOf J29 J81 J93 Q) := by
  refine zs_iconst C dX12_guests_27 (by decide) ?_
  exact kX12_guests_28 C h_X12_begins g_X12_begins h_X12_readsGuest g_X12_readsGuest h_X12_takes g_X12_takes h_X12_faultOf g_X12_faultOf j29 j81 j93 hq
def xX12_guests_23 (s_X12_begins : zq_Sp) (s_X12_readsGuest : zq_Sp) (s_X12_takes : zq_Sp) (s_X12_faultOf : zq_Sp) (J29 : zq_P) (J81 : zq_P) (J93 : zq_P) (Q : zq_Q) (ls : zq_L) (st : List Value) (h : zq_H) : Prop := (zi_push (.int 1) ((xX12_guests_28 s_X12_begins s_X12_readsGuest s_X12_takes s_X12_faultOf J29 J81 J93 Q))) ls st h
theorem kX12_guests_23 {X : zq_X} {d : Nat} (C : zq_C X cX12_guests 7 RX12 d) {d_X12_begins : Nat} {s_X12_begins : zq_Sp} (h_X12_begins : zq_M yX12_begins cX12_begins 3 (some .int) 1 d_X12_begins s_X12_begins) (g_X12_begins : d_X12_begins + 1 ≤ d) {d_X12_readsGuest : Nat} {s_X12_readsGuest : zq_Sp} (h_X12_readsGuest : zq_M yX12_readsGuest cX12_readsGuest 3 (some .boolean) 1 d_X12_readsGuest s_X12_readsGuest) (g_X12_readsGuest : d_X12_readsGuest + 1 ≤ d) {d_X12_takes : Nat} {s_X12_takes : zq_Sp} (h_X12_takes : zq_M yX12_takes cX12_takes 3 (some .boolean) 1 d_X12_takes s_X12_takes) (g_X12_takes : d_X12_takes + 1 ≤ d) {d_X12_faultOf : Nat} {s_X12_faultOf : zq_Sp} (h_X12_faultOf : zq_M yX12_faultOf cX12_faultOf 5 (some .int) 1 d_X12_faultOf s_X12_faultOf) (g_X12_faultOf : d_X12_faultOf + 1 ≤ d) {J29 : zq_P} (j29 : zq_ok X 7 29 J29) {J81 : zq_P} (j81 : zq_ok X 7 81 J81) {J93 : zq_P} (j93 : zq_ok X 7 93 J93) {Q : zq_Q} (hq : zq_R X (some .int) 1 Q) : zq_ok X 7 23 (xX12_guests_23 s_X12_begins s_X12_readsGuest s_X12_takes s_X12_faultOf J29 J81 J93 Q) := by
  refine zs_iconst C dX12_guests_23 (by decide) ?_
  exact zs_goto C dX12_guests_24 (by decide) (kX12_guests_28 C h_X12_begins g_X12_begins h_X12_readsGuest g_X12_readsGuest h_X12_takes g_X12_takes h_X12_faultOf g_X12_faultOf j29 j81 j93 hq)
def xX12_guests_0 (s_X12_begins : zq_Sp) (s_X12_readsGuest : zq_Sp) (s_X12_takes : zq_Sp) (s_X12_faultOf : zq_Sp) (J29 : zq_P) (J81 : zq_P) (J93 : zq_P) (Q : zq_Q) (ls : zq_L) (st : List Value) (h : zq_H) : Prop := (zi_aload 0 (zi_push (.int 0) (zi_putI 56 0 (zi_aload 0 (zi_push (.int 23) (zi_callV 1 56 s_X12_begins (zi_istore 1 (zi_aload 0 (zi_push (.int 0) (zi_putI 56 21 (zi_push (.int 1) (zi_istore 2 (zi_iload 1 (zi_if1 (fun x => x ≤ 0) (xX12_guests_27 s_X12_begins s_X12_readsGuest s_X12_takes s_X12_faultOf J29 J81 J93 Q) (xX12_guests_23 s_X12_begins s_X12_readsGuest s_X12_takes s_X12_faultOf J29 J81 J93 Q))))))))))))))) ls st h
theorem kX12_guests_0 {X : zq_X} {d : Nat} (C : zq_C X cX12_guests 7 RX12 d) {d_X12_begins : Nat} {s_X12_begins : zq_Sp} (h_X12_begins : zq_M yX12_begins cX12_begins 3 (some .int) 1 d_X12_begins s_X12_begins) (g_X12_begins : d_X12_begins + 1 ≤ d) {d_X12_readsGuest : Nat} {s_X12_readsGuest : zq_Sp} (h_X12_readsGuest : zq_M yX12_readsGuest cX12_readsGuest 3 (some .boolean) 1 d_X12_readsGuest s_X12_readsGuest) (g_X12_readsGuest : d_X12_readsGuest + 1 ≤ d) {d_X12_takes : Nat} {s_X12_takes : zq_Sp} (h_X12_takes : zq_M yX12_takes cX12_takes 3 (some .boolean) 1 d_X12_takes s_X12_takes) (g_X12_takes : d_X12_takes + 1 ≤ d) {d_X12_faultOf : Nat} {s_X12_faultOf : zq_Sp} (h_X12_faultOf : zq_M yX12_faultOf cX12_faultOf 5 (some .int) 1 d_X12_faultOf s_X12_faultOf) (g_X12_faultOf : d_X12_faultOf + 1 ≤ d) {J29 : zq_P} (j29 : zq_ok X 7 29 J29) {J81 : zq_P} (j81 : zq_ok X 7 81 J81) {J93 : zq_P} (j93 : zq_ok X 7 93 J93) {Q : zq_Q} (hq : zq_R X (some .int) 1 Q) : zq_ok X 7 0 (xX12_guests_0 s_X12_begins s_X12_readsGuest s_X12_takes s_X12_faultOf J29 J81 J93 Q) := by
  refine zs_aload_n C dX12_guests_0 rfl ?_
  refine zs_iconst C dX12_guests_1 (by decide) ?_
  refine zs_putI C zp_56 zF12 (j := 0) ⟨by decide, rfl⟩ ⟨rfl, by decide +kernel⟩ zw_1096 dX12_guests_2 ?_
  refine zs_aload_n C dX12_guests_5 rfl ?_
  refine zs_bipush C dX12_guests_6 (by decide) ?_
  refine zs_callV C h_X12_begins g_X12_begins zy_X12_begins zp_56 (show vwCl[12]? = some (RX12, TX12, 67) from rfl) zw_1318 zw_1320 zs9_X12_begins dX12_guests_8 ?_
  refine zs_istore_n C dX12_guests_11 rfl (by decide) ?_
  refine zs_aload_n C dX12_guests_12 rfl ?_
  refine zs_iconst C dX12_guests_13 (by decide) ?_
  refine zs_putI C zp_56 zF12 (j := 21) ⟨by decide, rfl⟩ ⟨rfl, by decide +kernel⟩ zw_1117 dX12_guests_14 ?_
  refine zs_iconst C dX12_guests_17 (by decide) ?_
  refine zs_istore_n C dX12_guests_18 rfl (by decide) ?_
  refine zs_iload_n C dX12_guests_19 rfl ?_
  exact zs_if_le C dX12_guests_20 (by decide) (kX12_guests_27 C h_X12_begins g_X12_begins h_X12_readsGuest g_X12_readsGuest h_X12_takes g_X12_takes h_X12_faultOf g_X12_faultOf j29 j81 j93 hq) (kX12_guests_23 C h_X12_begins g_X12_begins h_X12_readsGuest g_X12_readsGuest h_X12_takes g_X12_takes h_X12_faultOf g_X12_faultOf j29 j81 j93 hq)
theorem mX12_guests {d : Nat} {spec : zq_Sp} {σ29 : Type} {σ81 : Type} {σ93 : Type} {d_X12_begins : Nat} {s_X12_begins : zq_Sp} (h_X12_begins : zq_M yX12_begins cX12_begins 3 (some .int) 1 d_X12_begins s_X12_begins) (g_X12_begins : d_X12_begins + 1 ≤ d) {d_X12_readsGuest : Nat} {s_X12_readsGuest : zq_Sp} (h_X12_readsGuest : zq_M yX12_readsGuest cX12_readsGuest 3 (some .boolean) 1 d_X12_readsGuest s_X12_readsGuest) (g_X12_readsGuest : d_X12_readsGuest + 1 ≤ d) {d_X12_takes : Nat} {s_X12_takes : zq_Sp} (h_X12_takes : zq_M yX12_takes cX12_takes 3 (some .boolean) 1 d_X12_takes s_X12_takes) (g_X12_takes : d_X12_takes + 1 ≤ d) {d_X12_faultOf : Nat} {s_X12_faultOf : zq_Sp} (h_X12_faultOf : zq_M yX12_faultOf cX12_faultOf 5 (some .int) 1 d_X12_faultOf s_X12_faultOf) (g_X12_faultOf : d_X12_faultOf + 1 ≤ d) (μ29 : σ29 → Nat) (I29 : zq_Q → σ29 → zq_P) (μ81 : σ81 → Nat) (I81 : zq_Q → σ81 → zq_P) (μ93 : σ93 → Nat) (I93 : zq_Q → σ93 → zq_P) (v : ∀ args h Q, spec args h Q → (zq_a args).length ≤ 7 ∧ xX12_guests_0 s_X12_begins s_X12_readsGuest s_X12_takes s_X12_faultOf (fun ls st h => ∃ b, I29 Q b ls st h) (fun ls st h => ∃ b, I81 Q b ls st h) (fun ls st h => ∃ b, I93 Q b ls st h) Q (zq_l0 7 args) [] h) (v29 : ∀ Q a ls st h, I29 Q a ls st h → xX12_guests_29 s_X12_begins s_X12_readsGuest s_X12_takes s_X12_faultOf (fun ls st h => ∃ b, μ29 b < μ29 a ∧ I29 Q b ls st h) (fun ls st h => ∃ b, μ81 b < μ29 a ∧ I81 Q b ls st h) (fun ls st h => ∃ b, μ93 b < μ29 a ∧ I93 Q b ls st h) Q ls st h) (v81 : ∀ Q a ls st h, I81 Q a ls st h → xX12_guests_81 s_X12_begins s_X12_readsGuest s_X12_takes s_X12_faultOf (fun ls st h => ∃ b, μ29 b < μ81 a ∧ I29 Q b ls st h) (fun ls st h => ∃ b, μ81 b < μ81 a ∧ I81 Q b ls st h) (fun ls st h => ∃ b, μ93 b < μ81 a ∧ I93 Q b ls st h) Q ls st h) (v93 : ∀ Q a ls st h, I93 Q a ls st h → xX12_guests_93 s_X12_begins s_X12_readsGuest s_X12_takes s_X12_faultOf (fun ls st h => ∃ b, μ29 b < μ93 a ∧ I29 Q b ls st h) (fun ls st h => ∃ b, μ81 b < μ93 a ∧ I81 Q b ls st h) (fun ls st h => ∃ b, μ93 b < μ93 a ∧ I93 Q b ls st h) Q ls st h) : zq_M yX12_guests cX12_guests 7 (some .int) 1 d spec := by
  refine zq_met (by decide +kernel) (by decide) (fun X Q args h C hq hs => ⟨(v args h Q hs).1, _, ?_, (v args h Q hs).2⟩)
  have hl := zq_loop3 (X := X) (nL := 7) (pc1 := 29) (pc2 := 81) (pc3 := 93) μ29 μ81 μ93 (I29 Q) (I81 Q) (I93 Q) (fun J29 J81 J93 => xX12_guests_29 s_X12_begins s_X12_readsGuest s_X12_takes s_X12_faultOf J29 J81 J93 Q) (fun J29 J81 J93 => xX12_guests_81 s_X12_begins s_X12_readsGuest s_X12_takes s_X12_faultOf J29 J81 J93 Q) (fun J29 J81 J93 => xX12_guests_93 s_X12_begins s_X12_readsGuest s_X12_takes s_X12_faultOf J29 J81 J93 Q) (fun j29 j81 j93 => kX12_guests_29 C h_X12_begins g_X12_begins h_X12_readsGuest g_X12_readsGuest h_X12_takes g_X12_takes h_X12_faultOf g_X12_faultOf j29 j81 j93 hq) (fun j29 j81 j93 => kX12_guests_81 C h_X12_begins g_X12_begins h_X12_readsGuest g_X12_readsGuest h_X12_takes g_X12_takes h_X12_faultOf g_X12_faultOf j29 j81 j93 hq) (fun j29 j81 j93 => kX12_guests_93 C h_X12_begins g_X12_begins h_X12_readsGuest g_X12_readsGuest h_X12_takes g_X12_takes h_X12_faultOf g_X12_faultOf j29 j81 j93 hq) (v29 Q) (v81 Q) (v93 Q)
  exact kX12_guests_0 C h_X12_begins g_X12_begins h_X12_readsGuest g_X12_readsGuest h_X12_takes g_X12_takes h_X12_faultOf g_X12_faultOf hl.1 hl.2.1 hl.2.2 hq
/-! ToOneCrumbModel.readsDeed()Z -/
theorem dX12_readsDeed_0 : decode cX12_readsDeed 0 = .ok (.aload_n 0, 1) := by decide +kernel
theorem dX12_readsDeed_1 : decode cX12_readsDeed 1 = .ok (.ldc 254, 2) := by decide +kernel
theorem dX12_readsDeed_3 : decode cX12_readsDeed 3 = .ok (.invokevirtual 224, 3) := by decide +kernel
theorem dX12_readsDeed_6 : decode cX12_readsDeed 6 = .ok (.istore_n 1, 1) := by decide +kernel
theorem dX12_readsDeed_7 : decode cX12_readsDeed 7 = .ok (.iload_n 1, 1) := by decide +kernel
theorem dX12_readsDeed_8 : decode cX12_readsDeed 8 = .ok (.ifCond .ge 5, 3) := by decide +kernel
theorem dX12_readsDeed_11 : decode cX12_readsDeed 11 = .ok (.iconst 0, 1) := by decide +kernel
theorem dX12_readsDeed_12 : decode cX12_readsDeed 12 = .ok (.ireturn, 1) := by decide +kernel
theorem dX12_readsDeed_13 : decode cX12_readsDeed 13 = .ok (.aload_n 0, 1) := by decide +kernel
theorem dX12_readsDeed_14 : decode cX12_readsDeed 14 = .ok (.aload_n 0, 1) := by decide +kernel
theorem dX12_readsDeed_15 : decode cX12_readsDeed 15 = .ok (.getfield 165, 3) := by decide +kernel
theorem dX12_readsDeed_18 : decode cX12_readsDeed 18 = .ok (.invokevirtual 256, 3) := by decide +kernel
theorem dX12_readsDeed_21 : decode cX12_readsDeed 21 = .ok (.istore_n 2, 1) := by decide +kernel
theorem dX12_readsDeed_22 : decode cX12_readsDeed 22 = .ok (.iload_n 2, 1) := by decide +kernel
theorem dX12_readsDeed_23 : decode cX12_readsDeed 23 = .ok (.ifCond .ge 5, 3) := by decide +kernel
theorem dX12_readsDeed_26 : decode cX12_readsDeed 26 = .ok (.iconst 0, 1) := by decide +kernel
theorem dX12_readsDeed_27 : decode cX12_readsDeed 27 = .ok (.ireturn, 1) := by decide +kernel
theorem dX12_readsDeed_28 : decode cX12_readsDeed 28 = .ok (.iconst (-1), 1) := by decide +kernel
theorem dX12_readsDeed_29 : decode cX12_readsDeed 29 = .ok (.istore_n 3, 1) := by decide +kernel
theorem dX12_readsDeed_30 : decode cX12_readsDeed 30 = .ok (.iload_n 1, 1) := by decide +kernel
theorem dX12_readsDeed_31 : decode cX12_readsDeed 31 = .ok (.iconst 1, 1) := by decide +kernel
theorem dX12_readsDeed_32 : decode cX12_readsDeed 32 = .ok (.if_icmp .le 47, 3) := by decide +kernel
theorem dX12_readsDeed_35 : decode cX12_readsDeed 35 = .ok (.aload_n 0, 1) := by decide +kernel
theorem dX12_readsDeed_36 : decode cX12_readsDeed 36 = .ok (.getfield 175, 3) := by decide +kernel
theorem dX12_readsDeed_39 : decode cX12_readsDeed 39 = .ok (.aload_n 0, 1) := by decide +kernel
theorem dX12_readsDeed_40 : decode cX12_readsDeed 40 = .ok (.getfield 187, 3) := by decide +kernel
theorem dX12_readsDeed_43 : decode cX12_readsDeed 43 = .ok (.if_icmp .ge 21, 3) := by decide +kernel
theorem dX12_readsDeed_46 : decode cX12_readsDeed 46 = .ok (.aload_n 0, 1) := by decide +kernel
theorem dX12_readsDeed_47 : decode cX12_readsDeed 47 = .ok (.getfield 33, 3) := by decide +kernel
theorem dX12_readsDeed_50 : decode cX12_readsDeed 50 = .ok (.aload_n 0, 1) := by decide +kernel
theorem dX12_readsDeed_51 : decode cX12_readsDeed 51 = .ok (.getfield 175, 3) := by decide +kernel
theorem dX12_readsDeed_54 : decode cX12_readsDeed 54 = .ok (.iaload, 1) := by decide +kernel
theorem dX12_readsDeed_55 : decode cX12_readsDeed 55 = .ok (.bipush 97, 2) := by decide +kernel
theorem dX12_readsDeed_57 : decode cX12_readsDeed 57 = .ok (.iload_n 2, 1) := by decide +kernel
theorem dX12_readsDeed_58 : decode cX12_readsDeed 58 = .ok (.iadd, 1) := by decide +kernel
theorem dX12_readsDeed_59 : decode cX12_readsDeed 59 = .ok (.if_icmp .ne 5, 3) := by decide +kernel
theorem dX12_readsDeed_62 : decode cX12_readsDeed 62 = .ok (.iconst 0, 1) := by decide +kernel
theorem dX12_readsDeed_63 : decode cX12_readsDeed 63 = .ok (.ireturn, 1) := by decide +kernel
theorem dX12_readsDeed_64 : decode cX12_readsDeed 64 = .ok (.aload_n 0, 1) := by decide +kernel
theorem dX12_readsDeed_65 : decode cX12_readsDeed 65 = .ok (.aload_n 0, 1) := by decide +kernel
theorem dX12_readsDeed_66 : decode cX12_readsDeed 66 = .ok (.getfield 165, 3) := by decide +kernel
theorem dX12_readsDeed_69 : decode cX12_readsDeed 69 = .ok (.invokevirtual 256, 3) := by decide +kernel
theorem dX12_readsDeed_72 : decode cX12_readsDeed 72 = .ok (.istore_n 3, 1) := by decide +kernel
theorem dX12_readsDeed_73 : decode cX12_readsDeed 73 = .ok (.iload_n 3, 1) := by decide +kernel
theorem dX12_readsDeed_74 : decode cX12_readsDeed 74 = .ok (.ifCond .ge 5, 3) := by decide +kernel
theorem dX12_readsDeed_77 : decode cX12_readsDeed 77 = .ok (.iconst 0, 1) := by decide +kernel
theorem dX12_readsDeed_78 : decode cX12_readsDeed 78 = .ok (.ireturn, 1) := by decide +kernel
theorem dX12_readsDeed_79 : decode cX12_readsDeed 79 = .ok (.aload_n 0, 1) := by decide +kernel
theorem dX12_readsDeed_80 : decode cX12_readsDeed 80 = .ok (.iconst 1, 1) := by decide +kernel
theorem dX12_readsDeed_81 : decode cX12_readsDeed 81 = .ok (.invokevirtual 248, 3) := by decide +kernel
theorem dX12_readsDeed_84 : decode cX12_readsDeed 84 = .ok (.istore 4, 2) := by decide +kernel
theorem dX12_readsDeed_86 : decode cX12_readsDeed 86 = .ok (.iload 4, 2) := by decide +kernel
theorem dX12_readsDeed_88 : decode cX12_readsDeed 88 = .ok (.ifCond .ge 5, 3) := by decide +kernel
theorem dX12_readsDeed_91 : decode cX12_readsDeed 91 = .ok (.iconst 0, 1) := by decide +kernel
theorem dX12_readsDeed_92 : decode cX12_readsDeed 92 = .ok (.ireturn, 1) := by decide +kernel
theorem dX12_readsDeed_93 : decode cX12_readsDeed 93 = .ok (.aload_n 0, 1) := by decide +kernel
theorem dX12_readsDeed_94 : decode cX12_readsDeed 94 = .ok (.getfield 48, 3) := by decide +kernel
theorem dX12_readsDeed_97 : decode cX12_readsDeed 97 = .ok (.iload_n 2, 1) := by decide +kernel
theorem dX12_readsDeed_98 : decode cX12_readsDeed 98 = .ok (.dup2, 1) := by decide +kernel
theorem dX12_readsDeed_99 : decode cX12_readsDeed 99 = .ok (.iaload, 1) := by decide +kernel
theorem dX12_readsDeed_100 : decode cX12_readsDeed 100 = .ok (.iload_n 1, 1) := by decide +kernel
theorem dX12_readsDeed_101 : decode cX12_readsDeed 101 = .ok (.ifCond .ne 10, 3) := by decide +kernel
theorem dX12_readsDeed_104 : decode cX12_readsDeed 104 = .ok (.iconst 3, 1) := by decide +kernel
theorem dX12_readsDeed_105 : decode cX12_readsDeed 105 = .ok (.iload 4, 2) := by decide +kernel
theorem dX12_readsDeed_107 : decode cX12_readsDeed 107 = .ok (.imul, 1) := by decide +kernel
theorem dX12_readsDeed_108 : decode cX12_readsDeed 108 = .ok (.goto 28, 3) := by decide +kernel
theorem dX12_readsDeed_111 : decode cX12_readsDeed 111 = .ok (.iload_n 1, 1) := by decide +kernel
theorem dX12_readsDeed_112 : decode cX12_readsDeed 112 = .ok (.iconst 1, 1) := by decide +kernel
theorem dX12_readsDeed_113 : decode cX12_readsDeed 113 = .ok (.if_icmp .ne 10, 3) := by decide +kernel
theorem dX12_readsDeed_116 : decode cX12_readsDeed 116 = .ok (.iconst 2, 1) := by decide +kernel
theorem dX12_readsDeed_117 : decode cX12_readsDeed 117 = .ok (.iload 4, 2) := by decide +kernel
theorem dX12_readsDeed_119 : decode cX12_readsDeed 119 = .ok (.imul, 1) := by decide +kernel
theorem dX12_readsDeed_120 : decode cX12_readsDeed 120 = .ok (.goto 16, 3) := by decide +kernel
theorem dX12_readsDeed_123 : decode cX12_readsDeed 123 = .ok (.iload_n 1, 1) := by decide +kernel
theorem dX12_readsDeed_124 : decode cX12_readsDeed 124 = .ok (.iconst 2, 1) := by decide +kernel
theorem dX12_readsDeed_125 : decode cX12_readsDeed 125 = .ok (.if_icmp .ne 9, 3) := by decide +kernel
theorem dX12_readsDeed_128 : decode cX12_readsDeed 128 = .ok (.iload 4, 2) := by decide +kernel
theorem dX12_readsDeed_130 : decode cX12_readsDeed 130 = .ok (.ineg, 1) := by decide +kernel
theorem dX12_readsDeed_131 : decode cX12_readsDeed 131 = .ok (.goto 5, 3) := by decide +kernel
theorem dX12_readsDeed_134 : decode cX12_readsDeed 134 = .ok (.iload 4, 2) := by decide +kernel
theorem dX12_readsDeed_136 : decode cX12_readsDeed 136 = .ok (.iadd, 1) := by decide +kernel
theorem dX12_readsDeed_137 : decode cX12_readsDeed 137 = .ok (.iastore, 1) := by decide +kernel
theorem dX12_readsDeed_138 : decode cX12_readsDeed 138 = .ok (.iload_n 1, 1) := by decide +kernel
theorem dX12_readsDeed_139 : decode cX12_readsDeed 139 = .ok (.iconst 2, 1) := by decide +kernel
theorem dX12_readsDeed_140 : decode cX12_readsDeed 140 = .ok (.if_icmp .ne 14, 3) := by decide +kernel
theorem dX12_readsDeed_143 : decode cX12_readsDeed 143 = .ok (.aload_n 0, 1) := by decide +kernel
theorem dX12_readsDeed_144 : decode cX12_readsDeed 144 = .ok (.getfield 48, 3) := by decide +kernel
theorem dX12_readsDeed_147 : decode cX12_readsDeed 147 = .ok (.iload_n 3, 1) := by decide +kernel
theorem dX12_readsDeed_148 : decode cX12_readsDeed 148 = .ok (.dup2, 1) := by decide +kernel
theorem dX12_readsDeed_149 : decode cX12_readsDeed 149 = .ok (.iaload, 1) := by decide +kernel
theorem dX12_readsDeed_150 : decode cX12_readsDeed 150 = .ok (.iload 4, 2) := by decide +kernel
theorem dX12_readsDeed_152 : decode cX12_readsDeed 152 = .ok (.iadd, 1) := by decide +kernel
theorem dX12_readsDeed_153 : decode cX12_readsDeed 153 = .ok (.iastore, 1) := by decide +kernel
theorem dX12_readsDeed_154 : decode cX12_readsDeed 154 = .ok (.iconst 1, 1) := by decide +kernel
theorem dX12_readsDeed_155 : decode cX12_readsDeed 155 = .ok (.ireturn, 1) := by decide +kernel
def xX12_readsDeed_154 (s_X12_takesOf : zq_Sp) (s_X12_letter : zq_Sp) (s_X12_number : zq_Sp) (Q : zq_Q) (ls : zq_L) (st : List Value) (h : zq_H) : Prop := (zi_push (.int 1) (zi_zret Q)) ls st h
theorem kX12_readsDeed_154 {X : zq_X} {d : Nat} (C : zq_C X cX12_readsDeed 5 RX12 d) {d_X12_takesOf : Nat} {s_X12_takesOf : zq_Sp} (h_X12_takesOf : zq_M yX12_takesOf cX12_takesOf 3 (some .int) 1 d_X12_takesOf s_X12_takesOf) (g_X12_takesOf : d_X12_takesOf + 1 ≤ d) {d_X12_letter : Nat} {s_X12_letter : zq_Sp} (h_X12_letter : zq_M yX12_letter cX12_letter 2 (some .int) 1 d_X12_letter s_X12_letter) (g_X12_letter : d_X12_letter + 1 ≤ d) {d_X12_number : Nat} {s_X12_number : zq_Sp} (h_X12_number : zq_M yX12_number cX12_number 4 (some .int) 1 d_X12_number s_X12_number) (g_X12_number : d_X12_number + 1 ≤ d) {Q : zq_Q} (hq : zq_R X (some .boolean) 1 Q) : zq_ok X 5 154 (xX12_readsDeed_154 s_X12_takesOf s_X12_letter s_X12_number Q) := by
  refine zs_iconst C dX12_readsDeed_154 (by decide) ?_
  exact zs_zret C hq dX12_readsDeed_155
def xX12_readsDeed_143 (s_X12_takesOf : zq_Sp) (s_X12_letter : zq_Sp) (s_X12_number : zq_Sp) (Q : zq_Q) (ls : zq_L) (st : List Value) (h : zq_H) : Prop := (zi_aload 0 (zi_getR 56 69 (zi_iload 3 (zi_dup2 (zi_aldI 69 6 (zi_iload 4 (zi_i2 (fun x y => x + y) (zi_astI 69 6 ((xX12_readsDeed_154 s_X12_takesOf s_X12_letter s_X12_number Q)))))))))) ls st h
theorem kX12_readsDeed_143 {X : zq_X} {d : Nat} (C : zq_C X cX12_readsDeed 5 RX12 d) {d_X12_takesOf : Nat} {s_X12_takesOf : zq_Sp} (h_X12_takesOf : zq_M yX12_takesOf cX12_takesOf 3 (some .int) 1 d_X12_takesOf s_X12_takesOf) (g_X12_takesOf : d_X12_takesOf + 1 ≤ d) {d_X12_letter : Nat} {s_X12_letter : zq_Sp} (h_X12_letter : zq_M yX12_letter cX12_letter 2 (some .int) 1 d_X12_letter s_X12_letter) (g_X12_letter : d_X12_letter + 1 ≤ d) {d_X12_number : Nat} {s_X12_number : zq_Sp} (h_X12_number : zq_M yX12_number cX12_number 4 (some .int) 1 d_X12_number s_X12_number) (g_X12_number : d_X12_number + 1 ≤ d) {Q : zq_Q} (hq : zq_R X (some .boolean) 1 Q) : zq_ok X 5 143 (xX12_readsDeed_143 s_X12_takesOf s_X12_letter s_X12_number Q) := by
  refine zs_aload_n C dX12_readsDeed_143 rfl ?_
  refine zs_getR C zp_56 zF12 (j := 22) ⟨by decide, rfl⟩ zw_1118 dX12_readsDeed_144 ?_
  refine zs_iload_n C dX12_readsDeed_147 rfl ?_
  refine zs_dup2 C dX12_readsDeed_148 ?_
  refine zs_iaload C zp_69 dX12_readsDeed_149 ?_
  refine zs_iload C dX12_readsDeed_150 ?_
  refine zs_iadd C dX12_readsDeed_152 ?_
  refine zs_iastore C zp_69 dX12_readsDeed_153 ?_
  exact kX12_readsDeed_154 C h_X12_takesOf g_X12_takesOf h_X12_letter g_X12_letter h_X12_number g_X12_number hq
def xX12_readsDeed_136 (s_X12_takesOf : zq_Sp) (s_X12_letter : zq_Sp) (s_X12_number : zq_Sp) (Q : zq_Q) (ls : zq_L) (st : List Value) (h : zq_H) : Prop := (zi_i2 (fun x y => x + y) (zi_astI 69 6 (zi_iload 1 (zi_push (.int 2) (zi_if2 (fun x y => x = y) (xX12_readsDeed_143 s_X12_takesOf s_X12_letter s_X12_number Q) (xX12_readsDeed_154 s_X12_takesOf s_X12_letter s_X12_number Q)))))) ls st h
theorem kX12_readsDeed_136 {X : zq_X} {d : Nat} (C : zq_C X cX12_readsDeed 5 RX12 d) {d_X12_takesOf : Nat} {s_X12_takesOf : zq_Sp} (h_X12_takesOf : zq_M yX12_takesOf cX12_takesOf 3 (some .int) 1 d_X12_takesOf s_X12_takesOf) (g_X12_takesOf : d_X12_takesOf + 1 ≤ d) {d_X12_letter : Nat} {s_X12_letter : zq_Sp} (h_X12_letter : zq_M yX12_letter cX12_letter 2 (some .int) 1 d_X12_letter s_X12_letter) (g_X12_letter : d_X12_letter + 1 ≤ d) {d_X12_number : Nat} {s_X12_number : zq_Sp} (h_X12_number : zq_M yX12_number cX12_number 4 (some .int) 1 d_X12_number s_X12_number) (g_X12_number : d_X12_number + 1 ≤ d) {Q : zq_Q} (hq : zq_R X (some .boolean) 1 Q) : zq_ok X 5 136 (xX12_readsDeed_136 s_X12_takesOf s_X12_letter s_X12_number Q) := by
  refine zs_iadd C dX12_readsDeed_136 ?_
  refine zs_iastore C zp_69 dX12_readsDeed_137 ?_
  refine zs_iload_n C dX12_readsDeed_138 rfl ?_
  refine zs_iconst C dX12_readsDeed_139 (by decide) ?_
  exact zs_icmp_ne C dX12_readsDeed_140 (by decide) (kX12_readsDeed_154 C h_X12_takesOf g_X12_takesOf h_X12_letter g_X12_letter h_X12_number g_X12_number hq) (kX12_readsDeed_143 C h_X12_takesOf g_X12_takesOf h_X12_letter g_X12_letter h_X12_number g_X12_number hq)
def xX12_readsDeed_134 (s_X12_takesOf : zq_Sp) (s_X12_letter : zq_Sp) (s_X12_number : zq_Sp) (Q : zq_Q) (ls : zq_L) (st : List Value) (h : zq_H) : Prop := (zi_iload 4 ((xX12_readsDeed_136 s_X12_takesOf s_X12_letter s_X12_number Q))) ls st h
theorem kX12_readsDeed_134 {X : zq_X} {d : Nat} (C : zq_C X cX12_readsDeed 5 RX12 d) {d_X12_takesOf : Nat} {s_X12_takesOf : zq_Sp} (h_X12_takesOf : zq_M yX12_takesOf cX12_takesOf 3 (some .int) 1 d_X12_takesOf s_X12_takesOf) (g_X12_takesOf : d_X12_takesOf + 1 ≤ d) {d_X12_letter : Nat} {s_X12_letter : zq_Sp} (h_X12_letter : zq_M yX12_letter cX12_letter 2 (some .int) 1 d_X12_letter s_X12_letter) (g_X12_letter : d_X12_letter + 1 ≤ d) {d_X12_number : Nat} {s_X12_number : zq_Sp} (h_X12_number : zq_M yX12_number cX12_number 4 (some .int) 1 d_X12_number s_X12_number) (g_X12_number : d_X12_number + 1 ≤ d) {Q : zq_Q} (hq : zq_R X (some .boolean) 1 Q) : zq_ok X 5 134 (xX12_readsDeed_134 s_X12_takesOf s_X12_letter s_X12_number Q) := by
  refine zs_iload C dX12_readsDeed_134 ?_
  exact kX12_readsDeed_136 C h_X12_takesOf g_X12_takesOf h_X12_letter g_X12_letter h_X12_number g_X12_number hq
def xX12_readsDeed_128 (s_X12_takesOf : zq_Sp) (s_X12_letter : zq_Sp) (s_X12_number : zq_Sp) (Q : zq_Q) (ls : zq_L) (st : List Value) (h : zq_H) : Prop := (zi_iload 4 (zi_i1 (fun x => -x) ((xX12_readsDeed_136 s_X12_takesOf s_X12_letter s_X12_number Q)))) ls st h
theorem kX12_readsDeed_128 {X : zq_X} {d : Nat} (C : zq_C X cX12_readsDeed 5 RX12 d) {d_X12_takesOf : Nat} {s_X12_takesOf : zq_Sp} (h_X12_takesOf : zq_M yX12_takesOf cX12_takesOf 3 (some .int) 1 d_X12_takesOf s_X12_takesOf) (g_X12_takesOf : d_X12_takesOf + 1 ≤ d) {d_X12_letter : Nat} {s_X12_letter : zq_Sp} (h_X12_letter : zq_M yX12_letter cX12_letter 2 (some .int) 1 d_X12_letter s_X12_letter) (g_X12_letter : d_X12_letter + 1 ≤ d) {d_X12_number : Nat} {s_X12_number : zq_Sp} (h_X12_number : zq_M yX12_number cX12_number 4 (some .int) 1 d_X12_number s_X12_number) (g_X12_number : d_X12_number + 1 ≤ d) {Q : zq_Q} (hq : zq_R X (some .boolean) 1 Q) : zq_ok X 5 128 (xX12_readsDeed_128 s_X12_takesOf s_X12_letter s_X12_number Q) := by
  refine zs_iload C dX12_readsDeed_128 ?_
  refine zs_ineg C dX12_readsDeed_130 ?_
  exact zs_goto C dX12_readsDeed_131 (by decide) (kX12_readsDeed_136 C h_X12_takesOf g_X12_takesOf h_X12_letter g_X12_letter h_X12_number g_X12_number hq)
def xX12_readsDeed_123 (s_X12_takesOf : zq_Sp) (s_X12_letter : zq_Sp) (s_X12_number : zq_Sp) (Q : zq_Q) (ls : zq_L) (st : List Value) (h : zq_H) : Prop := (zi_iload 1 (zi_push (.int 2) (zi_if2 (fun x y => x = y) (xX12_readsDeed_128 s_X12_takesOf s_X12_letter s_X12_number Q) (xX12_readsDeed_134 s_X12_takesOf s_X12_letter s_X12_number Q)))) ls st h
theorem kX12_readsDeed_123 {X : zq_X} {d : Nat} (C : zq_C X cX12_readsDeed 5 RX12 d) {d_X12_takesOf : Nat} {s_X12_takesOf : zq_Sp} (h_X12_takesOf : zq_M yX12_takesOf cX12_takesOf 3 (some .int) 1 d_X12_takesOf s_X12_takesOf) (g_X12_takesOf : d_X12_takesOf + 1 ≤ d) {d_X12_letter : Nat} {s_X12_letter : zq_Sp} (h_X12_letter : zq_M yX12_letter cX12_letter 2 (some .int) 1 d_X12_letter s_X12_letter) (g_X12_letter : d_X12_letter + 1 ≤ d) {d_X12_number : Nat} {s_X12_number : zq_Sp} (h_X12_number : zq_M yX12_number cX12_number 4 (some .int) 1 d_X12_number s_X12_number) (g_X12_number : d_X12_number + 1 ≤ d) {Q : zq_Q} (hq : zq_R X (some .boolean) 1 Q) : zq_ok X 5 123 (xX12_readsDeed_123 s_X12_takesOf s_X12_letter s_X12_number Q) := by
  refine zs_iload_n C dX12_readsDeed_123 rfl ?_
  refine zs_iconst C dX12_readsDeed_124 (by decide) ?_
  exact zs_icmp_ne C dX12_readsDeed_125 (by decide) (kX12_readsDeed_134 C h_X12_takesOf g_X12_takesOf h_X12_letter g_X12_letter h_X12_number g_X12_number hq) (kX12_readsDeed_128 C h_X12_takesOf g_X12_takesOf h_X12_letter g_X12_letter h_X12_number g_X12_number hq)
def xX12_readsDeed_116 (s_X12_takesOf : zq_Sp) (s_X12_letter : zq_Sp) (s_X12_number : zq_Sp) (Q : zq_Q) (ls : zq_L) (st : List Value) (h : zq_H) : Prop := (zi_push (.int 2) (zi_iload 4 (zi_i2 (fun x y => x * y) ((xX12_readsDeed_136 s_X12_takesOf s_X12_letter s_X12_number Q))))) ls st h
theorem kX12_readsDeed_116 {X : zq_X} {d : Nat} (C : zq_C X cX12_readsDeed 5 RX12 d) {d_X12_takesOf : Nat} {s_X12_takesOf : zq_Sp} (h_X12_takesOf : zq_M yX12_takesOf cX12_takesOf 3 (some .int) 1 d_X12_takesOf s_X12_takesOf) (g_X12_takesOf : d_X12_takesOf + 1 ≤ d) {d_X12_letter : Nat} {s_X12_letter : zq_Sp} (h_X12_letter : zq_M yX12_letter cX12_letter 2 (some .int) 1 d_X12_letter s_X12_letter) (g_X12_letter : d_X12_letter + 1 ≤ d) {d_X12_number : Nat} {s_X12_number : zq_Sp} (h_X12_number : zq_M yX12_number cX12_number 4 (some .int) 1 d_X12_number s_X12_number) (g_X12_number : d_X12_number + 1 ≤ d) {Q : zq_Q} (hq : zq_R X (some .boolean) 1 Q) : zq_ok X 5 116 (xX12_readsDeed_116 s_X12_takesOf s_X12_letter s_X12_number Q) := by
  refine zs_iconst C dX12_readsDeed_116 (by decide) ?_
  refine zs_iload C dX12_readsDeed_117 ?_
  refine zs_imul C dX12_readsDeed_119 ?_
  exact zs_goto C dX12_readsDeed_120 (by decide) (kX12_readsDeed_136 C h_X12_takesOf g_X12_takesOf h_X12_letter g_X12_letter h_X12_number g_X12_number hq)
def xX12_readsDeed_111 (s_X12_takesOf : zq_Sp) (s_X12_letter : zq_Sp) (s_X12_number : zq_Sp) (Q : zq_Q) (ls : zq_L) (st : List Value) (h : zq_H) : Prop := (zi_iload 1 (zi_push (.int 1) (zi_if2 (fun x y => x = y) (xX12_readsDeed_116 s_X12_takesOf s_X12_letter s_X12_number Q) (xX12_readsDeed_123 s_X12_takesOf s_X12_letter s_X12_number Q)))) ls st h
theorem kX12_readsDeed_111 {X : zq_X} {d : Nat} (C : zq_C X cX12_readsDeed 5 RX12 d) {d_X12_takesOf : Nat} {s_X12_takesOf : zq_Sp} (h_X12_takesOf : zq_M yX12_takesOf cX12_takesOf 3 (some .int) 1 d_X12_takesOf s_X12_takesOf) (g_X12_takesOf : d_X12_takesOf + 1 ≤ d) {d_X12_letter : Nat} {s_X12_letter : zq_Sp} (h_X12_letter : zq_M yX12_letter cX12_letter 2 (some .int) 1 d_X12_letter s_X12_letter) (g_X12_letter : d_X12_letter + 1 ≤ d) {d_X12_number : Nat} {s_X12_number : zq_Sp} (h_X12_number : zq_M yX12_number cX12_number 4 (some .int) 1 d_X12_number s_X12_number) (g_X12_number : d_X12_number + 1 ≤ d) {Q : zq_Q} (hq : zq_R X (some .boolean) 1 Q) : zq_ok X 5 111 (xX12_readsDeed_111 s_X12_takesOf s_X12_letter s_X12_number Q) := by
  refine zs_iload_n C dX12_readsDeed_111 rfl ?_
  refine zs_iconst C dX12_readsDeed_112 (by decide) ?_
  exact zs_icmp_ne C dX12_readsDeed_113 (by decide) (kX12_readsDeed_123 C h_X12_takesOf g_X12_takesOf h_X12_letter g_X12_letter h_X12_number g_X12_number hq) (kX12_readsDeed_116 C h_X12_takesOf g_X12_takesOf h_X12_letter g_X12_letter h_X12_number g_X12_number hq)
def xX12_readsDeed_104 (s_X12_takesOf : zq_Sp) (s_X12_letter : zq_Sp) (s_X12_number : zq_Sp) (Q : zq_Q) (ls : zq_L) (st : List Value) (h : zq_H) : Prop := (zi_push (.int 3) (zi_iload 4 (zi_i2 (fun x y => x * y) ((xX12_readsDeed_136 s_X12_takesOf s_X12_letter s_X12_number Q))))) ls st h
theorem kX12_readsDeed_104 {X : zq_X} {d : Nat} (C : zq_C X cX12_readsDeed 5 RX12 d) {d_X12_takesOf : Nat} {s_X12_takesOf : zq_Sp} (h_X12_takesOf : zq_M yX12_takesOf cX12_takesOf 3 (some .int) 1 d_X12_takesOf s_X12_takesOf) (g_X12_takesOf : d_X12_takesOf + 1 ≤ d) {d_X12_letter : Nat} {s_X12_letter : zq_Sp} (h_X12_letter : zq_M yX12_letter cX12_letter 2 (some .int) 1 d_X12_letter s_X12_letter) (g_X12_letter : d_X12_letter + 1 ≤ d) {d_X12_number : Nat} {s_X12_number : zq_Sp} (h_X12_number : zq_M yX12_number cX12_number 4 (some .int) 1 d_X12_number s_X12_number) (g_X12_number : d_X12_number + 1 ≤ d) {Q : zq_Q} (hq : zq_R X (some .boolean) 1 Q) : zq_ok X 5 104 (xX12_readsDeed_104 s_X12_takesOf s_X12_letter s_X12_number Q) := by
  refine zs_iconst C dX12_readsDeed_104 (by decide) ?_
  refine zs_iload C dX12_readsDeed_105 ?_
  refine zs_imul C dX12_readsDeed_107 ?_
  exact zs_goto C dX12_readsDeed_108 (by decide) (kX12_readsDeed_136 C h_X12_takesOf g_X12_takesOf h_X12_letter g_X12_letter h_X12_number g_X12_number hq)
def xX12_readsDeed_93 (s_X12_takesOf : zq_Sp) (s_X12_letter : zq_Sp) (s_X12_number : zq_Sp) (Q : zq_Q) (ls : zq_L) (st : List Value) (h : zq_H) : Prop := (zi_aload 0 (zi_getR 56 69 (zi_iload 2 (zi_dup2 (zi_aldI 69 6 (zi_iload 1 (zi_if1 (fun x => x = 0) (xX12_readsDeed_104 s_X12_takesOf s_X12_letter s_X12_number Q) (xX12_readsDeed_111 s_X12_takesOf s_X12_letter s_X12_number Q)))))))) ls st h
theorem kX12_readsDeed_93 {X : zq_X} {d : Nat} (C : zq_C X cX12_readsDeed 5 RX12 d) {d_X12_takesOf : Nat} {s_X12_takesOf : zq_Sp} (h_X12_takesOf : zq_M yX12_takesOf cX12_takesOf 3 (some .int) 1 d_X12_takesOf s_X12_takesOf) (g_X12_takesOf : d_X12_takesOf + 1 ≤ d) {d_X12_letter : Nat} {s_X12_letter : zq_Sp} (h_X12_letter : zq_M yX12_letter cX12_letter 2 (some .int) 1 d_X12_letter s_X12_letter) (g_X12_letter : d_X12_letter + 1 ≤ d) {d_X12_number : Nat} {s_X12_number : zq_Sp} (h_X12_number : zq_M yX12_number cX12_number 4 (some .int) 1 d_X12_number s_X12_number) (g_X12_number : d_X12_number + 1 ≤ d) {Q : zq_Q} (hq : zq_R X (some .boolean) 1 Q) : zq_ok X 5 93 (xX12_readsDeed_93 s_X12_takesOf s_X12_letter s_X12_number Q) := by
  refine zs_aload_n C dX12_readsDeed_93 rfl ?_
  refine zs_getR C zp_56 zF12 (j := 22) ⟨by decide, rfl⟩ zw_1118 dX12_readsDeed_94 ?_
  refine zs_iload_n C dX12_readsDeed_97 rfl ?_
  refine zs_dup2 C dX12_readsDeed_98 ?_
  refine zs_iaload C zp_69 dX12_readsDeed_99 ?_
  refine zs_iload_n C dX12_readsDeed_100 rfl ?_
  exact zs_if_ne C dX12_readsDeed_101 (by decide) (kX12_readsDeed_111 C h_X12_takesOf g_X12_takesOf h_X12_letter g_X12_letter h_X12_number g_X12_number hq) (kX12_readsDeed_104 C h_X12_takesOf g_X12_takesOf h_X12_letter g_X12_letter h_X12_number g_X12_number hq)
def xX12_readsDeed_91 (s_X12_takesOf : zq_Sp) (s_X12_letter : zq_Sp) (s_X12_number : zq_Sp) (Q : zq_Q) (ls : zq_L) (st : List Value) (h : zq_H) : Prop := (zi_push (.int 0) (zi_zret Q)) ls st h
theorem kX12_readsDeed_91 {X : zq_X} {d : Nat} (C : zq_C X cX12_readsDeed 5 RX12 d) {d_X12_takesOf : Nat} {s_X12_takesOf : zq_Sp} (h_X12_takesOf : zq_M yX12_takesOf cX12_takesOf 3 (some .int) 1 d_X12_takesOf s_X12_takesOf) (g_X12_takesOf : d_X12_takesOf + 1 ≤ d) {d_X12_letter : Nat} {s_X12_letter : zq_Sp} (h_X12_letter : zq_M yX12_letter cX12_letter 2 (some .int) 1 d_X12_letter s_X12_letter) (g_X12_letter : d_X12_letter + 1 ≤ d) {d_X12_number : Nat} {s_X12_number : zq_Sp} (h_X12_number : zq_M yX12_number cX12_number 4 (some .int) 1 d_X12_number s_X12_number) (g_X12_number : d_X12_number + 1 ≤ d) {Q : zq_Q} (hq : zq_R X (some .boolean) 1 Q) : zq_ok X 5 91 (xX12_readsDeed_91 s_X12_takesOf s_X12_letter s_X12_number Q) := by
  refine zs_iconst C dX12_readsDeed_91 (by decide) ?_
  exact zs_zret C hq dX12_readsDeed_92
def xX12_readsDeed_79 (s_X12_takesOf : zq_Sp) (s_X12_letter : zq_Sp) (s_X12_number : zq_Sp) (Q : zq_Q) (ls : zq_L) (st : List Value) (h : zq_H) : Prop := (zi_aload 0 (zi_push (.int 1) (zi_callV 1 56 s_X12_number (zi_istore 4 (zi_iload 4 (zi_if1 (fun x => 0 ≤ x) (xX12_readsDeed_93 s_X12_takesOf s_X12_letter s_X12_number Q) (xX12_readsDeed_91 s_X12_takesOf s_X12_letter s_X12_number Q))))))) ls st h
theorem kX12_readsDeed_79 {X : zq_X} {d : Nat} (C : zq_C X cX12_readsDeed 5 RX12 d) {d_X12_takesOf : Nat} {s_X12_takesOf : zq_Sp} (h_X12_takesOf : zq_M yX12_takesOf cX12_takesOf 3 (some .int) 1 d_X12_takesOf s_X12_takesOf) (g_X12_takesOf : d_X12_takesOf + 1 ≤ d) {d_X12_letter : Nat} {s_X12_letter : zq_Sp} (h_X12_letter : zq_M yX12_letter cX12_letter 2 (some .int) 1 d_X12_letter s_X12_letter) (g_X12_letter : d_X12_letter + 1 ≤ d) {d_X12_number : Nat} {s_X12_number : zq_Sp} (h_X12_number : zq_M yX12_number cX12_number 4 (some .int) 1 d_X12_number s_X12_number) (g_X12_number : d_X12_number + 1 ≤ d) {Q : zq_Q} (hq : zq_R X (some .boolean) 1 Q) : zq_ok X 5 79 (xX12_readsDeed_79 s_X12_takesOf s_X12_letter s_X12_number Q) := by
  refine zs_aload_n C dX12_readsDeed_79 rfl ?_
  refine zs_iconst C dX12_readsDeed_80 (by decide) ?_
  refine zs_callV C h_X12_number g_X12_number zy_X12_number zp_56 (show vwCl[12]? = some (RX12, TX12, 67) from rfl) zw_1400 zw_1402 zs9_X12_number dX12_readsDeed_81 ?_
  refine zs_istore C dX12_readsDeed_84 (by decide) ?_
  refine zs_iload C dX12_readsDeed_86 ?_
  exact zs_if_ge C dX12_readsDeed_88 (by decide) (kX12_readsDeed_93 C h_X12_takesOf g_X12_takesOf h_X12_letter g_X12_letter h_X12_number g_X12_number hq) (kX12_readsDeed_91 C h_X12_takesOf g_X12_takesOf h_X12_letter g_X12_letter h_X12_number g_X12_number hq)
def xX12_readsDeed_77 (s_X12_takesOf : zq_Sp) (s_X12_letter : zq_Sp) (s_X12_number : zq_Sp) (Q : zq_Q) (ls : zq_L) (st : List Value) (h : zq_H) : Prop := (zi_push (.int 0) (zi_zret Q)) ls st h
theorem kX12_readsDeed_77 {X : zq_X} {d : Nat} (C : zq_C X cX12_readsDeed 5 RX12 d) {d_X12_takesOf : Nat} {s_X12_takesOf : zq_Sp} (h_X12_takesOf : zq_M yX12_takesOf cX12_takesOf 3 (some .int) 1 d_X12_takesOf s_X12_takesOf) (g_X12_takesOf : d_X12_takesOf + 1 ≤ d) {d_X12_letter : Nat} {s_X12_letter : zq_Sp} (h_X12_letter : zq_M yX12_letter cX12_letter 2 (some .int) 1 d_X12_letter s_X12_letter) (g_X12_letter : d_X12_letter + 1 ≤ d) {d_X12_number : Nat} {s_X12_number : zq_Sp} (h_X12_number : zq_M yX12_number cX12_number 4 (some .int) 1 d_X12_number s_X12_number) (g_X12_number : d_X12_number + 1 ≤ d) {Q : zq_Q} (hq : zq_R X (some .boolean) 1 Q) : zq_ok X 5 77 (xX12_readsDeed_77 s_X12_takesOf s_X12_letter s_X12_number Q) := by
  refine zs_iconst C dX12_readsDeed_77 (by decide) ?_
  exact zs_zret C hq dX12_readsDeed_78
def xX12_readsDeed_64 (s_X12_takesOf : zq_Sp) (s_X12_letter : zq_Sp) (s_X12_number : zq_Sp) (Q : zq_Q) (ls : zq_L) (st : List Value) (h : zq_H) : Prop := (zi_aload 0 (zi_aload 0 (zi_getI 56 4 (zi_callV 1 56 s_X12_letter (zi_istore 3 (zi_iload 3 (zi_if1 (fun x => 0 ≤ x) (xX12_readsDeed_79 s_X12_takesOf s_X12_letter s_X12_number Q) (xX12_readsDeed_77 s_X12_takesOf s_X12_letter s_X12_number Q)))))))) ls st h
theorem kX12_readsDeed_64 {X : zq_X} {d : Nat} (C : zq_C X cX12_readsDeed 5 RX12 d) {d_X12_takesOf : Nat} {s_X12_takesOf : zq_Sp} (h_X12_takesOf : zq_M yX12_takesOf cX12_takesOf 3 (some .int) 1 d_X12_takesOf s_X12_takesOf) (g_X12_takesOf : d_X12_takesOf + 1 ≤ d) {d_X12_letter : Nat} {s_X12_letter : zq_Sp} (h_X12_letter : zq_M yX12_letter cX12_letter 2 (some .int) 1 d_X12_letter s_X12_letter) (g_X12_letter : d_X12_letter + 1 ≤ d) {d_X12_number : Nat} {s_X12_number : zq_Sp} (h_X12_number : zq_M yX12_number cX12_number 4 (some .int) 1 d_X12_number s_X12_number) (g_X12_number : d_X12_number + 1 ≤ d) {Q : zq_Q} (hq : zq_R X (some .boolean) 1 Q) : zq_ok X 5 64 (xX12_readsDeed_64 s_X12_takesOf s_X12_letter s_X12_number Q) := by
  refine zs_aload_n C dX12_readsDeed_64 rfl ?_
  refine zs_aload_n C dX12_readsDeed_65 rfl ?_
  refine zs_getI C zp_56 zF12 (j := 4) ⟨by decide, rfl⟩ zw_1100 dX12_readsDeed_66 ?_
  refine zs_callV C h_X12_letter g_X12_letter zy_X12_letter zp_56 (show vwCl[12]? = some (RX12, TX12, 67) from rfl) zw_1419 zw_1421 zs9_X12_letter dX12_readsDeed_69 ?_
  refine zs_istore_n C dX12_readsDeed_72 rfl (by decide) ?_
  refine zs_iload_n C dX12_readsDeed_73 rfl ?_
  exact zs_if_ge C dX12_readsDeed_74 (by decide) (kX12_readsDeed_79 C h_X12_takesOf g_X12_takesOf h_X12_letter g_X12_letter h_X12_number g_X12_number hq) (kX12_readsDeed_77 C h_X12_takesOf g_X12_takesOf h_X12_letter g_X12_letter h_X12_number g_X12_number hq)
def xX12_readsDeed_62 (s_X12_takesOf : zq_Sp) (s_X12_letter : zq_Sp) (s_X12_number : zq_Sp) (Q : zq_Q) (ls : zq_L) (st : List Value) (h : zq_H) : Prop := (zi_push (.int 0) (zi_zret Q)) ls st h
theorem kX12_readsDeed_62 {X : zq_X} {d : Nat} (C : zq_C X cX12_readsDeed 5 RX12 d) {d_X12_takesOf : Nat} {s_X12_takesOf : zq_Sp} (h_X12_takesOf : zq_M yX12_takesOf cX12_takesOf 3 (some .int) 1 d_X12_takesOf s_X12_takesOf) (g_X12_takesOf : d_X12_takesOf + 1 ≤ d) {d_X12_letter : Nat} {s_X12_letter : zq_Sp} (h_X12_letter : zq_M yX12_letter cX12_letter 2 (some .int) 1 d_X12_letter s_X12_letter) (g_X12_letter : d_X12_letter + 1 ≤ d) {d_X12_number : Nat} {s_X12_number : zq_Sp} (h_X12_number : zq_M yX12_number cX12_number 4 (some .int) 1 d_X12_number s_X12_number) (g_X12_number : d_X12_number + 1 ≤ d) {Q : zq_Q} (hq : zq_R X (some .boolean) 1 Q) : zq_ok X 5 62 (xX12_readsDeed_62 s_X12_takesOf s_X12_letter s_X12_number Q) := by
  refine zs_iconst C dX12_readsDeed_62 (by decide) ?_
  exact zs_zret C hq dX12_readsDeed_63
def xX12_readsDeed_46 (s_X12_takesOf : zq_Sp) (s_X12_letter : zq_Sp) (s_X12_number : zq_Sp) (Q : zq_Q) (ls : zq_L) (st : List Value) (h : zq_H) : Prop := (zi_aload 0 (zi_getR 56 64 (zi_aload 0 (zi_getI 56 14 (zi_aldI 64 80 (zi_push (.int 97) (zi_iload 2 (zi_i2 (fun x y => x + y) (zi_if2 (fun x y => x = y) (xX12_readsDeed_62 s_X12_takesOf s_X12_letter s_X12_number Q) (xX12_readsDeed_64 s_X12_takesOf s_X12_letter s_X12_number Q)))))))))) ls st h
theorem kX12_readsDeed_46 {X : zq_X} {d : Nat} (C : zq_C X cX12_readsDeed 5 RX12 d) {d_X12_takesOf : Nat} {s_X12_takesOf : zq_Sp} (h_X12_takesOf : zq_M yX12_takesOf cX12_takesOf 3 (some .int) 1 d_X12_takesOf s_X12_takesOf) (g_X12_takesOf : d_X12_takesOf + 1 ≤ d) {d_X12_letter : Nat} {s_X12_letter : zq_Sp} (h_X12_letter : zq_M yX12_letter cX12_letter 2 (some .int) 1 d_X12_letter s_X12_letter) (g_X12_letter : d_X12_letter + 1 ≤ d) {d_X12_number : Nat} {s_X12_number : zq_Sp} (h_X12_number : zq_M yX12_number cX12_number 4 (some .int) 1 d_X12_number s_X12_number) (g_X12_number : d_X12_number + 1 ≤ d) {Q : zq_Q} (hq : zq_R X (some .boolean) 1 Q) : zq_ok X 5 46 (xX12_readsDeed_46 s_X12_takesOf s_X12_letter s_X12_number Q) := by
  refine zs_aload_n C dX12_readsDeed_46 rfl ?_
  refine zs_getR C zp_56 zF12 (j := 12) ⟨by decide, rfl⟩ zw_1108 dX12_readsDeed_47 ?_
  refine zs_aload_n C dX12_readsDeed_50 rfl ?_
  refine zs_getI C zp_56 zF12 (j := 14) ⟨by decide, rfl⟩ zw_1110 dX12_readsDeed_51 ?_
  refine zs_iaload C zp_64 dX12_readsDeed_54 ?_
  refine zs_bipush C dX12_readsDeed_55 (by decide) ?_
  refine zs_iload_n C dX12_readsDeed_57 rfl ?_
  refine zs_iadd C dX12_readsDeed_58 ?_
  exact zs_icmp_ne C dX12_readsDeed_59 (by decide) (kX12_readsDeed_64 C h_X12_takesOf g_X12_takesOf h_X12_letter g_X12_letter h_X12_number g_X12_number hq) (kX12_readsDeed_62 C h_X12_takesOf g_X12_takesOf h_X12_letter g_X12_letter h_X12_number g_X12_number hq)
def xX12_readsDeed_35 (s_X12_takesOf : zq_Sp) (s_X12_letter : zq_Sp) (s_X12_number : zq_Sp) (Q : zq_Q) (ls : zq_L) (st : List Value) (h : zq_H) : Prop := (zi_aload 0 (zi_getI 56 14 (zi_aload 0 (zi_getI 56 15 (zi_if2 (fun x y => y ≤ x) (xX12_readsDeed_64 s_X12_takesOf s_X12_letter s_X12_number Q) (xX12_readsDeed_46 s_X12_takesOf s_X12_letter s_X12_number Q)))))) ls st h
theorem kX12_readsDeed_35 {X : zq_X} {d : Nat} (C : zq_C X cX12_readsDeed 5 RX12 d) {d_X12_takesOf : Nat} {s_X12_takesOf : zq_Sp} (h_X12_takesOf : zq_M yX12_takesOf cX12_takesOf 3 (some .int) 1 d_X12_takesOf s_X12_takesOf) (g_X12_takesOf : d_X12_takesOf + 1 ≤ d) {d_X12_letter : Nat} {s_X12_letter : zq_Sp} (h_X12_letter : zq_M yX12_letter cX12_letter 2 (some .int) 1 d_X12_letter s_X12_letter) (g_X12_letter : d_X12_letter + 1 ≤ d) {d_X12_number : Nat} {s_X12_number : zq_Sp} (h_X12_number : zq_M yX12_number cX12_number 4 (some .int) 1 d_X12_number s_X12_number) (g_X12_number : d_X12_number + 1 ≤ d) {Q : zq_Q} (hq : zq_R X (some .boolean) 1 Q) : zq_ok X 5 35 (xX12_readsDeed_35 s_X12_takesOf s_X12_letter s_X12_number Q) := by
  refine zs_aload_n C dX12_readsDeed_35 rfl ?_
  refine zs_getI C zp_56 zF12 (j := 14) ⟨by decide, rfl⟩ zw_1110 dX12_readsDeed_36 ?_
  refine zs_aload_n C dX12_readsDeed_39 rfl ?_
  refine zs_getI C zp_56 zF12 (j := 15) ⟨by decide, rfl⟩ zw_1111 dX12_readsDeed_40 ?_
  exact zs_icmp_ge C dX12_readsDeed_43 (by decide) (kX12_readsDeed_64 C h_X12_takesOf g_X12_takesOf h_X12_letter g_X12_letter h_X12_number g_X12_number hq) (kX12_readsDeed_46 C h_X12_takesOf g_X12_takesOf h_X12_letter g_X12_letter h_X12_number g_X12_number hq)
def xX12_readsDeed_28 (s_X12_takesOf : zq_Sp) (s_X12_letter : zq_Sp) (s_X12_number : zq_Sp) (Q : zq_Q) (ls : zq_L) (st : List Value) (h : zq_H) : Prop := (zi_push (.int (-1)) (zi_istore 3 (zi_iload 1 (zi_push (.int 1) (zi_if2 (fun x y => x ≤ y) (xX12_readsDeed_79 s_X12_takesOf s_X12_letter s_X12_number Q) (xX12_readsDeed_35 s_X12_takesOf s_X12_letter s_X12_number Q)))))) ls st h
theorem kX12_readsDeed_28 {X : zq_X} {d : Nat} (C : zq_C X cX12_readsDeed 5 RX12 d) {d_X12_takesOf : Nat} {s_X12_takesOf : zq_Sp} (h_X12_takesOf : zq_M yX12_takesOf cX12_takesOf 3 (some .int) 1 d_X12_takesOf s_X12_takesOf) (g_X12_takesOf : d_X12_takesOf + 1 ≤ d) {d_X12_letter : Nat} {s_X12_letter : zq_Sp} (h_X12_letter : zq_M yX12_letter cX12_letter 2 (some .int) 1 d_X12_letter s_X12_letter) (g_X12_letter : d_X12_letter + 1 ≤ d) {d_X12_number : Nat} {s_X12_number : zq_Sp} (h_X12_number : zq_M yX12_number cX12_number 4 (some .int) 1 d_X12_number s_X12_number) (g_X12_number : d_X12_number + 1 ≤ d) {Q : zq_Q} (hq : zq_R X (some .boolean) 1 Q) : zq_ok X 5 28 (xX12_readsDeed_28 s_X12_takesOf s_X12_letter s_X12_number Q) := by
  refine zs_iconst C dX12_readsDeed_28 (by decide) ?_
  refine zs_istore_n C dX12_readsDeed_29 rfl (by decide) ?_
  refine zs_iload_n C dX12_readsDeed_30 rfl ?_
  refine zs_iconst C dX12_readsDeed_31 (by decide) ?_
  exact zs_icmp_le C dX12_readsDeed_32 (by decide) (kX12_readsDeed_79 C h_X12_takesOf g_X12_takesOf h_X12_letter g_X12_letter h_X12_number g_X12_number hq) (kX12_readsDeed_35 C h_X12_takesOf g_X12_takesOf h_X12_letter g_X12_letter h_X12_number g_X12_number hq)
def xX12_readsDeed_26 (s_X12_takesOf : zq_Sp) (s_X12_letter : zq_Sp) (s_X12_number : zq_Sp) (Q : zq_Q) (ls : zq_L) (st : List Value) (h : zq_H) : Prop := (zi_push (.int 0) (zi_zret Q)) ls st h
theorem kX12_readsDeed_26 {X : zq_X} {d : Nat} (C : zq_C X cX12_readsDeed 5 RX12 d) {d_X12_takesOf : Nat} {s_X12_takesOf : zq_Sp} (h_X12_takesOf : zq_M yX12_takesOf cX12_takesOf 3 (some .int) 1 d_X12_takesOf s_X12_takesOf) (g_X12_takesOf : d_X12_takesOf + 1 ≤ d) {d_X12_letter : Nat} {s_X12_letter : zq_Sp} (h_X12_letter : zq_M yX12_letter cX12_letter 2 (some .int) 1 d_X12_letter s_X12_letter) (g_X12_letter : d_X12_letter + 1 ≤ d) {d_X12_number : Nat} {s_X12_number : zq_Sp} (h_X12_number : zq_M yX12_number cX12_number 4 (some .int) 1 d_X12_number s_X12_number) (g_X12_number : d_X12_number + 1 ≤ d) {Q : zq_Q} (hq : zq_R X (some .boolean) 1 Q) : zq_ok X 5 26 (xX12_readsDeed_26 s_X12_takesOf s_X12_letter s_X12_number Q) := by
  refine zs_iconst C dX12_readsDeed_26 (by decide) ?_
  exact zs_zret C hq dX12_readsDeed_27
def xX12_readsDeed_13 (s_X12_takesOf : zq_Sp) (s_X12_letter : zq_Sp) (s_X12_number : zq_Sp) (Q : zq_Q) (ls : zq_L) (st : List Value) (h : zq_H) : Prop := (zi_aload 0 (zi_aload 0 (zi_getI 56 4 (zi_callV 1 56 s_X12_letter (zi_istore 2 (zi_iload 2 (zi_if1 (fun x => 0 ≤ x) (xX12_readsDeed_28 s_X12_takesOf s_X12_letter s_X12_number Q) (xX12_readsDeed_26 s_X12_takesOf s_X12_letter s_X12_number Q)))))))) ls st h
theorem kX12_readsDeed_13 {X : zq_X} {d : Nat} (C : zq_C X cX12_readsDeed 5 RX12 d) {d_X12_takesOf : Nat} {s_X12_takesOf : zq_Sp} (h_X12_takesOf : zq_M yX12_takesOf cX12_takesOf 3 (some .int) 1 d_X12_takesOf s_X12_takesOf) (g_X12_takesOf : d_X12_takesOf + 1 ≤ d) {d_X12_letter : Nat} {s_X12_letter : zq_Sp} (h_X12_letter : zq_M yX12_letter cX12_letter 2 (some .int) 1 d_X12_letter s_X12_letter) (g_X12_letter : d_X12_letter + 1 ≤ d) {d_X12_number : Nat} {s_X12_number : zq_Sp} (h_X12_number : zq_M yX12_number cX12_number 4 (some .int) 1 d_X12_number s_X12_number) (g_X12_number : d_X12_number + 1 ≤ d) {Q : zq_Q} (hq : zq_R X (some .boolean) 1 Q) : zq_ok X 5 13 (xX12_readsDeed_13 s_X12_takesOf s_X12_letter s_X12_number Q) := by
  refine zs_aload_n C dX12_readsDeed_13 rfl ?_
  refine zs_aload_n C dX12_readsDeed_14 rfl ?_
  refine zs_getI C zp_56 zF12 (j := 4) ⟨by decide, rfl⟩ zw_1100 dX12_readsDeed_15 ?_
  refine zs_callV C h_X12_letter g_X12_letter zy_X12_letter zp_56 (show vwCl[12]? = some (RX12, TX12, 67) from rfl) zw_1419 zw_1421 zs9_X12_letter dX12_readsDeed_18 ?_
  refine zs_istore_n C dX12_readsDeed_21 rfl (by decide) ?_
  refine zs_iload_n C dX12_readsDeed_22 rfl ?_
  exact zs_if_ge C dX12_readsDeed_23 (by decide) (kX12_readsDeed_28 C h_X12_takesOf g_X12_takesOf h_X12_letter g_X12_letter h_X12_number g_X12_number hq) (kX12_readsDeed_26 C h_X12_takesOf g_X12_takesOf h_X12_letter g_X12_letter h_X12_number g_X12_number hq)
def xX12_readsDeed_11 (s_X12_takesOf : zq_Sp) (s_X12_letter : zq_Sp) (s_X12_number : zq_Sp) (Q : zq_Q) (ls : zq_L) (st : List Value) (h : zq_H) : Prop := (zi_push (.int 0) (zi_zret Q)) ls st h
theorem kX12_readsDeed_11 {X : zq_X} {d : Nat} (C : zq_C X cX12_readsDeed 5 RX12 d) {d_X12_takesOf : Nat} {s_X12_takesOf : zq_Sp} (h_X12_takesOf : zq_M yX12_takesOf cX12_takesOf 3 (some .int) 1 d_X12_takesOf s_X12_takesOf) (g_X12_takesOf : d_X12_takesOf + 1 ≤ d) {d_X12_letter : Nat} {s_X12_letter : zq_Sp} (h_X12_letter : zq_M yX12_letter cX12_letter 2 (some .int) 1 d_X12_letter s_X12_letter) (g_X12_letter : d_X12_letter + 1 ≤ d) {d_X12_number : Nat} {s_X12_number : zq_Sp} (h_X12_number : zq_M yX12_number cX12_number 4 (some .int) 1 d_X12_number s_X12_number) (g_X12_number : d_X12_number + 1 ≤ d) {Q : zq_Q} (hq : zq_R X (some .boolean) 1 Q) : zq_ok X 5 11 (xX12_readsDeed_11 s_X12_takesOf s_X12_letter s_X12_number Q) := by
  refine zs_iconst C dX12_readsDeed_11 (by decide) ?_
  exact zs_zret C hq dX12_readsDeed_12
def xX12_readsDeed_0 (s_X12_takesOf : zq_Sp) (s_X12_letter : zq_Sp) (s_X12_number : zq_Sp) (Q : zq_Q) (ls : zq_L) (st : List Value) (h : zq_H) : Prop := (zi_aload 0 (zi_push (.ref 202) (zi_callV 1 56 s_X12_takesOf (zi_istore 1 (zi_iload 1 (zi_if1 (fun x => 0 ≤ x) (xX12_readsDeed_13 s_X12_takesOf s_X12_letter s_X12_number Q) (xX12_readsDeed_11 s_X12_takesOf s_X12_letter s_X12_number Q))))))) ls st h
theorem kX12_readsDeed_0 {X : zq_X} {d : Nat} (C : zq_C X cX12_readsDeed 5 RX12 d) {d_X12_takesOf : Nat} {s_X12_takesOf : zq_Sp} (h_X12_takesOf : zq_M yX12_takesOf cX12_takesOf 3 (some .int) 1 d_X12_takesOf s_X12_takesOf) (g_X12_takesOf : d_X12_takesOf + 1 ≤ d) {d_X12_letter : Nat} {s_X12_letter : zq_Sp} (h_X12_letter : zq_M yX12_letter cX12_letter 2 (some .int) 1 d_X12_letter s_X12_letter) (g_X12_letter : d_X12_letter + 1 ≤ d) {d_X12_number : Nat} {s_X12_number : zq_Sp} (h_X12_number : zq_M yX12_number cX12_number 4 (some .int) 1 d_X12_number s_X12_number) (g_X12_number : d_X12_number + 1 ≤ d) {Q : zq_Q} (hq : zq_R X (some .boolean) 1 Q) : zq_ok X 5 0 (xX12_readsDeed_0 s_X12_takesOf s_X12_letter s_X12_number Q) := by
  refine zs_aload_n C dX12_readsDeed_0 rfl ?_
  refine zs_ldcS C (i := 2) rfl rfl dX12_readsDeed_1 ?_
  refine zs_callV C h_X12_takesOf g_X12_takesOf zy_X12_takesOf zp_56 (show vwCl[12]? = some (RX12, TX12, 67) from rfl) zw_1376 zw_1378 zs9_X12_takesOf dX12_readsDeed_3 ?_
  refine zs_istore_n C dX12_readsDeed_6 rfl (by decide) ?_
  refine zs_iload_n C dX12_readsDeed_7 rfl ?_
  exact zs_if_ge C dX12_readsDeed_8 (by decide) (kX12_readsDeed_13 C h_X12_takesOf g_X12_takesOf h_X12_letter g_X12_letter h_X12_number g_X12_number hq) (kX12_readsDeed_11 C h_X12_takesOf g_X12_takesOf h_X12_letter g_X12_letter h_X12_number g_X12_number hq)
theorem mX12_readsDeed {d : Nat} {spec : zq_Sp} {d_X12_takesOf : Nat} {s_X12_takesOf : zq_Sp} (h_X12_takesOf : zq_M yX12_takesOf cX12_takesOf 3 (some .int) 1 d_X12_takesOf s_X12_takesOf) (g_X12_takesOf : d_X12_takesOf + 1 ≤ d) {d_X12_letter : Nat} {s_X12_letter : zq_Sp} (h_X12_letter : zq_M yX12_letter cX12_letter 2 (some .int) 1 d_X12_letter s_X12_letter) (g_X12_letter : d_X12_letter + 1 ≤ d) {d_X12_number : Nat} {s_X12_number : zq_Sp} (h_X12_number : zq_M yX12_number cX12_number 4 (some .int) 1 d_X12_number s_X12_number) (g_X12_number : d_X12_number + 1 ≤ d) (v : ∀ args h Q, spec args h Q → (zq_a args).length ≤ 5 ∧ xX12_readsDeed_0 s_X12_takesOf s_X12_letter s_X12_number Q (zq_l0 5 args) [] h) : zq_M yX12_readsDeed cX12_readsDeed 5 (some .boolean) 1 d spec := by
  refine zq_met (by decide +kernel) (by decide) (fun X Q args h C hq hs => ⟨(v args h Q hs).1, _, ?_, (v args h Q hs).2⟩)
  exact kX12_readsDeed_0 C h_X12_takesOf g_X12_takesOf h_X12_letter g_X12_letter h_X12_number g_X12_number hq
/-! ToOneCrumbModel.allDeserts()I -/
theorem dX12_allDeserts_0 : decode cX12_allDeserts 0 = .ok (.iconst 0, 1) := by decide +kernel
theorem dX12_allDeserts_1 : decode cX12_allDeserts 1 = .ok (.istore_n 1, 1) := by decide +kernel
theorem dX12_allDeserts_2 : decode cX12_allDeserts 2 = .ok (.iconst 0, 1) := by decide +kernel
theorem dX12_allDeserts_3 : decode cX12_allDeserts 3 = .ok (.istore_n 2, 1) := by decide +kernel
theorem dX12_allDeserts_4 : decode cX12_allDeserts 4 = .ok (.iload_n 2, 1) := by decide +kernel
theorem dX12_allDeserts_5 : decode cX12_allDeserts 5 = .ok (.aload_n 0, 1) := by decide +kernel
theorem dX12_allDeserts_6 : decode cX12_allDeserts 6 = .ok (.getfield 165, 3) := by decide +kernel
theorem dX12_allDeserts_9 : decode cX12_allDeserts 9 = .ok (.if_icmp .ge 18, 3) := by decide +kernel
theorem dX12_allDeserts_12 : decode cX12_allDeserts 12 = .ok (.iload_n 1, 1) := by decide +kernel
theorem dX12_allDeserts_13 : decode cX12_allDeserts 13 = .ok (.aload_n 0, 1) := by decide +kernel
theorem dX12_allDeserts_14 : decode cX12_allDeserts 14 = .ok (.getfield 27, 3) := by decide +kernel
theorem dX12_allDeserts_17 : decode cX12_allDeserts 17 = .ok (.iload_n 2, 1) := by decide +kernel
theorem dX12_allDeserts_18 : decode cX12_allDeserts 18 = .ok (.iaload, 1) := by decide +kernel
theorem dX12_allDeserts_19 : decode cX12_allDeserts 19 = .ok (.iadd, 1) := by decide +kernel
theorem dX12_allDeserts_20 : decode cX12_allDeserts 20 = .ok (.istore_n 1, 1) := by decide +kernel
theorem dX12_allDeserts_21 : decode cX12_allDeserts 21 = .ok (.iinc 2 1, 3) := by decide +kernel
theorem dX12_allDeserts_24 : decode cX12_allDeserts 24 = .ok (.goto (-20), 3) := by decide +kernel
theorem dX12_allDeserts_27 : decode cX12_allDeserts 27 = .ok (.iload_n 1, 1) := by decide +kernel
theorem dX12_allDeserts_28 : decode cX12_allDeserts 28 = .ok (.ireturn, 1) := by decide +kernel
def xX12_allDeserts_27 (J4 : zq_P) (Q : zq_Q) (ls : zq_L) (st : List Value) (h : zq_H) : Prop := (zi_iload 1 (zi_iret Q)) ls st h
theorem kX12_allDeserts_27 {X : zq_X} {d : Nat} (C : zq_C X cX12_allDeserts 3 RX12 d) {J4 : zq_P} (j4 : zq_ok X 3 4 J4) {Q : zq_Q} (hq : zq_R X (some .int) 1 Q) : zq_ok X 3 27 (xX12_allDeserts_27 J4 Q) := by
  refine zs_iload_n C dX12_allDeserts_27 rfl ?_
  exact zs_iret C hq dX12_allDeserts_28
def xX12_allDeserts_12 (J4 : zq_P) (Q : zq_Q) (ls : zq_L) (st : List Value) (h : zq_H) : Prop := (zi_iload 1 (zi_aload 0 (zi_getR 56 62 (zi_iload 2 (zi_aldI 62 6 (zi_i2 (fun x y => x + y) (zi_istore 1 (zi_iinc 2 1 (J4))))))))) ls st h
theorem kX12_allDeserts_12 {X : zq_X} {d : Nat} (C : zq_C X cX12_allDeserts 3 RX12 d) {J4 : zq_P} (j4 : zq_ok X 3 4 J4) {Q : zq_Q} (hq : zq_R X (some .int) 1 Q) : zq_ok X 3 12 (xX12_allDeserts_12 J4 Q) := by
  refine zs_iload_n C dX12_allDeserts_12 rfl ?_
  refine zs_aload_n C dX12_allDeserts_13 rfl ?_
  refine zs_getR C zp_56 zF12 (j := 10) ⟨by decide, rfl⟩ zw_1106 dX12_allDeserts_14 ?_
  refine zs_iload_n C dX12_allDeserts_17 rfl ?_
  refine zs_iaload C zp_62 dX12_allDeserts_18 ?_
  refine zs_iadd C dX12_allDeserts_19 ?_
  refine zs_istore_n C dX12_allDeserts_20 rfl (by decide) ?_
  refine zs_iinc C dX12_allDeserts_21 (by decide) (by decide) ?_
  exact zs_goto C dX12_allDeserts_24 (by decide) (j4)
def xX12_allDeserts_4 (J4 : zq_P) (Q : zq_Q) (ls : zq_L) (st : List Value) (h : zq_H) : Prop := (zi_iload 2 (zi_aload 0 (zi_getI 56 4 (zi_if2 (fun x y => y ≤ x) (xX12_allDeserts_27 J4 Q) (xX12_allDeserts_12 J4 Q))))) ls st h
theorem kX12_allDeserts_4 {X : zq_X} {d : Nat} (C : zq_C X cX12_allDeserts 3 RX12 d) {J4 : zq_P} (j4 : zq_ok X 3 4 J4) {Q : zq_Q} (hq : zq_R X (some .int) 1 Q) : zq_ok X 3 4 (xX12_allDeserts_4 J4 Q) := by
  refine zs_iload_n C dX12_allDeserts_4 rfl ?_
  refine zs_aload_n C dX12_allDeserts_5 rfl ?_
  refine zs_getI C zp_56 zF12 (j := 4) ⟨by decide, rfl⟩ zw_1100 dX12_allDeserts_6 ?_
  exact zs_icmp_ge C dX12_allDeserts_9 (by decide) (kX12_allDeserts_27 C j4 hq) (kX12_allDeserts_12 C j4 hq)
def xX12_allDeserts_0 (J4 : zq_P) (Q : zq_Q) (ls : zq_L) (st : List Value) (h : zq_H) : Prop := (zi_push (.int 0) (zi_istore 1 (zi_push (.int 0) (zi_istore 2 (J4))))) ls st h
theorem kX12_allDeserts_0 {X : zq_X} {d : Nat} (C : zq_C X cX12_allDeserts 3 RX12 d) {J4 : zq_P} (j4 : zq_ok X 3 4 J4) {Q : zq_Q} (hq : zq_R X (some .int) 1 Q) : zq_ok X 3 0 (xX12_allDeserts_0 J4 Q) := by
  refine zs_iconst C dX12_allDeserts_0 (by decide) ?_
  refine zs_istore_n C dX12_allDeserts_1 rfl (by decide) ?_
  refine zs_iconst C dX12_allDeserts_2 (by decide) ?_
  refine zs_istore_n C dX12_allDeserts_3 rfl (by decide) ?_
  exact j4
theorem mX12_allDeserts {d : Nat} {spec : zq_Sp} {σ4 : Type} (μ4 : σ4 → Nat) (I4 : zq_Q → σ4 → zq_P) (v : ∀ args h Q, spec args h Q → (zq_a args).length ≤ 3 ∧ xX12_allDeserts_0 (fun ls st h => ∃ b, I4 Q b ls st h) Q (zq_l0 3 args) [] h) (v4 : ∀ Q a ls st h, I4 Q a ls st h → xX12_allDeserts_4 (fun ls st h => ∃ b, μ4 b < μ4 a ∧ I4 Q b ls st h) Q ls st h) : zq_M yX12_allDeserts cX12_allDeserts 3 (some .int) 1 d spec := by
  refine zq_met (by decide +kernel) (by decide) (fun X Q args h C hq hs => ⟨(v args h Q hs).1, _, ?_, (v args h Q hs).2⟩)
  have hl := zq_loop1 (X := X) (nL := 3) (pc1 := 4) μ4 (I4 Q) (fun J4 => xX12_allDeserts_4 J4 Q) (fun j4 => kX12_allDeserts_4 C j4 hq) (v4 Q)
  exact kX12_allDeserts_0 C hl hq
/-! ToOneCrumbModel.deeds()I -/
theorem dX12_deeds_0 : decode cX12_deeds 0 = .ok (.aload_n 0, 1) := by decide +kernel
theorem dX12_deeds_1 : decode cX12_deeds 1 = .ok (.iconst 0, 1) := by decide +kernel
theorem dX12_deeds_2 : decode cX12_deeds 2 = .ok (.putfield 147, 3) := by decide +kernel
theorem dX12_deeds_5 : decode cX12_deeds 5 = .ok (.aload_n 0, 1) := by decide +kernel
theorem dX12_deeds_6 : decode cX12_deeds 6 = .ok (.bipush 60, 2) := by decide +kernel
theorem dX12_deeds_8 : decode cX12_deeds 8 = .ok (.invokevirtual 218, 3) := by decide +kernel
theorem dX12_deeds_11 : decode cX12_deeds 11 = .ok (.istore_n 1, 1) := by decide +kernel
theorem dX12_deeds_12 : decode cX12_deeds 12 = .ok (.iconst 0, 1) := by decide +kernel
theorem dX12_deeds_13 : decode cX12_deeds 13 = .ok (.istore_n 2, 1) := by decide +kernel
theorem dX12_deeds_14 : decode cX12_deeds 14 = .ok (.iload_n 2, 1) := by decide +kernel
theorem dX12_deeds_15 : decode cX12_deeds 15 = .ok (.bipush 6, 2) := by decide +kernel
theorem dX12_deeds_17 : decode cX12_deeds 17 = .ok (.if_icmp .ge 16, 3) := by decide +kernel
theorem dX12_deeds_20 : decode cX12_deeds 20 = .ok (.aload_n 0, 1) := by decide +kernel
theorem dX12_deeds_21 : decode cX12_deeds 21 = .ok (.getfield 48, 3) := by decide +kernel
theorem dX12_deeds_24 : decode cX12_deeds 24 = .ok (.iload_n 2, 1) := by decide +kernel
theorem dX12_deeds_25 : decode cX12_deeds 25 = .ok (.iconst 0, 1) := by decide +kernel
theorem dX12_deeds_26 : decode cX12_deeds 26 = .ok (.iastore, 1) := by decide +kernel
theorem dX12_deeds_27 : decode cX12_deeds 27 = .ok (.iinc 2 1, 3) := by decide +kernel
theorem dX12_deeds_30 : decode cX12_deeds 30 = .ok (.goto (-16), 3) := by decide +kernel
theorem dX12_deeds_33 : decode cX12_deeds 33 = .ok (.iconst 1, 1) := by decide +kernel
theorem dX12_deeds_34 : decode cX12_deeds 34 = .ok (.istore_n 2, 1) := by decide +kernel
theorem dX12_deeds_35 : decode cX12_deeds 35 = .ok (.iload_n 1, 1) := by decide +kernel
theorem dX12_deeds_36 : decode cX12_deeds 36 = .ok (.ifCond .le 7, 3) := by decide +kernel
theorem dX12_deeds_39 : decode cX12_deeds 39 = .ok (.iconst 1, 1) := by decide +kernel
theorem dX12_deeds_40 : decode cX12_deeds 40 = .ok (.goto 4, 3) := by decide +kernel
theorem dX12_deeds_43 : decode cX12_deeds 43 = .ok (.iconst 0, 1) := by decide +kernel
theorem dX12_deeds_44 : decode cX12_deeds 44 = .ok (.istore_n 3, 1) := by decide +kernel
theorem dX12_deeds_45 : decode cX12_deeds 45 = .ok (.iload_n 3, 1) := by decide +kernel
theorem dX12_deeds_46 : decode cX12_deeds 46 = .ok (.ifCond .eq 30, 3) := by decide +kernel
theorem dX12_deeds_49 : decode cX12_deeds 49 = .ok (.aload_n 0, 1) := by decide +kernel
theorem dX12_deeds_50 : decode cX12_deeds 50 = .ok (.invokevirtual 259, 3) := by decide +kernel
theorem dX12_deeds_53 : decode cX12_deeds 53 = .ok (.istore_n 2, 1) := by decide +kernel
theorem dX12_deeds_54 : decode cX12_deeds 54 = .ok (.iload_n 2, 1) := by decide +kernel
theorem dX12_deeds_55 : decode cX12_deeds 55 = .ok (.ifCond .eq 16, 3) := by decide +kernel
theorem dX12_deeds_58 : decode cX12_deeds 58 = .ok (.aload_n 0, 1) := by decide +kernel
theorem dX12_deeds_59 : decode cX12_deeds 59 = .ok (.bipush 59, 2) := by decide +kernel
theorem dX12_deeds_61 : decode cX12_deeds 61 = .ok (.invokevirtual 229, 3) := by decide +kernel
theorem dX12_deeds_64 : decode cX12_deeds 64 = .ok (.ifCond .eq 7, 3) := by decide +kernel
theorem dX12_deeds_67 : decode cX12_deeds 67 = .ok (.iconst 1, 1) := by decide +kernel
theorem dX12_deeds_68 : decode cX12_deeds 68 = .ok (.goto 4, 3) := by decide +kernel
theorem dX12_deeds_71 : decode cX12_deeds 71 = .ok (.iconst 0, 1) := by decide +kernel
theorem dX12_deeds_72 : decode cX12_deeds 72 = .ok (.istore_n 3, 1) := by decide +kernel
theorem dX12_deeds_73 : decode cX12_deeds 73 = .ok (.goto (-28), 3) := by decide +kernel
theorem dX12_deeds_76 : decode cX12_deeds 76 = .ok (.aload_n 0, 1) := by decide +kernel
theorem dX12_deeds_77 : decode cX12_deeds 77 = .ok (.iload_n 1, 1) := by decide +kernel
theorem dX12_deeds_78 : decode cX12_deeds 78 = .ok (.bipush 60, 2) := by decide +kernel
theorem dX12_deeds_80 : decode cX12_deeds 80 = .ok (.iload_n 2, 1) := by decide +kernel
theorem dX12_deeds_81 : decode cX12_deeds 81 = .ok (.invokevirtual 232, 3) := by decide +kernel
theorem dX12_deeds_84 : decode cX12_deeds 84 = .ok (.istore 4, 2) := by decide +kernel
theorem dX12_deeds_86 : decode cX12_deeds 86 = .ok (.iload 4, 2) := by decide +kernel
theorem dX12_deeds_88 : decode cX12_deeds 88 = .ok (.ifCond .ge 6, 3) := by decide +kernel
theorem dX12_deeds_91 : decode cX12_deeds 91 = .ok (.iload 4, 2) := by decide +kernel
theorem dX12_deeds_93 : decode cX12_deeds 93 = .ok (.ireturn, 1) := by decide +kernel
theorem dX12_deeds_94 : decode cX12_deeds 94 = .ok (.iconst 0, 1) := by decide +kernel
theorem dX12_deeds_95 : decode cX12_deeds 95 = .ok (.istore 5, 2) := by decide +kernel
theorem dX12_deeds_97 : decode cX12_deeds 97 = .ok (.iload 5, 2) := by decide +kernel
theorem dX12_deeds_99 : decode cX12_deeds 99 = .ok (.aload_n 0, 1) := by decide +kernel
theorem dX12_deeds_100 : decode cX12_deeds 100 = .ok (.getfield 165, 3) := by decide +kernel
theorem dX12_deeds_103 : decode cX12_deeds 103 = .ok (.if_icmp .ge 33, 3) := by decide +kernel
theorem dX12_deeds_106 : decode cX12_deeds 106 = .ok (.aload_n 0, 1) := by decide +kernel
theorem dX12_deeds_107 : decode cX12_deeds 107 = .ok (.getfield 27, 3) := by decide +kernel
theorem dX12_deeds_110 : decode cX12_deeds 110 = .ok (.iload 5, 2) := by decide +kernel
theorem dX12_deeds_112 : decode cX12_deeds 112 = .ok (.iconst 0, 1) := by decide +kernel
theorem dX12_deeds_113 : decode cX12_deeds 113 = .ok (.sipush 999, 3) := by decide +kernel
theorem dX12_deeds_116 : decode cX12_deeds 116 = .ok (.aload_n 0, 1) := by decide +kernel
theorem dX12_deeds_117 : decode cX12_deeds 117 = .ok (.getfield 48, 3) := by decide +kernel
theorem dX12_deeds_120 : decode cX12_deeds 120 = .ok (.iload 5, 2) := by decide +kernel
theorem dX12_deeds_122 : decode cX12_deeds 122 = .ok (.iaload, 1) := by decide +kernel
theorem dX12_deeds_123 : decode cX12_deeds 123 = .ok (.invokestatic 181, 3) := by decide +kernel
theorem dX12_deeds_126 : decode cX12_deeds 126 = .ok (.invokestatic 262, 3) := by decide +kernel
theorem dX12_deeds_129 : decode cX12_deeds 129 = .ok (.iastore, 1) := by decide +kernel
theorem dX12_deeds_130 : decode cX12_deeds 130 = .ok (.iinc 5 1, 3) := by decide +kernel
theorem dX12_deeds_133 : decode cX12_deeds 133 = .ok (.goto (-36), 3) := by decide +kernel
theorem dX12_deeds_136 : decode cX12_deeds 136 = .ok (.aload_n 0, 1) := by decide +kernel
theorem dX12_deeds_137 : decode cX12_deeds 137 = .ok (.invokevirtual 265, 3) := by decide +kernel
theorem dX12_deeds_140 : decode cX12_deeds 140 = .ok (.ireturn, 1) := by decide +kernel
def xX12_deeds_136 (s_X12_begins : zq_Sp) (s_X12_readsDeed : zq_Sp) (s_X12_takes : zq_Sp) (s_X12_faultOf : zq_Sp) (s_X12_allDeserts : zq_Sp) (J14 : zq_P) (J45 : zq_P) (J97 : zq_P) (Q : zq_Q) (ls : zq_L) (st : List Value) (h : zq_H) : Prop := (zi_aload 0 (zi_callV 0 56 s_X12_allDeserts (zi_iret Q))) ls st h
theorem kX12_deeds_136 {X : zq_X} {d : Nat} (C : zq_C X cX12_deeds 6 RX12 d) (hd1 : 1 ≤ d) {d_X12_begins : Nat} {s_X12_begins : zq_Sp} (h_X12_begins : zq_M yX12_begins cX12_begins 3 (some .int) 1 d_X12_begins s_X12_begins) (g_X12_begins : d_X12_begins + 1 ≤ d) {d_X12_readsDeed : Nat} {s_X12_readsDeed : zq_Sp} (h_X12_readsDeed : zq_M yX12_readsDeed cX12_readsDeed 5 (some .boolean) 1 d_X12_readsDeed s_X12_readsDeed) (g_X12_readsDeed : d_X12_readsDeed + 1 ≤ d) {d_X12_takes : Nat} {s_X12_takes : zq_Sp} (h_X12_takes : zq_M yX12_takes cX12_takes 3 (some .boolean) 1 d_X12_takes s_X12_takes) (g_X12_takes : d_X12_takes + 1 ≤ d) {d_X12_faultOf : Nat} {s_X12_faultOf : zq_Sp} (h_X12_faultOf : zq_M yX12_faultOf cX12_faultOf 5 (some .int) 1 d_X12_faultOf s_X12_faultOf) (g_X12_faultOf : d_X12_faultOf + 1 ≤ d) {d_X12_allDeserts : Nat} {s_X12_allDeserts : zq_Sp} (h_X12_allDeserts : zq_M yX12_allDeserts cX12_allDeserts 3 (some .int) 1 d_X12_allDeserts s_X12_allDeserts) (g_X12_allDeserts : d_X12_allDeserts + 1 ≤ d) {J14 : zq_P} (j14 : zq_ok X 6 14 J14) {J45 : zq_P} (j45 : zq_ok X 6 45 J45) {J97 : zq_P} (j97 : zq_ok X 6 97 J97) {Q : zq_Q} (hq : zq_R X (some .int) 1 Q) : zq_ok X 6 136 (xX12_deeds_136 s_X12_begins s_X12_readsDeed s_X12_takes s_X12_faultOf s_X12_allDeserts J14 J45 J97 Q) := by
  refine zs_aload_n C dX12_deeds_136 rfl ?_
  refine zs_callV C h_X12_allDeserts g_X12_allDeserts zy_X12_allDeserts zp_56 (show vwCl[12]? = some (RX12, TX12, 67) from rfl) zw_1425 zw_1427 zs9_X12_allDeserts dX12_deeds_137 ?_
  exact zs_iret C hq dX12_deeds_140
def xX12_deeds_106 (s_X12_begins : zq_Sp) (s_X12_readsDeed : zq_Sp) (s_X12_takes : zq_Sp) (s_X12_faultOf : zq_Sp) (s_X12_allDeserts : zq_Sp) (J14 : zq_P) (J45 : zq_P) (J97 : zq_P) (Q : zq_Q) (ls : zq_L) (st : List Value) (h : zq_H) : Prop := (zi_aload 0 (zi_getR 56 62 (zi_iload 5 (zi_push (.int 0) (zi_push (.int 999) (zi_aload 0 (zi_getR 56 69 (zi_iload 5 (zi_aldI 69 6 (zi_m2 zf_min (zi_m2 zf_max (zi_astI 62 6 (zi_iinc 5 1 (J97)))))))))))))) ls st h
theorem kX12_deeds_106 {X : zq_X} {d : Nat} (C : zq_C X cX12_deeds 6 RX12 d) (hd1 : 1 ≤ d) {d_X12_begins : Nat} {s_X12_begins : zq_Sp} (h_X12_begins : zq_M yX12_begins cX12_begins 3 (some .int) 1 d_X12_begins s_X12_begins) (g_X12_begins : d_X12_begins + 1 ≤ d) {d_X12_readsDeed : Nat} {s_X12_readsDeed : zq_Sp} (h_X12_readsDeed : zq_M yX12_readsDeed cX12_readsDeed 5 (some .boolean) 1 d_X12_readsDeed s_X12_readsDeed) (g_X12_readsDeed : d_X12_readsDeed + 1 ≤ d) {d_X12_takes : Nat} {s_X12_takes : zq_Sp} (h_X12_takes : zq_M yX12_takes cX12_takes 3 (some .boolean) 1 d_X12_takes s_X12_takes) (g_X12_takes : d_X12_takes + 1 ≤ d) {d_X12_faultOf : Nat} {s_X12_faultOf : zq_Sp} (h_X12_faultOf : zq_M yX12_faultOf cX12_faultOf 5 (some .int) 1 d_X12_faultOf s_X12_faultOf) (g_X12_faultOf : d_X12_faultOf + 1 ≤ d) {d_X12_allDeserts : Nat} {s_X12_allDeserts : zq_Sp} (h_X12_allDeserts : zq_M yX12_allDeserts cX12_allDeserts 3 (some .int) 1 d_X12_allDeserts s_X12_allDeserts) (g_X12_allDeserts : d_X12_allDeserts + 1 ≤ d) {J14 : zq_P} (j14 : zq_ok X 6 14 J14) {J45 : zq_P} (j45 : zq_ok X 6 45 J45) {J97 : zq_P} (j97 : zq_ok X 6 97 J97) {Q : zq_Q} (hq : zq_R X (some .int) 1 Q) : zq_ok X 6 106 (xX12_deeds_106 s_X12_begins s_X12_readsDeed s_X12_takes s_X12_faultOf s_X12_allDeserts J14 J45 J97 Q) := by
  refine zs_aload_n C dX12_deeds_106 rfl ?_
  refine zs_getR C zp_56 zF12 (j := 10) ⟨by decide, rfl⟩ zw_1106 dX12_deeds_107 ?_
  refine zs_iload C dX12_deeds_110 ?_
  refine zs_iconst C dX12_deeds_112 (by decide) ?_
  refine zs_sipush C dX12_deeds_113 (by decide) ?_
  refine zs_aload_n C dX12_deeds_116 rfl ?_
  refine zs_getR C zp_56 zF12 (j := 22) ⟨by decide, rfl⟩ zw_1118 dX12_deeds_117 ?_
  refine zs_iload C dX12_deeds_120 ?_
  refine zs_iaload C zp_69 dX12_deeds_122 ?_
  refine zs_mmin C hd1 zw_1322 zw_393 zw_14 zw_394 dX12_deeds_123 ?_
  refine zs_mmax C hd1 zw_1424 zw_454 zw_14 zw_455 dX12_deeds_126 ?_
  refine zs_iastore C zp_62 dX12_deeds_129 ?_
  refine zs_iinc C dX12_deeds_130 (by decide) (by decide) ?_
  exact zs_goto C dX12_deeds_133 (by decide) (j97)
def xX12_deeds_97 (s_X12_begins : zq_Sp) (s_X12_readsDeed : zq_Sp) (s_X12_takes : zq_Sp) (s_X12_faultOf : zq_Sp) (s_X12_allDeserts : zq_Sp) (J14 : zq_P) (J45 : zq_P) (J97 : zq_P) (Q : zq_Q) (ls : zq_L) (st : List Value) (h : zq_H) : Prop := (zi_iload 5 (zi_aload 0 (zi_getI 56 4 (zi_if2 (fun x y => y ≤ x) (xX12_deeds_136 s_X12_begins s_X12_readsDeed s_X12_takes s_X12_faultOf s_X12_allDeserts J14 J45 J97 Q) (xX12_deeds_106 s_X12_begins s_X12_readsDeed s_X12_takes s_X12_faultOf s_X12_allDeserts J14 J45 J97 Q))))) ls st h
theorem kX12_deeds_97 {X : zq_X} {d : Nat} (C : zq_C X cX12_deeds 6 RX12 d) (hd1 : 1 ≤ d) {d_X12_begins : Nat} {s_X12_begins : zq_Sp} (h_X12_begins : zq_M yX12_begins cX12_begins 3 (some .int) 1 d_X12_begins s_X12_begins) (g_X12_begins : d_X12_begins + 1 ≤ d) {d_X12_readsDeed : Nat} {s_X12_readsDeed : zq_Sp} (h_X12_readsDeed : zq_M yX12_readsDeed cX12_readsDeed 5 (some .boolean) 1 d_X12_readsDeed s_X12_readsDeed) (g_X12_readsDeed : d_X12_readsDeed + 1 ≤ d) {d_X12_takes : Nat} {s_X12_takes : zq_Sp} (h_X12_takes : zq_M yX12_takes cX12_takes 3 (some .boolean) 1 d_X12_takes s_X12_takes) (g_X12_takes : d_X12_takes + 1 ≤ d) {d_X12_faultOf : Nat} {s_X12_faultOf : zq_Sp} (h_X12_faultOf : zq_M yX12_faultOf cX12_faultOf 5 (some .int) 1 d_X12_faultOf s_X12_faultOf) (g_X12_faultOf : d_X12_faultOf + 1 ≤ d) {d_X12_allDeserts : Nat} {s_X12_allDeserts : zq_Sp} (h_X12_allDeserts : zq_M yX12_allDeserts cX12_allDeserts 3 (some .int) 1 d_X12_allDeserts s_X12_allDeserts) (g_X12_allDeserts : d_X12_allDeserts + 1 ≤ d) {J14 : zq_P} (j14 : zq_ok X 6 14 J14) {J45 : zq_P} (j45 : zq_ok X 6 45 J45) {J97 : zq_P} (j97 : zq_ok X 6 97 J97) {Q : zq_Q} (hq : zq_R X (some .int) 1 Q) : zq_ok X 6 97 (xX12_deeds_97 s_X12_begins s_X12_readsDeed s_X12_takes s_X12_faultOf s_X12_allDeserts J14 J45 J97 Q) := by
  refine zs_iload C dX12_deeds_97 ?_
  refine zs_aload_n C dX12_deeds_99 rfl ?_
  refine zs_getI C zp_56 zF12 (j := 4) ⟨by decide, rfl⟩ zw_1100 dX12_deeds_100 ?_
  exact zs_icmp_ge C dX12_deeds_103 (by decide) (kX12_deeds_136 C hd1 h_X12_begins g_X12_begins h_X12_readsDeed g_X12_readsDeed h_X12_takes g_X12_takes h_X12_faultOf g_X12_faultOf h_X12_allDeserts g_X12_allDeserts j14 j45 j97 hq) (kX12_deeds_106 C hd1 h_X12_begins g_X12_begins h_X12_readsDeed g_X12_readsDeed h_X12_takes g_X12_takes h_X12_faultOf g_X12_faultOf h_X12_allDeserts g_X12_allDeserts j14 j45 j97 hq)
def xX12_deeds_94 (s_X12_begins : zq_Sp) (s_X12_readsDeed : zq_Sp) (s_X12_takes : zq_Sp) (s_X12_faultOf : zq_Sp) (s_X12_allDeserts : zq_Sp) (J14 : zq_P) (J45 : zq_P) (J97 : zq_P) (Q : zq_Q) (ls : zq_L) (st : List Value) (h : zq_H) : Prop := (zi_push (.int 0) (zi_istore 5 (J97))) ls st h
theorem kX12_deeds_94 {X : zq_X} {d : Nat} (C : zq_C X cX12_deeds 6 RX12 d) (hd1 : 1 ≤ d) {d_X12_begins : Nat} {s_X12_begins : zq_Sp} (h_X12_begins : zq_M yX12_begins cX12_begins 3 (some .int) 1 d_X12_begins s_X12_begins) (g_X12_begins : d_X12_begins + 1 ≤ d) {d_X12_readsDeed : Nat} {s_X12_readsDeed : zq_Sp} (h_X12_readsDeed : zq_M yX12_readsDeed cX12_readsDeed 5 (some .boolean) 1 d_X12_readsDeed s_X12_readsDeed) (g_X12_readsDeed : d_X12_readsDeed + 1 ≤ d) {d_X12_takes : Nat} {s_X12_takes : zq_Sp} (h_X12_takes : zq_M yX12_takes cX12_takes 3 (some .boolean) 1 d_X12_takes s_X12_takes) (g_X12_takes : d_X12_takes + 1 ≤ d) {d_X12_faultOf : Nat} {s_X12_faultOf : zq_Sp} (h_X12_faultOf : zq_M yX12_faultOf cX12_faultOf 5 (some .int) 1 d_X12_faultOf s_X12_faultOf) (g_X12_faultOf : d_X12_faultOf + 1 ≤ d) {d_X12_allDeserts : Nat} {s_X12_allDeserts : zq_Sp} (h_X12_allDeserts : zq_M yX12_allDeserts cX12_allDeserts 3 (some .int) 1 d_X12_allDeserts s_X12_allDeserts) (g_X12_allDeserts : d_X12_allDeserts + 1 ≤ d) {J14 : zq_P} (j14 : zq_ok X 6 14 J14) {J45 : zq_P} (j45 : zq_ok X 6 45 J45) {J97 : zq_P} (j97 : zq_ok X 6 97 J97) {Q : zq_Q} (hq : zq_R X (some .int) 1 Q) : zq_ok X 6 94 (xX12_deeds_94 s_X12_begins s_X12_readsDeed s_X12_takes s_X12_faultOf s_X12_allDeserts J14 J45 J97 Q) := by
  refine zs_iconst C dX12_deeds_94 (by decide) ?_
  refine zs_istore C dX12_deeds_95 (by decide) ?_
  exact j97
def xX12_deeds_91 (s_X12_begins : zq_Sp) (s_X12_readsDeed : zq_Sp) (s_X12_takes : zq_Sp) (s_X12_faultOf : zq_Sp) (s_X12_allDeserts : zq_Sp) (J14 : zq_P) (J45 : zq_P) (J97 : zq_P) (Q : zq_Q) (ls : zq_L) (st : List Value) (h : zq_H) : Prop := (zi_iload 4 (zi_iret Q)) ls st h
theorem kX12_deeds_91 {X : zq_X} {d : Nat} (C : zq_C X cX12_deeds 6 RX12 d) (hd1 : 1 ≤ d) {d_X12_begins : Nat} {s_X12_begins : zq_Sp} (h_X12_begins : zq_M yX12_begins cX12_begins 3 (some .int) 1 d_X12_begins s_X12_begins) (g_X12_begins : d_X12_begins + 1 ≤ d) {d_X12_readsDeed : Nat} {s_X12_readsDeed : zq_Sp} (h_X12_readsDeed : zq_M yX12_readsDeed cX12_readsDeed 5 (some .boolean) 1 d_X12_readsDeed s_X12_readsDeed) (g_X12_readsDeed : d_X12_readsDeed + 1 ≤ d) {d_X12_takes : Nat} {s_X12_takes : zq_Sp} (h_X12_takes : zq_M yX12_takes cX12_takes 3 (some .boolean) 1 d_X12_takes s_X12_takes) (g_X12_takes : d_X12_takes + 1 ≤ d) {d_X12_faultOf : Nat} {s_X12_faultOf : zq_Sp} (h_X12_faultOf : zq_M yX12_faultOf cX12_faultOf 5 (some .int) 1 d_X12_faultOf s_X12_faultOf) (g_X12_faultOf : d_X12_faultOf + 1 ≤ d) {d_X12_allDeserts : Nat} {s_X12_allDeserts : zq_Sp} (h_X12_allDeserts : zq_M yX12_allDeserts cX12_allDeserts 3 (some .int) 1 d_X12_allDeserts s_X12_allDeserts) (g_X12_allDeserts : d_X12_allDeserts + 1 ≤ d) {J14 : zq_P} (j14 : zq_ok X 6 14 J14) {J45 : zq_P} (j45 : zq_ok X 6 45 J45) {J97 : zq_P} (j97 : zq_ok X 6 97 J97) {Q : zq_Q} (hq : zq_R X (some .int) 1 Q) : zq_ok X 6 91 (xX12_deeds_91 s_X12_begins s_X12_readsDeed s_X12_takes s_X12_faultOf s_X12_allDeserts J14 J45 J97 Q) := by
  refine zs_iload C dX12_deeds_91 ?_
  exact zs_iret C hq dX12_deeds_93
def xX12_deeds_76 (s_X12_begins : zq_Sp) (s_X12_readsDeed : zq_Sp) (s_X12_takes : zq_Sp) (s_X12_faultOf : zq_Sp) (s_X12_allDeserts : zq_Sp) (J14 : zq_P) (J45 : zq_P) (J97 : zq_P) (Q : zq_Q) (ls : zq_L) (st : List Value) (h : zq_H) : Prop := (zi_aload 0 (zi_iload 1 (zi_push (.int 60) (zi_iload 2 (zi_callV 3 56 s_X12_faultOf (zi_istore 4 (zi_iload 4 (zi_if1 (fun x => 0 ≤ x) (xX12_deeds_94 s_X12_begins s_X12_readsDeed s_X12_takes s_X12_faultOf s_X12_allDeserts J14 J45 J97 Q) (xX12_deeds_91 s_X12_begins s_X12_readsDeed s_X12_takes s_X12_faultOf s_X12_allDeserts J14 J45 J97 Q))))))))) ls st h
theorem kX12_deeds_76 {X : zq_X} {d : Nat} (C : zq_C X cX12_deeds 6 RX12 d) (hd1 : 1 ≤ d) {d_X12_begins : Nat} {s_X12_begins : zq_Sp} (h_X12_begins : zq_M yX12_begins cX12_begins 3 (some .int) 1 d_X12_begins s_X12_begins) (g_X12_begins : d_X12_begins + 1 ≤ d) {d_X12_readsDeed : Nat} {s_X12_readsDeed : zq_Sp} (h_X12_readsDeed : zq_M yX12_readsDeed cX12_readsDeed 5 (some .boolean) 1 d_X12_readsDeed s_X12_readsDeed) (g_X12_readsDeed : d_X12_readsDeed + 1 ≤ d) {d_X12_takes : Nat} {s_X12_takes : zq_Sp} (h_X12_takes : zq_M yX12_takes cX12_takes 3 (some .boolean) 1 d_X12_takes s_X12_takes) (g_X12_takes : d_X12_takes + 1 ≤ d) {d_X12_faultOf : Nat} {s_X12_faultOf : zq_Sp} (h_X12_faultOf : zq_M yX12_faultOf cX12_faultOf 5 (some .int) 1 d_X12_faultOf s_X12_faultOf) (g_X12_faultOf : d_X12_faultOf + 1 ≤ d) {d_X12_allDeserts : Nat} {s_X12_allDeserts : zq_Sp} (h_X12_allDeserts : zq_M yX12_allDeserts cX12_allDeserts 3 (some .int) 1 d_X12_allDeserts s_X12_allDeserts) (g_X12_allDeserts : d_X12_allDeserts + 1 ≤ d) {J14 : zq_P} (j14 : zq_ok X 6 14 J14) {J45 : zq_P} (j45 : zq_ok X 6 45 J45) {J97 : zq_P} (j97 : zq_ok X 6 97 J97) {Q : zq_Q} (hq : zq_R X (some .int) 1 Q) : zq_ok X 6 76 (xX12_deeds_76 s_X12_begins s_X12_readsDeed s_X12_takes s_X12_faultOf s_X12_allDeserts J14 J45 J97 Q) := by
  refine zs_aload_n C dX12_deeds_76 rfl ?_
  refine zs_iload_n C dX12_deeds_77 rfl ?_
  refine zs_bipush C dX12_deeds_78 (by decide) ?_
  refine zs_iload_n C dX12_deeds_80 rfl ?_
  refine zs_callV C h_X12_faultOf g_X12_faultOf zy_X12_faultOf zp_56 (show vwCl[12]? = some (RX12, TX12, 67) from rfl) zw_1388 zw_1390 zs9_X12_faultOf dX12_deeds_81 ?_
  refine zs_istore C dX12_deeds_84 (by decide) ?_
  refine zs_iload C dX12_deeds_86 ?_
  exact zs_if_ge C dX12_deeds_88 (by decide) (kX12_deeds_94 C hd1 h_X12_begins g_X12_begins h_X12_readsDeed g_X12_readsDeed h_X12_takes g_X12_takes h_X12_faultOf g_X12_faultOf h_X12_allDeserts g_X12_allDeserts j14 j45 j97 hq) (kX12_deeds_91 C hd1 h_X12_begins g_X12_begins h_X12_readsDeed g_X12_readsDeed h_X12_takes g_X12_takes h_X12_faultOf g_X12_faultOf h_X12_allDeserts g_X12_allDeserts j14 j45 j97 hq)
def xX12_deeds_72 (s_X12_begins : zq_Sp) (s_X12_readsDeed : zq_Sp) (s_X12_takes : zq_Sp) (s_X12_faultOf : zq_Sp) (s_X12_allDeserts : zq_Sp) (J14 : zq_P) (J45 : zq_P) (J97 : zq_P) (Q : zq_Q) (ls : zq_L) (st : List Value) (h : zq_H) : Prop := (zi_istore 3 (J45)) ls st h
theorem kX12_deeds_72 {X : zq_X} {d : Nat} (C : zq_C X cX12_deeds 6 RX12 d) (hd1 : 1 ≤ d) {d_X12_begins : Nat} {s_X12_begins : zq_Sp} (h_X12_begins : zq_M yX12_begins cX12_begins 3 (some .int) 1 d_X12_begins s_X12_begins) (g_X12_begins : d_X12_begins + 1 ≤ d) {d_X12_readsDeed : Nat} {s_X12_readsDeed : zq_Sp} (h_X12_readsDeed : zq_M yX12_readsDeed cX12_readsDeed 5 (some .boolean) 1 d_X12_readsDeed s_X12_readsDeed) (g_X12_readsDeed : d_X12_readsDeed + 1 ≤ d) {d_X12_takes : Nat} {s_X12_takes : zq_Sp} (h_X12_takes : zq_M yX12_takes cX12_takes 3 (some .boolean) 1 d_X12_takes s_X12_takes) (g_X12_takes : d_X12_takes + 1 ≤ d) {d_X12_faultOf : Nat} {s_X12_faultOf : zq_Sp} (h_X12_faultOf : zq_M yX12_faultOf cX12_faultOf 5 (some .int) 1 d_X12_faultOf s_X12_faultOf) (g_X12_faultOf : d_X12_faultOf + 1 ≤ d) {d_X12_allDeserts : Nat} {s_X12_allDeserts : zq_Sp} (h_X12_allDeserts : zq_M yX12_allDeserts cX12_allDeserts 3 (some .int) 1 d_X12_allDeserts s_X12_allDeserts) (g_X12_allDeserts : d_X12_allDeserts + 1 ≤ d) {J14 : zq_P} (j14 : zq_ok X 6 14 J14) {J45 : zq_P} (j45 : zq_ok X 6 45 J45) {J97 : zq_P} (j97 : zq_ok X 6 97 J97) {Q : zq_Q} (hq : zq_R X (some .int) 1 Q) : zq_ok X 6 72 (xX12_deeds_72 s_X12_begins s_X12_readsDeed s_X12_takes s_X12_faultOf s_X12_allDeserts J14 J45 J97 Q) := by
  refine zs_istore_n C dX12_deeds_72 rfl (by decide) ?_
  exact zs_goto C dX12_deeds_73 (by decide) (j45)
def xX12_deeds_71 (s_X12_begins : zq_Sp) (s_X12_readsDeed : zq_Sp) (s_X12_takes : zq_Sp) (s_X12_faultOf : zq_Sp) (s_X12_allDeserts : zq_Sp) (J14 : zq_P) (J45 : zq_P) (J97 : zq_P) (Q : zq_Q) (ls : zq_L) (st : List Value) (h : zq_H) : Prop := (zi_push (.int 0) ((xX12_deeds_72 s_X12_begins s_X12_readsDeed s_X12_takes s_X12_faultOf s_X12_allDeserts J14 J45 J97 Q))) ls st h
theorem kX12_deeds_71 {X : zq_X} {d : Nat} (C : zq_C X cX12_deeds 6 RX12 d) (hd1 : 1 ≤ d) {d_X12_begins : Nat} {s_X12_begins : zq_Sp} (h_X12_begins : zq_M yX12_begins cX12_begins 3 (some .int) 1 d_X12_begins s_X12_begins) (g_X12_begins : d_X12_begins + 1 ≤ d) {d_X12_readsDeed : Nat} {s_X12_readsDeed : zq_Sp} (h_X12_readsDeed : zq_M yX12_readsDeed cX12_readsDeed 5 (some .boolean) 1 d_X12_readsDeed s_X12_readsDeed) (g_X12_readsDeed : d_X12_readsDeed + 1 ≤ d) {d_X12_takes : Nat} {s_X12_takes : zq_Sp} (h_X12_takes : zq_M yX12_takes cX12_takes 3 (some .boolean) 1 d_X12_takes s_X12_takes) (g_X12_takes : d_X12_takes + 1 ≤ d) {d_X12_faultOf : Nat} {s_X12_faultOf : zq_Sp} (h_X12_faultOf : zq_M yX12_faultOf cX12_faultOf 5 (some .int) 1 d_X12_faultOf s_X12_faultOf) (g_X12_faultOf : d_X12_faultOf + 1 ≤ d) {d_X12_allDeserts : Nat} {s_X12_allDeserts : zq_Sp} (h_X12_allDeserts : zq_M yX12_allDeserts cX12_allDeserts 3 (some .int) 1 d_X12_allDeserts s_X12_allDeserts) (g_X12_allDeserts : d_X12_allDeserts + 1 ≤ d) {J14 : zq_P} (j14 : zq_ok X 6 14 J14) {J45 : zq_P} (j45 : zq_ok X 6 45 J45) {J97 : zq_P} (j97 : zq_ok X 6 97 J97) {Q : zq_Q} (hq : zq_R X (some .int) 1 Q) : zq_ok X 6 71 (xX12_deeds_71 s_X12_begins s_X12_readsDeed s_X12_takes s_X12_faultOf s_X12_allDeserts J14 J45 J97 Q) := by
  refine zs_iconst C dX12_deeds_71 (by decide) ?_
  exact kX12_deeds_72 C hd1 h_X12_begins g_X12_begins h_X12_readsDeed g_X12_readsDeed h_X12_takes g_X12_takes h_X12_faultOf g_X12_faultOf h_X12_allDeserts g_X12_allDeserts j14 j45 j97 hq
def xX12_deeds_67 (s_X12_begins : zq_Sp) (s_X12_readsDeed : zq_Sp) (s_X12_takes : zq_Sp) (s_X12_faultOf : zq_Sp) (s_X12_allDeserts : zq_Sp) (J14 : zq_P) (J45 : zq_P) (J97 : zq_P) (Q : zq_Q) (ls : zq_L) (st : List Value) (h : zq_H) : Prop := (zi_push (.int 1) ((xX12_deeds_72 s_X12_begins s_X12_readsDeed s_X12_takes s_X12_faultOf s_X12_allDeserts J14 J45 J97 Q))) ls st h
theorem kX12_deeds_67 {X : zq_X} {d : Nat} (C : zq_C X cX12_deeds 6 RX12 d) (hd1 : 1 ≤ d) {d_X12_begins : Nat} {s_X12_begins : zq_Sp} (h_X12_begins : zq_M yX12_begins cX12_begins 3 (some .int) 1 d_X12_begins s_X12_begins) (g_X12_begins : d_X12_begins + 1 ≤ d) {d_X12_readsDeed : Nat} {s_X12_readsDeed : zq_Sp} (h_X12_readsDeed : zq_M yX12_readsDeed cX12_readsDeed 5 (some .boolean) 1 d_X12_readsDeed s_X12_readsDeed) (g_X12_readsDeed : d_X12_readsDeed + 1 ≤ d) {d_X12_takes : Nat} {s_X12_takes : zq_Sp} (h_X12_takes : zq_M yX12_takes cX12_takes 3 (some .boolean) 1 d_X12_takes s_X12_takes) (g_X12_takes : d_X12_takes + 1 ≤ d) {d_X12_faultOf : Nat} {s_X12_faultOf : zq_Sp} (h_X12_faultOf : zq_M yX12_faultOf cX12_faultOf 5 (some .int) 1 d_X12_faultOf s_X12_faultOf) (g_X12_faultOf : d_X12_faultOf + 1 ≤ d) {d_X12_allDeserts : Nat} {s_X12_allDeserts : zq_Sp} (h_X12_allDeserts : zq_M yX12_allDeserts cX12_allDeserts 3 (some .int) 1 d_X12_allDeserts s_X12_allDeserts) (g_X12_allDeserts : d_X12_allDeserts + 1 ≤ d) {J14 : zq_P} (j14 : zq_ok X 6 14 J14) {J45 : zq_P} (j45 : zq_ok X 6 45 J45) {J97 : zq_P} (j97 : zq_ok X 6 97 J97) {Q : zq_Q} (hq : zq_R X (some .int) 1 Q) : zq_ok X 6 67 (xX12_deeds_67 s_X12_begins s_X12_readsDeed s_X12_takes s_X12_faultOf s_X12_allDeserts J14 J45 J97 Q) := by
  refine zs_iconst C dX12_deeds_67 (by decide) ?_
  exact zs_goto C dX12_deeds_68 (by decide) (kX12_deeds_72 C hd1 h_X12_begins g_X12_begins h_X12_readsDeed g_X12_readsDeed h_X12_takes g_X12_takes h_X12_faultOf g_X12_faultOf h_X12_allDeserts g_X12_allDeserts j14 j45 j97 hq)
def xX12_deeds_58 (s_X12_begins : zq_Sp) (s_X12_readsDeed : zq_Sp) (s_X12_takes : zq_Sp) (s_X12_faultOf : zq_Sp) (s_X12_allDeserts : zq_Sp) (J14 : zq_P) (J45 : zq_P) (J97 : zq_P) (Q : zq_Q) (ls : zq_L) (st : List Value) (h : zq_H) : Prop := (zi_aload 0 (zi_push (.int 59) (zi_callV 1 56 s_X12_takes (zi_if1 (fun x => x = 0) (xX12_deeds_71 s_X12_begins s_X12_readsDeed s_X12_takes s_X12_faultOf s_X12_allDeserts J14 J45 J97 Q) (xX12_deeds_67 s_X12_begins s_X12_readsDeed s_X12_takes s_X12_faultOf s_X12_allDeserts J14 J45 J97 Q))))) ls st h
theorem kX12_deeds_58 {X : zq_X} {d : Nat} (C : zq_C X cX12_deeds 6 RX12 d) (hd1 : 1 ≤ d) {d_X12_begins : Nat} {s_X12_begins : zq_Sp} (h_X12_begins : zq_M yX12_begins cX12_begins 3 (some .int) 1 d_X12_begins s_X12_begins) (g_X12_begins : d_X12_begins + 1 ≤ d) {d_X12_readsDeed : Nat} {s_X12_readsDeed : zq_Sp} (h_X12_readsDeed : zq_M yX12_readsDeed cX12_readsDeed 5 (some .boolean) 1 d_X12_readsDeed s_X12_readsDeed) (g_X12_readsDeed : d_X12_readsDeed + 1 ≤ d) {d_X12_takes : Nat} {s_X12_takes : zq_Sp} (h_X12_takes : zq_M yX12_takes cX12_takes 3 (some .boolean) 1 d_X12_takes s_X12_takes) (g_X12_takes : d_X12_takes + 1 ≤ d) {d_X12_faultOf : Nat} {s_X12_faultOf : zq_Sp} (h_X12_faultOf : zq_M yX12_faultOf cX12_faultOf 5 (some .int) 1 d_X12_faultOf s_X12_faultOf) (g_X12_faultOf : d_X12_faultOf + 1 ≤ d) {d_X12_allDeserts : Nat} {s_X12_allDeserts : zq_Sp} (h_X12_allDeserts : zq_M yX12_allDeserts cX12_allDeserts 3 (some .int) 1 d_X12_allDeserts s_X12_allDeserts) (g_X12_allDeserts : d_X12_allDeserts + 1 ≤ d) {J14 : zq_P} (j14 : zq_ok X 6 14 J14) {J45 : zq_P} (j45 : zq_ok X 6 45 J45) {J97 : zq_P} (j97 : zq_ok X 6 97 J97) {Q : zq_Q} (hq : zq_R X (some .int) 1 Q) : zq_ok X 6 58 (xX12_deeds_58 s_X12_begins s_X12_readsDeed s_X12_takes s_X12_faultOf s_X12_allDeserts J14 J45 J97 Q) := by
  refine zs_aload_n C dX12_deeds_58 rfl ?_
  refine zs_bipush C dX12_deeds_59 (by decide) ?_
  refine zs_callV C h_X12_takes g_X12_takes zy_X12_takes zp_56 (show vwCl[12]? = some (RX12, TX12, 67) from rfl) zw_1384 zw_1386 zs9_X12_takes dX12_deeds_61 ?_
  exact zs_if_eq C dX12_deeds_64 (by decide) (kX12_deeds_71 C hd1 h_X12_begins g_X12_begins h_X12_readsDeed g_X12_readsDeed h_X12_takes g_X12_takes h_X12_faultOf g_X12_faultOf h_X12_allDeserts g_X12_allDeserts j14 j45 j97 hq) (kX12_deeds_67 C hd1 h_X12_begins g_X12_begins h_X12_readsDeed g_X12_readsDeed h_X12_takes g_X12_takes h_X12_faultOf g_X12_faultOf h_X12_allDeserts g_X12_allDeserts j14 j45 j97 hq)
def xX12_deeds_49 (s_X12_begins : zq_Sp) (s_X12_readsDeed : zq_Sp) (s_X12_takes : zq_Sp) (s_X12_faultOf : zq_Sp) (s_X12_allDeserts : zq_Sp) (J14 : zq_P) (J45 : zq_P) (J97 : zq_P) (Q : zq_Q) (ls : zq_L) (st : List Value) (h : zq_H) : Prop := (zi_aload 0 (zi_callV 0 56 s_X12_readsDeed (zi_istore 2 (zi_iload 2 (zi_if1 (fun x => x = 0) (xX12_deeds_71 s_X12_begins s_X12_readsDeed s_X12_takes s_X12_faultOf s_X12_allDeserts J14 J45 J97 Q) (xX12_deeds_58 s_X12_begins s_X12_readsDeed s_X12_takes s_X12_faultOf s_X12_allDeserts J14 J45 J97 Q)))))) ls st h
theorem kX12_deeds_49 {X : zq_X} {d : Nat} (C : zq_C X cX12_deeds 6 RX12 d) (hd1 : 1 ≤ d) {d_X12_begins : Nat} {s_X12_begins : zq_Sp} (h_X12_begins : zq_M yX12_begins cX12_begins 3 (some .int) 1 d_X12_begins s_X12_begins) (g_X12_begins : d_X12_begins + 1 ≤ d) {d_X12_readsDeed : Nat} {s_X12_readsDeed : zq_Sp} (h_X12_readsDeed : zq_M yX12_readsDeed cX12_readsDeed 5 (some .boolean) 1 d_X12_readsDeed s_X12_readsDeed) (g_X12_readsDeed : d_X12_readsDeed + 1 ≤ d) {d_X12_takes : Nat} {s_X12_takes : zq_Sp} (h_X12_takes : zq_M yX12_takes cX12_takes 3 (some .boolean) 1 d_X12_takes s_X12_takes) (g_X12_takes : d_X12_takes + 1 ≤ d) {d_X12_faultOf : Nat} {s_X12_faultOf : zq_Sp} (h_X12_faultOf : zq_M yX12_faultOf cX12_faultOf 5 (some .int) 1 d_X12_faultOf s_X12_faultOf) (g_X12_faultOf : d_X12_faultOf + 1 ≤ d) {d_X12_allDeserts : Nat} {s_X12_allDeserts : zq_Sp} (h_X12_allDeserts : zq_M yX12_allDeserts cX12_allDeserts 3 (some .int) 1 d_X12_allDeserts s_X12_allDeserts) (g_X12_allDeserts : d_X12_allDeserts + 1 ≤ d) {J14 : zq_P} (j14 : zq_ok X 6 14 J14) {J45 : zq_P} (j45 : zq_ok X 6 45 J45) {J97 : zq_P} (j97 : zq_ok X 6 97 J97) {Q : zq_Q} (hq : zq_R X (some .int) 1 Q) : zq_ok X 6 49 (xX12_deeds_49 s_X12_begins s_X12_readsDeed s_X12_takes s_X12_faultOf s_X12_allDeserts J14 J45 J97 Q) := by
  refine zs_aload_n C dX12_deeds_49 rfl ?_
  refine zs_callV C h_X12_readsDeed g_X12_readsDeed zy_X12_readsDeed zp_56 (show vwCl[12]? = some (RX12, TX12, 67) from rfl) zw_1414 zw_1416 zs9_X12_readsDeed dX12_deeds_50 ?_
  refine zs_istore_n C dX12_deeds_53 rfl (by decide) ?_
  refine zs_iload_n C dX12_deeds_54 rfl ?_
  exact zs_if_eq C dX12_deeds_55 (by decide) (kX12_deeds_71 C hd1 h_X12_begins g_X12_begins h_X12_readsDeed g_X12_readsDeed h_X12_takes g_X12_takes h_X12_faultOf g_X12_faultOf h_X12_allDeserts g_X12_allDeserts j14 j45 j97 hq) (kX12_deeds_58 C hd1 h_X12_begins g_X12_begins h_X12_readsDeed g_X12_readsDeed h_X12_takes g_X12_takes h_X12_faultOf g_X12_faultOf h_X12_allDeserts g_X12_allDeserts j14 j45 j97 hq)
def xX12_deeds_45 (s_X12_begins : zq_Sp) (s_X12_readsDeed : zq_Sp) (s_X12_takes : zq_Sp) (s_X12_faultOf : zq_Sp) (s_X12_allDeserts : zq_Sp) (J14 : zq_P) (J45 : zq_P) (J97 : zq_P) (Q : zq_Q) (ls : zq_L) (st : List Value) (h : zq_H) : Prop := (zi_iload 3 (zi_if1 (fun x => x = 0) (xX12_deeds_76 s_X12_begins s_X12_readsDeed s_X12_takes s_X12_faultOf s_X12_allDeserts J14 J45 J97 Q) (xX12_deeds_49 s_X12_begins s_X12_readsDeed s_X12_takes s_X12_faultOf s_X12_allDeserts J14 J45 J97 Q))) ls st h
theorem kX12_deeds_45 {X : zq_X} {d : Nat} (C : zq_C X cX12_deeds 6 RX12 d) (hd1 : 1 ≤ d) {d_X12_begins : Nat} {s_X12_begins : zq_Sp} (h_X12_begins : zq_M yX12_begins cX12_begins 3 (some .int) 1 d_X12_begins s_X12_begins) (g_X12_begins : d_X12_begins + 1 ≤ d) {d_X12_readsDeed : Nat} {s_X12_readsDeed : zq_Sp} (h_X12_readsDeed : zq_M yX12_readsDeed cX12_readsDeed 5 (some .boolean) 1 d_X12_readsDeed s_X12_readsDeed) (g_X12_readsDeed : d_X12_readsDeed + 1 ≤ d) {d_X12_takes : Nat} {s_X12_takes : zq_Sp} (h_X12_takes : zq_M yX12_takes cX12_takes 3 (some .boolean) 1 d_X12_takes s_X12_takes) (g_X12_takes : d_X12_takes + 1 ≤ d) {d_X12_faultOf : Nat} {s_X12_faultOf : zq_Sp} (h_X12_faultOf : zq_M yX12_faultOf cX12_faultOf 5 (some .int) 1 d_X12_faultOf s_X12_faultOf) (g_X12_faultOf : d_X12_faultOf + 1 ≤ d) {d_X12_allDeserts : Nat} {s_X12_allDeserts : zq_Sp} (h_X12_allDeserts : zq_M yX12_allDeserts cX12_allDeserts 3 (some .int) 1 d_X12_allDeserts s_X12_allDeserts) (g_X12_allDeserts : d_X12_allDeserts + 1 ≤ d) {J14 : zq_P} (j14 : zq_ok X 6 14 J14) {J45 : zq_P} (j45 : zq_ok X 6 45 J45) {J97 : zq_P} (j97 : zq_ok X 6 97 J97) {Q : zq_Q} (hq : zq_R X (some .int) 1 Q) : zq_ok X 6 45 (xX12_deeds_45 s_X12_begins s_X12_readsDeed s_X12_takes s_X12_faultOf s_X12_allDeserts J14 J45 J97 Q) := by
  refine zs_iload_n C dX12_deeds_45 rfl ?_
  exact zs_if_eq C dX12_deeds_46 (by decide) (kX12_deeds_76 C hd1 h_X12_begins g_X12_begins h_X12_readsDeed g_X12_readsDeed h_X12_takes g_X12_takes h_X12_faultOf g_X12_faultOf h_X12_allDeserts g_X12_allDeserts j14 j45 j97 hq) (kX12_deeds_49 C hd1 h_X12_begins g_X12_begins h_X12_readsDeed g_X12_readsDeed h_X12_takes g_X12_takes h_X12_faultOf g_X12_faultOf h_X12_allDeserts g_X12_allDeserts j14 j45 j97 hq)
def xX12_deeds_44 (s_X12_begins : zq_Sp) (s_X12_readsDeed : zq_Sp) (s_X12_takes : zq_Sp) (s_X12_faultOf : zq_Sp) (s_X12_allDeserts : zq_Sp) (J14 : zq_P) (J45 : zq_P) (J97 : zq_P) (Q : zq_Q) (ls : zq_L) (st : List Value) (h : zq_H) : Prop := (zi_istore 3 (J45)) ls st h
theorem kX12_deeds_44 {X : zq_X} {d : Nat} (C : zq_C X cX12_deeds 6 RX12 d) (hd1 : 1 ≤ d) {d_X12_begins : Nat} {s_X12_begins : zq_Sp} (h_X12_begins : zq_M yX12_begins cX12_begins 3 (some .int) 1 d_X12_begins s_X12_begins) (g_X12_begins : d_X12_begins + 1 ≤ d) {d_X12_readsDeed : Nat} {s_X12_readsDeed : zq_Sp} (h_X12_readsDeed : zq_M yX12_readsDeed cX12_readsDeed 5 (some .boolean) 1 d_X12_readsDeed s_X12_readsDeed) (g_X12_readsDeed : d_X12_readsDeed + 1 ≤ d) {d_X12_takes : Nat} {s_X12_takes : zq_Sp} (h_X12_takes : zq_M yX12_takes cX12_takes 3 (some .boolean) 1 d_X12_takes s_X12_takes) (g_X12_takes : d_X12_takes + 1 ≤ d) {d_X12_faultOf : Nat} {s_X12_faultOf : zq_Sp} (h_X12_faultOf : zq_M yX12_faultOf cX12_faultOf 5 (some .int) 1 d_X12_faultOf s_X12_faultOf) (g_X12_faultOf : d_X12_faultOf + 1 ≤ d) {d_X12_allDeserts : Nat} {s_X12_allDeserts : zq_Sp} (h_X12_allDeserts : zq_M yX12_allDeserts cX12_allDeserts 3 (some .int) 1 d_X12_allDeserts s_X12_allDeserts) (g_X12_allDeserts : d_X12_allDeserts + 1 ≤ d) {J14 : zq_P} (j14 : zq_ok X 6 14 J14) {J45 : zq_P} (j45 : zq_ok X 6 45 J45) {J97 : zq_P} (j97 : zq_ok X 6 97 J97) {Q : zq_Q} (hq : zq_R X (some .int) 1 Q) : zq_ok X 6 44 (xX12_deeds_44 s_X12_begins s_X12_readsDeed s_X12_takes s_X12_faultOf s_X12_allDeserts J14 J45 J97 Q) := by
  refine zs_istore_n C dX12_deeds_44 rfl (by decide) ?_
  exact j45
def xX12_deeds_43 (s_X12_begins : zq_Sp) (s_X12_readsDeed : zq_Sp) (s_X12_takes : zq_Sp) (s_X12_faultOf : zq_Sp) (s_X12_allDeserts : zq_Sp) (J14 : zq_P) (J45 : zq_P) (J97 : zq_P) (Q : zq_Q) (ls : zq_L) (st : List Value) (h : zq_H) : Prop := (zi_push (.int 0) ((xX12_deeds_44 s_X12_begins s_X12_readsDeed s_X12_takes s_X12_faultOf s_X12_allDeserts J14 J45 J97 Q))) ls st h
theorem kX12_deeds_43 {X : zq_X} {d : Nat} (C : zq_C X cX12_deeds 6 RX12 d) (hd1 : 1 ≤ d) {d_X12_begins : Nat} {s_X12_begins : zq_Sp} (h_X12_begins : zq_M yX12_begins cX12_begins 3 (some .int) 1 d_X12_begins s_X12_begins) (g_X12_begins : d_X12_begins + 1 ≤ d) {d_X12_readsDeed : Nat} {s_X12_readsDeed : zq_Sp} (h_X12_readsDeed : zq_M yX12_readsDeed cX12_readsDeed 5 (some .boolean) 1 d_X12_readsDeed s_X12_readsDeed) (g_X12_readsDeed : d_X12_readsDeed + 1 ≤ d) {d_X12_takes : Nat} {s_X12_takes : zq_Sp} (h_X12_takes : zq_M yX12_takes cX12_takes 3 (some .boolean) 1 d_X12_takes s_X12_takes) (g_X12_takes : d_X12_takes + 1 ≤ d) {d_X12_faultOf : Nat} {s_X12_faultOf : zq_Sp} (h_X12_faultOf : zq_M yX12_faultOf cX12_faultOf 5 (some .int) 1 d_X12_faultOf s_X12_faultOf) (g_X12_faultOf : d_X12_faultOf + 1 ≤ d) {d_X12_allDeserts : Nat} {s_X12_allDeserts : zq_Sp} (h_X12_allDeserts : zq_M yX12_allDeserts cX12_allDeserts 3 (some .int) 1 d_X12_allDeserts s_X12_allDeserts) (g_X12_allDeserts : d_X12_allDeserts + 1 ≤ d) {J14 : zq_P} (j14 : zq_ok X 6 14 J14) {J45 : zq_P} (j45 : zq_ok X 6 45 J45) {J97 : zq_P} (j97 : zq_ok X 6 97 J97) {Q : zq_Q} (hq : zq_R X (some .int) 1 Q) : zq_ok X 6 43 (xX12_deeds_43 s_X12_begins s_X12_readsDeed s_X12_takes s_X12_faultOf s_X12_allDeserts J14 J45 J97 Q) := by
  refine zs_iconst C dX12_deeds_43 (by decide) ?_
  exact kX12_deeds_44 C hd1 h_X12_begins g_X12_begins h_X12_readsDeed g_X12_readsDeed h_X12_takes g_X12_takes h_X12_faultOf g_X12_faultOf h_X12_allDeserts g_X12_allDeserts j14 j45 j97 hq
def xX12_deeds_39 (s_X12_begins : zq_Sp) (s_X12_readsDeed : zq_Sp) (s_X12_takes : zq_Sp) (s_X12_faultOf : zq_Sp) (s_X12_allDeserts : zq_Sp) (J14 : zq_P) (J45 : zq_P) (J97 : zq_P) (Q : zq_Q) (ls : zq_L) (st : List Value) (h : zq_H) : Prop := (zi_push (.int 1) ((xX12_deeds_44 s_X12_begins s_X12_readsDeed s_X12_takes s_X12_faultOf s_X12_allDeserts J14 J45 J97 Q))) ls st h
theorem kX12_deeds_39 {X : zq_X} {d : Nat} (C : zq_C X cX12_deeds 6 RX12 d) (hd1 : 1 ≤ d) {d_X12_begins : Nat} {s_X12_begins : zq_Sp} (h_X12_begins : zq_M yX12_begins cX12_begins 3 (some .int) 1 d_X12_begins s_X12_begins) (g_X12_begins : d_X12_begins + 1 ≤ d) {d_X12_readsDeed : Nat} {s_X12_readsDeed : zq_Sp} (h_X12_readsDeed : zq_M yX12_readsDeed cX12_readsDeed 5 (some .boolean) 1 d_X12_readsDeed s_X12_readsDeed) (g_X12_readsDeed : d_X12_readsDeed + 1 ≤ d) {d_X12_takes : Nat} {s_X12_takes : zq_Sp} (h_X12_takes : zq_M yX12_takes cX12_takes 3 (some .boolean) 1 d_X12_takes s_X12_takes) (g_X12_takes : d_X12_takes + 1 ≤ d) {d_X12_faultOf : Nat} {s_X12_faultOf : zq_Sp} (h_X12_faultOf : zq_M yX12_faultOf cX12_faultOf 5 (some .int) 1 d_X12_faultOf s_X12_faultOf) (g_X12_faultOf : d_X12_faultOf + 1 ≤ d) {d_X12_allDeserts : Nat} {s_X12_allDeserts : zq_Sp} (h_X12_allDeserts : zq_M yX12_allDeserts cX12_allDeserts 3 (some .int) 1 d_X12_allDeserts s_X12_allDeserts) (g_X12_allDeserts : d_X12_allDeserts + 1 ≤ d) {J14 : zq_P} (j14 : zq_ok X 6 14 J14) {J45 : zq_P} (j45 : zq_ok X 6 45 J45) {J97 : zq_P} (j97 : zq_ok X 6 97 J97) {Q : zq_Q} (hq : zq_R X (some .int) 1 Q) : zq_ok X 6 39 (xX12_deeds_39 s_X12_begins s_X12_readsDeed s_X12_takes s_X12_faultOf s_X12_allDeserts J14 J45 J97 Q) := by
  refine zs_iconst C dX12_deeds_39 (by decide) ?_
  exact zs_goto C dX12_deeds_40 (by decide) (kX12_deeds_44 C hd1 h_X12_begins g_X12_begins h_X12_readsDeed g_X12_readsDeed h_X12_takes g_X12_takes h_X12_faultOf g_X12_faultOf h_X12_allDeserts g_X12_allDeserts j14 j45 j97 hq)
def xX12_deeds_33 (s_X12_begins : zq_Sp) (s_X12_readsDeed : zq_Sp) (s_X12_takes : zq_Sp) (s_X12_faultOf : zq_Sp) (s_X12_allDeserts : zq_Sp) (J14 : zq_P) (J45 : zq_P) (J97 : zq_P) (Q : zq_Q) (ls : zq_L) (st : List Value) (h : zq_H) : Prop := (zi_push (.int 1) (zi_istore 2 (zi_iload 1 (zi_if1 (fun x => x ≤ 0) (xX12_deeds_43 s_X12_begins s_X12_readsDeed s_X12_takes s_X12_faultOf s_X12_allDeserts J14 J45 J97 Q) (xX12_deeds_39 s_X12_begins s_X12_readsDeed s_X12_takes s_X12_faultOf s_X12_allDeserts J14 J45 J97 Q))))) ls st h
theorem kX12_deeds_33 {X : zq_X} {d : Nat} (C : zq_C X cX12_deeds 6 RX12 d) (hd1 : 1 ≤ d) {d_X12_begins : Nat} {s_X12_begins : zq_Sp} (h_X12_begins : zq_M yX12_begins cX12_begins 3 (some .int) 1 d_X12_begins s_X12_begins) (g_X12_begins : d_X12_begins + 1 ≤ d) {d_X12_readsDeed : Nat} {s_X12_readsDeed : zq_Sp} (h_X12_readsDeed : zq_M yX12_readsDeed cX12_readsDeed 5 (some .boolean) 1 d_X12_readsDeed s_X12_readsDeed) (g_X12_readsDeed : d_X12_readsDeed + 1 ≤ d) {d_X12_takes : Nat} {s_X12_takes : zq_Sp} (h_X12_takes : zq_M yX12_takes cX12_takes 3 (some .boolean) 1 d_X12_takes s_X12_takes) (g_X12_takes : d_X12_takes + 1 ≤ d) {d_X12_faultOf : Nat} {s_X12_faultOf : zq_Sp} (h_X12_faultOf : zq_M yX12_faultOf cX12_faultOf 5 (some .int) 1 d_X12_faultOf s_X12_faultOf) (g_X12_faultOf : d_X12_faultOf + 1 ≤ d) {d_X12_allDeserts : Nat} {s_X12_allDeserts : zq_Sp} (h_X12_allDeserts : zq_M yX12_allDeserts cX12_allDeserts 3 (some .int) 1 d_X12_allDeserts s_X12_allDeserts) (g_X12_allDeserts : d_X12_allDeserts + 1 ≤ d) {J14 : zq_P} (j14 : zq_ok X 6 14 J14) {J45 : zq_P} (j45 : zq_ok X 6 45 J45) {J97 : zq_P} (j97 : zq_ok X 6 97 J97) {Q : zq_Q} (hq : zq_R X (some .int) 1 Q) : zq_ok X 6 33 (xX12_deeds_33 s_X12_begins s_X12_readsDeed s_X12_takes s_X12_faultOf s_X12_allDeserts J14 J45 J97 Q) := by
  refine zs_iconst C dX12_deeds_33 (by decide) ?_
  refine zs_istore_n C dX12_deeds_34 rfl (by decide) ?_
  refine zs_iload_n C dX12_deeds_35 rfl ?_
  exact zs_if_le C dX12_deeds_36 (by decide) (kX12_deeds_43 C hd1 h_X12_begins g_X12_begins h_X12_readsDeed g_X12_readsDeed h_X12_takes g_X12_takes h_X12_faultOf g_X12_faultOf h_X12_allDeserts g_X12_allDeserts j14 j45 j97 hq) (kX12_deeds_39 C hd1 h_X12_begins g_X12_begins h_X12_readsDeed g_X12_readsDeed h_X12_takes g_X12_takes h_X12_faultOf g_X12_faultOf h_X12_allDeserts g_X12_allDeserts j14 j45 j97 hq)
def xX12_deeds_20 (s_X12_begins : zq_Sp) (s_X12_readsDeed : zq_Sp) (s_X12_takes : zq_Sp) (s_X12_faultOf : zq_Sp) (s_X12_allDeserts : zq_Sp) (J14 : zq_P) (J45 : zq_P) (J97 : zq_P) (Q : zq_Q) (ls : zq_L) (st : List Value) (h : zq_H) : Prop := (zi_aload 0 (zi_getR 56 69 (zi_iload 2 (zi_push (.int 0) (zi_astI 69 6 (zi_iinc 2 1 (J14))))))) ls st h
theorem kX12_deeds_20 {X : zq_X} {d : Nat} (C : zq_C X cX12_deeds 6 RX12 d) (hd1 : 1 ≤ d) {d_X12_begins : Nat} {s_X12_begins : zq_Sp} (h_X12_begins : zq_M yX12_begins cX12_begins 3 (some .int) 1 d_X12_begins s_X12_begins) (g_X12_begins : d_X12_begins + 1 ≤ d) {d_X12_readsDeed : Nat} {s_X12_readsDeed : zq_Sp} (h_X12_readsDeed : zq_M yX12_readsDeed cX12_readsDeed 5 (some .boolean) 1 d_X12_readsDeed s_X12_readsDeed) (g_X12_readsDeed : d_X12_readsDeed + 1 ≤ d) {d_X12_takes : Nat} {s_X12_takes : zq_Sp} (h_X12_takes : zq_M yX12_takes cX12_takes 3 (some .boolean) 1 d_X12_takes s_X12_takes) (g_X12_takes : d_X12_takes + 1 ≤ d) {d_X12_faultOf : Nat} {s_X12_faultOf : zq_Sp} (h_X12_faultOf : zq_M yX12_faultOf cX12_faultOf 5 (some .int) 1 d_X12_faultOf s_X12_faultOf) (g_X12_faultOf : d_X12_faultOf + 1 ≤ d) {d_X12_allDeserts : Nat} {s_X12_allDeserts : zq_Sp} (h_X12_allDeserts : zq_M yX12_allDeserts cX12_allDeserts 3 (some .int) 1 d_X12_allDeserts s_X12_allDeserts) (g_X12_allDeserts : d_X12_allDeserts + 1 ≤ d) {J14 : zq_P} (j14 : zq_ok X 6 14 J14) {J45 : zq_P} (j45 : zq_ok X 6 45 J45) {J97 : zq_P} (j97 : zq_ok X 6 97 J97) {Q : zq_Q} (hq : zq_R X (some .int) 1 Q) : zq_ok X 6 20 (xX12_deeds_20 s_X12_begins s_X12_readsDeed s_X12_takes s_X12_faultOf s_X12_allDeserts J14 J45 J97 Q) := by
  refine zs_aload_n C dX12_deeds_20 rfl ?_
  refine zs_getR C zp_56 zF12 (j := 22) ⟨by decide, rfl⟩ zw_1118 dX12_deeds_21 ?_
  refine zs_iload_n C dX12_deeds_24 rfl ?_
  refine zs_iconst C dX12_deeds_25 (by decide) ?_
  refine zs_iastore C zp_69 dX12_deeds_26 ?_
  refine zs_iinc C dX12_deeds_27 (by decide) (by decide) ?_
  exact zs_goto C dX12_deeds_30 (by decide) (j14)
def xX12_deeds_14 (s_X12_begins : zq_Sp) (s_X12_readsDeed : zq_Sp) (s_X12_takes : zq_Sp) (s_X12_faultOf : zq_Sp) (s_X12_allDeserts : zq_Sp) (J14 : zq_P) (J45 : zq_P) (J97 : zq_P) (Q : zq_Q) (ls : zq_L) (st : List Value) (h : zq_H) : Prop := (zi_iload 2 (zi_push (.int 6) (zi_if2 (fun x y => y ≤ x) (xX12_deeds_33 s_X12_begins s_X12_readsDeed s_X12_takes s_X12_faultOf s_X12_allDeserts J14 J45 J97 Q) (xX12_deeds_20 s_X12_begins s_X12_readsDeed s_X12_takes s_X12_faultOf s_X12_allDeserts J14 J45 J97 Q)))) ls st h
theorem kX12_deeds_14 {X : zq_X} {d : Nat} (C : zq_C X cX12_deeds 6 RX12 d) (hd1 : 1 ≤ d) {d_X12_begins : Nat} {s_X12_begins : zq_Sp} (h_X12_begins : zq_M yX12_begins cX12_begins 3 (some .int) 1 d_X12_begins s_X12_begins) (g_X12_begins : d_X12_begins + 1 ≤ d) {d_X12_readsDeed : Nat} {s_X12_readsDeed : zq_Sp} (h_X12_readsDeed : zq_M yX12_readsDeed cX12_readsDeed 5 (some .boolean) 1 d_X12_readsDeed s_X12_readsDeed) (g_X12_readsDeed : d_X12_readsDeed + 1 ≤ d) {d_X12_takes : Nat} {s_X12_takes : zq_Sp} (h_X12_takes : zq_M yX12_takes cX12_takes 3 (some .boolean) 1 d_X12_takes s_X12_takes) (g_X12_takes : d_X12_takes + 1 ≤ d) {d_X12_faultOf : Nat} {s_X12_faultOf : zq_Sp} (h_X12_faultOf : zq_M yX12_faultOf cX12_faultOf 5 (some .int) 1 d_X12_faultOf s_X12_faultOf) (g_X12_faultOf : d_X12_faultOf + 1 ≤ d) {d_X12_allDeserts : Nat} {s_X12_allDeserts : zq_Sp} (h_X12_allDeserts : zq_M yX12_allDeserts cX12_allDeserts 3 (some .int) 1 d_X12_allDeserts s_X12_allDeserts) (g_X12_allDeserts : d_X12_allDeserts + 1 ≤ d) {J14 : zq_P} (j14 : zq_ok X 6 14 J14) {J45 : zq_P} (j45 : zq_ok X 6 45 J45) {J97 : zq_P} (j97 : zq_ok X 6 97 J97) {Q : zq_Q} (hq : zq_R X (some .int) 1 Q) : zq_ok X 6 14 (xX12_deeds_14 s_X12_begins s_X12_readsDeed s_X12_takes s_X12_faultOf s_X12_allDeserts J14 J45 J97 Q) := by
  refine zs_iload_n C dX12_deeds_14 rfl ?_
  refine zs_bipush C dX12_deeds_15 (by decide) ?_
  exact zs_icmp_ge C dX12_deeds_17 (by decide) (kX12_deeds_33 C hd1 h_X12_begins g_X12_begins h_X12_readsDeed g_X12_readsDeed h_X12_takes g_X12_takes h_X12_faultOf g_X12_faultOf h_X12_allDeserts g_X12_allDeserts j14 j45 j97 hq) (kX12_deeds_20 C hd1 h_X12_begins g_X12_begins h_X12_readsDeed g_X12_readsDeed h_X12_takes g_X12_takes h_X12_faultOf g_X12_faultOf h_X12_allDeserts g_X12_allDeserts j14 j45 j97 hq)
def xX12_deeds_0 (s_X12_begins : zq_Sp) (s_X12_readsDeed : zq_Sp) (s_X12_takes : zq_Sp) (s_X12_faultOf : zq_Sp) (s_X12_allDeserts : zq_Sp) (J14 : zq_P) (J45 : zq_P) (J97 : zq_P) (Q : zq_Q) (ls : zq_L) (st : List Value) (h : zq_H) : Prop := (zi_aload 0 (zi_push (.int 0) (zi_putI 56 0 (zi_aload 0 (zi_push (.int 60) (zi_callV 1 56 s_X12_begins (zi_istore 1 (zi_push (.int 0) (zi_istore 2 (J14)))))))))) ls st h
theorem kX12_deeds_0 {X : zq_X} {d : Nat} (C : zq_C X cX12_deeds 6 RX12 d) (hd1 : 1 ≤ d) {d_X12_begins : Nat} {s_X12_begins : zq_Sp} (h_X12_begins : zq_M yX12_begins cX12_begins 3 (some .int) 1 d_X12_begins s_X12_begins) (g_X12_begins : d_X12_begins + 1 ≤ d) {d_X12_readsDeed : Nat} {s_X12_readsDeed : zq_Sp} (h_X12_readsDeed : zq_M yX12_readsDeed cX12_readsDeed 5 (some .boolean) 1 d_X12_readsDeed s_X12_readsDeed) (g_X12_readsDeed : d_X12_readsDeed + 1 ≤ d) {d_X12_takes : Nat} {s_X12_takes : zq_Sp} (h_X12_takes : zq_M yX12_takes cX12_takes 3 (some .boolean) 1 d_X12_takes s_X12_takes) (g_X12_takes : d_X12_takes + 1 ≤ d) {d_X12_faultOf : Nat} {s_X12_faultOf : zq_Sp} (h_X12_faultOf : zq_M yX12_faultOf cX12_faultOf 5 (some .int) 1 d_X12_faultOf s_X12_faultOf) (g_X12_faultOf : d_X12_faultOf + 1 ≤ d) {d_X12_allDeserts : Nat} {s_X12_allDeserts : zq_Sp} (h_X12_allDeserts : zq_M yX12_allDeserts cX12_allDeserts 3 (some .int) 1 d_X12_allDeserts s_X12_allDeserts) (g_X12_allDeserts : d_X12_allDeserts + 1 ≤ d) {J14 : zq_P} (j14 : zq_ok X 6 14 J14) {J45 : zq_P} (j45 : zq_ok X 6 45 J45) {J97 : zq_P} (j97 : zq_ok X 6 97 J97) {Q : zq_Q} (hq : zq_R X (some .int) 1 Q) : zq_ok X 6 0 (xX12_deeds_0 s_X12_begins s_X12_readsDeed s_X12_takes s_X12_faultOf s_X12_allDeserts J14 J45 J97 Q) := by
  refine zs_aload_n C dX12_deeds_0 rfl ?_
  refine zs_iconst C dX12_deeds_1 (by decide) ?_
  refine zs_putI C zp_56 zF12 (j := 0) ⟨by decide, rfl⟩ ⟨rfl, by decide +kernel⟩ zw_1096 dX12_deeds_2 ?_
  refine zs_aload_n C dX12_deeds_5 rfl ?_
  refine zs_bipush C dX12_deeds_6 (by decide) ?_
  refine zs_callV C h_X12_begins g_X12_begins zy_X12_begins zp_56 (show vwCl[12]? = some (RX12, TX12, 67) from rfl) zw_1318 zw_1320 zs9_X12_begins dX12_deeds_8 ?_
  refine zs_istore_n C dX12_deeds_11 rfl (by decide) ?_
  refine zs_iconst C dX12_deeds_12 (by decide) ?_
  refine zs_istore_n C dX12_deeds_13 rfl (by decide) ?_
  exact j14
theorem mX12_deeds {d : Nat} {spec : zq_Sp} {σ14 : Type} {σ45 : Type} {σ97 : Type} {d_X12_begins : Nat} {s_X12_begins : zq_Sp} (h_X12_begins : zq_M yX12_begins cX12_begins 3 (some .int) 1 d_X12_begins s_X12_begins) (g_X12_begins : d_X12_begins + 1 ≤ d) {d_X12_readsDeed : Nat} {s_X12_readsDeed : zq_Sp} (h_X12_readsDeed : zq_M yX12_readsDeed cX12_readsDeed 5 (some .boolean) 1 d_X12_readsDeed s_X12_readsDeed) (g_X12_readsDeed : d_X12_readsDeed + 1 ≤ d) {d_X12_takes : Nat} {s_X12_takes : zq_Sp} (h_X12_takes : zq_M yX12_takes cX12_takes 3 (some .boolean) 1 d_X12_takes s_X12_takes) (g_X12_takes : d_X12_takes + 1 ≤ d) {d_X12_faultOf : Nat} {s_X12_faultOf : zq_Sp} (h_X12_faultOf : zq_M yX12_faultOf cX12_faultOf 5 (some .int) 1 d_X12_faultOf s_X12_faultOf) (g_X12_faultOf : d_X12_faultOf + 1 ≤ d) {d_X12_allDeserts : Nat} {s_X12_allDeserts : zq_Sp} (h_X12_allDeserts : zq_M yX12_allDeserts cX12_allDeserts 3 (some .int) 1 d_X12_allDeserts s_X12_allDeserts) (g_X12_allDeserts : d_X12_allDeserts + 1 ≤ d) (hd1 : 1 ≤ d) (μ14 : σ14 → Nat) (I14 : zq_Q → σ14 → zq_P) (μ45 : σ45 → Nat) (I45 : zq_Q → σ45 → zq_P) (μ97 : σ97 → Nat) (I97 : zq_Q → σ97 → zq_P) (v : ∀ args h Q, spec args h Q → (zq_a args).length ≤ 6 ∧ xX12_deeds_0 s_X12_begins s_X12_readsDeed s_X12_takes s_X12_faultOf s_X12_allDeserts (fun ls st h => ∃ b, I14 Q b ls st h) (fun ls st h => ∃ b, I45 Q b ls st h) (fun ls st h => ∃ b, I97 Q b ls st h) Q (zq_l0 6 args) [] h) (v14 : ∀ Q a ls st h, I14 Q a ls st h → xX12_deeds_14 s_X12_begins s_X12_readsDeed s_X12_takes s_X12_faultOf s_X12_allDeserts (fun ls st h => ∃ b, μ14 b < μ14 a ∧ I14 Q b ls st h) (fun ls st h => ∃ b, μ45 b < μ14 a ∧ I45 Q b ls st h) (fun ls st h => ∃ b, μ97 b < μ14 a ∧ I97 Q b ls st h) Q ls st h) (v45 : ∀ Q a ls st h, I45 Q a ls st h → xX12_deeds_45 s_X12_begins s_X12_readsDeed s_X12_takes s_X12_faultOf s_X12_allDeserts (fun ls st h => ∃ b, μ14 b < μ45 a ∧ I14 Q b ls st h) (fun ls st h => ∃ b, μ45 b < μ45 a ∧ I45 Q b ls st h) (fun ls st h => ∃ b, μ97 b < μ45 a ∧ I97 Q b ls st h) Q ls st h) (v97 : ∀ Q a ls st h, I97 Q a ls st h → xX12_deeds_97 s_X12_begins s_X12_readsDeed s_X12_takes s_X12_faultOf s_X12_allDeserts (fun ls st h => ∃ b, μ14 b < μ97 a ∧ I14 Q b ls st h) (fun ls st h => ∃ b, μ45 b < μ97 a ∧ I45 Q b ls st h) (fun ls st h => ∃ b, μ97 b < μ97 a ∧ I97 Q b ls st h) Q ls st h) : zq_M yX12_deeds cX12_deeds 6 (some .int) 1 d spec := by
  refine zq_met (by decide +kernel) (by decide) (fun X Q args h C hq hs => ⟨(v args h Q hs).1, _, ?_, (v args h Q hs).2⟩)
  have hl := zq_loop3 (X := X) (nL := 6) (pc1 := 14) (pc2 := 45) (pc3 := 97) μ14 μ45 μ97 (I14 Q) (I45 Q) (I97 Q) (fun J14 J45 J97 => xX12_deeds_14 s_X12_begins s_X12_readsDeed s_X12_takes s_X12_faultOf s_X12_allDeserts J14 J45 J97 Q) (fun J14 J45 J97 => xX12_deeds_45 s_X12_begins s_X12_readsDeed s_X12_takes s_X12_faultOf s_X12_allDeserts J14 J45 J97 Q) (fun J14 J45 J97 => xX12_deeds_97 s_X12_begins s_X12_readsDeed s_X12_takes s_X12_faultOf s_X12_allDeserts J14 J45 J97 Q) (fun j14 j45 j97 => kX12_deeds_14 C hd1 h_X12_begins g_X12_begins h_X12_readsDeed g_X12_readsDeed h_X12_takes g_X12_takes h_X12_faultOf g_X12_faultOf h_X12_allDeserts g_X12_allDeserts j14 j45 j97 hq) (fun j14 j45 j97 => kX12_deeds_45 C hd1 h_X12_begins g_X12_begins h_X12_readsDeed g_X12_readsDeed h_X12_takes g_X12_takes h_X12_faultOf g_X12_faultOf h_X12_allDeserts g_X12_allDeserts j14 j45 j97 hq) (fun j14 j45 j97 => kX12_deeds_97 C hd1 h_X12_begins g_X12_begins h_X12_readsDeed g_X12_readsDeed h_X12_takes g_X12_takes h_X12_faultOf g_X12_faultOf h_X12_allDeserts g_X12_allDeserts j14 j45 j97 hq) (v14 Q) (v45 Q) (v97 Q)
  exact kX12_deeds_0 C hd1 h_X12_begins g_X12_begins h_X12_readsDeed g_X12_readsDeed h_X12_takes g_X12_takes h_X12_faultOf g_X12_faultOf h_X12_allDeserts g_X12_allDeserts hl.1 hl.2.1 hl.2.2 hq
/-! ToOneCrumbModel.codes(I)V -/
theorem dX12_codes_0 : decode cX12_codes 0 = .ok (.aload_n 0, 1) := by decide +kernel
theorem dX12_codes_1 : decode cX12_codes 1 = .ok (.getfield 54, 3) := by decide +kernel
theorem dX12_codes_4 : decode cX12_codes 4 = .ok (.aload_n 0, 1) := by decide +kernel
theorem dX12_codes_5 : decode cX12_codes 5 = .ok (.getfield 268, 3) := by decide +kernel
theorem dX12_codes_8 : decode cX12_codes 8 = .ok (.iload_n 1, 1) := by decide +kernel
theorem dX12_codes_9 : decode cX12_codes 9 = .ok (.iastore, 1) := by decide +kernel
theorem dX12_codes_10 : decode cX12_codes 10 = .ok (.aload_n 0, 1) := by decide +kernel
theorem dX12_codes_11 : decode cX12_codes 11 = .ok (.dup, 1) := by decide +kernel
theorem dX12_codes_12 : decode cX12_codes 12 = .ok (.getfield 268, 3) := by decide +kernel
theorem dX12_codes_15 : decode cX12_codes 15 = .ok (.iconst 1, 1) := by decide +kernel
theorem dX12_codes_16 : decode cX12_codes 16 = .ok (.iadd, 1) := by decide +kernel
theorem dX12_codes_17 : decode cX12_codes 17 = .ok (.putfield 268, 3) := by decide +kernel
theorem dX12_codes_20 : decode cX12_codes 20 = .ok (.return_, 1) := by decide +kernel
def xX12_codes_0 (Q : zq_Q) (ls : zq_L) (st : List Value) (h : zq_H) : Prop := (zi_aload 0 (zi_getR 56 71 (zi_aload 0 (zi_getI 56 26 (zi_iload 1 (zi_astI 71 80 (zi_aload 0 (zi_dup (zi_getI 56 26 (zi_push (.int 1) (zi_i2 (fun x y => x + y) (zi_putI 56 26 (zi_vret Q))))))))))))) ls st h
theorem kX12_codes_0 {X : zq_X} {d : Nat} (C : zq_C X cX12_codes 2 RX12 d) {Q : zq_Q} (hq : zq_R X none 0 Q) : zq_ok X 2 0 (xX12_codes_0 Q) := by
  refine zs_aload_n C dX12_codes_0 rfl ?_
  refine zs_getR C zp_56 zF12 (j := 24) ⟨by decide, rfl⟩ zw_1120 dX12_codes_1 ?_
  refine zs_aload_n C dX12_codes_4 rfl ?_
  refine zs_getI C zp_56 zF12 (j := 26) ⟨by decide, rfl⟩ zw_1122 dX12_codes_5 ?_
  refine zs_iload_n C dX12_codes_8 rfl ?_
  refine zs_iastore C zp_71 dX12_codes_9 ?_
  refine zs_aload_n C dX12_codes_10 rfl ?_
  refine zs_dup C dX12_codes_11 ?_
  refine zs_getI C zp_56 zF12 (j := 26) ⟨by decide, rfl⟩ zw_1122 dX12_codes_12 ?_
  refine zs_iconst C dX12_codes_15 (by decide) ?_
  refine zs_iadd C dX12_codes_16 ?_
  refine zs_putI C zp_56 zF12 (j := 26) ⟨by decide, rfl⟩ ⟨rfl, by decide +kernel⟩ zw_1122 dX12_codes_17 ?_
  exact zs_vret C hq dX12_codes_20
theorem mX12_codes {d : Nat} {spec : zq_Sp} (v : ∀ args h Q, spec args h Q → (zq_a args).length ≤ 2 ∧ xX12_codes_0 Q (zq_l0 2 args) [] h) : zq_M yX12_codes cX12_codes 2 none 0 d spec := by
  refine zq_met (by decide +kernel) (by decide) (fun X Q args h C hq hs => ⟨(v args h Q hs).1, _, ?_, (v args h Q hs).2⟩)
  exact kX12_codes_0 C hq
/-! ToOneCrumbModel.readsThing()Z -/
theorem dX12_readsThing_0 : decode cX12_readsThing 0 = .ok (.aload_n 0, 1) := by decide +kernel
theorem dX12_readsThing_1 : decode cX12_readsThing 1 = .ok (.bipush 45, 2) := by decide +kernel
theorem dX12_readsThing_3 : decode cX12_readsThing 3 = .ok (.invokevirtual 229, 3) := by decide +kernel
theorem dX12_readsThing_6 : decode cX12_readsThing 6 = .ok (.ifCond .eq 17, 3) := by decide +kernel
theorem dX12_readsThing_9 : decode cX12_readsThing 9 = .ok (.aload_n 0, 1) := by decide +kernel
theorem dX12_readsThing_10 : decode cX12_readsThing 10 = .ok (.invokevirtual 271, 3) := by decide +kernel
theorem dX12_readsThing_13 : decode cX12_readsThing 13 = .ok (.istore_n 1, 1) := by decide +kernel
theorem dX12_readsThing_14 : decode cX12_readsThing 14 = .ok (.aload_n 0, 1) := by decide +kernel
theorem dX12_readsThing_15 : decode cX12_readsThing 15 = .ok (.sipush 3000, 3) := by decide +kernel
theorem dX12_readsThing_18 : decode cX12_readsThing 18 = .ok (.invokevirtual 274, 3) := by decide +kernel
theorem dX12_readsThing_21 : decode cX12_readsThing 21 = .ok (.iload_n 1, 1) := by decide +kernel
theorem dX12_readsThing_22 : decode cX12_readsThing 22 = .ok (.ireturn, 1) := by decide +kernel
theorem dX12_readsThing_23 : decode cX12_readsThing 23 = .ok (.aload_n 0, 1) := by decide +kernel
theorem dX12_readsThing_24 : decode cX12_readsThing 24 = .ok (.invokevirtual 212, 3) := by decide +kernel
theorem dX12_readsThing_27 : decode cX12_readsThing 27 = .ok (.ifCond .eq 14, 3) := by decide +kernel
theorem dX12_readsThing_30 : decode cX12_readsThing 30 = .ok (.aload_n 0, 1) := by decide +kernel
theorem dX12_readsThing_31 : decode cX12_readsThing 31 = .ok (.aload_n 0, 1) := by decide +kernel
theorem dX12_readsThing_32 : decode cX12_readsThing 32 = .ok (.iconst 3, 1) := by decide +kernel
theorem dX12_readsThing_33 : decode cX12_readsThing 33 = .ok (.invokevirtual 248, 3) := by decide +kernel
theorem dX12_readsThing_36 : decode cX12_readsThing 36 = .ok (.invokevirtual 274, 3) := by decide +kernel
theorem dX12_readsThing_39 : decode cX12_readsThing 39 = .ok (.iconst 1, 1) := by decide +kernel
theorem dX12_readsThing_40 : decode cX12_readsThing 40 = .ok (.ireturn, 1) := by decide +kernel
theorem dX12_readsThing_41 : decode cX12_readsThing 41 = .ok (.aload_n 0, 1) := by decide +kernel
theorem dX12_readsThing_42 : decode cX12_readsThing 42 = .ok (.ldc_w 278, 3) := by decide +kernel
theorem dX12_readsThing_45 : decode cX12_readsThing 45 = .ok (.invokevirtual 224, 3) := by decide +kernel
theorem dX12_readsThing_48 : decode cX12_readsThing 48 = .ok (.istore_n 1, 1) := by decide +kernel
theorem dX12_readsThing_49 : decode cX12_readsThing 49 = .ok (.iload_n 1, 1) := by decide +kernel
theorem dX12_readsThing_50 : decode cX12_readsThing 50 = .ok (.ifCond .lt 14, 3) := by decide +kernel
theorem dX12_readsThing_53 : decode cX12_readsThing 53 = .ok (.aload_n 0, 1) := by decide +kernel
theorem dX12_readsThing_54 : decode cX12_readsThing 54 = .ok (.sipush 1000, 3) := by decide +kernel
theorem dX12_readsThing_57 : decode cX12_readsThing 57 = .ok (.iload_n 1, 1) := by decide +kernel
theorem dX12_readsThing_58 : decode cX12_readsThing 58 = .ok (.iadd, 1) := by decide +kernel
theorem dX12_readsThing_59 : decode cX12_readsThing 59 = .ok (.invokevirtual 274, 3) := by decide +kernel
theorem dX12_readsThing_62 : decode cX12_readsThing 62 = .ok (.iconst 1, 1) := by decide +kernel
theorem dX12_readsThing_63 : decode cX12_readsThing 63 = .ok (.ireturn, 1) := by decide +kernel
theorem dX12_readsThing_64 : decode cX12_readsThing 64 = .ok (.aload_n 0, 1) := by decide +kernel
theorem dX12_readsThing_65 : decode cX12_readsThing 65 = .ok (.getfield 178, 3) := by decide +kernel
theorem dX12_readsThing_68 : decode cX12_readsThing 68 = .ok (.iconst 4, 1) := by decide +kernel
theorem dX12_readsThing_69 : decode cX12_readsThing 69 = .ok (.if_icmp .eq 12, 3) := by decide +kernel
theorem dX12_readsThing_72 : decode cX12_readsThing 72 = .ok (.aload_n 0, 1) := by decide +kernel
theorem dX12_readsThing_73 : decode cX12_readsThing 73 = .ok (.bipush 40, 2) := by decide +kernel
theorem dX12_readsThing_75 : decode cX12_readsThing 75 = .ok (.invokevirtual 229, 3) := by decide +kernel
theorem dX12_readsThing_78 : decode cX12_readsThing 78 = .ok (.ifCond .ne 5, 3) := by decide +kernel
theorem dX12_readsThing_81 : decode cX12_readsThing 81 = .ok (.iconst 0, 1) := by decide +kernel
theorem dX12_readsThing_82 : decode cX12_readsThing 82 = .ok (.ireturn, 1) := by decide +kernel
theorem dX12_readsThing_83 : decode cX12_readsThing 83 = .ok (.aload_n 0, 1) := by decide +kernel
theorem dX12_readsThing_84 : decode cX12_readsThing 84 = .ok (.dup, 1) := by decide +kernel
theorem dX12_readsThing_85 : decode cX12_readsThing 85 = .ok (.getfield 178, 3) := by decide +kernel
theorem dX12_readsThing_88 : decode cX12_readsThing 88 = .ok (.iconst 1, 1) := by decide +kernel
theorem dX12_readsThing_89 : decode cX12_readsThing 89 = .ok (.iadd, 1) := by decide +kernel
theorem dX12_readsThing_90 : decode cX12_readsThing 90 = .ok (.putfield 178, 3) := by decide +kernel
theorem dX12_readsThing_93 : decode cX12_readsThing 93 = .ok (.aload_n 0, 1) := by decide +kernel
theorem dX12_readsThing_94 : decode cX12_readsThing 94 = .ok (.iconst 0, 1) := by decide +kernel
theorem dX12_readsThing_95 : decode cX12_readsThing 95 = .ok (.invokevirtual 280, 3) := by decide +kernel
theorem dX12_readsThing_98 : decode cX12_readsThing 98 = .ok (.ifCond .eq 12, 3) := by decide +kernel
theorem dX12_readsThing_101 : decode cX12_readsThing 101 = .ok (.aload_n 0, 1) := by decide +kernel
theorem dX12_readsThing_102 : decode cX12_readsThing 102 = .ok (.bipush 41, 2) := by decide +kernel
theorem dX12_readsThing_104 : decode cX12_readsThing 104 = .ok (.invokevirtual 229, 3) := by decide +kernel
theorem dX12_readsThing_107 : decode cX12_readsThing 107 = .ok (.ifCond .ne 5, 3) := by decide +kernel
theorem dX12_readsThing_110 : decode cX12_readsThing 110 = .ok (.iconst 0, 1) := by decide +kernel
theorem dX12_readsThing_111 : decode cX12_readsThing 111 = .ok (.ireturn, 1) := by decide +kernel
theorem dX12_readsThing_112 : decode cX12_readsThing 112 = .ok (.aload_n 0, 1) := by decide +kernel
theorem dX12_readsThing_113 : decode cX12_readsThing 113 = .ok (.dup, 1) := by decide +kernel
theorem dX12_readsThing_114 : decode cX12_readsThing 114 = .ok (.getfield 178, 3) := by decide +kernel
theorem dX12_readsThing_117 : decode cX12_readsThing 117 = .ok (.iconst 1, 1) := by decide +kernel
theorem dX12_readsThing_118 : decode cX12_readsThing 118 = .ok (.isub, 1) := by decide +kernel
theorem dX12_readsThing_119 : decode cX12_readsThing 119 = .ok (.putfield 178, 3) := by decide +kernel
theorem dX12_readsThing_122 : decode cX12_readsThing 122 = .ok (.iconst 1, 1) := by decide +kernel
theorem dX12_readsThing_123 : decode cX12_readsThing 123 = .ok (.ireturn, 1) := by decide +kernel
def xX12_readsThing_112 (s_X12_takes : zq_Sp) (s_X12_readsThing : zq_Sp) (s_X12_codes : zq_Sp) (s_X12_isDigit : zq_Sp) (s_X12_number : zq_Sp) (s_X12_takesOf : zq_Sp) (s_X12_readsRank : zq_Sp) (Q : zq_Q) (ls : zq_L) (st : List Value) (h : zq_H) : Prop := (zi_aload 0 (zi_dup (zi_getI 56 16 (zi_push (.int 1) (zi_i2 (fun x y => x - y) (zi_putI 56 16 (zi_push (.int 1) (zi_zret Q)))))))) ls st h
theorem kX12_readsThing_112 {X : zq_X} {d : Nat} (C : zq_C X cX12_readsThing 2 RX12 d) {d_X12_takes : Nat} {s_X12_takes : zq_Sp} (h_X12_takes : zq_M yX12_takes cX12_takes 3 (some .boolean) 1 d_X12_takes s_X12_takes) (g_X12_takes : d_X12_takes + 1 ≤ d) {d_X12_readsThing : Nat} {s_X12_readsThing : zq_Sp} (h_X12_readsThing : zq_M yX12_readsThing cX12_readsThing 2 (some .boolean) 1 d_X12_readsThing s_X12_readsThing) (g_X12_readsThing : d_X12_readsThing + 1 ≤ d) {d_X12_codes : Nat} {s_X12_codes : zq_Sp} (h_X12_codes : zq_M yX12_codes cX12_codes 2 none 0 d_X12_codes s_X12_codes) (g_X12_codes : d_X12_codes + 1 ≤ d) {d_X12_isDigit : Nat} {s_X12_isDigit : zq_Sp} (h_X12_isDigit : zq_M yX12_isDigit cX12_isDigit 1 (some .boolean) 1 d_X12_isDigit s_X12_isDigit) (g_X12_isDigit : d_X12_isDigit + 1 ≤ d) {d_X12_number : Nat} {s_X12_number : zq_Sp} (h_X12_number : zq_M yX12_number cX12_number 4 (some .int) 1 d_X12_number s_X12_number) (g_X12_number : d_X12_number + 1 ≤ d) {d_X12_takesOf : Nat} {s_X12_takesOf : zq_Sp} (h_X12_takesOf : zq_M yX12_takesOf cX12_takesOf 3 (some .int) 1 d_X12_takesOf s_X12_takesOf) (g_X12_takesOf : d_X12_takesOf + 1 ≤ d) {d_X12_readsRank : Nat} {s_X12_readsRank : zq_Sp} (h_X12_readsRank : zq_M yX12_readsRank cX12_readsRank 4 (some .boolean) 1 d_X12_readsRank s_X12_readsRank) (g_X12_readsRank : d_X12_readsRank + 1 ≤ d) {Q : zq_Q} (hq : zq_R X (some .boolean) 1 Q) : zq_ok X 2 112 (xX12_readsThing_112 s_X12_takes s_X12_readsThing s_X12_codes s_X12_isDigit s_X12_number s_X12_takesOf s_X12_readsRank Q) := by
  refine zs_aload_n C dX12_readsThing_112 rfl ?_
  refine zs_dup C dX12_readsThing_113 ?_
  refine zs_getI C zp_56 zF12 (j := 16) ⟨by decide, rfl⟩ zw_1112 dX12_readsThing_114 ?_
  refine zs_iconst C dX12_readsThing_117 (by decide) ?_
  refine zs_isub C dX12_readsThing_118 ?_
  refine zs_putI C zp_56 zF12 (j := 16) ⟨by decide, rfl⟩ ⟨rfl, by decide +kernel⟩ zw_1112 dX12_readsThing_119 ?_
  refine zs_iconst C dX12_readsThing_122 (by decide) ?_
  exact zs_zret C hq dX12_readsThing_123
def xX12_readsThing_110 (s_X12_takes : zq_Sp) (s_X12_readsThing : zq_Sp) (s_X12_codes : zq_Sp) (s_X12_isDigit : zq_Sp) (s_X12_number : zq_Sp) (s_X12_takesOf : zq_Sp) (s_X12_readsRank : zq_Sp) (Q : zq_Q) (ls : zq_L) (st : List Value) (h : zq_H) : Prop := (zi_push (.int 0) (zi_zret Q)) ls st h
theorem kX12_readsThing_110 {X : zq_X} {d : Nat} (C : zq_C X cX12_readsThing 2 RX12 d) {d_X12_takes : Nat} {s_X12_takes : zq_Sp} (h_X12_takes : zq_M yX12_takes cX12_takes 3 (some .boolean) 1 d_X12_takes s_X12_takes) (g_X12_takes : d_X12_takes + 1 ≤ d) {d_X12_readsThing : Nat} {s_X12_readsThing : zq_Sp} (h_X12_readsThing : zq_M yX12_readsThing cX12_readsThing 2 (some .boolean) 1 d_X12_readsThing s_X12_readsThing) (g_X12_readsThing : d_X12_readsThing + 1 ≤ d) {d_X12_codes : Nat} {s_X12_codes : zq_Sp} (h_X12_codes : zq_M yX12_codes cX12_codes 2 none 0 d_X12_codes s_X12_codes) (g_X12_codes : d_X12_codes + 1 ≤ d) {d_X12_isDigit : Nat} {s_X12_isDigit : zq_Sp} (h_X12_isDigit : zq_M yX12_isDigit cX12_isDigit 1 (some .boolean) 1 d_X12_isDigit s_X12_isDigit) (g_X12_isDigit : d_X12_isDigit + 1 ≤ d) {d_X12_number : Nat} {s_X12_number : zq_Sp} (h_X12_number : zq_M yX12_number cX12_number 4 (some .int) 1 d_X12_number s_X12_number) (g_X12_number : d_X12_number + 1 ≤ d) {d_X12_takesOf : Nat} {s_X12_takesOf : zq_Sp} (h_X12_takesOf : zq_M yX12_takesOf cX12_takesOf 3 (some .int) 1 d_X12_takesOf s_X12_takesOf) (g_X12_takesOf : d_X12_takesOf + 1 ≤ d) {d_X12_readsRank : Nat} {s_X12_readsRank : zq_Sp} (h_X12_readsRank : zq_M yX12_readsRank cX12_readsRank 4 (some .boolean) 1 d_X12_readsRank s_X12_readsRank) (g_X12_readsRank : d_X12_readsRank + 1 ≤ d) {Q : zq_Q} (hq : zq_R X (some .boolean) 1 Q) : zq_ok X 2 110 (xX12_readsThing_110 s_X12_takes s_X12_readsThing s_X12_codes s_X12_isDigit s_X12_number s_X12_takesOf s_X12_readsRank Q) := by
  refine zs_iconst C dX12_readsThing_110 (by decide) ?_
  exact zs_zret C hq dX12_readsThing_111
def xX12_readsThing_101 (s_X12_takes : zq_Sp) (s_X12_readsThing : zq_Sp) (s_X12_codes : zq_Sp) (s_X12_isDigit : zq_Sp) (s_X12_number : zq_Sp) (s_X12_takesOf : zq_Sp) (s_X12_readsRank : zq_Sp) (Q : zq_Q) (ls : zq_L) (st : List Value) (h : zq_H) : Prop := (zi_aload 0 (zi_push (.int 41) (zi_callV 1 56 s_X12_takes (zi_if1 (fun x => x = 0) (xX12_readsThing_110 s_X12_takes s_X12_readsThing s_X12_codes s_X12_isDigit s_X12_number s_X12_takesOf s_X12_readsRank Q) (xX12_readsThing_112 s_X12_takes s_X12_readsThing s_X12_codes s_X12_isDigit s_X12_number s_X12_takesOf s_X12_readsRank Q))))) ls st h
theorem kX12_readsThing_101 {X : zq_X} {d : Nat} (C : zq_C X cX12_readsThing 2 RX12 d) {d_X12_takes : Nat} {s_X12_takes : zq_Sp} (h_X12_takes : zq_M yX12_takes cX12_takes 3 (some .boolean) 1 d_X12_takes s_X12_takes) (g_X12_takes : d_X12_takes + 1 ≤ d) {d_X12_readsThing : Nat} {s_X12_readsThing : zq_Sp} (h_X12_readsThing : zq_M yX12_readsThing cX12_readsThing 2 (some .boolean) 1 d_X12_readsThing s_X12_readsThing) (g_X12_readsThing : d_X12_readsThing + 1 ≤ d) {d_X12_codes : Nat} {s_X12_codes : zq_Sp} (h_X12_codes : zq_M yX12_codes cX12_codes 2 none 0 d_X12_codes s_X12_codes) (g_X12_codes : d_X12_codes + 1 ≤ d) {d_X12_isDigit : Nat} {s_X12_isDigit : zq_Sp} (h_X12_isDigit : zq_M yX12_isDigit cX12_isDigit 1 (some .boolean) 1 d_X12_isDigit s_X12_isDigit) (g_X12_isDigit : d_X12_isDigit + 1 ≤ d) {d_X12_number : Nat} {s_X12_number : zq_Sp} (h_X12_number : zq_M yX12_number cX12_number 4 (some .int) 1 d_X12_number s_X12_number) (g_X12_number : d_X12_number + 1 ≤ d) {d_X12_takesOf : Nat} {s_X12_takesOf : zq_Sp} (h_X12_takesOf : zq_M yX12_takesOf cX12_takesOf 3 (some .int) 1 d_X12_takesOf s_X12_takesOf) (g_X12_takesOf : d_X12_takesOf + 1 ≤ d) {d_X12_readsRank : Nat} {s_X12_readsRank : zq_Sp} (h_X12_readsRank : zq_M yX12_readsRank cX12_readsRank 4 (some .boolean) 1 d_X12_readsRank s_X12_readsRank) (g_X12_readsRank : d_X12_readsRank + 1 ≤ d) {Q : zq_Q} (hq : zq_R X (some .boolean) 1 Q) : zq_ok X 2 101 (xX12_readsThing_101 s_X12_takes s_X12_readsThing s_X12_codes s_X12_isDigit s_X12_number s_X12_takesOf s_X12_readsRank Q) := by
  refine zs_aload_n C dX12_readsThing_101 rfl ?_
  refine zs_bipush C dX12_readsThing_102 (by decide) ?_
  refine zs_callV C h_X12_takes g_X12_takes zy_X12_takes zp_56 (show vwCl[12]? = some (RX12, TX12, 67) from rfl) zw_1384 zw_1386 zs9_X12_takes dX12_readsThing_104 ?_
  exact zs_if_ne C dX12_readsThing_107 (by decide) (kX12_readsThing_112 C h_X12_takes g_X12_takes h_X12_readsThing g_X12_readsThing h_X12_codes g_X12_codes h_X12_isDigit g_X12_isDigit h_X12_number g_X12_number h_X12_takesOf g_X12_takesOf h_X12_readsRank g_X12_readsRank hq) (kX12_readsThing_110 C h_X12_takes g_X12_takes h_X12_readsThing g_X12_readsThing h_X12_codes g_X12_codes h_X12_isDigit g_X12_isDigit h_X12_number g_X12_number h_X12_takesOf g_X12_takesOf h_X12_readsRank g_X12_readsRank hq)
def xX12_readsThing_83 (s_X12_takes : zq_Sp) (s_X12_readsThing : zq_Sp) (s_X12_codes : zq_Sp) (s_X12_isDigit : zq_Sp) (s_X12_number : zq_Sp) (s_X12_takesOf : zq_Sp) (s_X12_readsRank : zq_Sp) (Q : zq_Q) (ls : zq_L) (st : List Value) (h : zq_H) : Prop := (zi_aload 0 (zi_dup (zi_getI 56 16 (zi_push (.int 1) (zi_i2 (fun x y => x + y) (zi_putI 56 16 (zi_aload 0 (zi_push (.int 0) (zi_callV 1 56 s_X12_readsRank (zi_if1 (fun x => x = 0) (xX12_readsThing_110 s_X12_takes s_X12_readsThing s_X12_codes s_X12_isDigit s_X12_number s_X12_takesOf s_X12_readsRank Q) (xX12_readsThing_101 s_X12_takes s_X12_readsThing s_X12_codes s_X12_isDigit s_X12_number s_X12_takesOf s_X12_readsRank Q))))))))))) ls st h
theorem kX12_readsThing_83 {X : zq_X} {d : Nat} (C : zq_C X cX12_readsThing 2 RX12 d) {d_X12_takes : Nat} {s_X12_takes : zq_Sp} (h_X12_takes : zq_M yX12_takes cX12_takes 3 (some .boolean) 1 d_X12_takes s_X12_takes) (g_X12_takes : d_X12_takes + 1 ≤ d) {d_X12_readsThing : Nat} {s_X12_readsThing : zq_Sp} (h_X12_readsThing : zq_M yX12_readsThing cX12_readsThing 2 (some .boolean) 1 d_X12_readsThing s_X12_readsThing) (g_X12_readsThing : d_X12_readsThing + 1 ≤ d) {d_X12_codes : Nat} {s_X12_codes : zq_Sp} (h_X12_codes : zq_M yX12_codes cX12_codes 2 none 0 d_X12_codes s_X12_codes) (g_X12_codes : d_X12_codes + 1 ≤ d) {d_X12_isDigit : Nat} {s_X12_isDigit : zq_Sp} (h_X12_isDigit : zq_M yX12_isDigit cX12_isDigit 1 (some .boolean) 1 d_X12_isDigit s_X12_isDigit) (g_X12_isDigit : d_X12_isDigit + 1 ≤ d) {d_X12_number : Nat} {s_X12_number : zq_Sp} (h_X12_number : zq_M yX12_number cX12_number 4 (some .int) 1 d_X12_number s_X12_number) (g_X12_number : d_X12_number + 1 ≤ d) {d_X12_takesOf : Nat} {s_X12_takesOf : zq_Sp} (h_X12_takesOf : zq_M yX12_takesOf cX12_takesOf 3 (some .int) 1 d_X12_takesOf s_X12_takesOf) (g_X12_takesOf : d_X12_takesOf + 1 ≤ d) {d_X12_readsRank : Nat} {s_X12_readsRank : zq_Sp} (h_X12_readsRank : zq_M yX12_readsRank cX12_readsRank 4 (some .boolean) 1 d_X12_readsRank s_X12_readsRank) (g_X12_readsRank : d_X12_readsRank + 1 ≤ d) {Q : zq_Q} (hq : zq_R X (some .boolean) 1 Q) : zq_ok X 2 83 (xX12_readsThing_83 s_X12_takes s_X12_readsThing s_X12_codes s_X12_isDigit s_X12_number s_X12_takesOf s_X12_readsRank Q) := by
  refine zs_aload_n C dX12_readsThing_83 rfl ?_
  refine zs_dup C dX12_readsThing_84 ?_
  refine zs_getI C zp_56 zF12 (j := 16) ⟨by decide, rfl⟩ zw_1112 dX12_readsThing_85 ?_
  refine zs_iconst C dX12_readsThing_88 (by decide) ?_
  refine zs_iadd C dX12_readsThing_89 ?_
  refine zs_putI C zp_56 zF12 (j := 16) ⟨by decide, rfl⟩ ⟨rfl, by decide +kernel⟩ zw_1112 dX12_readsThing_90 ?_
  refine zs_aload_n C dX12_readsThing_93 rfl ?_
  refine zs_iconst C dX12_readsThing_94 (by decide) ?_
  refine zs_callV C h_X12_readsRank g_X12_readsRank zy_X12_readsRank zp_56 (show vwCl[12]? = some (RX12, TX12, 67) from rfl) zw_1433 zw_1435 zs9_X12_readsRank dX12_readsThing_95 ?_
  exact zs_if_eq C dX12_readsThing_98 (by decide) (kX12_readsThing_110 C h_X12_takes g_X12_takes h_X12_readsThing g_X12_readsThing h_X12_codes g_X12_codes h_X12_isDigit g_X12_isDigit h_X12_number g_X12_number h_X12_takesOf g_X12_takesOf h_X12_readsRank g_X12_readsRank hq) (kX12_readsThing_101 C h_X12_takes g_X12_takes h_X12_readsThing g_X12_readsThing h_X12_codes g_X12_codes h_X12_isDigit g_X12_isDigit h_X12_number g_X12_number h_X12_takesOf g_X12_takesOf h_X12_readsRank g_X12_readsRank hq)
def xX12_readsThing_81 (s_X12_takes : zq_Sp) (s_X12_readsThing : zq_Sp) (s_X12_codes : zq_Sp) (s_X12_isDigit : zq_Sp) (s_X12_number : zq_Sp) (s_X12_takesOf : zq_Sp) (s_X12_readsRank : zq_Sp) (Q : zq_Q) (ls : zq_L) (st : List Value) (h : zq_H) : Prop := (zi_push (.int 0) (zi_zret Q)) ls st h
theorem kX12_readsThing_81 {X : zq_X} {d : Nat} (C : zq_C X cX12_readsThing 2 RX12 d) {d_X12_takes : Nat} {s_X12_takes : zq_Sp} (h_X12_takes : zq_M yX12_takes cX12_takes 3 (some .boolean) 1 d_X12_takes s_X12_takes) (g_X12_takes : d_X12_takes + 1 ≤ d) {d_X12_readsThing : Nat} {s_X12_readsThing : zq_Sp} (h_X12_readsThing : zq_M yX12_readsThing cX12_readsThing 2 (some .boolean) 1 d_X12_readsThing s_X12_readsThing) (g_X12_readsThing : d_X12_readsThing + 1 ≤ d) {d_X12_codes : Nat} {s_X12_codes : zq_Sp} (h_X12_codes : zq_M yX12_codes cX12_codes 2 none 0 d_X12_codes s_X12_codes) (g_X12_codes : d_X12_codes + 1 ≤ d) {d_X12_isDigit : Nat} {s_X12_isDigit : zq_Sp} (h_X12_isDigit : zq_M yX12_isDigit cX12_isDigit 1 (some .boolean) 1 d_X12_isDigit s_X12_isDigit) (g_X12_isDigit : d_X12_isDigit + 1 ≤ d) {d_X12_number : Nat} {s_X12_number : zq_Sp} (h_X12_number : zq_M yX12_number cX12_number 4 (some .int) 1 d_X12_number s_X12_number) (g_X12_number : d_X12_number + 1 ≤ d) {d_X12_takesOf : Nat} {s_X12_takesOf : zq_Sp} (h_X12_takesOf : zq_M yX12_takesOf cX12_takesOf 3 (some .int) 1 d_X12_takesOf s_X12_takesOf) (g_X12_takesOf : d_X12_takesOf + 1 ≤ d) {d_X12_readsRank : Nat} {s_X12_readsRank : zq_Sp} (h_X12_readsRank : zq_M yX12_readsRank cX12_readsRank 4 (some .boolean) 1 d_X12_readsRank s_X12_readsRank) (g_X12_readsRank : d_X12_readsRank + 1 ≤ d) {Q : zq_Q} (hq : zq_R X (some .boolean) 1 Q) : zq_ok X 2 81 (xX12_readsThing_81 s_X12_takes s_X12_readsThing s_X12_codes s_X12_isDigit s_X12_number s_X12_takesOf s_X12_readsRank Q) := by
  refine zs_iconst C dX12_readsThing_81 (by decide) ?_
  exact zs_zret C hq dX12_readsThing_82
def xX12_readsThing_72 (s_X12_takes : zq_Sp) (s_X12_readsThing : zq_Sp) (s_X12_codes : zq_Sp) (s_X12_isDigit : zq_Sp) (s_X12_number : zq_Sp) (s_X12_takesOf : zq_Sp) (s_X12_readsRank : zq_Sp) (Q : zq_Q) (ls : zq_L) (st : List Value) (h : zq_H) : Prop := (zi_aload 0 (zi_push (.int 40) (zi_callV 1 56 s_X12_takes (zi_if1 (fun x => x = 0) (xX12_readsThing_81 s_X12_takes s_X12_readsThing s_X12_codes s_X12_isDigit s_X12_number s_X12_takesOf s_X12_readsRank Q) (xX12_readsThing_83 s_X12_takes s_X12_readsThing s_X12_codes s_X12_isDigit s_X12_number s_X12_takesOf s_X12_readsRank Q))))) ls st h
theorem kX12_readsThing_72 {X : zq_X} {d : Nat} (C : zq_C X cX12_readsThing 2 RX12 d) {d_X12_takes : Nat} {s_X12_takes : zq_Sp} (h_X12_takes : zq_M yX12_takes cX12_takes 3 (some .boolean) 1 d_X12_takes s_X12_takes) (g_X12_takes : d_X12_takes + 1 ≤ d) {d_X12_readsThing : Nat} {s_X12_readsThing : zq_Sp} (h_X12_readsThing : zq_M yX12_readsThing cX12_readsThing 2 (some .boolean) 1 d_X12_readsThing s_X12_readsThing) (g_X12_readsThing : d_X12_readsThing + 1 ≤ d) {d_X12_codes : Nat} {s_X12_codes : zq_Sp} (h_X12_codes : zq_M yX12_codes cX12_codes 2 none 0 d_X12_codes s_X12_codes) (g_X12_codes : d_X12_codes + 1 ≤ d) {d_X12_isDigit : Nat} {s_X12_isDigit : zq_Sp} (h_X12_isDigit : zq_M yX12_isDigit cX12_isDigit 1 (some .boolean) 1 d_X12_isDigit s_X12_isDigit) (g_X12_isDigit : d_X12_isDigit + 1 ≤ d) {d_X12_number : Nat} {s_X12_number : zq_Sp} (h_X12_number : zq_M yX12_number cX12_number 4 (some .int) 1 d_X12_number s_X12_number) (g_X12_number : d_X12_number + 1 ≤ d) {d_X12_takesOf : Nat} {s_X12_takesOf : zq_Sp} (h_X12_takesOf : zq_M yX12_takesOf cX12_takesOf 3 (some .int) 1 d_X12_takesOf s_X12_takesOf) (g_X12_takesOf : d_X12_takesOf + 1 ≤ d) {d_X12_readsRank : Nat} {s_X12_readsRank : zq_Sp} (h_X12_readsRank : zq_M yX12_readsRank cX12_readsRank 4 (some .boolean) 1 d_X12_readsRank s_X12_readsRank) (g_X12_readsRank : d_X12_readsRank + 1 ≤ d) {Q : zq_Q} (hq : zq_R X (some .boolean) 1 Q) : zq_ok X 2 72 (xX12_readsThing_72 s_X12_takes s_X12_readsThing s_X12_codes s_X12_isDigit s_X12_number s_X12_takesOf s_X12_readsRank Q) := by
  refine zs_aload_n C dX12_readsThing_72 rfl ?_
  refine zs_bipush C dX12_readsThing_73 (by decide) ?_
  refine zs_callV C h_X12_takes g_X12_takes zy_X12_takes zp_56 (show vwCl[12]? = some (RX12, TX12, 67) from rfl) zw_1384 zw_1386 zs9_X12_takes dX12_readsThing_75 ?_
  exact zs_if_ne C dX12_readsThing_78 (by decide) (kX12_readsThing_83 C h_X12_takes g_X12_takes h_X12_readsThing g_X12_readsThing h_X12_codes g_X12_codes h_X12_isDigit g_X12_isDigit h_X12_number g_X12_number h_X12_takesOf g_X12_takesOf h_X12_readsRank g_X12_readsRank hq) (kX12_readsThing_81 C h_X12_takes g_X12_takes h_X12_readsThing g_X12_readsThing h_X12_codes g_X12_codes h_X12_isDigit g_X12_isDigit h_X12_number g_X12_number h_X12_takesOf g_X12_takesOf h_X12_readsRank g_X12_readsRank hq)
def xX12_readsThing_64 (s_X12_takes : zq_Sp) (s_X12_readsThing : zq_Sp) (s_X12_codes : zq_Sp) (s_X12_isDigit : zq_Sp) (s_X12_number : zq_Sp) (s_X12_takesOf : zq_Sp) (s_X12_readsRank : zq_Sp) (Q : zq_Q) (ls : zq_L) (st : List Value) (h : zq_H) : Prop := (zi_aload 0 (zi_getI 56 16 (zi_push (.int 4) (zi_if2 (fun x y => x = y) (xX12_readsThing_81 s_X12_takes s_X12_readsThing s_X12_codes s_X12_isDigit s_X12_number s_X12_takesOf s_X12_readsRank Q) (xX12_readsThing_72 s_X12_takes s_X12_readsThing s_X12_codes s_X12_isDigit s_X12_number s_X12_takesOf s_X12_readsRank Q))))) ls st h
theorem kX12_readsThing_64 {X : zq_X} {d : Nat} (C : zq_C X cX12_readsThing 2 RX12 d) {d_X12_takes : Nat} {s_X12_takes : zq_Sp} (h_X12_takes : zq_M yX12_takes cX12_takes 3 (some .boolean) 1 d_X12_takes s_X12_takes) (g_X12_takes : d_X12_takes + 1 ≤ d) {d_X12_readsThing : Nat} {s_X12_readsThing : zq_Sp} (h_X12_readsThing : zq_M yX12_readsThing cX12_readsThing 2 (some .boolean) 1 d_X12_readsThing s_X12_readsThing) (g_X12_readsThing : d_X12_readsThing + 1 ≤ d) {d_X12_codes : Nat} {s_X12_codes : zq_Sp} (h_X12_codes : zq_M yX12_codes cX12_codes 2 none 0 d_X12_codes s_X12_codes) (g_X12_codes : d_X12_codes + 1 ≤ d) {d_X12_isDigit : Nat} {s_X12_isDigit : zq_Sp} (h_X12_isDigit : zq_M yX12_isDigit cX12_isDigit 1 (some .boolean) 1 d_X12_isDigit s_X12_isDigit) (g_X12_isDigit : d_X12_isDigit + 1 ≤ d) {d_X12_number : Nat} {s_X12_number : zq_Sp} (h_X12_number : zq_M yX12_number cX12_number 4 (some .int) 1 d_X12_number s_X12_number) (g_X12_number : d_X12_number + 1 ≤ d) {d_X12_takesOf : Nat} {s_X12_takesOf : zq_Sp} (h_X12_takesOf : zq_M yX12_takesOf cX12_takesOf 3 (some .int) 1 d_X12_takesOf s_X12_takesOf) (g_X12_takesOf : d_X12_takesOf + 1 ≤ d) {d_X12_readsRank : Nat} {s_X12_readsRank : zq_Sp} (h_X12_readsRank : zq_M yX12_readsRank cX12_readsRank 4 (some .boolean) 1 d_X12_readsRank s_X12_readsRank) (g_X12_readsRank : d_X12_readsRank + 1 ≤ d) {Q : zq_Q} (hq : zq_R X (some .boolean) 1 Q) : zq_ok X 2 64 (xX12_readsThing_64 s_X12_takes s_X12_readsThing s_X12_codes s_X12_isDigit s_X12_number s_X12_takesOf s_X12_readsRank Q) := by
  refine zs_aload_n C dX12_readsThing_64 rfl ?_
  refine zs_getI C zp_56 zF12 (j := 16) ⟨by decide, rfl⟩ zw_1112 dX12_readsThing_65 ?_
  refine zs_iconst C dX12_readsThing_68 (by decide) ?_
  exact zs_icmp_eq C dX12_readsThing_69 (by decide) (kX12_readsThing_81 C h_X12_takes g_X12_takes h_X12_readsThing g_X12_readsThing h_X12_codes g_X12_codes h_X12_isDigit g_X12_isDigit h_X12_number g_X12_number h_X12_takesOf g_X12_takesOf h_X12_readsRank g_X12_readsRank hq) (kX12_readsThing_72 C h_X12_takes g_X12_takes h_X12_readsThing g_X12_readsThing h_X12_codes g_X12_codes h_X12_isDigit g_X12_isDigit h_X12_number g_X12_number h_X12_takesOf g_X12_takesOf h_X12_readsRank g_X12_readsRank hq)
def xX12_readsThing_53 (s_X12_takes : zq_Sp) (s_X12_readsThing : zq_Sp) (s_X12_codes : zq_Sp) (s_X12_isDigit : zq_Sp) (s_X12_number : zq_Sp) (s_X12_takesOf : zq_Sp) (s_X12_readsRank : zq_Sp) (Q : zq_Q) (ls : zq_L) (st : List Value) (h : zq_H) : Prop := (zi_aload 0 (zi_push (.int 1000) (zi_iload 1 (zi_i2 (fun x y => x + y) (zi_callV 1 56 s_X12_codes (zi_push (.int 1) (zi_zret Q))))))) ls st h
theorem kX12_readsThing_53 {X : zq_X} {d : Nat} (C : zq_C X cX12_readsThing 2 RX12 d) {d_X12_takes : Nat} {s_X12_takes : zq_Sp} (h_X12_takes : zq_M yX12_takes cX12_takes 3 (some .boolean) 1 d_X12_takes s_X12_takes) (g_X12_takes : d_X12_takes + 1 ≤ d) {d_X12_readsThing : Nat} {s_X12_readsThing : zq_Sp} (h_X12_readsThing : zq_M yX12_readsThing cX12_readsThing 2 (some .boolean) 1 d_X12_readsThing s_X12_readsThing) (g_X12_readsThing : d_X12_readsThing + 1 ≤ d) {d_X12_codes : Nat} {s_X12_codes : zq_Sp} (h_X12_codes : zq_M yX12_codes cX12_codes 2 none 0 d_X12_codes s_X12_codes) (g_X12_codes : d_X12_codes + 1 ≤ d) {d_X12_isDigit : Nat} {s_X12_isDigit : zq_Sp} (h_X12_isDigit : zq_M yX12_isDigit cX12_isDigit 1 (some .boolean) 1 d_X12_isDigit s_X12_isDigit) (g_X12_isDigit : d_X12_isDigit + 1 ≤ d) {d_X12_number : Nat} {s_X12_number : zq_Sp} (h_X12_number : zq_M yX12_number cX12_number 4 (some .int) 1 d_X12_number s_X12_number) (g_X12_number : d_X12_number + 1 ≤ d) {d_X12_takesOf : Nat} {s_X12_takesOf : zq_Sp} (h_X12_takesOf : zq_M yX12_takesOf cX12_takesOf 3 (some .int) 1 d_X12_takesOf s_X12_takesOf) (g_X12_takesOf : d_X12_takesOf + 1 ≤ d) {d_X12_readsRank : Nat} {s_X12_readsRank : zq_Sp} (h_X12_readsRank : zq_M yX12_readsRank cX12_readsRank 4 (some .boolean) 1 d_X12_readsRank s_X12_readsRank) (g_X12_readsRank : d_X12_readsRank + 1 ≤ d) {Q : zq_Q} (hq : zq_R X (some .boolean) 1 Q) : zq_ok X 2 53 (xX12_readsThing_53 s_X12_takes s_X12_readsThing s_X12_codes s_X12_isDigit s_X12_number s_X12_takesOf s_X12_readsRank Q) := by
  refine zs_aload_n C dX12_readsThing_53 rfl ?_
  refine zs_sipush C dX12_readsThing_54 (by decide) ?_
  refine zs_iload_n C dX12_readsThing_57 rfl ?_
  refine zs_iadd C dX12_readsThing_58 ?_
  refine zs_callV C h_X12_codes g_X12_codes zy_X12_codes zp_56 (show vwCl[12]? = some (RX12, TX12, 67) from rfl) zw_1441 zw_1443 zs9_X12_codes dX12_readsThing_59 ?_
  refine zs_iconst C dX12_readsThing_62 (by decide) ?_
  exact zs_zret C hq dX12_readsThing_63
def xX12_readsThing_41 (s_X12_takes : zq_Sp) (s_X12_readsThing : zq_Sp) (s_X12_codes : zq_Sp) (s_X12_isDigit : zq_Sp) (s_X12_number : zq_Sp) (s_X12_takesOf : zq_Sp) (s_X12_readsRank : zq_Sp) (Q : zq_Q) (ls : zq_L) (st : List Value) (h : zq_H) : Prop := (zi_aload 0 (zi_push (.ref 203) (zi_callV 1 56 s_X12_takesOf (zi_istore 1 (zi_iload 1 (zi_if1 (fun x => x < 0) (xX12_readsThing_64 s_X12_takes s_X12_readsThing s_X12_codes s_X12_isDigit s_X12_number s_X12_takesOf s_X12_readsRank Q) (xX12_readsThing_53 s_X12_takes s_X12_readsThing s_X12_codes s_X12_isDigit s_X12_number s_X12_takesOf s_X12_readsRank Q))))))) ls st h
theorem kX12_readsThing_41 {X : zq_X} {d : Nat} (C : zq_C X cX12_readsThing 2 RX12 d) {d_X12_takes : Nat} {s_X12_takes : zq_Sp} (h_X12_takes : zq_M yX12_takes cX12_takes 3 (some .boolean) 1 d_X12_takes s_X12_takes) (g_X12_takes : d_X12_takes + 1 ≤ d) {d_X12_readsThing : Nat} {s_X12_readsThing : zq_Sp} (h_X12_readsThing : zq_M yX12_readsThing cX12_readsThing 2 (some .boolean) 1 d_X12_readsThing s_X12_readsThing) (g_X12_readsThing : d_X12_readsThing + 1 ≤ d) {d_X12_codes : Nat} {s_X12_codes : zq_Sp} (h_X12_codes : zq_M yX12_codes cX12_codes 2 none 0 d_X12_codes s_X12_codes) (g_X12_codes : d_X12_codes + 1 ≤ d) {d_X12_isDigit : Nat} {s_X12_isDigit : zq_Sp} (h_X12_isDigit : zq_M yX12_isDigit cX12_isDigit 1 (some .boolean) 1 d_X12_isDigit s_X12_isDigit) (g_X12_isDigit : d_X12_isDigit + 1 ≤ d) {d_X12_number : Nat} {s_X12_number : zq_Sp} (h_X12_number : zq_M yX12_number cX12_number 4 (some .int) 1 d_X12_number s_X12_number) (g_X12_number : d_X12_number + 1 ≤ d) {d_X12_takesOf : Nat} {s_X12_takesOf : zq_Sp} (h_X12_takesOf : zq_M yX12_takesOf cX12_takesOf 3 (some .int) 1 d_X12_takesOf s_X12_takesOf) (g_X12_takesOf : d_X12_takesOf + 1 ≤ d) {d_X12_readsRank : Nat} {s_X12_readsRank : zq_Sp} (h_X12_readsRank : zq_M yX12_readsRank cX12_readsRank 4 (some .boolean) 1 d_X12_readsRank s_X12_readsRank) (g_X12_readsRank : d_X12_readsRank + 1 ≤ d) {Q : zq_Q} (hq : zq_R X (some .boolean) 1 Q) : zq_ok X 2 41 (xX12_readsThing_41 s_X12_takes s_X12_readsThing s_X12_codes s_X12_isDigit s_X12_number s_X12_takesOf s_X12_readsRank Q) := by
  refine zs_aload_n C dX12_readsThing_41 rfl ?_
  refine zs_ldcwS C (i := 3) rfl rfl dX12_readsThing_42 ?_
  refine zs_callV C h_X12_takesOf g_X12_takesOf zy_X12_takesOf zp_56 (show vwCl[12]? = some (RX12, TX12, 67) from rfl) zw_1376 zw_1378 zs9_X12_takesOf dX12_readsThing_45 ?_
  refine zs_istore_n C dX12_readsThing_48 rfl (by decide) ?_
  refine zs_iload_n C dX12_readsThing_49 rfl ?_
  exact zs_if_lt C dX12_readsThing_50 (by decide) (kX12_readsThing_64 C h_X12_takes g_X12_takes h_X12_readsThing g_X12_readsThing h_X12_codes g_X12_codes h_X12_isDigit g_X12_isDigit h_X12_number g_X12_number h_X12_takesOf g_X12_takesOf h_X12_readsRank g_X12_readsRank hq) (kX12_readsThing_53 C h_X12_takes g_X12_takes h_X12_readsThing g_X12_readsThing h_X12_codes g_X12_codes h_X12_isDigit g_X12_isDigit h_X12_number g_X12_number h_X12_takesOf g_X12_takesOf h_X12_readsRank g_X12_readsRank hq)
def xX12_readsThing_30 (s_X12_takes : zq_Sp) (s_X12_readsThing : zq_Sp) (s_X12_codes : zq_Sp) (s_X12_isDigit : zq_Sp) (s_X12_number : zq_Sp) (s_X12_takesOf : zq_Sp) (s_X12_readsRank : zq_Sp) (Q : zq_Q) (ls : zq_L) (st : List Value) (h : zq_H) : Prop := (zi_aload 0 (zi_aload 0 (zi_push (.int 3) (zi_callV 1 56 s_X12_number (zi_callV 1 56 s_X12_codes (zi_push (.int 1) (zi_zret Q))))))) ls st h
theorem kX12_readsThing_30 {X : zq_X} {d : Nat} (C : zq_C X cX12_readsThing 2 RX12 d) {d_X12_takes : Nat} {s_X12_takes : zq_Sp} (h_X12_takes : zq_M yX12_takes cX12_takes 3 (some .boolean) 1 d_X12_takes s_X12_takes) (g_X12_takes : d_X12_takes + 1 ≤ d) {d_X12_readsThing : Nat} {s_X12_readsThing : zq_Sp} (h_X12_readsThing : zq_M yX12_readsThing cX12_readsThing 2 (some .boolean) 1 d_X12_readsThing s_X12_readsThing) (g_X12_readsThing : d_X12_readsThing + 1 ≤ d) {d_X12_codes : Nat} {s_X12_codes : zq_Sp} (h_X12_codes : zq_M yX12_codes cX12_codes 2 none 0 d_X12_codes s_X12_codes) (g_X12_codes : d_X12_codes + 1 ≤ d) {d_X12_isDigit : Nat} {s_X12_isDigit : zq_Sp} (h_X12_isDigit : zq_M yX12_isDigit cX12_isDigit 1 (some .boolean) 1 d_X12_isDigit s_X12_isDigit) (g_X12_isDigit : d_X12_isDigit + 1 ≤ d) {d_X12_number : Nat} {s_X12_number : zq_Sp} (h_X12_number : zq_M yX12_number cX12_number 4 (some .int) 1 d_X12_number s_X12_number) (g_X12_number : d_X12_number + 1 ≤ d) {d_X12_takesOf : Nat} {s_X12_takesOf : zq_Sp} (h_X12_takesOf : zq_M yX12_takesOf cX12_takesOf 3 (some .int) 1 d_X12_takesOf s_X12_takesOf) (g_X12_takesOf : d_X12_takesOf + 1 ≤ d) {d_X12_readsRank : Nat} {s_X12_readsRank : zq_Sp} (h_X12_readsRank : zq_M yX12_readsRank cX12_readsRank 4 (some .boolean) 1 d_X12_readsRank s_X12_readsRank) (g_X12_readsRank : d_X12_readsRank + 1 ≤ d) {Q : zq_Q} (hq : zq_R X (some .boolean) 1 Q) : zq_ok X 2 30 (xX12_readsThing_30 s_X12_takes s_X12_readsThing s_X12_codes s_X12_isDigit s_X12_number s_X12_takesOf s_X12_readsRank Q) := by
  refine zs_aload_n C dX12_readsThing_30 rfl ?_
  refine zs_aload_n C dX12_readsThing_31 rfl ?_
  refine zs_iconst C dX12_readsThing_32 (by decide) ?_
  refine zs_callV C h_X12_number g_X12_number zy_X12_number zp_56 (show vwCl[12]? = some (RX12, TX12, 67) from rfl) zw_1400 zw_1402 zs9_X12_number dX12_readsThing_33 ?_
  refine zs_callV C h_X12_codes g_X12_codes zy_X12_codes zp_56 (show vwCl[12]? = some (RX12, TX12, 67) from rfl) zw_1441 zw_1443 zs9_X12_codes dX12_readsThing_36 ?_
  refine zs_iconst C dX12_readsThing_39 (by decide) ?_
  exact zs_zret C hq dX12_readsThing_40
def xX12_readsThing_23 (s_X12_takes : zq_Sp) (s_X12_readsThing : zq_Sp) (s_X12_codes : zq_Sp) (s_X12_isDigit : zq_Sp) (s_X12_number : zq_Sp) (s_X12_takesOf : zq_Sp) (s_X12_readsRank : zq_Sp) (Q : zq_Q) (ls : zq_L) (st : List Value) (h : zq_H) : Prop := (zi_aload 0 (zi_callV 0 56 s_X12_isDigit (zi_if1 (fun x => x = 0) (xX12_readsThing_41 s_X12_takes s_X12_readsThing s_X12_codes s_X12_isDigit s_X12_number s_X12_takesOf s_X12_readsRank Q) (xX12_readsThing_30 s_X12_takes s_X12_readsThing s_X12_codes s_X12_isDigit s_X12_number s_X12_takesOf s_X12_readsRank Q)))) ls st h
theorem kX12_readsThing_23 {X : zq_X} {d : Nat} (C : zq_C X cX12_readsThing 2 RX12 d) {d_X12_takes : Nat} {s_X12_takes : zq_Sp} (h_X12_takes : zq_M yX12_takes cX12_takes 3 (some .boolean) 1 d_X12_takes s_X12_takes) (g_X12_takes : d_X12_takes + 1 ≤ d) {d_X12_readsThing : Nat} {s_X12_readsThing : zq_Sp} (h_X12_readsThing : zq_M yX12_readsThing cX12_readsThing 2 (some .boolean) 1 d_X12_readsThing s_X12_readsThing) (g_X12_readsThing : d_X12_readsThing + 1 ≤ d) {d_X12_codes : Nat} {s_X12_codes : zq_Sp} (h_X12_codes : zq_M yX12_codes cX12_codes 2 none 0 d_X12_codes s_X12_codes) (g_X12_codes : d_X12_codes + 1 ≤ d) {d_X12_isDigit : Nat} {s_X12_isDigit : zq_Sp} (h_X12_isDigit : zq_M yX12_isDigit cX12_isDigit 1 (some .boolean) 1 d_X12_isDigit s_X12_isDigit) (g_X12_isDigit : d_X12_isDigit + 1 ≤ d) {d_X12_number : Nat} {s_X12_number : zq_Sp} (h_X12_number : zq_M yX12_number cX12_number 4 (some .int) 1 d_X12_number s_X12_number) (g_X12_number : d_X12_number + 1 ≤ d) {d_X12_takesOf : Nat} {s_X12_takesOf : zq_Sp} (h_X12_takesOf : zq_M yX12_takesOf cX12_takesOf 3 (some .int) 1 d_X12_takesOf s_X12_takesOf) (g_X12_takesOf : d_X12_takesOf + 1 ≤ d) {d_X12_readsRank : Nat} {s_X12_readsRank : zq_Sp} (h_X12_readsRank : zq_M yX12_readsRank cX12_readsRank 4 (some .boolean) 1 d_X12_readsRank s_X12_readsRank) (g_X12_readsRank : d_X12_readsRank + 1 ≤ d) {Q : zq_Q} (hq : zq_R X (some .boolean) 1 Q) : zq_ok X 2 23 (xX12_readsThing_23 s_X12_takes s_X12_readsThing s_X12_codes s_X12_isDigit s_X12_number s_X12_takesOf s_X12_readsRank Q) := by
  refine zs_aload_n C dX12_readsThing_23 rfl ?_
  refine zs_callV C h_X12_isDigit g_X12_isDigit zy_X12_isDigit zp_56 (show vwCl[12]? = some (RX12, TX12, 67) from rfl) zw_1404 zw_1406 zs9_X12_isDigit dX12_readsThing_24 ?_
  exact zs_if_eq C dX12_readsThing_27 (by decide) (kX12_readsThing_41 C h_X12_takes g_X12_takes h_X12_readsThing g_X12_readsThing h_X12_codes g_X12_codes h_X12_isDigit g_X12_isDigit h_X12_number g_X12_number h_X12_takesOf g_X12_takesOf h_X12_readsRank g_X12_readsRank hq) (kX12_readsThing_30 C h_X12_takes g_X12_takes h_X12_readsThing g_X12_readsThing h_X12_codes g_X12_codes h_X12_isDigit g_X12_isDigit h_X12_number g_X12_number h_X12_takesOf g_X12_takesOf h_X12_readsRank g_X12_readsRank hq)
def xX12_readsThing_9 (s_X12_takes : zq_Sp) (s_X12_readsThing : zq_Sp) (s_X12_codes : zq_Sp) (s_X12_isDigit : zq_Sp) (s_X12_number : zq_Sp) (s_X12_takesOf : zq_Sp) (s_X12_readsRank : zq_Sp) (Q : zq_Q) (ls : zq_L) (st : List Value) (h : zq_H) : Prop := (zi_aload 0 (zi_callV 0 56 s_X12_readsThing (zi_istore 1 (zi_aload 0 (zi_push (.int 3000) (zi_callV 1 56 s_X12_codes (zi_iload 1 (zi_zret Q)))))))) ls st h
theorem kX12_readsThing_9 {X : zq_X} {d : Nat} (C : zq_C X cX12_readsThing 2 RX12 d) {d_X12_takes : Nat} {s_X12_takes : zq_Sp} (h_X12_takes : zq_M yX12_takes cX12_takes 3 (some .boolean) 1 d_X12_takes s_X12_takes) (g_X12_takes : d_X12_takes + 1 ≤ d) {d_X12_readsThing : Nat} {s_X12_readsThing : zq_Sp} (h_X12_readsThing : zq_M yX12_readsThing cX12_readsThing 2 (some .boolean) 1 d_X12_readsThing s_X12_readsThing) (g_X12_readsThing : d_X12_readsThing + 1 ≤ d) {d_X12_codes : Nat} {s_X12_codes : zq_Sp} (h_X12_codes : zq_M yX12_codes cX12_codes 2 none 0 d_X12_codes s_X12_codes) (g_X12_codes : d_X12_codes + 1 ≤ d) {d_X12_isDigit : Nat} {s_X12_isDigit : zq_Sp} (h_X12_isDigit : zq_M yX12_isDigit cX12_isDigit 1 (some .boolean) 1 d_X12_isDigit s_X12_isDigit) (g_X12_isDigit : d_X12_isDigit + 1 ≤ d) {d_X12_number : Nat} {s_X12_number : zq_Sp} (h_X12_number : zq_M yX12_number cX12_number 4 (some .int) 1 d_X12_number s_X12_number) (g_X12_number : d_X12_number + 1 ≤ d) {d_X12_takesOf : Nat} {s_X12_takesOf : zq_Sp} (h_X12_takesOf : zq_M yX12_takesOf cX12_takesOf 3 (some .int) 1 d_X12_takesOf s_X12_takesOf) (g_X12_takesOf : d_X12_takesOf + 1 ≤ d) {d_X12_readsRank : Nat} {s_X12_readsRank : zq_Sp} (h_X12_readsRank : zq_M yX12_readsRank cX12_readsRank 4 (some .boolean) 1 d_X12_readsRank s_X12_readsRank) (g_X12_readsRank : d_X12_readsRank + 1 ≤ d) {Q : zq_Q} (hq : zq_R X (some .boolean) 1 Q) : zq_ok X 2 9 (xX12_readsThing_9 s_X12_takes s_X12_readsThing s_X12_codes s_X12_isDigit s_X12_number s_X12_takesOf s_X12_readsRank Q) := by
  refine zs_aload_n C dX12_readsThing_9 rfl ?_
  refine zs_callV C h_X12_readsThing g_X12_readsThing zy_X12_readsThing zp_56 (show vwCl[12]? = some (RX12, TX12, 67) from rfl) zw_1437 zw_1439 zs9_X12_readsThing dX12_readsThing_10 ?_
  refine zs_istore_n C dX12_readsThing_13 rfl (by decide) ?_
  refine zs_aload_n C dX12_readsThing_14 rfl ?_
  refine zs_sipush C dX12_readsThing_15 (by decide) ?_
  refine zs_callV C h_X12_codes g_X12_codes zy_X12_codes zp_56 (show vwCl[12]? = some (RX12, TX12, 67) from rfl) zw_1441 zw_1443 zs9_X12_codes dX12_readsThing_18 ?_
  refine zs_iload_n C dX12_readsThing_21 rfl ?_
  exact zs_zret C hq dX12_readsThing_22
def xX12_readsThing_0 (s_X12_takes : zq_Sp) (s_X12_readsThing : zq_Sp) (s_X12_codes : zq_Sp) (s_X12_isDigit : zq_Sp) (s_X12_number : zq_Sp) (s_X12_takesOf : zq_Sp) (s_X12_readsRank : zq_Sp) (Q : zq_Q) (ls : zq_L) (st : List Value) (h : zq_H) : Prop := (zi_aload 0 (zi_push (.int 45) (zi_callV 1 56 s_X12_takes (zi_if1 (fun x => x = 0) (xX12_readsThing_23 s_X12_takes s_X12_readsThing s_X12_codes s_X12_isDigit s_X12_number s_X12_takesOf s_X12_readsRank Q) (xX12_readsThing_9 s_X12_takes s_X12_readsThing s_X12_codes s_X12_isDigit s_X12_number s_X12_takesOf s_X12_readsRank Q))))) ls st h
theorem kX12_readsThing_0 {X : zq_X} {d : Nat} (C : zq_C X cX12_readsThing 2 RX12 d) {d_X12_takes : Nat} {s_X12_takes : zq_Sp} (h_X12_takes : zq_M yX12_takes cX12_takes 3 (some .boolean) 1 d_X12_takes s_X12_takes) (g_X12_takes : d_X12_takes + 1 ≤ d) {d_X12_readsThing : Nat} {s_X12_readsThing : zq_Sp} (h_X12_readsThing : zq_M yX12_readsThing cX12_readsThing 2 (some .boolean) 1 d_X12_readsThing s_X12_readsThing) (g_X12_readsThing : d_X12_readsThing + 1 ≤ d) {d_X12_codes : Nat} {s_X12_codes : zq_Sp} (h_X12_codes : zq_M yX12_codes cX12_codes 2 none 0 d_X12_codes s_X12_codes) (g_X12_codes : d_X12_codes + 1 ≤ d) {d_X12_isDigit : Nat} {s_X12_isDigit : zq_Sp} (h_X12_isDigit : zq_M yX12_isDigit cX12_isDigit 1 (some .boolean) 1 d_X12_isDigit s_X12_isDigit) (g_X12_isDigit : d_X12_isDigit + 1 ≤ d) {d_X12_number : Nat} {s_X12_number : zq_Sp} (h_X12_number : zq_M yX12_number cX12_number 4 (some .int) 1 d_X12_number s_X12_number) (g_X12_number : d_X12_number + 1 ≤ d) {d_X12_takesOf : Nat} {s_X12_takesOf : zq_Sp} (h_X12_takesOf : zq_M yX12_takesOf cX12_takesOf 3 (some .int) 1 d_X12_takesOf s_X12_takesOf) (g_X12_takesOf : d_X12_takesOf + 1 ≤ d) {d_X12_readsRank : Nat} {s_X12_readsRank : zq_Sp} (h_X12_readsRank : zq_M yX12_readsRank cX12_readsRank 4 (some .boolean) 1 d_X12_readsRank s_X12_readsRank) (g_X12_readsRank : d_X12_readsRank + 1 ≤ d) {Q : zq_Q} (hq : zq_R X (some .boolean) 1 Q) : zq_ok X 2 0 (xX12_readsThing_0 s_X12_takes s_X12_readsThing s_X12_codes s_X12_isDigit s_X12_number s_X12_takesOf s_X12_readsRank Q) := by
  refine zs_aload_n C dX12_readsThing_0 rfl ?_
  refine zs_bipush C dX12_readsThing_1 (by decide) ?_
  refine zs_callV C h_X12_takes g_X12_takes zy_X12_takes zp_56 (show vwCl[12]? = some (RX12, TX12, 67) from rfl) zw_1384 zw_1386 zs9_X12_takes dX12_readsThing_3 ?_
  exact zs_if_eq C dX12_readsThing_6 (by decide) (kX12_readsThing_23 C h_X12_takes g_X12_takes h_X12_readsThing g_X12_readsThing h_X12_codes g_X12_codes h_X12_isDigit g_X12_isDigit h_X12_number g_X12_number h_X12_takesOf g_X12_takesOf h_X12_readsRank g_X12_readsRank hq) (kX12_readsThing_9 C h_X12_takes g_X12_takes h_X12_readsThing g_X12_readsThing h_X12_codes g_X12_codes h_X12_isDigit g_X12_isDigit h_X12_number g_X12_number h_X12_takesOf g_X12_takesOf h_X12_readsRank g_X12_readsRank hq)
theorem mX12_readsThing {d : Nat} {spec : zq_Sp} {d_X12_takes : Nat} {s_X12_takes : zq_Sp} (h_X12_takes : zq_M yX12_takes cX12_takes 3 (some .boolean) 1 d_X12_takes s_X12_takes) (g_X12_takes : d_X12_takes + 1 ≤ d) {d_X12_readsThing : Nat} {s_X12_readsThing : zq_Sp} (h_X12_readsThing : zq_M yX12_readsThing cX12_readsThing 2 (some .boolean) 1 d_X12_readsThing s_X12_readsThing) (g_X12_readsThing : d_X12_readsThing + 1 ≤ d) {d_X12_codes : Nat} {s_X12_codes : zq_Sp} (h_X12_codes : zq_M yX12_codes cX12_codes 2 none 0 d_X12_codes s_X12_codes) (g_X12_codes : d_X12_codes + 1 ≤ d) {d_X12_isDigit : Nat} {s_X12_isDigit : zq_Sp} (h_X12_isDigit : zq_M yX12_isDigit cX12_isDigit 1 (some .boolean) 1 d_X12_isDigit s_X12_isDigit) (g_X12_isDigit : d_X12_isDigit + 1 ≤ d) {d_X12_number : Nat} {s_X12_number : zq_Sp} (h_X12_number : zq_M yX12_number cX12_number 4 (some .int) 1 d_X12_number s_X12_number) (g_X12_number : d_X12_number + 1 ≤ d) {d_X12_takesOf : Nat} {s_X12_takesOf : zq_Sp} (h_X12_takesOf : zq_M yX12_takesOf cX12_takesOf 3 (some .int) 1 d_X12_takesOf s_X12_takesOf) (g_X12_takesOf : d_X12_takesOf + 1 ≤ d) {d_X12_readsRank : Nat} {s_X12_readsRank : zq_Sp} (h_X12_readsRank : zq_M yX12_readsRank cX12_readsRank 4 (some .boolean) 1 d_X12_readsRank s_X12_readsRank) (g_X12_readsRank : d_X12_readsRank + 1 ≤ d) (v : ∀ args h Q, spec args h Q → (zq_a args).length ≤ 2 ∧ xX12_readsThing_0 s_X12_takes s_X12_readsThing s_X12_codes s_X12_isDigit s_X12_number s_X12_takesOf s_X12_readsRank Q (zq_l0 2 args) [] h) : zq_M yX12_readsThing cX12_readsThing 2 (some .boolean) 1 d spec := by
  refine zq_met (by decide +kernel) (by decide) (fun X Q args h C hq hs => ⟨(v args h Q hs).1, _, ?_, (v args h Q hs).2⟩)
  exact kX12_readsThing_0 C h_X12_takes g_X12_takes h_X12_readsThing g_X12_readsThing h_X12_codes g_X12_codes h_X12_isDigit g_X12_isDigit h_X12_number g_X12_number h_X12_takesOf g_X12_takesOf h_X12_readsRank g_X12_readsRank hq
/-! ToOneCrumbModel.readsRank(I)Z -/
theorem dX12_readsRank_0 : decode cX12_readsRank 0 = .ok (.iload_n 1, 1) := by decide +kernel
theorem dX12_readsRank_1 : decode cX12_readsRank 1 = .ok (.iconst 3, 1) := by decide +kernel
theorem dX12_readsRank_2 : decode cX12_readsRank 2 = .ok (.if_icmp .ne 8, 3) := by decide +kernel
theorem dX12_readsRank_5 : decode cX12_readsRank 5 = .ok (.aload_n 0, 1) := by decide +kernel
theorem dX12_readsRank_6 : decode cX12_readsRank 6 = .ok (.invokevirtual 271, 3) := by decide +kernel
theorem dX12_readsRank_9 : decode cX12_readsRank 9 = .ok (.ireturn, 1) := by decide +kernel
theorem dX12_readsRank_10 : decode cX12_readsRank 10 = .ok (.aload_n 0, 1) := by decide +kernel
theorem dX12_readsRank_11 : decode cX12_readsRank 11 = .ok (.iload_n 1, 1) := by decide +kernel
theorem dX12_readsRank_12 : decode cX12_readsRank 12 = .ok (.iconst 1, 1) := by decide +kernel
theorem dX12_readsRank_13 : decode cX12_readsRank 13 = .ok (.iadd, 1) := by decide +kernel
theorem dX12_readsRank_14 : decode cX12_readsRank 14 = .ok (.invokevirtual 280, 3) := by decide +kernel
theorem dX12_readsRank_17 : decode cX12_readsRank 17 = .ok (.ifCond .ne 5, 3) := by decide +kernel
theorem dX12_readsRank_20 : decode cX12_readsRank 20 = .ok (.iconst 0, 1) := by decide +kernel
theorem dX12_readsRank_21 : decode cX12_readsRank 21 = .ok (.ireturn, 1) := by decide +kernel
theorem dX12_readsRank_22 : decode cX12_readsRank 22 = .ok (.iconst 1, 1) := by decide +kernel
theorem dX12_readsRank_23 : decode cX12_readsRank 23 = .ok (.istore_n 2, 1) := by decide +kernel
theorem dX12_readsRank_24 : decode cX12_readsRank 24 = .ok (.iload_n 2, 1) := by decide +kernel
theorem dX12_readsRank_25 : decode cX12_readsRank 25 = .ok (.ifCond .eq 91, 3) := by decide +kernel
theorem dX12_readsRank_28 : decode cX12_readsRank 28 = .ok (.aload_n 0, 1) := by decide +kernel
theorem dX12_readsRank_29 : decode cX12_readsRank 29 = .ok (.iload_n 1, 1) := by decide +kernel
theorem dX12_readsRank_30 : decode cX12_readsRank 30 = .ok (.ifCond .ne 9, 3) := by decide +kernel
theorem dX12_readsRank_33 : decode cX12_readsRank 33 = .ok (.ldc_w 283, 3) := by decide +kernel
theorem dX12_readsRank_36 : decode cX12_readsRank 36 = .ok (.goto 17, 3) := by decide +kernel
theorem dX12_readsRank_39 : decode cX12_readsRank 39 = .ok (.iload_n 1, 1) := by decide +kernel
theorem dX12_readsRank_40 : decode cX12_readsRank 40 = .ok (.iconst 1, 1) := by decide +kernel
theorem dX12_readsRank_41 : decode cX12_readsRank 41 = .ok (.if_icmp .ne 9, 3) := by decide +kernel
theorem dX12_readsRank_44 : decode cX12_readsRank 44 = .ok (.ldc_w 285, 3) := by decide +kernel
theorem dX12_readsRank_47 : decode cX12_readsRank 47 = .ok (.goto 6, 3) := by decide +kernel
theorem dX12_readsRank_50 : decode cX12_readsRank 50 = .ok (.ldc_w 287, 3) := by decide +kernel
theorem dX12_readsRank_53 : decode cX12_readsRank 53 = .ok (.invokevirtual 224, 3) := by decide +kernel
theorem dX12_readsRank_56 : decode cX12_readsRank 56 = .ok (.istore_n 3, 1) := by decide +kernel
theorem dX12_readsRank_57 : decode cX12_readsRank 57 = .ok (.iload_n 3, 1) := by decide +kernel
theorem dX12_readsRank_58 : decode cX12_readsRank 58 = .ok (.ifCond .ge 5, 3) := by decide +kernel
theorem dX12_readsRank_61 : decode cX12_readsRank 61 = .ok (.iconst 1, 1) := by decide +kernel
theorem dX12_readsRank_62 : decode cX12_readsRank 62 = .ok (.ireturn, 1) := by decide +kernel
theorem dX12_readsRank_63 : decode cX12_readsRank 63 = .ok (.aload_n 0, 1) := by decide +kernel
theorem dX12_readsRank_64 : decode cX12_readsRank 64 = .ok (.iload_n 1, 1) := by decide +kernel
theorem dX12_readsRank_65 : decode cX12_readsRank 65 = .ok (.iconst 1, 1) := by decide +kernel
theorem dX12_readsRank_66 : decode cX12_readsRank 66 = .ok (.iadd, 1) := by decide +kernel
theorem dX12_readsRank_67 : decode cX12_readsRank 67 = .ok (.invokevirtual 280, 3) := by decide +kernel
theorem dX12_readsRank_70 : decode cX12_readsRank 70 = .ok (.ifCond .ne 5, 3) := by decide +kernel
theorem dX12_readsRank_73 : decode cX12_readsRank 73 = .ok (.iconst 0, 1) := by decide +kernel
theorem dX12_readsRank_74 : decode cX12_readsRank 74 = .ok (.ireturn, 1) := by decide +kernel
theorem dX12_readsRank_75 : decode cX12_readsRank 75 = .ok (.aload_n 0, 1) := by decide +kernel
theorem dX12_readsRank_76 : decode cX12_readsRank 76 = .ok (.sipush 2000, 3) := by decide +kernel
theorem dX12_readsRank_79 : decode cX12_readsRank 79 = .ok (.iload_n 3, 1) := by decide +kernel
theorem dX12_readsRank_80 : decode cX12_readsRank 80 = .ok (.iadd, 1) := by decide +kernel
theorem dX12_readsRank_81 : decode cX12_readsRank 81 = .ok (.iload_n 1, 1) := by decide +kernel
theorem dX12_readsRank_82 : decode cX12_readsRank 82 = .ok (.ifCond .ne 7, 3) := by decide +kernel
theorem dX12_readsRank_85 : decode cX12_readsRank 85 = .ok (.iconst 0, 1) := by decide +kernel
theorem dX12_readsRank_86 : decode cX12_readsRank 86 = .ok (.goto 13, 3) := by decide +kernel
theorem dX12_readsRank_89 : decode cX12_readsRank 89 = .ok (.iload_n 1, 1) := by decide +kernel
theorem dX12_readsRank_90 : decode cX12_readsRank 90 = .ok (.iconst 1, 1) := by decide +kernel
theorem dX12_readsRank_91 : decode cX12_readsRank 91 = .ok (.if_icmp .ne 7, 3) := by decide +kernel
theorem dX12_readsRank_94 : decode cX12_readsRank 94 = .ok (.iconst 3, 1) := by decide +kernel
theorem dX12_readsRank_95 : decode cX12_readsRank 95 = .ok (.goto 4, 3) := by decide +kernel
theorem dX12_readsRank_98 : decode cX12_readsRank 98 = .ok (.iconst 5, 1) := by decide +kernel
theorem dX12_readsRank_99 : decode cX12_readsRank 99 = .ok (.iadd, 1) := by decide +kernel
theorem dX12_readsRank_100 : decode cX12_readsRank 100 = .ok (.invokevirtual 274, 3) := by decide +kernel
theorem dX12_readsRank_103 : decode cX12_readsRank 103 = .ok (.iload_n 1, 1) := by decide +kernel
theorem dX12_readsRank_104 : decode cX12_readsRank 104 = .ok (.ifCond .le 7, 3) := by decide +kernel
theorem dX12_readsRank_107 : decode cX12_readsRank 107 = .ok (.iconst 1, 1) := by decide +kernel
theorem dX12_readsRank_108 : decode cX12_readsRank 108 = .ok (.goto 4, 3) := by decide +kernel
theorem dX12_readsRank_111 : decode cX12_readsRank 111 = .ok (.iconst 0, 1) := by decide +kernel
theorem dX12_readsRank_112 : decode cX12_readsRank 112 = .ok (.istore_n 2, 1) := by decide +kernel
theorem dX12_readsRank_113 : decode cX12_readsRank 113 = .ok (.goto (-89), 3) := by decide +kernel
theorem dX12_readsRank_116 : decode cX12_readsRank 116 = .ok (.iconst 1, 1) := by decide +kernel
theorem dX12_readsRank_117 : decode cX12_readsRank 117 = .ok (.ireturn, 1) := by decide +kernel
def xX12_readsRank_116 (s_X12_readsThing : zq_Sp) (s_X12_readsRank : zq_Sp) (s_X12_takesOf : zq_Sp) (s_X12_codes : zq_Sp) (J24 : zq_P) (Q : zq_Q) (ls : zq_L) (st : List Value) (h : zq_H) : Prop := (zi_push (.int 1) (zi_zret Q)) ls st h
theorem kX12_readsRank_116 {X : zq_X} {d : Nat} (C : zq_C X cX12_readsRank 4 RX12 d) {d_X12_readsThing : Nat} {s_X12_readsThing : zq_Sp} (h_X12_readsThing : zq_M yX12_readsThing cX12_readsThing 2 (some .boolean) 1 d_X12_readsThing s_X12_readsThing) (g_X12_readsThing : d_X12_readsThing + 1 ≤ d) {d_X12_readsRank : Nat} {s_X12_readsRank : zq_Sp} (h_X12_readsRank : zq_M yX12_readsRank cX12_readsRank 4 (some .boolean) 1 d_X12_readsRank s_X12_readsRank) (g_X12_readsRank : d_X12_readsRank + 1 ≤ d) {d_X12_takesOf : Nat} {s_X12_takesOf : zq_Sp} (h_X12_takesOf : zq_M yX12_takesOf cX12_takesOf 3 (some .int) 1 d_X12_takesOf s_X12_takesOf) (g_X12_takesOf : d_X12_takesOf + 1 ≤ d) {d_X12_codes : Nat} {s_X12_codes : zq_Sp} (h_X12_codes : zq_M yX12_codes cX12_codes 2 none 0 d_X12_codes s_X12_codes) (g_X12_codes : d_X12_codes + 1 ≤ d) {J24 : zq_P} (j24 : zq_ok X 4 24 J24) {Q : zq_Q} (hq : zq_R X (some .boolean) 1 Q) : zq_ok X 4 116 (xX12_readsRank_116 s_X12_readsThing s_X12_readsRank s_X12_takesOf s_X12_codes J24 Q) := by
  refine zs_iconst C dX12_readsRank_116 (by decide) ?_
  exact zs_zret C hq dX12_readsRank_117
def xX12_readsRank_112 (s_X12_readsThing : zq_Sp) (s_X12_readsRank : zq_Sp) (s_X12_takesOf : zq_Sp) (s_X12_codes : zq_Sp) (J24 : zq_P) (Q : zq_Q) (ls : zq_L) (st : List Value) (h : zq_H) : Prop := (zi_istore 2 (J24)) ls st h
theorem kX12_readsRank_112 {X : zq_X} {d : Nat} (C : zq_C X cX12_readsRank 4 RX12 d) {d_X12_readsThing : Nat} {s_X12_readsThing : zq_Sp} (h_X12_readsThing : zq_M yX12_readsThing cX12_readsThing 2 (some .boolean) 1 d_X12_readsThing s_X12_readsThing) (g_X12_readsThing : d_X12_readsThing + 1 ≤ d) {d_X12_readsRank : Nat} {s_X12_readsRank : zq_Sp} (h_X12_readsRank : zq_M yX12_readsRank cX12_readsRank 4 (some .boolean) 1 d_X12_readsRank s_X12_readsRank) (g_X12_readsRank : d_X12_readsRank + 1 ≤ d) {d_X12_takesOf : Nat} {s_X12_takesOf : zq_Sp} (h_X12_takesOf : zq_M yX12_takesOf cX12_takesOf 3 (some .int) 1 d_X12_takesOf s_X12_takesOf) (g_X12_takesOf : d_X12_takesOf + 1 ≤ d) {d_X12_codes : Nat} {s_X12_codes : zq_Sp} (h_X12_codes : zq_M yX12_codes cX12_codes 2 none 0 d_X12_codes s_X12_codes) (g_X12_codes : d_X12_codes + 1 ≤ d) {J24 : zq_P} (j24 : zq_ok X 4 24 J24) {Q : zq_Q} (hq : zq_R X (some .boolean) 1 Q) : zq_ok X 4 112 (xX12_readsRank_112 s_X12_readsThing s_X12_readsRank s_X12_takesOf s_X12_codes J24 Q) := by
  refine zs_istore_n C dX12_readsRank_112 rfl (by decide) ?_
  exact zs_goto C dX12_readsRank_113 (by decide) (j24)
def xX12_readsRank_111 (s_X12_readsThing : zq_Sp) (s_X12_readsRank : zq_Sp) (s_X12_takesOf : zq_Sp) (s_X12_codes : zq_Sp) (J24 : zq_P) (Q : zq_Q) (ls : zq_L) (st : List Value) (h : zq_H) : Prop := (zi_push (.int 0) ((xX12_readsRank_112 s_X12_readsThing s_X12_readsRank s_X12_takesOf s_X12_codes J24 Q))) ls st h
theorem kX12_readsRank_111 {X : zq_X} {d : Nat} (C : zq_C X cX12_readsRank 4 RX12 d) {d_X12_readsThing : Nat} {s_X12_readsThing : zq_Sp} (h_X12_readsThing : zq_M yX12_readsThing cX12_readsThing 2 (some .boolean) 1 d_X12_readsThing s_X12_readsThing) (g_X12_readsThing : d_X12_readsThing + 1 ≤ d) {d_X12_readsRank : Nat} {s_X12_readsRank : zq_Sp} (h_X12_readsRank : zq_M yX12_readsRank cX12_readsRank 4 (some .boolean) 1 d_X12_readsRank s_X12_readsRank) (g_X12_readsRank : d_X12_readsRank + 1 ≤ d) {d_X12_takesOf : Nat} {s_X12_takesOf : zq_Sp} (h_X12_takesOf : zq_M yX12_takesOf cX12_takesOf 3 (some .int) 1 d_X12_takesOf s_X12_takesOf) (g_X12_takesOf : d_X12_takesOf + 1 ≤ d) {d_X12_codes : Nat} {s_X12_codes : zq_Sp} (h_X12_codes : zq_M yX12_codes cX12_codes 2 none 0 d_X12_codes s_X12_codes) (g_X12_codes : d_X12_codes + 1 ≤ d) {J24 : zq_P} (j24 : zq_ok X 4 24 J24) {Q : zq_Q} (hq : zq_R X (some .boolean) 1 Q) : zq_ok X 4 111 (xX12_readsRank_111 s_X12_readsThing s_X12_readsRank s_X12_takesOf s_X12_codes J24 Q) := by
  refine zs_iconst C dX12_readsRank_111 (by decide) ?_
  exact kX12_readsRank_112 C h_X12_readsThing g_X12_readsThing h_X12_readsRank g_X12_readsRank h_X12_takesOf g_X12_takesOf h_X12_codes g_X12_codes j24 hq
def xX12_readsRank_107 (s_X12_readsThing : zq_Sp) (s_X12_readsRank : zq_Sp) (s_X12_takesOf : zq_Sp) (s_X12_codes : zq_Sp) (J24 : zq_P) (Q : zq_Q) (ls : zq_L) (st : List Value) (h : zq_H) : Prop := (zi_push (.int 1) ((xX12_readsRank_112 s_X12_readsThing s_X12_readsRank s_X12_takesOf s_X12_codes J24 Q))) ls st h
theorem kX12_readsRank_107 {X : zq_X} {d : Nat} (C : zq_C X cX12_readsRank 4 RX12 d) {d_X12_readsThing : Nat} {s_X12_readsThing : zq_Sp} (h_X12_readsThing : zq_M yX12_readsThing cX12_readsThing 2 (some .boolean) 1 d_X12_readsThing s_X12_readsThing) (g_X12_readsThing : d_X12_readsThing + 1 ≤ d) {d_X12_readsRank : Nat} {s_X12_readsRank : zq_Sp} (h_X12_readsRank : zq_M yX12_readsRank cX12_readsRank 4 (some .boolean) 1 d_X12_readsRank s_X12_readsRank) (g_X12_readsRank : d_X12_readsRank + 1 ≤ d) {d_X12_takesOf : Nat} {s_X12_takesOf : zq_Sp} (h_X12_takesOf : zq_M yX12_takesOf cX12_takesOf 3 (some .int) 1 d_X12_takesOf s_X12_takesOf) (g_X12_takesOf : d_X12_takesOf + 1 ≤ d) {d_X12_codes : Nat} {s_X12_codes : zq_Sp} (h_X12_codes : zq_M yX12_codes cX12_codes 2 none 0 d_X12_codes s_X12_codes) (g_X12_codes : d_X12_codes + 1 ≤ d) {J24 : zq_P} (j24 : zq_ok X 4 24 J24) {Q : zq_Q} (hq : zq_R X (some .boolean) 1 Q) : zq_ok X 4 107 (xX12_readsRank_107 s_X12_readsThing s_X12_readsRank s_X12_takesOf s_X12_codes J24 Q) := by
  refine zs_iconst C dX12_readsRank_107 (by decide) ?_
  exact zs_goto C dX12_readsRank_108 (by decide) (kX12_readsRank_112 C h_X12_readsThing g_X12_readsThing h_X12_readsRank g_X12_readsRank h_X12_takesOf g_X12_takesOf h_X12_codes g_X12_codes j24 hq)
def xX12_readsRank_99 (s_X12_readsThing : zq_Sp) (s_X12_readsRank : zq_Sp) (s_X12_takesOf : zq_Sp) (s_X12_codes : zq_Sp) (J24 : zq_P) (Q : zq_Q) (ls : zq_L) (st : List Value) (h : zq_H) : Prop := (zi_i2 (fun x y => x + y) (zi_callV 1 56 s_X12_codes (zi_iload 1 (zi_if1 (fun x => x ≤ 0) (xX12_readsRank_111 s_X12_readsThing s_X12_readsRank s_X12_takesOf s_X12_codes J24 Q) (xX12_readsRank_107 s_X12_readsThing s_X12_readsRank s_X12_takesOf s_X12_codes J24 Q))))) ls st h
theorem kX12_readsRank_99 {X : zq_X} {d : Nat} (C : zq_C X cX12_readsRank 4 RX12 d) {d_X12_readsThing : Nat} {s_X12_readsThing : zq_Sp} (h_X12_readsThing : zq_M yX12_readsThing cX12_readsThing 2 (some .boolean) 1 d_X12_readsThing s_X12_readsThing) (g_X12_readsThing : d_X12_readsThing + 1 ≤ d) {d_X12_readsRank : Nat} {s_X12_readsRank : zq_Sp} (h_X12_readsRank : zq_M yX12_readsRank cX12_readsRank 4 (some .boolean) 1 d_X12_readsRank s_X12_readsRank) (g_X12_readsRank : d_X12_readsRank + 1 ≤ d) {d_X12_takesOf : Nat} {s_X12_takesOf : zq_Sp} (h_X12_takesOf : zq_M yX12_takesOf cX12_takesOf 3 (some .int) 1 d_X12_takesOf s_X12_takesOf) (g_X12_takesOf : d_X12_takesOf + 1 ≤ d) {d_X12_codes : Nat} {s_X12_codes : zq_Sp} (h_X12_codes : zq_M yX12_codes cX12_codes 2 none 0 d_X12_codes s_X12_codes) (g_X12_codes : d_X12_codes + 1 ≤ d) {J24 : zq_P} (j24 : zq_ok X 4 24 J24) {Q : zq_Q} (hq : zq_R X (some .boolean) 1 Q) : zq_ok X 4 99 (xX12_readsRank_99 s_X12_readsThing s_X12_readsRank s_X12_takesOf s_X12_codes J24 Q) := by
  refine zs_iadd C dX12_readsRank_99 ?_
  refine zs_callV C h_X12_codes g_X12_codes zy_X12_codes zp_56 (show vwCl[12]? = some (RX12, TX12, 67) from rfl) zw_1441 zw_1443 zs9_X12_codes dX12_readsRank_100 ?_
  refine zs_iload_n C dX12_readsRank_103 rfl ?_
  exact zs_if_le C dX12_readsRank_104 (by decide) (kX12_readsRank_111 C h_X12_readsThing g_X12_readsThing h_X12_readsRank g_X12_readsRank h_X12_takesOf g_X12_takesOf h_X12_codes g_X12_codes j24 hq) (kX12_readsRank_107 C h_X12_readsThing g_X12_readsThing h_X12_readsRank g_X12_readsRank h_X12_takesOf g_X12_takesOf h_X12_codes g_X12_codes j24 hq)
def xX12_readsRank_98 (s_X12_readsThing : zq_Sp) (s_X12_readsRank : zq_Sp) (s_X12_takesOf : zq_Sp) (s_X12_codes : zq_Sp) (J24 : zq_P) (Q : zq_Q) (ls : zq_L) (st : List Value) (h : zq_H) : Prop := (zi_push (.int 5) ((xX12_readsRank_99 s_X12_readsThing s_X12_readsRank s_X12_takesOf s_X12_codes J24 Q))) ls st h
theorem kX12_readsRank_98 {X : zq_X} {d : Nat} (C : zq_C X cX12_readsRank 4 RX12 d) {d_X12_readsThing : Nat} {s_X12_readsThing : zq_Sp} (h_X12_readsThing : zq_M yX12_readsThing cX12_readsThing 2 (some .boolean) 1 d_X12_readsThing s_X12_readsThing) (g_X12_readsThing : d_X12_readsThing + 1 ≤ d) {d_X12_readsRank : Nat} {s_X12_readsRank : zq_Sp} (h_X12_readsRank : zq_M yX12_readsRank cX12_readsRank 4 (some .boolean) 1 d_X12_readsRank s_X12_readsRank) (g_X12_readsRank : d_X12_readsRank + 1 ≤ d) {d_X12_takesOf : Nat} {s_X12_takesOf : zq_Sp} (h_X12_takesOf : zq_M yX12_takesOf cX12_takesOf 3 (some .int) 1 d_X12_takesOf s_X12_takesOf) (g_X12_takesOf : d_X12_takesOf + 1 ≤ d) {d_X12_codes : Nat} {s_X12_codes : zq_Sp} (h_X12_codes : zq_M yX12_codes cX12_codes 2 none 0 d_X12_codes s_X12_codes) (g_X12_codes : d_X12_codes + 1 ≤ d) {J24 : zq_P} (j24 : zq_ok X 4 24 J24) {Q : zq_Q} (hq : zq_R X (some .boolean) 1 Q) : zq_ok X 4 98 (xX12_readsRank_98 s_X12_readsThing s_X12_readsRank s_X12_takesOf s_X12_codes J24 Q) := by
  refine zs_iconst C dX12_readsRank_98 (by decide) ?_
  exact kX12_readsRank_99 C h_X12_readsThing g_X12_readsThing h_X12_readsRank g_X12_readsRank h_X12_takesOf g_X12_takesOf h_X12_codes g_X12_codes j24 hq
def xX12_readsRank_94 (s_X12_readsThing : zq_Sp) (s_X12_readsRank : zq_Sp) (s_X12_takesOf : zq_Sp) (s_X12_codes : zq_Sp) (J24 : zq_P) (Q : zq_Q) (ls : zq_L) (st : List Value) (h : zq_H) : Prop := (zi_push (.int 3) ((xX12_readsRank_99 s_X12_readsThing s_X12_readsRank s_X12_takesOf s_X12_codes J24 Q))) ls st h
theorem kX12_readsRank_94 {X : zq_X} {d : Nat} (C : zq_C X cX12_readsRank 4 RX12 d) {d_X12_readsThing : Nat} {s_X12_readsThing : zq_Sp} (h_X12_readsThing : zq_M yX12_readsThing cX12_readsThing 2 (some .boolean) 1 d_X12_readsThing s_X12_readsThing) (g_X12_readsThing : d_X12_readsThing + 1 ≤ d) {d_X12_readsRank : Nat} {s_X12_readsRank : zq_Sp} (h_X12_readsRank : zq_M yX12_readsRank cX12_readsRank 4 (some .boolean) 1 d_X12_readsRank s_X12_readsRank) (g_X12_readsRank : d_X12_readsRank + 1 ≤ d) {d_X12_takesOf : Nat} {s_X12_takesOf : zq_Sp} (h_X12_takesOf : zq_M yX12_takesOf cX12_takesOf 3 (some .int) 1 d_X12_takesOf s_X12_takesOf) (g_X12_takesOf : d_X12_takesOf + 1 ≤ d) {d_X12_codes : Nat} {s_X12_codes : zq_Sp} (h_X12_codes : zq_M yX12_codes cX12_codes 2 none 0 d_X12_codes s_X12_codes) (g_X12_codes : d_X12_codes + 1 ≤ d) {J24 : zq_P} (j24 : zq_ok X 4 24 J24) {Q : zq_Q} (hq : zq_R X (some .boolean) 1 Q) : zq_ok X 4 94 (xX12_readsRank_94 s_X12_readsThing s_X12_readsRank s_X12_takesOf s_X12_codes J24 Q) := by
  refine zs_iconst C dX12_readsRank_94 (by decide) ?_
  exact zs_goto C dX12_readsRank_95 (by decide) (kX12_readsRank_99 C h_X12_readsThing g_X12_readsThing h_X12_readsRank g_X12_readsRank h_X12_takesOf g_X12_takesOf h_X12_codes g_X12_codes j24 hq)
def xX12_readsRank_89 (s_X12_readsThing : zq_Sp) (s_X12_readsRank : zq_Sp) (s_X12_takesOf : zq_Sp) (s_X12_codes : zq_Sp) (J24 : zq_P) (Q : zq_Q) (ls : zq_L) (st : List Value) (h : zq_H) : Prop := (zi_iload 1 (zi_push (.int 1) (zi_if2 (fun x y => x = y) (xX12_readsRank_94 s_X12_readsThing s_X12_readsRank s_X12_takesOf s_X12_codes J24 Q) (xX12_readsRank_98 s_X12_readsThing s_X12_readsRank s_X12_takesOf s_X12_codes J24 Q)))) ls st h
theorem kX12_readsRank_89 {X : zq_X} {d : Nat} (C : zq_C X cX12_readsRank 4 RX12 d) {d_X12_readsThing : Nat} {s_X12_readsThing : zq_Sp} (h_X12_readsThing : zq_M yX12_readsThing cX12_readsThing 2 (some .boolean) 1 d_X12_readsThing s_X12_readsThing) (g_X12_readsThing : d_X12_readsThing + 1 ≤ d) {d_X12_readsRank : Nat} {s_X12_readsRank : zq_Sp} (h_X12_readsRank : zq_M yX12_readsRank cX12_readsRank 4 (some .boolean) 1 d_X12_readsRank s_X12_readsRank) (g_X12_readsRank : d_X12_readsRank + 1 ≤ d) {d_X12_takesOf : Nat} {s_X12_takesOf : zq_Sp} (h_X12_takesOf : zq_M yX12_takesOf cX12_takesOf 3 (some .int) 1 d_X12_takesOf s_X12_takesOf) (g_X12_takesOf : d_X12_takesOf + 1 ≤ d) {d_X12_codes : Nat} {s_X12_codes : zq_Sp} (h_X12_codes : zq_M yX12_codes cX12_codes 2 none 0 d_X12_codes s_X12_codes) (g_X12_codes : d_X12_codes + 1 ≤ d) {J24 : zq_P} (j24 : zq_ok X 4 24 J24) {Q : zq_Q} (hq : zq_R X (some .boolean) 1 Q) : zq_ok X 4 89 (xX12_readsRank_89 s_X12_readsThing s_X12_readsRank s_X12_takesOf s_X12_codes J24 Q) := by
  refine zs_iload_n C dX12_readsRank_89 rfl ?_
  refine zs_iconst C dX12_readsRank_90 (by decide) ?_
  exact zs_icmp_ne C dX12_readsRank_91 (by decide) (kX12_readsRank_98 C h_X12_readsThing g_X12_readsThing h_X12_readsRank g_X12_readsRank h_X12_takesOf g_X12_takesOf h_X12_codes g_X12_codes j24 hq) (kX12_readsRank_94 C h_X12_readsThing g_X12_readsThing h_X12_readsRank g_X12_readsRank h_X12_takesOf g_X12_takesOf h_X12_codes g_X12_codes j24 hq)
def xX12_readsRank_85 (s_X12_readsThing : zq_Sp) (s_X12_readsRank : zq_Sp) (s_X12_takesOf : zq_Sp) (s_X12_codes : zq_Sp) (J24 : zq_P) (Q : zq_Q) (ls : zq_L) (st : List Value) (h : zq_H) : Prop := (zi_push (.int 0) ((xX12_readsRank_99 s_X12_readsThing s_X12_readsRank s_X12_takesOf s_X12_codes J24 Q))) ls st h
theorem kX12_readsRank_85 {X : zq_X} {d : Nat} (C : zq_C X cX12_readsRank 4 RX12 d) {d_X12_readsThing : Nat} {s_X12_readsThing : zq_Sp} (h_X12_readsThing : zq_M yX12_readsThing cX12_readsThing 2 (some .boolean) 1 d_X12_readsThing s_X12_readsThing) (g_X12_readsThing : d_X12_readsThing + 1 ≤ d) {d_X12_readsRank : Nat} {s_X12_readsRank : zq_Sp} (h_X12_readsRank : zq_M yX12_readsRank cX12_readsRank 4 (some .boolean) 1 d_X12_readsRank s_X12_readsRank) (g_X12_readsRank : d_X12_readsRank + 1 ≤ d) {d_X12_takesOf : Nat} {s_X12_takesOf : zq_Sp} (h_X12_takesOf : zq_M yX12_takesOf cX12_takesOf 3 (some .int) 1 d_X12_takesOf s_X12_takesOf) (g_X12_takesOf : d_X12_takesOf + 1 ≤ d) {d_X12_codes : Nat} {s_X12_codes : zq_Sp} (h_X12_codes : zq_M yX12_codes cX12_codes 2 none 0 d_X12_codes s_X12_codes) (g_X12_codes : d_X12_codes + 1 ≤ d) {J24 : zq_P} (j24 : zq_ok X 4 24 J24) {Q : zq_Q} (hq : zq_R X (some .boolean) 1 Q) : zq_ok X 4 85 (xX12_readsRank_85 s_X12_readsThing s_X12_readsRank s_X12_takesOf s_X12_codes J24 Q) := by
  refine zs_iconst C dX12_readsRank_85 (by decide) ?_
  exact zs_goto C dX12_readsRank_86 (by decide) (kX12_readsRank_99 C h_X12_readsThing g_X12_readsThing h_X12_readsRank g_X12_readsRank h_X12_takesOf g_X12_takesOf h_X12_codes g_X12_codes j24 hq)
def xX12_readsRank_75 (s_X12_readsThing : zq_Sp) (s_X12_readsRank : zq_Sp) (s_X12_takesOf : zq_Sp) (s_X12_codes : zq_Sp) (J24 : zq_P) (Q : zq_Q) (ls : zq_L) (st : List Value) (h : zq_H) : Prop := (zi_aload 0 (zi_push (.int 2000) (zi_iload 3 (zi_i2 (fun x y => x + y) (zi_iload 1 (zi_if1 (fun x => x = 0) (xX12_readsRank_85 s_X12_readsThing s_X12_readsRank s_X12_takesOf s_X12_codes J24 Q) (xX12_readsRank_89 s_X12_readsThing s_X12_readsRank s_X12_takesOf s_X12_codes J24 Q))))))) ls st h
theorem kX12_readsRank_75 {X : zq_X} {d : Nat} (C : zq_C X cX12_readsRank 4 RX12 d) {d_X12_readsThing : Nat} {s_X12_readsThing : zq_Sp} (h_X12_readsThing : zq_M yX12_readsThing cX12_readsThing 2 (some .boolean) 1 d_X12_readsThing s_X12_readsThing) (g_X12_readsThing : d_X12_readsThing + 1 ≤ d) {d_X12_readsRank : Nat} {s_X12_readsRank : zq_Sp} (h_X12_readsRank : zq_M yX12_readsRank cX12_readsRank 4 (some .boolean) 1 d_X12_readsRank s_X12_readsRank) (g_X12_readsRank : d_X12_readsRank + 1 ≤ d) {d_X12_takesOf : Nat} {s_X12_takesOf : zq_Sp} (h_X12_takesOf : zq_M yX12_takesOf cX12_takesOf 3 (some .int) 1 d_X12_takesOf s_X12_takesOf) (g_X12_takesOf : d_X12_takesOf + 1 ≤ d) {d_X12_codes : Nat} {s_X12_codes : zq_Sp} (h_X12_codes : zq_M yX12_codes cX12_codes 2 none 0 d_X12_codes s_X12_codes) (g_X12_codes : d_X12_codes + 1 ≤ d) {J24 : zq_P} (j24 : zq_ok X 4 24 J24) {Q : zq_Q} (hq : zq_R X (some .boolean) 1 Q) : zq_ok X 4 75 (xX12_readsRank_75 s_X12_readsThing s_X12_readsRank s_X12_takesOf s_X12_codes J24 Q) := by
  refine zs_aload_n C dX12_readsRank_75 rfl ?_
  refine zs_sipush C dX12_readsRank_76 (by decide) ?_
  refine zs_iload_n C dX12_readsRank_79 rfl ?_
  refine zs_iadd C dX12_readsRank_80 ?_
  refine zs_iload_n C dX12_readsRank_81 rfl ?_
  exact zs_if_ne C dX12_readsRank_82 (by decide) (kX12_readsRank_89 C h_X12_readsThing g_X12_readsThing h_X12_readsRank g_X12_readsRank h_X12_takesOf g_X12_takesOf h_X12_codes g_X12_codes j24 hq) (kX12_readsRank_85 C h_X12_readsThing g_X12_readsThing h_X12_readsRank g_X12_readsRank h_X12_takesOf g_X12_takesOf h_X12_codes g_X12_codes j24 hq)
def xX12_readsRank_73 (s_X12_readsThing : zq_Sp) (s_X12_readsRank : zq_Sp) (s_X12_takesOf : zq_Sp) (s_X12_codes : zq_Sp) (J24 : zq_P) (Q : zq_Q) (ls : zq_L) (st : List Value) (h : zq_H) : Prop := (zi_push (.int 0) (zi_zret Q)) ls st h
theorem kX12_readsRank_73 {X : zq_X} {d : Nat} (C : zq_C X cX12_readsRank 4 RX12 d) {d_X12_readsThing : Nat} {s_X12_readsThing : zq_Sp} (h_X12_readsThing : zq_M yX12_readsThing cX12_readsThing 2 (some .boolean) 1 d_X12_readsThing s_X12_readsThing) (g_X12_readsThing : d_X12_readsThing + 1 ≤ d) {d_X12_readsRank : Nat} {s_X12_readsRank : zq_Sp} (h_X12_readsRank : zq_M yX12_readsRank cX12_readsRank 4 (some .boolean) 1 d_X12_readsRank s_X12_readsRank) (g_X12_readsRank : d_X12_readsRank + 1 ≤ d) {d_X12_takesOf : Nat} {s_X12_takesOf : zq_Sp} (h_X12_takesOf : zq_M yX12_takesOf cX12_takesOf 3 (some .int) 1 d_X12_takesOf s_X12_takesOf) (g_X12_takesOf : d_X12_takesOf + 1 ≤ d) {d_X12_codes : Nat} {s_X12_codes : zq_Sp} (h_X12_codes : zq_M yX12_codes cX12_codes 2 none 0 d_X12_codes s_X12_codes) (g_X12_codes : d_X12_codes + 1 ≤ d) {J24 : zq_P} (j24 : zq_ok X 4 24 J24) {Q : zq_Q} (hq : zq_R X (some .boolean) 1 Q) : zq_ok X 4 73 (xX12_readsRank_73 s_X12_readsThing s_X12_readsRank s_X12_takesOf s_X12_codes J24 Q) := by
  refine zs_iconst C dX12_readsRank_73 (by decide) ?_
  exact zs_zret C hq dX12_readsRank_74
def xX12_readsRank_63 (s_X12_readsThing : zq_Sp) (s_X12_readsRank : zq_Sp) (s_X12_takesOf : zq_Sp) (s_X12_codes : zq_Sp) (J24 : zq_P) (Q : zq_Q) (ls : zq_L) (st : List Value) (h : zq_H) : Prop := (zi_aload 0 (zi_iload 1 (zi_push (.int 1) (zi_i2 (fun x y => x + y) (zi_callV 1 56 s_X12_readsRank (zi_if1 (fun x => x = 0) (xX12_readsRank_73 s_X12_readsThing s_X12_readsRank s_X12_takesOf s_X12_codes J24 Q) (xX12_readsRank_75 s_X12_readsThing s_X12_readsRank s_X12_takesOf s_X12_codes J24 Q))))))) ls st h
theorem kX12_readsRank_63 {X : zq_X} {d : Nat} (C : zq_C X cX12_readsRank 4 RX12 d) {d_X12_readsThing : Nat} {s_X12_readsThing : zq_Sp} (h_X12_readsThing : zq_M yX12_readsThing cX12_readsThing 2 (some .boolean) 1 d_X12_readsThing s_X12_readsThing) (g_X12_readsThing : d_X12_readsThing + 1 ≤ d) {d_X12_readsRank : Nat} {s_X12_readsRank : zq_Sp} (h_X12_readsRank : zq_M yX12_readsRank cX12_readsRank 4 (some .boolean) 1 d_X12_readsRank s_X12_readsRank) (g_X12_readsRank : d_X12_readsRank + 1 ≤ d) {d_X12_takesOf : Nat} {s_X12_takesOf : zq_Sp} (h_X12_takesOf : zq_M yX12_takesOf cX12_takesOf 3 (some .int) 1 d_X12_takesOf s_X12_takesOf) (g_X12_takesOf : d_X12_takesOf + 1 ≤ d) {d_X12_codes : Nat} {s_X12_codes : zq_Sp} (h_X12_codes : zq_M yX12_codes cX12_codes 2 none 0 d_X12_codes s_X12_codes) (g_X12_codes : d_X12_codes + 1 ≤ d) {J24 : zq_P} (j24 : zq_ok X 4 24 J24) {Q : zq_Q} (hq : zq_R X (some .boolean) 1 Q) : zq_ok X 4 63 (xX12_readsRank_63 s_X12_readsThing s_X12_readsRank s_X12_takesOf s_X12_codes J24 Q) := by
  refine zs_aload_n C dX12_readsRank_63 rfl ?_
  refine zs_iload_n C dX12_readsRank_64 rfl ?_
  refine zs_iconst C dX12_readsRank_65 (by decide) ?_
  refine zs_iadd C dX12_readsRank_66 ?_
  refine zs_callV C h_X12_readsRank g_X12_readsRank zy_X12_readsRank zp_56 (show vwCl[12]? = some (RX12, TX12, 67) from rfl) zw_1433 zw_1435 zs9_X12_readsRank dX12_readsRank_67 ?_
  exact zs_if_ne C dX12_readsRank_70 (by decide) (kX12_readsRank_75 C h_X12_readsThing g_X12_readsThing h_X12_readsRank g_X12_readsRank h_X12_takesOf g_X12_takesOf h_X12_codes g_X12_codes j24 hq) (kX12_readsRank_73 C h_X12_readsThing g_X12_readsThing h_X12_readsRank g_X12_readsRank h_X12_takesOf g_X12_takesOf h_X12_codes g_X12_codes j24 hq)
def xX12_readsRank_61 (s_X12_readsThing : zq_Sp) (s_X12_readsRank : zq_Sp) (s_X12_takesOf : zq_Sp) (s_X12_codes : zq_Sp) (J24 : zq_P) (Q : zq_Q) (ls : zq_L) (st : List Value) (h : zq_H) : Prop := (zi_push (.int 1) (zi_zret Q)) ls st h
theorem kX12_readsRank_61 {X : zq_X} {d : Nat} (C : zq_C X cX12_readsRank 4 RX12 d) {d_X12_readsThing : Nat} {s_X12_readsThing : zq_Sp} (h_X12_readsThing : zq_M yX12_readsThing cX12_readsThing 2 (some .boolean) 1 d_X12_readsThing s_X12_readsThing) (g_X12_readsThing : d_X12_readsThing + 1 ≤ d) {d_X12_readsRank : Nat} {s_X12_readsRank : zq_Sp} (h_X12_readsRank : zq_M yX12_readsRank cX12_readsRank 4 (some .boolean) 1 d_X12_readsRank s_X12_readsRank) (g_X12_readsRank : d_X12_readsRank + 1 ≤ d) {d_X12_takesOf : Nat} {s_X12_takesOf : zq_Sp} (h_X12_takesOf : zq_M yX12_takesOf cX12_takesOf 3 (some .int) 1 d_X12_takesOf s_X12_takesOf) (g_X12_takesOf : d_X12_takesOf + 1 ≤ d) {d_X12_codes : Nat} {s_X12_codes : zq_Sp} (h_X12_codes : zq_M yX12_codes cX12_codes 2 none 0 d_X12_codes s_X12_codes) (g_X12_codes : d_X12_codes + 1 ≤ d) {J24 : zq_P} (j24 : zq_ok X 4 24 J24) {Q : zq_Q} (hq : zq_R X (some .boolean) 1 Q) : zq_ok X 4 61 (xX12_readsRank_61 s_X12_readsThing s_X12_readsRank s_X12_takesOf s_X12_codes J24 Q) := by
  refine zs_iconst C dX12_readsRank_61 (by decide) ?_
  exact zs_zret C hq dX12_readsRank_62
def xX12_readsRank_53 (s_X12_readsThing : zq_Sp) (s_X12_readsRank : zq_Sp) (s_X12_takesOf : zq_Sp) (s_X12_codes : zq_Sp) (J24 : zq_P) (Q : zq_Q) (ls : zq_L) (st : List Value) (h : zq_H) : Prop := (zi_callV 1 56 s_X12_takesOf (zi_istore 3 (zi_iload 3 (zi_if1 (fun x => 0 ≤ x) (xX12_readsRank_63 s_X12_readsThing s_X12_readsRank s_X12_takesOf s_X12_codes J24 Q) (xX12_readsRank_61 s_X12_readsThing s_X12_readsRank s_X12_takesOf s_X12_codes J24 Q))))) ls st h
theorem kX12_readsRank_53 {X : zq_X} {d : Nat} (C : zq_C X cX12_readsRank 4 RX12 d) {d_X12_readsThing : Nat} {s_X12_readsThing : zq_Sp} (h_X12_readsThing : zq_M yX12_readsThing cX12_readsThing 2 (some .boolean) 1 d_X12_readsThing s_X12_readsThing) (g_X12_readsThing : d_X12_readsThing + 1 ≤ d) {d_X12_readsRank : Nat} {s_X12_readsRank : zq_Sp} (h_X12_readsRank : zq_M yX12_readsRank cX12_readsRank 4 (some .boolean) 1 d_X12_readsRank s_X12_readsRank) (g_X12_readsRank : d_X12_readsRank + 1 ≤ d) {d_X12_takesOf : Nat} {s_X12_takesOf : zq_Sp} (h_X12_takesOf : zq_M yX12_takesOf cX12_takesOf 3 (some .int) 1 d_X12_takesOf s_X12_takesOf) (g_X12_takesOf : d_X12_takesOf + 1 ≤ d) {d_X12_codes : Nat} {s_X12_codes : zq_Sp} (h_X12_codes : zq_M yX12_codes cX12_codes 2 none 0 d_X12_codes s_X12_codes) (g_X12_codes : d_X12_codes + 1 ≤ d) {J24 : zq_P} (j24 : zq_ok X 4 24 J24) {Q : zq_Q} (hq : zq_R X (some .boolean) 1 Q) : zq_ok X 4 53 (xX12_readsRank_53 s_X12_readsThing s_X12_readsRank s_X12_takesOf s_X12_codes J24 Q) := by
  refine zs_callV C h_X12_takesOf g_X12_takesOf zy_X12_takesOf zp_56 (show vwCl[12]? = some (RX12, TX12, 67) from rfl) zw_1376 zw_1378 zs9_X12_takesOf dX12_readsRank_53 ?_
  refine zs_istore_n C dX12_readsRank_56 rfl (by decide) ?_
  refine zs_iload_n C dX12_readsRank_57 rfl ?_
  exact zs_if_ge C dX12_readsRank_58 (by decide) (kX12_readsRank_63 C h_X12_readsThing g_X12_readsThing h_X12_readsRank g_X12_readsRank h_X12_takesOf g_X12_takesOf h_X12_codes g_X12_codes j24 hq) (kX12_readsRank_61 C h_X12_readsThing g_X12_readsThing h_X12_readsRank g_X12_readsRank h_X12_takesOf g_X12_takesOf h_X12_codes g_X12_codes j24 hq)
def xX12_readsRank_50 (s_X12_readsThing : zq_Sp) (s_X12_readsRank : zq_Sp) (s_X12_takesOf : zq_Sp) (s_X12_codes : zq_Sp) (J24 : zq_P) (Q : zq_Q) (ls : zq_L) (st : List Value) (h : zq_H) : Prop := (zi_push (.ref 206) ((xX12_readsRank_53 s_X12_readsThing s_X12_readsRank s_X12_takesOf s_X12_codes J24 Q))) ls st h
theorem kX12_readsRank_50 {X : zq_X} {d : Nat} (C : zq_C X cX12_readsRank 4 RX12 d) {d_X12_readsThing : Nat} {s_X12_readsThing : zq_Sp} (h_X12_readsThing : zq_M yX12_readsThing cX12_readsThing 2 (some .boolean) 1 d_X12_readsThing s_X12_readsThing) (g_X12_readsThing : d_X12_readsThing + 1 ≤ d) {d_X12_readsRank : Nat} {s_X12_readsRank : zq_Sp} (h_X12_readsRank : zq_M yX12_readsRank cX12_readsRank 4 (some .boolean) 1 d_X12_readsRank s_X12_readsRank) (g_X12_readsRank : d_X12_readsRank + 1 ≤ d) {d_X12_takesOf : Nat} {s_X12_takesOf : zq_Sp} (h_X12_takesOf : zq_M yX12_takesOf cX12_takesOf 3 (some .int) 1 d_X12_takesOf s_X12_takesOf) (g_X12_takesOf : d_X12_takesOf + 1 ≤ d) {d_X12_codes : Nat} {s_X12_codes : zq_Sp} (h_X12_codes : zq_M yX12_codes cX12_codes 2 none 0 d_X12_codes s_X12_codes) (g_X12_codes : d_X12_codes + 1 ≤ d) {J24 : zq_P} (j24 : zq_ok X 4 24 J24) {Q : zq_Q} (hq : zq_R X (some .boolean) 1 Q) : zq_ok X 4 50 (xX12_readsRank_50 s_X12_readsThing s_X12_readsRank s_X12_takesOf s_X12_codes J24 Q) := by
  refine zs_ldcwS C (i := 6) rfl rfl dX12_readsRank_50 ?_
  exact kX12_readsRank_53 C h_X12_readsThing g_X12_readsThing h_X12_readsRank g_X12_readsRank h_X12_takesOf g_X12_takesOf h_X12_codes g_X12_codes j24 hq
def xX12_readsRank_44 (s_X12_readsThing : zq_Sp) (s_X12_readsRank : zq_Sp) (s_X12_takesOf : zq_Sp) (s_X12_codes : zq_Sp) (J24 : zq_P) (Q : zq_Q) (ls : zq_L) (st : List Value) (h : zq_H) : Prop := (zi_push (.ref 205) ((xX12_readsRank_53 s_X12_readsThing s_X12_readsRank s_X12_takesOf s_X12_codes J24 Q))) ls st h
theorem kX12_readsRank_44 {X : zq_X} {d : Nat} (C : zq_C X cX12_readsRank 4 RX12 d) {d_X12_readsThing : Nat} {s_X12_readsThing : zq_Sp} (h_X12_readsThing : zq_M yX12_readsThing cX12_readsThing 2 (some .boolean) 1 d_X12_readsThing s_X12_readsThing) (g_X12_readsThing : d_X12_readsThing + 1 ≤ d) {d_X12_readsRank : Nat} {s_X12_readsRank : zq_Sp} (h_X12_readsRank : zq_M yX12_readsRank cX12_readsRank 4 (some .boolean) 1 d_X12_readsRank s_X12_readsRank) (g_X12_readsRank : d_X12_readsRank + 1 ≤ d) {d_X12_takesOf : Nat} {s_X12_takesOf : zq_Sp} (h_X12_takesOf : zq_M yX12_takesOf cX12_takesOf 3 (some .int) 1 d_X12_takesOf s_X12_takesOf) (g_X12_takesOf : d_X12_takesOf + 1 ≤ d) {d_X12_codes : Nat} {s_X12_codes : zq_Sp} (h_X12_codes : zq_M yX12_codes cX12_codes 2 none 0 d_X12_codes s_X12_codes) (g_X12_codes : d_X12_codes + 1 ≤ d) {J24 : zq_P} (j24 : zq_ok X 4 24 J24) {Q : zq_Q} (hq : zq_R X (some .boolean) 1 Q) : zq_ok X 4 44 (xX12_readsRank_44 s_X12_readsThing s_X12_readsRank s_X12_takesOf s_X12_codes J24 Q) := by
  refine zs_ldcwS C (i := 5) rfl rfl dX12_readsRank_44 ?_
  exact zs_goto C dX12_readsRank_47 (by decide) (kX12_readsRank_53 C h_X12_readsThing g_X12_readsThing h_X12_readsRank g_X12_readsRank h_X12_takesOf g_X12_takesOf h_X12_codes g_X12_codes j24 hq)
def xX12_readsRank_39 (s_X12_readsThing : zq_Sp) (s_X12_readsRank : zq_Sp) (s_X12_takesOf : zq_Sp) (s_X12_codes : zq_Sp) (J24 : zq_P) (Q : zq_Q) (ls : zq_L) (st : List Value) (h : zq_H) : Prop := (zi_iload 1 (zi_push (.int 1) (zi_if2 (fun x y => x = y) (xX12_readsRank_44 s_X12_readsThing s_X12_readsRank s_X12_takesOf s_X12_codes J24 Q) (xX12_readsRank_50 s_X12_readsThing s_X12_readsRank s_X12_takesOf s_X12_codes J24 Q)))) ls st h
theorem kX12_readsRank_39 {X : zq_X} {d : Nat} (C : zq_C X cX12_readsRank 4 RX12 d) {d_X12_readsThing : Nat} {s_X12_readsThing : zq_Sp} (h_X12_readsThing : zq_M yX12_readsThing cX12_readsThing 2 (some .boolean) 1 d_X12_readsThing s_X12_readsThing) (g_X12_readsThing : d_X12_readsThing + 1 ≤ d) {d_X12_readsRank : Nat} {s_X12_readsRank : zq_Sp} (h_X12_readsRank : zq_M yX12_readsRank cX12_readsRank 4 (some .boolean) 1 d_X12_readsRank s_X12_readsRank) (g_X12_readsRank : d_X12_readsRank + 1 ≤ d) {d_X12_takesOf : Nat} {s_X12_takesOf : zq_Sp} (h_X12_takesOf : zq_M yX12_takesOf cX12_takesOf 3 (some .int) 1 d_X12_takesOf s_X12_takesOf) (g_X12_takesOf : d_X12_takesOf + 1 ≤ d) {d_X12_codes : Nat} {s_X12_codes : zq_Sp} (h_X12_codes : zq_M yX12_codes cX12_codes 2 none 0 d_X12_codes s_X12_codes) (g_X12_codes : d_X12_codes + 1 ≤ d) {J24 : zq_P} (j24 : zq_ok X 4 24 J24) {Q : zq_Q} (hq : zq_R X (some .boolean) 1 Q) : zq_ok X 4 39 (xX12_readsRank_39 s_X12_readsThing s_X12_readsRank s_X12_takesOf s_X12_codes J24 Q) := by
  refine zs_iload_n C dX12_readsRank_39 rfl ?_
  refine zs_iconst C dX12_readsRank_40 (by decide) ?_
  exact zs_icmp_ne C dX12_readsRank_41 (by decide) (kX12_readsRank_50 C h_X12_readsThing g_X12_readsThing h_X12_readsRank g_X12_readsRank h_X12_takesOf g_X12_takesOf h_X12_codes g_X12_codes j24 hq) (kX12_readsRank_44 C h_X12_readsThing g_X12_readsThing h_X12_readsRank g_X12_readsRank h_X12_takesOf g_X12_takesOf h_X12_codes g_X12_codes j24 hq)
def xX12_readsRank_33 (s_X12_readsThing : zq_Sp) (s_X12_readsRank : zq_Sp) (s_X12_takesOf : zq_Sp) (s_X12_codes : zq_Sp) (J24 : zq_P) (Q : zq_Q) (ls : zq_L) (st : List Value) (h : zq_H) : Prop := (zi_push (.ref 204) ((xX12_readsRank_53 s_X12_readsThing s_X12_readsRank s_X12_takesOf s_X12_codes J24 Q))) ls st h
theorem kX12_readsRank_33 {X : zq_X} {d : Nat} (C : zq_C X cX12_readsRank 4 RX12 d) {d_X12_readsThing : Nat} {s_X12_readsThing : zq_Sp} (h_X12_readsThing : zq_M yX12_readsThing cX12_readsThing 2 (some .boolean) 1 d_X12_readsThing s_X12_readsThing) (g_X12_readsThing : d_X12_readsThing + 1 ≤ d) {d_X12_readsRank : Nat} {s_X12_readsRank : zq_Sp} (h_X12_readsRank : zq_M yX12_readsRank cX12_readsRank 4 (some .boolean) 1 d_X12_readsRank s_X12_readsRank) (g_X12_readsRank : d_X12_readsRank + 1 ≤ d) {d_X12_takesOf : Nat} {s_X12_takesOf : zq_Sp} (h_X12_takesOf : zq_M yX12_takesOf cX12_takesOf 3 (some .int) 1 d_X12_takesOf s_X12_takesOf) (g_X12_takesOf : d_X12_takesOf + 1 ≤ d) {d_X12_codes : Nat} {s_X12_codes : zq_Sp} (h_X12_codes : zq_M yX12_codes cX12_codes 2 none 0 d_X12_codes s_X12_codes) (g_X12_codes : d_X12_codes + 1 ≤ d) {J24 : zq_P} (j24 : zq_ok X 4 24 J24) {Q : zq_Q} (hq : zq_R X (some .boolean) 1 Q) : zq_ok X 4 33 (xX12_readsRank_33 s_X12_readsThing s_X12_readsRank s_X12_takesOf s_X12_codes J24 Q) := by
  refine zs_ldcwS C (i := 4) rfl rfl dX12_readsRank_33 ?_
  exact zs_goto C dX12_readsRank_36 (by decide) (kX12_readsRank_53 C h_X12_readsThing g_X12_readsThing h_X12_readsRank g_X12_readsRank h_X12_takesOf g_X12_takesOf h_X12_codes g_X12_codes j24 hq)
def xX12_readsRank_28 (s_X12_readsThing : zq_Sp) (s_X12_readsRank : zq_Sp) (s_X12_takesOf : zq_Sp) (s_X12_codes : zq_Sp) (J24 : zq_P) (Q : zq_Q) (ls : zq_L) (st : List Value) (h : zq_H) : Prop := (zi_aload 0 (zi_iload 1 (zi_if1 (fun x => x = 0) (xX12_readsRank_33 s_X12_readsThing s_X12_readsRank s_X12_takesOf s_X12_codes J24 Q) (xX12_readsRank_39 s_X12_readsThing s_X12_readsRank s_X12_takesOf s_X12_codes J24 Q)))) ls st h
theorem kX12_readsRank_28 {X : zq_X} {d : Nat} (C : zq_C X cX12_readsRank 4 RX12 d) {d_X12_readsThing : Nat} {s_X12_readsThing : zq_Sp} (h_X12_readsThing : zq_M yX12_readsThing cX12_readsThing 2 (some .boolean) 1 d_X12_readsThing s_X12_readsThing) (g_X12_readsThing : d_X12_readsThing + 1 ≤ d) {d_X12_readsRank : Nat} {s_X12_readsRank : zq_Sp} (h_X12_readsRank : zq_M yX12_readsRank cX12_readsRank 4 (some .boolean) 1 d_X12_readsRank s_X12_readsRank) (g_X12_readsRank : d_X12_readsRank + 1 ≤ d) {d_X12_takesOf : Nat} {s_X12_takesOf : zq_Sp} (h_X12_takesOf : zq_M yX12_takesOf cX12_takesOf 3 (some .int) 1 d_X12_takesOf s_X12_takesOf) (g_X12_takesOf : d_X12_takesOf + 1 ≤ d) {d_X12_codes : Nat} {s_X12_codes : zq_Sp} (h_X12_codes : zq_M yX12_codes cX12_codes 2 none 0 d_X12_codes s_X12_codes) (g_X12_codes : d_X12_codes + 1 ≤ d) {J24 : zq_P} (j24 : zq_ok X 4 24 J24) {Q : zq_Q} (hq : zq_R X (some .boolean) 1 Q) : zq_ok X 4 28 (xX12_readsRank_28 s_X12_readsThing s_X12_readsRank s_X12_takesOf s_X12_codes J24 Q) := by
  refine zs_aload_n C dX12_readsRank_28 rfl ?_
  refine zs_iload_n C dX12_readsRank_29 rfl ?_
  exact zs_if_ne C dX12_readsRank_30 (by decide) (kX12_readsRank_39 C h_X12_readsThing g_X12_readsThing h_X12_readsRank g_X12_readsRank h_X12_takesOf g_X12_takesOf h_X12_codes g_X12_codes j24 hq) (kX12_readsRank_33 C h_X12_readsThing g_X12_readsThing h_X12_readsRank g_X12_readsRank h_X12_takesOf g_X12_takesOf h_X12_codes g_X12_codes j24 hq)
def xX12_readsRank_24 (s_X12_readsThing : zq_Sp) (s_X12_readsRank : zq_Sp) (s_X12_takesOf : zq_Sp) (s_X12_codes : zq_Sp) (J24 : zq_P) (Q : zq_Q) (ls : zq_L) (st : List Value) (h : zq_H) : Prop := (zi_iload 2 (zi_if1 (fun x => x = 0) (xX12_readsRank_116 s_X12_readsThing s_X12_readsRank s_X12_takesOf s_X12_codes J24 Q) (xX12_readsRank_28 s_X12_readsThing s_X12_readsRank s_X12_takesOf s_X12_codes J24 Q))) ls st h
theorem kX12_readsRank_24 {X : zq_X} {d : Nat} (C : zq_C X cX12_readsRank 4 RX12 d) {d_X12_readsThing : Nat} {s_X12_readsThing : zq_Sp} (h_X12_readsThing : zq_M yX12_readsThing cX12_readsThing 2 (some .boolean) 1 d_X12_readsThing s_X12_readsThing) (g_X12_readsThing : d_X12_readsThing + 1 ≤ d) {d_X12_readsRank : Nat} {s_X12_readsRank : zq_Sp} (h_X12_readsRank : zq_M yX12_readsRank cX12_readsRank 4 (some .boolean) 1 d_X12_readsRank s_X12_readsRank) (g_X12_readsRank : d_X12_readsRank + 1 ≤ d) {d_X12_takesOf : Nat} {s_X12_takesOf : zq_Sp} (h_X12_takesOf : zq_M yX12_takesOf cX12_takesOf 3 (some .int) 1 d_X12_takesOf s_X12_takesOf) (g_X12_takesOf : d_X12_takesOf + 1 ≤ d) {d_X12_codes : Nat} {s_X12_codes : zq_Sp} (h_X12_codes : zq_M yX12_codes cX12_codes 2 none 0 d_X12_codes s_X12_codes) (g_X12_codes : d_X12_codes + 1 ≤ d) {J24 : zq_P} (j24 : zq_ok X 4 24 J24) {Q : zq_Q} (hq : zq_R X (some .boolean) 1 Q) : zq_ok X 4 24 (xX12_readsRank_24 s_X12_readsThing s_X12_readsRank s_X12_takesOf s_X12_codes J24 Q) := by
  refine zs_iload_n C dX12_readsRank_24 rfl ?_
  exact zs_if_eq C dX12_readsRank_25 (by decide) (kX12_readsRank_116 C h_X12_readsThing g_X12_readsThing h_X12_readsRank g_X12_readsRank h_X12_takesOf g_X12_takesOf h_X12_codes g_X12_codes j24 hq) (kX12_readsRank_28 C h_X12_readsThing g_X12_readsThing h_X12_readsRank g_X12_readsRank h_X12_takesOf g_X12_takesOf h_X12_codes g_X12_codes j24 hq)
def xX12_readsRank_22 (s_X12_readsThing : zq_Sp) (s_X12_readsRank : zq_Sp) (s_X12_takesOf : zq_Sp) (s_X12_codes : zq_Sp) (J24 : zq_P) (Q : zq_Q) (ls : zq_L) (st : List Value) (h : zq_H) : Prop := (zi_push (.int 1) (zi_istore 2 (J24))) ls st h
theorem kX12_readsRank_22 {X : zq_X} {d : Nat} (C : zq_C X cX12_readsRank 4 RX12 d) {d_X12_readsThing : Nat} {s_X12_readsThing : zq_Sp} (h_X12_readsThing : zq_M yX12_readsThing cX12_readsThing 2 (some .boolean) 1 d_X12_readsThing s_X12_readsThing) (g_X12_readsThing : d_X12_readsThing + 1 ≤ d) {d_X12_readsRank : Nat} {s_X12_readsRank : zq_Sp} (h_X12_readsRank : zq_M yX12_readsRank cX12_readsRank 4 (some .boolean) 1 d_X12_readsRank s_X12_readsRank) (g_X12_readsRank : d_X12_readsRank + 1 ≤ d) {d_X12_takesOf : Nat} {s_X12_takesOf : zq_Sp} (h_X12_takesOf : zq_M yX12_takesOf cX12_takesOf 3 (some .int) 1 d_X12_takesOf s_X12_takesOf) (g_X12_takesOf : d_X12_takesOf + 1 ≤ d) {d_X12_codes : Nat} {s_X12_codes : zq_Sp} (h_X12_codes : zq_M yX12_codes cX12_codes 2 none 0 d_X12_codes s_X12_codes) (g_X12_codes : d_X12_codes + 1 ≤ d) {J24 : zq_P} (j24 : zq_ok X 4 24 J24) {Q : zq_Q} (hq : zq_R X (some .boolean) 1 Q) : zq_ok X 4 22 (xX12_readsRank_22 s_X12_readsThing s_X12_readsRank s_X12_takesOf s_X12_codes J24 Q) := by
  refine zs_iconst C dX12_readsRank_22 (by decide) ?_
  refine zs_istore_n C dX12_readsRank_23 rfl (by decide) ?_
  exact j24
def xX12_readsRank_20 (s_X12_readsThing : zq_Sp) (s_X12_readsRank : zq_Sp) (s_X12_takesOf : zq_Sp) (s_X12_codes : zq_Sp) (J24 : zq_P) (Q : zq_Q) (ls : zq_L) (st : List Value) (h : zq_H) : Prop := (zi_push (.int 0) (zi_zret Q)) ls st h
theorem kX12_readsRank_20 {X : zq_X} {d : Nat} (C : zq_C X cX12_readsRank 4 RX12 d) {d_X12_readsThing : Nat} {s_X12_readsThing : zq_Sp} (h_X12_readsThing : zq_M yX12_readsThing cX12_readsThing 2 (some .boolean) 1 d_X12_readsThing s_X12_readsThing) (g_X12_readsThing : d_X12_readsThing + 1 ≤ d) {d_X12_readsRank : Nat} {s_X12_readsRank : zq_Sp} (h_X12_readsRank : zq_M yX12_readsRank cX12_readsRank 4 (some .boolean) 1 d_X12_readsRank s_X12_readsRank) (g_X12_readsRank : d_X12_readsRank + 1 ≤ d) {d_X12_takesOf : Nat} {s_X12_takesOf : zq_Sp} (h_X12_takesOf : zq_M yX12_takesOf cX12_takesOf 3 (some .int) 1 d_X12_takesOf s_X12_takesOf) (g_X12_takesOf : d_X12_takesOf + 1 ≤ d) {d_X12_codes : Nat} {s_X12_codes : zq_Sp} (h_X12_codes : zq_M yX12_codes cX12_codes 2 none 0 d_X12_codes s_X12_codes) (g_X12_codes : d_X12_codes + 1 ≤ d) {J24 : zq_P} (j24 : zq_ok X 4 24 J24) {Q : zq_Q} (hq : zq_R X (some .boolean) 1 Q) : zq_ok X 4 20 (xX12_readsRank_20 s_X12_readsThing s_X12_readsRank s_X12_takesOf s_X12_codes J24 Q) := by
  refine zs_iconst C dX12_readsRank_20 (by decide) ?_
  exact zs_zret C hq dX12_readsRank_21
def xX12_readsRank_10 (s_X12_readsThing : zq_Sp) (s_X12_readsRank : zq_Sp) (s_X12_takesOf : zq_Sp) (s_X12_codes : zq_Sp) (J24 : zq_P) (Q : zq_Q) (ls : zq_L) (st : List Value) (h : zq_H) : Prop := (zi_aload 0 (zi_iload 1 (zi_push (.int 1) (zi_i2 (fun x y => x + y) (zi_callV 1 56 s_X12_readsRank (zi_if1 (fun x => x = 0) (xX12_readsRank_20 s_X12_readsThing s_X12_readsRank s_X12_takesOf s_X12_codes J24 Q) (xX12_readsRank_22 s_X12_readsThing s_X12_readsRank s_X12_takesOf s_X12_codes J24 Q))))))) ls st h
theorem kX12_readsRank_10 {X : zq_X} {d : Nat} (C : zq_C X cX12_readsRank 4 RX12 d) {d_X12_readsThing : Nat} {s_X12_readsThing : zq_Sp} (h_X12_readsThing : zq_M yX12_readsThing cX12_readsThing 2 (some .boolean) 1 d_X12_readsThing s_X12_readsThing) (g_X12_readsThing : d_X12_readsThing + 1 ≤ d) {d_X12_readsRank : Nat} {s_X12_readsRank : zq_Sp} (h_X12_readsRank : zq_M yX12_readsRank cX12_readsRank 4 (some .boolean) 1 d_X12_readsRank s_X12_readsRank) (g_X12_readsRank : d_X12_readsRank + 1 ≤ d) {d_X12_takesOf : Nat} {s_X12_takesOf : zq_Sp} (h_X12_takesOf : zq_M yX12_takesOf cX12_takesOf 3 (some .int) 1 d_X12_takesOf s_X12_takesOf) (g_X12_takesOf : d_X12_takesOf + 1 ≤ d) {d_X12_codes : Nat} {s_X12_codes : zq_Sp} (h_X12_codes : zq_M yX12_codes cX12_codes 2 none 0 d_X12_codes s_X12_codes) (g_X12_codes : d_X12_codes + 1 ≤ d) {J24 : zq_P} (j24 : zq_ok X 4 24 J24) {Q : zq_Q} (hq : zq_R X (some .boolean) 1 Q) : zq_ok X 4 10 (xX12_readsRank_10 s_X12_readsThing s_X12_readsRank s_X12_takesOf s_X12_codes J24 Q) := by
  refine zs_aload_n C dX12_readsRank_10 rfl ?_
  refine zs_iload_n C dX12_readsRank_11 rfl ?_
  refine zs_iconst C dX12_readsRank_12 (by decide) ?_
  refine zs_iadd C dX12_readsRank_13 ?_
  refine zs_callV C h_X12_readsRank g_X12_readsRank zy_X12_readsRank zp_56 (show vwCl[12]? = some (RX12, TX12, 67) from rfl) zw_1433 zw_1435 zs9_X12_readsRank dX12_readsRank_14 ?_
  exact zs_if_ne C dX12_readsRank_17 (by decide) (kX12_readsRank_22 C h_X12_readsThing g_X12_readsThing h_X12_readsRank g_X12_readsRank h_X12_takesOf g_X12_takesOf h_X12_codes g_X12_codes j24 hq) (kX12_readsRank_20 C h_X12_readsThing g_X12_readsThing h_X12_readsRank g_X12_readsRank h_X12_takesOf g_X12_takesOf h_X12_codes g_X12_codes j24 hq)
def xX12_readsRank_5 (s_X12_readsThing : zq_Sp) (s_X12_readsRank : zq_Sp) (s_X12_takesOf : zq_Sp) (s_X12_codes : zq_Sp) (J24 : zq_P) (Q : zq_Q) (ls : zq_L) (st : List Value) (h : zq_H) : Prop := (zi_aload 0 (zi_callV 0 56 s_X12_readsThing (zi_zret Q))) ls st h
theorem kX12_readsRank_5 {X : zq_X} {d : Nat} (C : zq_C X cX12_readsRank 4 RX12 d) {d_X12_readsThing : Nat} {s_X12_readsThing : zq_Sp} (h_X12_readsThing : zq_M yX12_readsThing cX12_readsThing 2 (some .boolean) 1 d_X12_readsThing s_X12_readsThing) (g_X12_readsThing : d_X12_readsThing + 1 ≤ d) {d_X12_readsRank : Nat} {s_X12_readsRank : zq_Sp} (h_X12_readsRank : zq_M yX12_readsRank cX12_readsRank 4 (some .boolean) 1 d_X12_readsRank s_X12_readsRank) (g_X12_readsRank : d_X12_readsRank + 1 ≤ d) {d_X12_takesOf : Nat} {s_X12_takesOf : zq_Sp} (h_X12_takesOf : zq_M yX12_takesOf cX12_takesOf 3 (some .int) 1 d_X12_takesOf s_X12_takesOf) (g_X12_takesOf : d_X12_takesOf + 1 ≤ d) {d_X12_codes : Nat} {s_X12_codes : zq_Sp} (h_X12_codes : zq_M yX12_codes cX12_codes 2 none 0 d_X12_codes s_X12_codes) (g_X12_codes : d_X12_codes + 1 ≤ d) {J24 : zq_P} (j24 : zq_ok X 4 24 J24) {Q : zq_Q} (hq : zq_R X (some .boolean) 1 Q) : zq_ok X 4 5 (xX12_readsRank_5 s_X12_readsThing s_X12_readsRank s_X12_takesOf s_X12_codes J24 Q) := by
  refine zs_aload_n C dX12_readsRank_5 rfl ?_
  refine zs_callV C h_X12_readsThing g_X12_readsThing zy_X12_readsThing zp_56 (show vwCl[12]? = some (RX12, TX12, 67) from rfl) zw_1437 zw_1439 zs9_X12_readsThing dX12_readsRank_6 ?_
  exact zs_zret C hq dX12_readsRank_9
def xX12_readsRank_0 (s_X12_readsThing : zq_Sp) (s_X12_readsRank : zq_Sp) (s_X12_takesOf : zq_Sp) (s_X12_codes : zq_Sp) (J24 : zq_P) (Q : zq_Q) (ls : zq_L) (st : List Value) (h : zq_H) : Prop := (zi_iload 1 (zi_push (.int 3) (zi_if2 (fun x y => x = y) (xX12_readsRank_5 s_X12_readsThing s_X12_readsRank s_X12_takesOf s_X12_codes J24 Q) (xX12_readsRank_10 s_X12_readsThing s_X12_readsRank s_X12_takesOf s_X12_codes J24 Q)))) ls st h
theorem kX12_readsRank_0 {X : zq_X} {d : Nat} (C : zq_C X cX12_readsRank 4 RX12 d) {d_X12_readsThing : Nat} {s_X12_readsThing : zq_Sp} (h_X12_readsThing : zq_M yX12_readsThing cX12_readsThing 2 (some .boolean) 1 d_X12_readsThing s_X12_readsThing) (g_X12_readsThing : d_X12_readsThing + 1 ≤ d) {d_X12_readsRank : Nat} {s_X12_readsRank : zq_Sp} (h_X12_readsRank : zq_M yX12_readsRank cX12_readsRank 4 (some .boolean) 1 d_X12_readsRank s_X12_readsRank) (g_X12_readsRank : d_X12_readsRank + 1 ≤ d) {d_X12_takesOf : Nat} {s_X12_takesOf : zq_Sp} (h_X12_takesOf : zq_M yX12_takesOf cX12_takesOf 3 (some .int) 1 d_X12_takesOf s_X12_takesOf) (g_X12_takesOf : d_X12_takesOf + 1 ≤ d) {d_X12_codes : Nat} {s_X12_codes : zq_Sp} (h_X12_codes : zq_M yX12_codes cX12_codes 2 none 0 d_X12_codes s_X12_codes) (g_X12_codes : d_X12_codes + 1 ≤ d) {J24 : zq_P} (j24 : zq_ok X 4 24 J24) {Q : zq_Q} (hq : zq_R X (some .boolean) 1 Q) : zq_ok X 4 0 (xX12_readsRank_0 s_X12_readsThing s_X12_readsRank s_X12_takesOf s_X12_codes J24 Q) := by
  refine zs_iload_n C dX12_readsRank_0 rfl ?_
  refine zs_iconst C dX12_readsRank_1 (by decide) ?_
  exact zs_icmp_ne C dX12_readsRank_2 (by decide) (kX12_readsRank_10 C h_X12_readsThing g_X12_readsThing h_X12_readsRank g_X12_readsRank h_X12_takesOf g_X12_takesOf h_X12_codes g_X12_codes j24 hq) (kX12_readsRank_5 C h_X12_readsThing g_X12_readsThing h_X12_readsRank g_X12_readsRank h_X12_takesOf g_X12_takesOf h_X12_codes g_X12_codes j24 hq)
theorem mX12_readsRank {d : Nat} {spec : zq_Sp} {σ24 : Type} {d_X12_readsThing : Nat} {s_X12_readsThing : zq_Sp} (h_X12_readsThing : zq_M yX12_readsThing cX12_readsThing 2 (some .boolean) 1 d_X12_readsThing s_X12_readsThing) (g_X12_readsThing : d_X12_readsThing + 1 ≤ d) {d_X12_readsRank : Nat} {s_X12_readsRank : zq_Sp} (h_X12_readsRank : zq_M yX12_readsRank cX12_readsRank 4 (some .boolean) 1 d_X12_readsRank s_X12_readsRank) (g_X12_readsRank : d_X12_readsRank + 1 ≤ d) {d_X12_takesOf : Nat} {s_X12_takesOf : zq_Sp} (h_X12_takesOf : zq_M yX12_takesOf cX12_takesOf 3 (some .int) 1 d_X12_takesOf s_X12_takesOf) (g_X12_takesOf : d_X12_takesOf + 1 ≤ d) {d_X12_codes : Nat} {s_X12_codes : zq_Sp} (h_X12_codes : zq_M yX12_codes cX12_codes 2 none 0 d_X12_codes s_X12_codes) (g_X12_codes : d_X12_codes + 1 ≤ d) (μ24 : σ24 → Nat) (I24 : zq_Q → σ24 → zq_P) (v : ∀ args h Q, spec args h Q → (zq_a args).length ≤ 4 ∧ xX12_readsRank_0 s_X12_readsThing s_X12_readsRank s_X12_takesOf s_X12_codes (fun ls st h => ∃ b, I24 Q b ls st h) Q (zq_l0 4 args) [] h) (v24 : ∀ Q a ls st h, I24 Q a ls st h → xX12_readsRank_24 s_X12_readsThing s_X12_readsRank s_X12_takesOf s_X12_codes (fun ls st h => ∃ b, μ24 b < μ24 a ∧ I24 Q b ls st h) Q ls st h) : zq_M yX12_readsRank cX12_readsRank 4 (some .boolean) 1 d spec := by
  refine zq_met (by decide +kernel) (by decide) (fun X Q args h C hq hs => ⟨(v args h Q hs).1, _, ?_, (v args h Q hs).2⟩)
  have hl := zq_loop1 (X := X) (nL := 4) (pc1 := 24) μ24 (I24 Q) (fun J24 => xX12_readsRank_24 s_X12_readsThing s_X12_readsRank s_X12_takesOf s_X12_codes J24 Q) (fun j24 => kX12_readsRank_24 C h_X12_readsThing g_X12_readsThing h_X12_readsRank g_X12_readsRank h_X12_takesOf g_X12_takesOf h_X12_codes g_X12_codes j24 hq) (v24 Q)
  exact kX12_readsRank_0 C h_X12_readsThing g_X12_readsThing h_X12_readsRank g_X12_readsRank h_X12_takesOf g_X12_takesOf h_X12_codes g_X12_codes hl hq
/-! ToOneCrumbModel.rule()I -/
theorem dX12_rule_0 : decode cX12_rule 0 = .ok (.aload_n 0, 1) := by decide +kernel
theorem dX12_rule_1 : decode cX12_rule 1 = .ok (.iconst 0, 1) := by decide +kernel
theorem dX12_rule_2 : decode cX12_rule 2 = .ok (.putfield 147, 3) := by decide +kernel
theorem dX12_rule_5 : decode cX12_rule 5 = .ok (.aload_n 0, 1) := by decide +kernel
theorem dX12_rule_6 : decode cX12_rule 6 = .ok (.bipush 40, 2) := by decide +kernel
theorem dX12_rule_8 : decode cX12_rule 8 = .ok (.invokevirtual 218, 3) := by decide +kernel
theorem dX12_rule_11 : decode cX12_rule 11 = .ok (.istore_n 1, 1) := by decide +kernel
theorem dX12_rule_12 : decode cX12_rule 12 = .ok (.aload_n 0, 1) := by decide +kernel
theorem dX12_rule_13 : decode cX12_rule 13 = .ok (.iconst 0, 1) := by decide +kernel
theorem dX12_rule_14 : decode cX12_rule 14 = .ok (.putfield 268, 3) := by decide +kernel
theorem dX12_rule_17 : decode cX12_rule 17 = .ok (.iload_n 1, 1) := by decide +kernel
theorem dX12_rule_18 : decode cX12_rule 18 = .ok (.ifCond .eq 11, 3) := by decide +kernel
theorem dX12_rule_21 : decode cX12_rule 21 = .ok (.aload_n 0, 1) := by decide +kernel
theorem dX12_rule_22 : decode cX12_rule 22 = .ok (.iconst 0, 1) := by decide +kernel
theorem dX12_rule_23 : decode cX12_rule 23 = .ok (.invokevirtual 280, 3) := by decide +kernel
theorem dX12_rule_26 : decode cX12_rule 26 = .ok (.ifCond .eq 7, 3) := by decide +kernel
theorem dX12_rule_29 : decode cX12_rule 29 = .ok (.iconst 1, 1) := by decide +kernel
theorem dX12_rule_30 : decode cX12_rule 30 = .ok (.goto 4, 3) := by decide +kernel
theorem dX12_rule_33 : decode cX12_rule 33 = .ok (.iconst 0, 1) := by decide +kernel
theorem dX12_rule_34 : decode cX12_rule 34 = .ok (.istore_n 2, 1) := by decide +kernel
theorem dX12_rule_35 : decode cX12_rule 35 = .ok (.aload_n 0, 1) := by decide +kernel
theorem dX12_rule_36 : decode cX12_rule 36 = .ok (.iload_n 1, 1) := by decide +kernel
theorem dX12_rule_37 : decode cX12_rule 37 = .ok (.bipush 40, 2) := by decide +kernel
theorem dX12_rule_39 : decode cX12_rule 39 = .ok (.iload_n 2, 1) := by decide +kernel
theorem dX12_rule_40 : decode cX12_rule 40 = .ok (.invokevirtual 232, 3) := by decide +kernel
theorem dX12_rule_43 : decode cX12_rule 43 = .ok (.istore_n 3, 1) := by decide +kernel
theorem dX12_rule_44 : decode cX12_rule 44 = .ok (.iload_n 3, 1) := by decide +kernel
theorem dX12_rule_45 : decode cX12_rule 45 = .ok (.ifCond .ge 5, 3) := by decide +kernel
theorem dX12_rule_48 : decode cX12_rule 48 = .ok (.iload_n 3, 1) := by decide +kernel
theorem dX12_rule_49 : decode cX12_rule 49 = .ok (.ireturn, 1) := by decide +kernel
theorem dX12_rule_50 : decode cX12_rule 50 = .ok (.aload_n 0, 1) := by decide +kernel
theorem dX12_rule_51 : decode cX12_rule 51 = .ok (.aload_n 0, 1) := by decide +kernel
theorem dX12_rule_52 : decode cX12_rule 52 = .ok (.getfield 268, 3) := by decide +kernel
theorem dX12_rule_55 : decode cX12_rule 55 = .ok (.putfield 289, 3) := by decide +kernel
theorem dX12_rule_58 : decode cX12_rule 58 = .ok (.iconst 0, 1) := by decide +kernel
theorem dX12_rule_59 : decode cX12_rule 59 = .ok (.istore 4, 2) := by decide +kernel
theorem dX12_rule_61 : decode cX12_rule 61 = .ok (.iload 4, 2) := by decide +kernel
theorem dX12_rule_63 : decode cX12_rule 63 = .ok (.aload_n 0, 1) := by decide +kernel
theorem dX12_rule_64 : decode cX12_rule 64 = .ok (.getfield 268, 3) := by decide +kernel
theorem dX12_rule_67 : decode cX12_rule 67 = .ok (.if_icmp .ge 23, 3) := by decide +kernel
theorem dX12_rule_70 : decode cX12_rule 70 = .ok (.aload_n 0, 1) := by decide +kernel
theorem dX12_rule_71 : decode cX12_rule 71 = .ok (.getfield 51, 3) := by decide +kernel
theorem dX12_rule_74 : decode cX12_rule 74 = .ok (.iload 4, 2) := by decide +kernel
theorem dX12_rule_76 : decode cX12_rule 76 = .ok (.aload_n 0, 1) := by decide +kernel
theorem dX12_rule_77 : decode cX12_rule 77 = .ok (.getfield 54, 3) := by decide +kernel
theorem dX12_rule_80 : decode cX12_rule 80 = .ok (.iload 4, 2) := by decide +kernel
theorem dX12_rule_82 : decode cX12_rule 82 = .ok (.iaload, 1) := by decide +kernel
theorem dX12_rule_83 : decode cX12_rule 83 = .ok (.iastore, 1) := by decide +kernel
theorem dX12_rule_84 : decode cX12_rule 84 = .ok (.iinc 4 1, 3) := by decide +kernel
theorem dX12_rule_87 : decode cX12_rule 87 = .ok (.goto (-26), 3) := by decide +kernel
theorem dX12_rule_90 : decode cX12_rule 90 = .ok (.iconst 0, 1) := by decide +kernel
theorem dX12_rule_91 : decode cX12_rule 91 = .ok (.ireturn, 1) := by decide +kernel
def xX12_rule_90 (s_X12_begins : zq_Sp) (s_X12_readsRank : zq_Sp) (s_X12_faultOf : zq_Sp) (J61 : zq_P) (Q : zq_Q) (ls : zq_L) (st : List Value) (h : zq_H) : Prop := (zi_push (.int 0) (zi_iret Q)) ls st h
theorem kX12_rule_90 {X : zq_X} {d : Nat} (C : zq_C X cX12_rule 5 RX12 d) {d_X12_begins : Nat} {s_X12_begins : zq_Sp} (h_X12_begins : zq_M yX12_begins cX12_begins 3 (some .int) 1 d_X12_begins s_X12_begins) (g_X12_begins : d_X12_begins + 1 ≤ d) {d_X12_readsRank : Nat} {s_X12_readsRank : zq_Sp} (h_X12_readsRank : zq_M yX12_readsRank cX12_readsRank 4 (some .boolean) 1 d_X12_readsRank s_X12_readsRank) (g_X12_readsRank : d_X12_readsRank + 1 ≤ d) {d_X12_faultOf : Nat} {s_X12_faultOf : zq_Sp} (h_X12_faultOf : zq_M yX12_faultOf cX12_faultOf 5 (some .int) 1 d_X12_faultOf s_X12_faultOf) (g_X12_faultOf : d_X12_faultOf + 1 ≤ d) {J61 : zq_P} (j61 : zq_ok X 5 61 J61) {Q : zq_Q} (hq : zq_R X (some .int) 1 Q) : zq_ok X 5 90 (xX12_rule_90 s_X12_begins s_X12_readsRank s_X12_faultOf J61 Q) := by
  refine zs_iconst C dX12_rule_90 (by decide) ?_
  exact zs_iret C hq dX12_rule_91
def xX12_rule_70 (s_X12_begins : zq_Sp) (s_X12_readsRank : zq_Sp) (s_X12_faultOf : zq_Sp) (J61 : zq_P) (Q : zq_Q) (ls : zq_L) (st : List Value) (h : zq_H) : Prop := (zi_aload 0 (zi_getR 56 70 (zi_iload 4 (zi_aload 0 (zi_getR 56 71 (zi_iload 4 (zi_aldI 71 80 (zi_astI 70 80 (zi_iinc 4 1 (J61)))))))))) ls st h
theorem kX12_rule_70 {X : zq_X} {d : Nat} (C : zq_C X cX12_rule 5 RX12 d) {d_X12_begins : Nat} {s_X12_begins : zq_Sp} (h_X12_begins : zq_M yX12_begins cX12_begins 3 (some .int) 1 d_X12_begins s_X12_begins) (g_X12_begins : d_X12_begins + 1 ≤ d) {d_X12_readsRank : Nat} {s_X12_readsRank : zq_Sp} (h_X12_readsRank : zq_M yX12_readsRank cX12_readsRank 4 (some .boolean) 1 d_X12_readsRank s_X12_readsRank) (g_X12_readsRank : d_X12_readsRank + 1 ≤ d) {d_X12_faultOf : Nat} {s_X12_faultOf : zq_Sp} (h_X12_faultOf : zq_M yX12_faultOf cX12_faultOf 5 (some .int) 1 d_X12_faultOf s_X12_faultOf) (g_X12_faultOf : d_X12_faultOf + 1 ≤ d) {J61 : zq_P} (j61 : zq_ok X 5 61 J61) {Q : zq_Q} (hq : zq_R X (some .int) 1 Q) : zq_ok X 5 70 (xX12_rule_70 s_X12_begins s_X12_readsRank s_X12_faultOf J61 Q) := by
  refine zs_aload_n C dX12_rule_70 rfl ?_
  refine zs_getR C zp_56 zF12 (j := 23) ⟨by decide, rfl⟩ zw_1119 dX12_rule_71 ?_
  refine zs_iload C dX12_rule_74 ?_
  refine zs_aload_n C dX12_rule_76 rfl ?_
  refine zs_getR C zp_56 zF12 (j := 24) ⟨by decide, rfl⟩ zw_1120 dX12_rule_77 ?_
  refine zs_iload C dX12_rule_80 ?_
  refine zs_iaload C zp_71 dX12_rule_82 ?_
  refine zs_iastore C zp_70 dX12_rule_83 ?_
  refine zs_iinc C dX12_rule_84 (by decide) (by decide) ?_
  exact zs_goto C dX12_rule_87 (by decide) (j61)
def xX12_rule_61 (s_X12_begins : zq_Sp) (s_X12_readsRank : zq_Sp) (s_X12_faultOf : zq_Sp) (J61 : zq_P) (Q : zq_Q) (ls : zq_L) (st : List Value) (h : zq_H) : Prop := (zi_iload 4 (zi_aload 0 (zi_getI 56 26 (zi_if2 (fun x y => y ≤ x) (xX12_rule_90 s_X12_begins s_X12_readsRank s_X12_faultOf J61 Q) (xX12_rule_70 s_X12_begins s_X12_readsRank s_X12_faultOf J61 Q))))) ls st h
theorem kX12_rule_61 {X : zq_X} {d : Nat} (C : zq_C X cX12_rule 5 RX12 d) {d_X12_begins : Nat} {s_X12_begins : zq_Sp} (h_X12_begins : zq_M yX12_begins cX12_begins 3 (some .int) 1 d_X12_begins s_X12_begins) (g_X12_begins : d_X12_begins + 1 ≤ d) {d_X12_readsRank : Nat} {s_X12_readsRank : zq_Sp} (h_X12_readsRank : zq_M yX12_readsRank cX12_readsRank 4 (some .boolean) 1 d_X12_readsRank s_X12_readsRank) (g_X12_readsRank : d_X12_readsRank + 1 ≤ d) {d_X12_faultOf : Nat} {s_X12_faultOf : zq_Sp} (h_X12_faultOf : zq_M yX12_faultOf cX12_faultOf 5 (some .int) 1 d_X12_faultOf s_X12_faultOf) (g_X12_faultOf : d_X12_faultOf + 1 ≤ d) {J61 : zq_P} (j61 : zq_ok X 5 61 J61) {Q : zq_Q} (hq : zq_R X (some .int) 1 Q) : zq_ok X 5 61 (xX12_rule_61 s_X12_begins s_X12_readsRank s_X12_faultOf J61 Q) := by
  refine zs_iload C dX12_rule_61 ?_
  refine zs_aload_n C dX12_rule_63 rfl ?_
  refine zs_getI C zp_56 zF12 (j := 26) ⟨by decide, rfl⟩ zw_1122 dX12_rule_64 ?_
  exact zs_icmp_ge C dX12_rule_67 (by decide) (kX12_rule_90 C h_X12_begins g_X12_begins h_X12_readsRank g_X12_readsRank h_X12_faultOf g_X12_faultOf j61 hq) (kX12_rule_70 C h_X12_begins g_X12_begins h_X12_readsRank g_X12_readsRank h_X12_faultOf g_X12_faultOf j61 hq)
def xX12_rule_50 (s_X12_begins : zq_Sp) (s_X12_readsRank : zq_Sp) (s_X12_faultOf : zq_Sp) (J61 : zq_P) (Q : zq_Q) (ls : zq_L) (st : List Value) (h : zq_H) : Prop := (zi_aload 0 (zi_aload 0 (zi_getI 56 26 (zi_putI 56 25 (zi_push (.int 0) (zi_istore 4 (J61))))))) ls st h
theorem kX12_rule_50 {X : zq_X} {d : Nat} (C : zq_C X cX12_rule 5 RX12 d) {d_X12_begins : Nat} {s_X12_begins : zq_Sp} (h_X12_begins : zq_M yX12_begins cX12_begins 3 (some .int) 1 d_X12_begins s_X12_begins) (g_X12_begins : d_X12_begins + 1 ≤ d) {d_X12_readsRank : Nat} {s_X12_readsRank : zq_Sp} (h_X12_readsRank : zq_M yX12_readsRank cX12_readsRank 4 (some .boolean) 1 d_X12_readsRank s_X12_readsRank) (g_X12_readsRank : d_X12_readsRank + 1 ≤ d) {d_X12_faultOf : Nat} {s_X12_faultOf : zq_Sp} (h_X12_faultOf : zq_M yX12_faultOf cX12_faultOf 5 (some .int) 1 d_X12_faultOf s_X12_faultOf) (g_X12_faultOf : d_X12_faultOf + 1 ≤ d) {J61 : zq_P} (j61 : zq_ok X 5 61 J61) {Q : zq_Q} (hq : zq_R X (some .int) 1 Q) : zq_ok X 5 50 (xX12_rule_50 s_X12_begins s_X12_readsRank s_X12_faultOf J61 Q) := by
  refine zs_aload_n C dX12_rule_50 rfl ?_
  refine zs_aload_n C dX12_rule_51 rfl ?_
  refine zs_getI C zp_56 zF12 (j := 26) ⟨by decide, rfl⟩ zw_1122 dX12_rule_52 ?_
  refine zs_putI C zp_56 zF12 (j := 25) ⟨by decide, rfl⟩ ⟨rfl, by decide +kernel⟩ zw_1121 dX12_rule_55 ?_
  refine zs_iconst C dX12_rule_58 (by decide) ?_
  refine zs_istore C dX12_rule_59 (by decide) ?_
  exact j61
def xX12_rule_48 (s_X12_begins : zq_Sp) (s_X12_readsRank : zq_Sp) (s_X12_faultOf : zq_Sp) (J61 : zq_P) (Q : zq_Q) (ls : zq_L) (st : List Value) (h : zq_H) : Prop := (zi_iload 3 (zi_iret Q)) ls st h
theorem kX12_rule_48 {X : zq_X} {d : Nat} (C : zq_C X cX12_rule 5 RX12 d) {d_X12_begins : Nat} {s_X12_begins : zq_Sp} (h_X12_begins : zq_M yX12_begins cX12_begins 3 (some .int) 1 d_X12_begins s_X12_begins) (g_X12_begins : d_X12_begins + 1 ≤ d) {d_X12_readsRank : Nat} {s_X12_readsRank : zq_Sp} (h_X12_readsRank : zq_M yX12_readsRank cX12_readsRank 4 (some .boolean) 1 d_X12_readsRank s_X12_readsRank) (g_X12_readsRank : d_X12_readsRank + 1 ≤ d) {d_X12_faultOf : Nat} {s_X12_faultOf : zq_Sp} (h_X12_faultOf : zq_M yX12_faultOf cX12_faultOf 5 (some .int) 1 d_X12_faultOf s_X12_faultOf) (g_X12_faultOf : d_X12_faultOf + 1 ≤ d) {J61 : zq_P} (j61 : zq_ok X 5 61 J61) {Q : zq_Q} (hq : zq_R X (some .int) 1 Q) : zq_ok X 5 48 (xX12_rule_48 s_X12_begins s_X12_readsRank s_X12_faultOf J61 Q) := by
  refine zs_iload_n C dX12_rule_48 rfl ?_
  exact zs_iret C hq dX12_rule_49
def xX12_rule_34 (s_X12_begins : zq_Sp) (s_X12_readsRank : zq_Sp) (s_X12_faultOf : zq_Sp) (J61 : zq_P) (Q : zq_Q) (ls : zq_L) (st : List Value) (h : zq_H) : Prop := (zi_istore 2 (zi_aload 0 (zi_iload 1 (zi_push (.int 40) (zi_iload 2 (zi_callV 3 56 s_X12_faultOf (zi_istore 3 (zi_iload 3 (zi_if1 (fun x => 0 ≤ x) (xX12_rule_50 s_X12_begins s_X12_readsRank s_X12_faultOf J61 Q) (xX12_rule_48 s_X12_begins s_X12_readsRank s_X12_faultOf J61 Q)))))))))) ls st h
theorem kX12_rule_34 {X : zq_X} {d : Nat} (C : zq_C X cX12_rule 5 RX12 d) {d_X12_begins : Nat} {s_X12_begins : zq_Sp} (h_X12_begins : zq_M yX12_begins cX12_begins 3 (some .int) 1 d_X12_begins s_X12_begins) (g_X12_begins : d_X12_begins + 1 ≤ d) {d_X12_readsRank : Nat} {s_X12_readsRank : zq_Sp} (h_X12_readsRank : zq_M yX12_readsRank cX12_readsRank 4 (some .boolean) 1 d_X12_readsRank s_X12_readsRank) (g_X12_readsRank : d_X12_readsRank + 1 ≤ d) {d_X12_faultOf : Nat} {s_X12_faultOf : zq_Sp} (h_X12_faultOf : zq_M yX12_faultOf cX12_faultOf 5 (some .int) 1 d_X12_faultOf s_X12_faultOf) (g_X12_faultOf : d_X12_faultOf + 1 ≤ d) {J61 : zq_P} (j61 : zq_ok X 5 61 J61) {Q : zq_Q} (hq : zq_R X (some .int) 1 Q) : zq_ok X 5 34 (xX12_rule_34 s_X12_begins s_X12_readsRank s_X12_faultOf J61 Q) := by
  refine zs_istore_n C dX12_rule_34 rfl (by decide) ?_
  refine zs_aload_n C dX12_rule_35 rfl ?_
  refine zs_iload_n C dX12_rule_36 rfl ?_
  refine zs_bipush C dX12_rule_37 (by decide) ?_
  refine zs_iload_n C dX12_rule_39 rfl ?_
  refine zs_callV C h_X12_faultOf g_X12_faultOf zy_X12_faultOf zp_56 (show vwCl[12]? = some (RX12, TX12, 67) from rfl) zw_1388 zw_1390 zs9_X12_faultOf dX12_rule_40 ?_
  refine zs_istore_n C dX12_rule_43 rfl (by decide) ?_
  refine zs_iload_n C dX12_rule_44 rfl ?_
  exact zs_if_ge C dX12_rule_45 (by decide) (kX12_rule_50 C h_X12_begins g_X12_begins h_X12_readsRank g_X12_readsRank h_X12_faultOf g_X12_faultOf j61 hq) (kX12_rule_48 C h_X12_begins g_X12_begins h_X12_readsRank g_X12_readsRank h_X12_faultOf g_X12_faultOf j61 hq)
def xX12_rule_33 (s_X12_begins : zq_Sp) (s_X12_readsRank : zq_Sp) (s_X12_faultOf : zq_Sp) (J61 : zq_P) (Q : zq_Q) (ls : zq_L) (st : List Value) (h : zq_H) : Prop := (zi_push (.int 0) ((xX12_rule_34 s_X12_begins s_X12_readsRank s_X12_faultOf J61 Q))) ls st h
theorem kX12_rule_33 {X : zq_X} {d : Nat} (C : zq_C X cX12_rule 5 RX12 d) {d_X12_begins : Nat} {s_X12_begins : zq_Sp} (h_X12_begins : zq_M yX12_begins cX12_begins 3 (some .int) 1 d_X12_begins s_X12_begins) (g_X12_begins : d_X12_begins + 1 ≤ d) {d_X12_readsRank : Nat} {s_X12_readsRank : zq_Sp} (h_X12_readsRank : zq_M yX12_readsRank cX12_readsRank 4 (some .boolean) 1 d_X12_readsRank s_X12_readsRank) (g_X12_readsRank : d_X12_readsRank + 1 ≤ d) {d_X12_faultOf : Nat} {s_X12_faultOf : zq_Sp} (h_X12_faultOf : zq_M yX12_faultOf cX12_faultOf 5 (some .int) 1 d_X12_faultOf s_X12_faultOf) (g_X12_faultOf : d_X12_faultOf + 1 ≤ d) {J61 : zq_P} (j61 : zq_ok X 5 61 J61) {Q : zq_Q} (hq : zq_R X (some .int) 1 Q) : zq_ok X 5 33 (xX12_rule_33 s_X12_begins s_X12_readsRank s_X12_faultOf J61 Q) := by
  refine zs_iconst C dX12_rule_33 (by decide) ?_
  exact kX12_rule_34 C h_X12_begins g_X12_begins h_X12_readsRank g_X12_readsRank h_X12_faultOf g_X12_faultOf j61 hq
def xX12_rule_29 (s_X12_begins : zq_Sp) (s_X12_readsRank : zq_Sp) (s_X12_faultOf : zq_Sp) (J61 : zq_P) (Q : zq_Q) (ls : zq_L) (st : List Value) (h : zq_H) : Prop := (zi_push (.int 1) ((xX12_rule_34 s_X12_begins s_X12_readsRank s_X12_faultOf J61 Q))) ls st h
theorem kX12_rule_29 {X : zq_X} {d : Nat} (C : zq_C X cX12_rule 5 RX12 d) {d_X12_begins : Nat} {s_X12_begins : zq_Sp} (h_X12_begins : zq_M yX12_begins cX12_begins 3 (some .int) 1 d_X12_begins s_X12_begins) (g_X12_begins : d_X12_begins + 1 ≤ d) {d_X12_readsRank : Nat} {s_X12_readsRank : zq_Sp} (h_X12_readsRank : zq_M yX12_readsRank cX12_readsRank 4 (some .boolean) 1 d_X12_readsRank s_X12_readsRank) (g_X12_readsRank : d_X12_readsRank + 1 ≤ d) {d_X12_faultOf : Nat} {s_X12_faultOf : zq_Sp} (h_X12_faultOf : zq_M yX12_faultOf cX12_faultOf 5 (some .int) 1 d_X12_faultOf s_X12_faultOf) (g_X12_faultOf : d_X12_faultOf + 1 ≤ d) {J61 : zq_P} (j61 : zq_ok X 5 61 J61) {Q : zq_Q} (hq : zq_R X (some .int) 1 Q) : zq_ok X 5 29 (xX12_rule_29 s_X12_begins s_X12_readsRank s_X12_faultOf J61 Q) := by
  refine zs_iconst C dX12_rule_29 (by decide) ?_
  exact zs_goto C dX12_rule_30 (by decide) (kX12_rule_34 C h_X12_begins g_X12_begins h_X12_readsRank g_X12_readsRank h_X12_faultOf g_X12_faultOf j61 hq)
def xX12_rule_21 (s_X12_begins : zq_Sp) (s_X12_readsRank : zq_Sp) (s_X12_faultOf : zq_Sp) (J61 : zq_P) (Q : zq_Q) (ls : zq_L) (st : List Value) (h : zq_H) : Prop := (zi_aload 0 (zi_push (.int 0) (zi_callV 1 56 s_X12_readsRank (zi_if1 (fun x => x = 0) (xX12_rule_33 s_X12_begins s_X12_readsRank s_X12_faultOf J61 Q) (xX12_rule_29 s_X12_begins s_X12_readsRank s_X12_faultOf J61 Q))))) ls st h
theorem kX12_rule_21 {X : zq_X} {d : Nat} (C : zq_C X cX12_rule 5 RX12 d) {d_X12_begins : Nat} {s_X12_begins : zq_Sp} (h_X12_begins : zq_M yX12_begins cX12_begins 3 (some .int) 1 d_X12_begins s_X12_begins) (g_X12_begins : d_X12_begins + 1 ≤ d) {d_X12_readsRank : Nat} {s_X12_readsRank : zq_Sp} (h_X12_readsRank : zq_M yX12_readsRank cX12_readsRank 4 (some .boolean) 1 d_X12_readsRank s_X12_readsRank) (g_X12_readsRank : d_X12_readsRank + 1 ≤ d) {d_X12_faultOf : Nat} {s_X12_faultOf : zq_Sp} (h_X12_faultOf : zq_M yX12_faultOf cX12_faultOf 5 (some .int) 1 d_X12_faultOf s_X12_faultOf) (g_X12_faultOf : d_X12_faultOf + 1 ≤ d) {J61 : zq_P} (j61 : zq_ok X 5 61 J61) {Q : zq_Q} (hq : zq_R X (some .int) 1 Q) : zq_ok X 5 21 (xX12_rule_21 s_X12_begins s_X12_readsRank s_X12_faultOf J61 Q) := by
  refine zs_aload_n C dX12_rule_21 rfl ?_
  refine zs_iconst C dX12_rule_22 (by decide) ?_
  refine zs_callV C h_X12_readsRank g_X12_readsRank zy_X12_readsRank zp_56 (show vwCl[12]? = some (RX12, TX12, 67) from rfl) zw_1433 zw_1435 zs9_X12_readsRank dX12_rule_23 ?_
  exact zs_if_eq C dX12_rule_26 (by decide) (kX12_rule_33 C h_X12_begins g_X12_begins h_X12_readsRank g_X12_readsRank h_X12_faultOf g_X12_faultOf j61 hq) (kX12_rule_29 C h_X12_begins g_X12_begins h_X12_readsRank g_X12_readsRank h_X12_faultOf g_X12_faultOf j61 hq)
def xX12_rule_0 (s_X12_begins : zq_Sp) (s_X12_readsRank : zq_Sp) (s_X12_faultOf : zq_Sp) (J61 : zq_P) (Q : zq_Q) (ls : zq_L) (st : List Value) (h : zq_H) : Prop := (zi_aload 0 (zi_push (.int 0) (zi_putI 56 0 (zi_aload 0 (zi_push (.int 40) (zi_callV 1 56 s_X12_begins (zi_istore 1 (zi_aload 0 (zi_push (.int 0) (zi_putI 56 26 (zi_iload 1 (zi_if1 (fun x => x = 0) (xX12_rule_29 s_X12_begins s_X12_readsRank s_X12_faultOf J61 Q) (xX12_rule_21 s_X12_begins s_X12_readsRank s_X12_faultOf J61 Q))))))))))))) ls st h
theorem kX12_rule_0 {X : zq_X} {d : Nat} (C : zq_C X cX12_rule 5 RX12 d) {d_X12_begins : Nat} {s_X12_begins : zq_Sp} (h_X12_begins : zq_M yX12_begins cX12_begins 3 (some .int) 1 d_X12_begins s_X12_begins) (g_X12_begins : d_X12_begins + 1 ≤ d) {d_X12_readsRank : Nat} {s_X12_readsRank : zq_Sp} (h_X12_readsRank : zq_M yX12_readsRank cX12_readsRank 4 (some .boolean) 1 d_X12_readsRank s_X12_readsRank) (g_X12_readsRank : d_X12_readsRank + 1 ≤ d) {d_X12_faultOf : Nat} {s_X12_faultOf : zq_Sp} (h_X12_faultOf : zq_M yX12_faultOf cX12_faultOf 5 (some .int) 1 d_X12_faultOf s_X12_faultOf) (g_X12_faultOf : d_X12_faultOf + 1 ≤ d) {J61 : zq_P} (j61 : zq_ok X 5 61 J61) {Q : zq_Q} (hq : zq_R X (some .int) 1 Q) : zq_ok X 5 0 (xX12_rule_0 s_X12_begins s_X12_readsRank s_X12_faultOf J61 Q) := by
  refine zs_aload_n C dX12_rule_0 rfl ?_
  refine zs_iconst C dX12_rule_1 (by decide) ?_
  refine zs_putI C zp_56 zF12 (j := 0) ⟨by decide, rfl⟩ ⟨rfl, by decide +kernel⟩ zw_1096 dX12_rule_2 ?_
  refine zs_aload_n C dX12_rule_5 rfl ?_
  refine zs_bipush C dX12_rule_6 (by decide) ?_
  refine zs_callV C h_X12_begins g_X12_begins zy_X12_begins zp_56 (show vwCl[12]? = some (RX12, TX12, 67) from rfl) zw_1318 zw_1320 zs9_X12_begins dX12_rule_8 ?_
  refine zs_istore_n C dX12_rule_11 rfl (by decide) ?_
  refine zs_aload_n C dX12_rule_12 rfl ?_
  refine zs_iconst C dX12_rule_13 (by decide) ?_
  refine zs_putI C zp_56 zF12 (j := 26) ⟨by decide, rfl⟩ ⟨rfl, by decide +kernel⟩ zw_1122 dX12_rule_14 ?_
  refine zs_iload_n C dX12_rule_17 rfl ?_
  exact zs_if_eq C dX12_rule_18 (by decide) (kX12_rule_29 C h_X12_begins g_X12_begins h_X12_readsRank g_X12_readsRank h_X12_faultOf g_X12_faultOf j61 hq) (kX12_rule_21 C h_X12_begins g_X12_begins h_X12_readsRank g_X12_readsRank h_X12_faultOf g_X12_faultOf j61 hq)
theorem mX12_rule {d : Nat} {spec : zq_Sp} {σ61 : Type} {d_X12_begins : Nat} {s_X12_begins : zq_Sp} (h_X12_begins : zq_M yX12_begins cX12_begins 3 (some .int) 1 d_X12_begins s_X12_begins) (g_X12_begins : d_X12_begins + 1 ≤ d) {d_X12_readsRank : Nat} {s_X12_readsRank : zq_Sp} (h_X12_readsRank : zq_M yX12_readsRank cX12_readsRank 4 (some .boolean) 1 d_X12_readsRank s_X12_readsRank) (g_X12_readsRank : d_X12_readsRank + 1 ≤ d) {d_X12_faultOf : Nat} {s_X12_faultOf : zq_Sp} (h_X12_faultOf : zq_M yX12_faultOf cX12_faultOf 5 (some .int) 1 d_X12_faultOf s_X12_faultOf) (g_X12_faultOf : d_X12_faultOf + 1 ≤ d) (μ61 : σ61 → Nat) (I61 : zq_Q → σ61 → zq_P) (v : ∀ args h Q, spec args h Q → (zq_a args).length ≤ 5 ∧ xX12_rule_0 s_X12_begins s_X12_readsRank s_X12_faultOf (fun ls st h => ∃ b, I61 Q b ls st h) Q (zq_l0 5 args) [] h) (v61 : ∀ Q a ls st h, I61 Q a ls st h → xX12_rule_61 s_X12_begins s_X12_readsRank s_X12_faultOf (fun ls st h => ∃ b, μ61 b < μ61 a ∧ I61 Q b ls st h) Q ls st h) : zq_M yX12_rule cX12_rule 5 (some .int) 1 d spec := by
  refine zq_met (by decide +kernel) (by decide) (fun X Q args h C hq hs => ⟨(v args h Q hs).1, _, ?_, (v args h Q hs).2⟩)
  have hl := zq_loop1 (X := X) (nL := 5) (pc1 := 61) μ61 (I61 Q) (fun J61 => xX12_rule_61 s_X12_begins s_X12_readsRank s_X12_faultOf J61 Q) (fun j61 => kX12_rule_61 C h_X12_begins g_X12_begins h_X12_readsRank g_X12_readsRank h_X12_faultOf g_X12_faultOf j61 hq) (v61 Q)
  exact kX12_rule_0 C h_X12_begins g_X12_begins h_X12_readsRank g_X12_readsRank h_X12_faultOf g_X12_faultOf hl hq
/-! ToOneCrumbModel.worked(III)I -/
theorem dX12_worked_0 : decode cX12_worked 0 = .ok (.iload_n 0, 1) := by decide +kernel
theorem dX12_worked_1 : decode cX12_worked 1 = .ok (.tableswitch 93 0 5 #[39, 53, 67, 81, 85, 89], 39) := by decide +kernel
theorem dX12_worked_40 : decode cX12_worked 40 = .ok (.iload_n 1, 1) := by decide +kernel
theorem dX12_worked_41 : decode cX12_worked 41 = .ok (.iload_n 2, 1) := by decide +kernel
theorem dX12_worked_42 : decode cX12_worked 42 = .ok (.if_icmp .ge 7, 3) := by decide +kernel
theorem dX12_worked_45 : decode cX12_worked 45 = .ok (.iconst 1, 1) := by decide +kernel
theorem dX12_worked_46 : decode cX12_worked 46 = .ok (.goto 4, 3) := by decide +kernel
theorem dX12_worked_49 : decode cX12_worked 49 = .ok (.iconst 0, 1) := by decide +kernel
theorem dX12_worked_50 : decode cX12_worked 50 = .ok (.invokestatic 190, 3) := by decide +kernel
theorem dX12_worked_53 : decode cX12_worked 53 = .ok (.ireturn, 1) := by decide +kernel
theorem dX12_worked_54 : decode cX12_worked 54 = .ok (.iload_n 1, 1) := by decide +kernel
theorem dX12_worked_55 : decode cX12_worked 55 = .ok (.iload_n 2, 1) := by decide +kernel
theorem dX12_worked_56 : decode cX12_worked 56 = .ok (.if_icmp .le 7, 3) := by decide +kernel
theorem dX12_worked_59 : decode cX12_worked 59 = .ok (.iconst 1, 1) := by decide +kernel
theorem dX12_worked_60 : decode cX12_worked 60 = .ok (.goto 4, 3) := by decide +kernel
theorem dX12_worked_63 : decode cX12_worked 63 = .ok (.iconst 0, 1) := by decide +kernel
theorem dX12_worked_64 : decode cX12_worked 64 = .ok (.invokestatic 190, 3) := by decide +kernel
theorem dX12_worked_67 : decode cX12_worked 67 = .ok (.ireturn, 1) := by decide +kernel
theorem dX12_worked_68 : decode cX12_worked 68 = .ok (.iload_n 1, 1) := by decide +kernel
theorem dX12_worked_69 : decode cX12_worked 69 = .ok (.iload_n 2, 1) := by decide +kernel
theorem dX12_worked_70 : decode cX12_worked 70 = .ok (.if_icmp .ne 7, 3) := by decide +kernel
theorem dX12_worked_73 : decode cX12_worked 73 = .ok (.iconst 1, 1) := by decide +kernel
theorem dX12_worked_74 : decode cX12_worked 74 = .ok (.goto 4, 3) := by decide +kernel
theorem dX12_worked_77 : decode cX12_worked 77 = .ok (.iconst 0, 1) := by decide +kernel
theorem dX12_worked_78 : decode cX12_worked 78 = .ok (.invokestatic 190, 3) := by decide +kernel
theorem dX12_worked_81 : decode cX12_worked 81 = .ok (.ireturn, 1) := by decide +kernel
theorem dX12_worked_82 : decode cX12_worked 82 = .ok (.iload_n 1, 1) := by decide +kernel
theorem dX12_worked_83 : decode cX12_worked 83 = .ok (.iload_n 2, 1) := by decide +kernel
theorem dX12_worked_84 : decode cX12_worked 84 = .ok (.iadd, 1) := by decide +kernel
theorem dX12_worked_85 : decode cX12_worked 85 = .ok (.ireturn, 1) := by decide +kernel
theorem dX12_worked_86 : decode cX12_worked 86 = .ok (.iload_n 1, 1) := by decide +kernel
theorem dX12_worked_87 : decode cX12_worked 87 = .ok (.iload_n 2, 1) := by decide +kernel
theorem dX12_worked_88 : decode cX12_worked 88 = .ok (.isub, 1) := by decide +kernel
theorem dX12_worked_89 : decode cX12_worked 89 = .ok (.ireturn, 1) := by decide +kernel
theorem dX12_worked_90 : decode cX12_worked 90 = .ok (.iload_n 1, 1) := by decide +kernel
theorem dX12_worked_91 : decode cX12_worked 91 = .ok (.iload_n 2, 1) := by decide +kernel
theorem dX12_worked_92 : decode cX12_worked 92 = .ok (.imul, 1) := by decide +kernel
theorem dX12_worked_93 : decode cX12_worked 93 = .ok (.ireturn, 1) := by decide +kernel
theorem dX12_worked_94 : decode cX12_worked 94 = .ok (.iload_n 2, 1) := by decide +kernel
theorem dX12_worked_95 : decode cX12_worked 95 = .ok (.ifCond .ne 7, 3) := by decide +kernel
theorem dX12_worked_98 : decode cX12_worked 98 = .ok (.iconst 0, 1) := by decide +kernel
theorem dX12_worked_99 : decode cX12_worked 99 = .ok (.goto 6, 3) := by decide +kernel
theorem dX12_worked_102 : decode cX12_worked 102 = .ok (.iload_n 1, 1) := by decide +kernel
theorem dX12_worked_103 : decode cX12_worked 103 = .ok (.iload_n 2, 1) := by decide +kernel
theorem dX12_worked_104 : decode cX12_worked 104 = .ok (.idiv, 1) := by decide +kernel
theorem dX12_worked_105 : decode cX12_worked 105 = .ok (.ireturn, 1) := by decide +kernel
def xX12_worked_105 (s_X12_flag : zq_Sp) (Q : zq_Q) (ls : zq_L) (st : List Value) (h : zq_H) : Prop := (zi_iret Q) ls st h
theorem kX12_worked_105 {X : zq_X} {d : Nat} (C : zq_C X cX12_worked 3 RX12 d) {d_X12_flag : Nat} {s_X12_flag : zq_Sp} (h_X12_flag : zq_M yX12_flag cX12_flag 1 (some .int) 1 d_X12_flag s_X12_flag) (g_X12_flag : d_X12_flag + 1 ≤ d) {Q : zq_Q} (hq : zq_R X (some .int) 1 Q) : zq_ok X 3 105 (xX12_worked_105 s_X12_flag Q) := by
  exact zs_iret C hq dX12_worked_105
def xX12_worked_102 (s_X12_flag : zq_Sp) (Q : zq_Q) (ls : zq_L) (st : List Value) (h : zq_H) : Prop := (zi_iload 1 (zi_iload 2 (zi_idv (fun x y => x / y) ((xX12_worked_105 s_X12_flag Q))))) ls st h
theorem kX12_worked_102 {X : zq_X} {d : Nat} (C : zq_C X cX12_worked 3 RX12 d) {d_X12_flag : Nat} {s_X12_flag : zq_Sp} (h_X12_flag : zq_M yX12_flag cX12_flag 1 (some .int) 1 d_X12_flag s_X12_flag) (g_X12_flag : d_X12_flag + 1 ≤ d) {Q : zq_Q} (hq : zq_R X (some .int) 1 Q) : zq_ok X 3 102 (xX12_worked_102 s_X12_flag Q) := by
  refine zs_iload_n C dX12_worked_102 rfl ?_
  refine zs_iload_n C dX12_worked_103 rfl ?_
  refine zs_idiv C dX12_worked_104 ?_
  exact kX12_worked_105 C h_X12_flag g_X12_flag hq
def xX12_worked_98 (s_X12_flag : zq_Sp) (Q : zq_Q) (ls : zq_L) (st : List Value) (h : zq_H) : Prop := (zi_push (.int 0) ((xX12_worked_105 s_X12_flag Q))) ls st h
theorem kX12_worked_98 {X : zq_X} {d : Nat} (C : zq_C X cX12_worked 3 RX12 d) {d_X12_flag : Nat} {s_X12_flag : zq_Sp} (h_X12_flag : zq_M yX12_flag cX12_flag 1 (some .int) 1 d_X12_flag s_X12_flag) (g_X12_flag : d_X12_flag + 1 ≤ d) {Q : zq_Q} (hq : zq_R X (some .int) 1 Q) : zq_ok X 3 98 (xX12_worked_98 s_X12_flag Q) := by
  refine zs_iconst C dX12_worked_98 (by decide) ?_
  exact zs_goto C dX12_worked_99 (by decide) (kX12_worked_105 C h_X12_flag g_X12_flag hq)
def xX12_worked_94 (s_X12_flag : zq_Sp) (Q : zq_Q) (ls : zq_L) (st : List Value) (h : zq_H) : Prop := (zi_iload 2 (zi_if1 (fun x => x = 0) (xX12_worked_98 s_X12_flag Q) (xX12_worked_102 s_X12_flag Q))) ls st h
theorem kX12_worked_94 {X : zq_X} {d : Nat} (C : zq_C X cX12_worked 3 RX12 d) {d_X12_flag : Nat} {s_X12_flag : zq_Sp} (h_X12_flag : zq_M yX12_flag cX12_flag 1 (some .int) 1 d_X12_flag s_X12_flag) (g_X12_flag : d_X12_flag + 1 ≤ d) {Q : zq_Q} (hq : zq_R X (some .int) 1 Q) : zq_ok X 3 94 (xX12_worked_94 s_X12_flag Q) := by
  refine zs_iload_n C dX12_worked_94 rfl ?_
  exact zs_if_ne C dX12_worked_95 (by decide) (kX12_worked_102 C h_X12_flag g_X12_flag hq) (kX12_worked_98 C h_X12_flag g_X12_flag hq)
def xX12_worked_90 (s_X12_flag : zq_Sp) (Q : zq_Q) (ls : zq_L) (st : List Value) (h : zq_H) : Prop := (zi_iload 1 (zi_iload 2 (zi_i2 (fun x y => x * y) (zi_iret Q)))) ls st h
theorem kX12_worked_90 {X : zq_X} {d : Nat} (C : zq_C X cX12_worked 3 RX12 d) {d_X12_flag : Nat} {s_X12_flag : zq_Sp} (h_X12_flag : zq_M yX12_flag cX12_flag 1 (some .int) 1 d_X12_flag s_X12_flag) (g_X12_flag : d_X12_flag + 1 ≤ d) {Q : zq_Q} (hq : zq_R X (some .int) 1 Q) : zq_ok X 3 90 (xX12_worked_90 s_X12_flag Q) := by
  refine zs_iload_n C dX12_worked_90 rfl ?_
  refine zs_iload_n C dX12_worked_91 rfl ?_
  refine zs_imul C dX12_worked_92 ?_
  exact zs_iret C hq dX12_worked_93
def xX12_worked_86 (s_X12_flag : zq_Sp) (Q : zq_Q) (ls : zq_L) (st : List Value) (h : zq_H) : Prop := (zi_iload 1 (zi_iload 2 (zi_i2 (fun x y => x - y) (zi_iret Q)))) ls st h
theorem kX12_worked_86 {X : zq_X} {d : Nat} (C : zq_C X cX12_worked 3 RX12 d) {d_X12_flag : Nat} {s_X12_flag : zq_Sp} (h_X12_flag : zq_M yX12_flag cX12_flag 1 (some .int) 1 d_X12_flag s_X12_flag) (g_X12_flag : d_X12_flag + 1 ≤ d) {Q : zq_Q} (hq : zq_R X (some .int) 1 Q) : zq_ok X 3 86 (xX12_worked_86 s_X12_flag Q) := by
  refine zs_iload_n C dX12_worked_86 rfl ?_
  refine zs_iload_n C dX12_worked_87 rfl ?_
  refine zs_isub C dX12_worked_88 ?_
  exact zs_iret C hq dX12_worked_89
def xX12_worked_82 (s_X12_flag : zq_Sp) (Q : zq_Q) (ls : zq_L) (st : List Value) (h : zq_H) : Prop := (zi_iload 1 (zi_iload 2 (zi_i2 (fun x y => x + y) (zi_iret Q)))) ls st h
theorem kX12_worked_82 {X : zq_X} {d : Nat} (C : zq_C X cX12_worked 3 RX12 d) {d_X12_flag : Nat} {s_X12_flag : zq_Sp} (h_X12_flag : zq_M yX12_flag cX12_flag 1 (some .int) 1 d_X12_flag s_X12_flag) (g_X12_flag : d_X12_flag + 1 ≤ d) {Q : zq_Q} (hq : zq_R X (some .int) 1 Q) : zq_ok X 3 82 (xX12_worked_82 s_X12_flag Q) := by
  refine zs_iload_n C dX12_worked_82 rfl ?_
  refine zs_iload_n C dX12_worked_83 rfl ?_
  refine zs_iadd C dX12_worked_84 ?_
  exact zs_iret C hq dX12_worked_85
def xX12_worked_78 (s_X12_flag : zq_Sp) (Q : zq_Q) (ls : zq_L) (st : List Value) (h : zq_H) : Prop := (zi_callS 1 s_X12_flag (zi_iret Q)) ls st h
theorem kX12_worked_78 {X : zq_X} {d : Nat} (C : zq_C X cX12_worked 3 RX12 d) {d_X12_flag : Nat} {s_X12_flag : zq_Sp} (h_X12_flag : zq_M yX12_flag cX12_flag 1 (some .int) 1 d_X12_flag s_X12_flag) (g_X12_flag : d_X12_flag + 1 ≤ d) {Q : zq_Q} (hq : zq_R X (some .int) 1 Q) : zq_ok X 3 78 (xX12_worked_78 s_X12_flag Q) := by
  refine zs_callS C h_X12_flag g_X12_flag zy_X12_flag zw_1380 zw_1381 dX12_worked_78 ?_
  exact zs_iret C hq dX12_worked_81
def xX12_worked_77 (s_X12_flag : zq_Sp) (Q : zq_Q) (ls : zq_L) (st : List Value) (h : zq_H) : Prop := (zi_push (.int 0) ((xX12_worked_78 s_X12_flag Q))) ls st h
theorem kX12_worked_77 {X : zq_X} {d : Nat} (C : zq_C X cX12_worked 3 RX12 d) {d_X12_flag : Nat} {s_X12_flag : zq_Sp} (h_X12_flag : zq_M yX12_flag cX12_flag 1 (some .int) 1 d_X12_flag s_X12_flag) (g_X12_flag : d_X12_flag + 1 ≤ d) {Q : zq_Q} (hq : zq_R X (some .int) 1 Q) : zq_ok X 3 77 (xX12_worked_77 s_X12_flag Q) := by
  refine zs_iconst C dX12_worked_77 (by decide) ?_
  exact kX12_worked_78 C h_X12_flag g_X12_flag hq
def xX12_worked_73 (s_X12_flag : zq_Sp) (Q : zq_Q) (ls : zq_L) (st : List Value) (h : zq_H) : Prop := (zi_push (.int 1) ((xX12_worked_78 s_X12_flag Q))) ls st h
theorem kX12_worked_73 {X : zq_X} {d : Nat} (C : zq_C X cX12_worked 3 RX12 d) {d_X12_flag : Nat} {s_X12_flag : zq_Sp} (h_X12_flag : zq_M yX12_flag cX12_flag 1 (some .int) 1 d_X12_flag s_X12_flag) (g_X12_flag : d_X12_flag + 1 ≤ d) {Q : zq_Q} (hq : zq_R X (some .int) 1 Q) : zq_ok X 3 73 (xX12_worked_73 s_X12_flag Q) := by
  refine zs_iconst C dX12_worked_73 (by decide) ?_
  exact zs_goto C dX12_worked_74 (by decide) (kX12_worked_78 C h_X12_flag g_X12_flag hq)
def xX12_worked_68 (s_X12_flag : zq_Sp) (Q : zq_Q) (ls : zq_L) (st : List Value) (h : zq_H) : Prop := (zi_iload 1 (zi_iload 2 (zi_if2 (fun x y => x = y) (xX12_worked_73 s_X12_flag Q) (xX12_worked_77 s_X12_flag Q)))) ls st h
theorem kX12_worked_68 {X : zq_X} {d : Nat} (C : zq_C X cX12_worked 3 RX12 d) {d_X12_flag : Nat} {s_X12_flag : zq_Sp} (h_X12_flag : zq_M yX12_flag cX12_flag 1 (some .int) 1 d_X12_flag s_X12_flag) (g_X12_flag : d_X12_flag + 1 ≤ d) {Q : zq_Q} (hq : zq_R X (some .int) 1 Q) : zq_ok X 3 68 (xX12_worked_68 s_X12_flag Q) := by
  refine zs_iload_n C dX12_worked_68 rfl ?_
  refine zs_iload_n C dX12_worked_69 rfl ?_
  exact zs_icmp_ne C dX12_worked_70 (by decide) (kX12_worked_77 C h_X12_flag g_X12_flag hq) (kX12_worked_73 C h_X12_flag g_X12_flag hq)
def xX12_worked_64 (s_X12_flag : zq_Sp) (Q : zq_Q) (ls : zq_L) (st : List Value) (h : zq_H) : Prop := (zi_callS 1 s_X12_flag (zi_iret Q)) ls st h
theorem kX12_worked_64 {X : zq_X} {d : Nat} (C : zq_C X cX12_worked 3 RX12 d) {d_X12_flag : Nat} {s_X12_flag : zq_Sp} (h_X12_flag : zq_M yX12_flag cX12_flag 1 (some .int) 1 d_X12_flag s_X12_flag) (g_X12_flag : d_X12_flag + 1 ≤ d) {Q : zq_Q} (hq : zq_R X (some .int) 1 Q) : zq_ok X 3 64 (xX12_worked_64 s_X12_flag Q) := by
  refine zs_callS C h_X12_flag g_X12_flag zy_X12_flag zw_1380 zw_1381 dX12_worked_64 ?_
  exact zs_iret C hq dX12_worked_67
def xX12_worked_63 (s_X12_flag : zq_Sp) (Q : zq_Q) (ls : zq_L) (st : List Value) (h : zq_H) : Prop := (zi_push (.int 0) ((xX12_worked_64 s_X12_flag Q))) ls st h
theorem kX12_worked_63 {X : zq_X} {d : Nat} (C : zq_C X cX12_worked 3 RX12 d) {d_X12_flag : Nat} {s_X12_flag : zq_Sp} (h_X12_flag : zq_M yX12_flag cX12_flag 1 (some .int) 1 d_X12_flag s_X12_flag) (g_X12_flag : d_X12_flag + 1 ≤ d) {Q : zq_Q} (hq : zq_R X (some .int) 1 Q) : zq_ok X 3 63 (xX12_worked_63 s_X12_flag Q) := by
  refine zs_iconst C dX12_worked_63 (by decide) ?_
  exact kX12_worked_64 C h_X12_flag g_X12_flag hq
def xX12_worked_59 (s_X12_flag : zq_Sp) (Q : zq_Q) (ls : zq_L) (st : List Value) (h : zq_H) : Prop := (zi_push (.int 1) ((xX12_worked_64 s_X12_flag Q))) ls st h
theorem kX12_worked_59 {X : zq_X} {d : Nat} (C : zq_C X cX12_worked 3 RX12 d) {d_X12_flag : Nat} {s_X12_flag : zq_Sp} (h_X12_flag : zq_M yX12_flag cX12_flag 1 (some .int) 1 d_X12_flag s_X12_flag) (g_X12_flag : d_X12_flag + 1 ≤ d) {Q : zq_Q} (hq : zq_R X (some .int) 1 Q) : zq_ok X 3 59 (xX12_worked_59 s_X12_flag Q) := by
  refine zs_iconst C dX12_worked_59 (by decide) ?_
  exact zs_goto C dX12_worked_60 (by decide) (kX12_worked_64 C h_X12_flag g_X12_flag hq)
def xX12_worked_54 (s_X12_flag : zq_Sp) (Q : zq_Q) (ls : zq_L) (st : List Value) (h : zq_H) : Prop := (zi_iload 1 (zi_iload 2 (zi_if2 (fun x y => x ≤ y) (xX12_worked_63 s_X12_flag Q) (xX12_worked_59 s_X12_flag Q)))) ls st h
theorem kX12_worked_54 {X : zq_X} {d : Nat} (C : zq_C X cX12_worked 3 RX12 d) {d_X12_flag : Nat} {s_X12_flag : zq_Sp} (h_X12_flag : zq_M yX12_flag cX12_flag 1 (some .int) 1 d_X12_flag s_X12_flag) (g_X12_flag : d_X12_flag + 1 ≤ d) {Q : zq_Q} (hq : zq_R X (some .int) 1 Q) : zq_ok X 3 54 (xX12_worked_54 s_X12_flag Q) := by
  refine zs_iload_n C dX12_worked_54 rfl ?_
  refine zs_iload_n C dX12_worked_55 rfl ?_
  exact zs_icmp_le C dX12_worked_56 (by decide) (kX12_worked_63 C h_X12_flag g_X12_flag hq) (kX12_worked_59 C h_X12_flag g_X12_flag hq)
def xX12_worked_50 (s_X12_flag : zq_Sp) (Q : zq_Q) (ls : zq_L) (st : List Value) (h : zq_H) : Prop := (zi_callS 1 s_X12_flag (zi_iret Q)) ls st h
theorem kX12_worked_50 {X : zq_X} {d : Nat} (C : zq_C X cX12_worked 3 RX12 d) {d_X12_flag : Nat} {s_X12_flag : zq_Sp} (h_X12_flag : zq_M yX12_flag cX12_flag 1 (some .int) 1 d_X12_flag s_X12_flag) (g_X12_flag : d_X12_flag + 1 ≤ d) {Q : zq_Q} (hq : zq_R X (some .int) 1 Q) : zq_ok X 3 50 (xX12_worked_50 s_X12_flag Q) := by
  refine zs_callS C h_X12_flag g_X12_flag zy_X12_flag zw_1380 zw_1381 dX12_worked_50 ?_
  exact zs_iret C hq dX12_worked_53
def xX12_worked_49 (s_X12_flag : zq_Sp) (Q : zq_Q) (ls : zq_L) (st : List Value) (h : zq_H) : Prop := (zi_push (.int 0) ((xX12_worked_50 s_X12_flag Q))) ls st h
theorem kX12_worked_49 {X : zq_X} {d : Nat} (C : zq_C X cX12_worked 3 RX12 d) {d_X12_flag : Nat} {s_X12_flag : zq_Sp} (h_X12_flag : zq_M yX12_flag cX12_flag 1 (some .int) 1 d_X12_flag s_X12_flag) (g_X12_flag : d_X12_flag + 1 ≤ d) {Q : zq_Q} (hq : zq_R X (some .int) 1 Q) : zq_ok X 3 49 (xX12_worked_49 s_X12_flag Q) := by
  refine zs_iconst C dX12_worked_49 (by decide) ?_
  exact kX12_worked_50 C h_X12_flag g_X12_flag hq
def xX12_worked_45 (s_X12_flag : zq_Sp) (Q : zq_Q) (ls : zq_L) (st : List Value) (h : zq_H) : Prop := (zi_push (.int 1) ((xX12_worked_50 s_X12_flag Q))) ls st h
theorem kX12_worked_45 {X : zq_X} {d : Nat} (C : zq_C X cX12_worked 3 RX12 d) {d_X12_flag : Nat} {s_X12_flag : zq_Sp} (h_X12_flag : zq_M yX12_flag cX12_flag 1 (some .int) 1 d_X12_flag s_X12_flag) (g_X12_flag : d_X12_flag + 1 ≤ d) {Q : zq_Q} (hq : zq_R X (some .int) 1 Q) : zq_ok X 3 45 (xX12_worked_45 s_X12_flag Q) := by
  refine zs_iconst C dX12_worked_45 (by decide) ?_
  exact zs_goto C dX12_worked_46 (by decide) (kX12_worked_50 C h_X12_flag g_X12_flag hq)
def xX12_worked_40 (s_X12_flag : zq_Sp) (Q : zq_Q) (ls : zq_L) (st : List Value) (h : zq_H) : Prop := (zi_iload 1 (zi_iload 2 (zi_if2 (fun x y => y ≤ x) (xX12_worked_49 s_X12_flag Q) (xX12_worked_45 s_X12_flag Q)))) ls st h
theorem kX12_worked_40 {X : zq_X} {d : Nat} (C : zq_C X cX12_worked 3 RX12 d) {d_X12_flag : Nat} {s_X12_flag : zq_Sp} (h_X12_flag : zq_M yX12_flag cX12_flag 1 (some .int) 1 d_X12_flag s_X12_flag) (g_X12_flag : d_X12_flag + 1 ≤ d) {Q : zq_Q} (hq : zq_R X (some .int) 1 Q) : zq_ok X 3 40 (xX12_worked_40 s_X12_flag Q) := by
  refine zs_iload_n C dX12_worked_40 rfl ?_
  refine zs_iload_n C dX12_worked_41 rfl ?_
  exact zs_icmp_ge C dX12_worked_42 (by decide) (kX12_worked_49 C h_X12_flag g_X12_flag hq) (kX12_worked_45 C h_X12_flag g_X12_flag hq)
def xX12_worked_0 (s_X12_flag : zq_Sp) (Q : zq_Q) (ls : zq_L) (st : List Value) (h : zq_H) : Prop := (zi_iload 0 (zi_sw [(0, (xX12_worked_40 s_X12_flag Q)), (1, (xX12_worked_54 s_X12_flag Q)), (2, (xX12_worked_68 s_X12_flag Q)), (3, (xX12_worked_82 s_X12_flag Q)), (4, (xX12_worked_86 s_X12_flag Q)), (5, (xX12_worked_90 s_X12_flag Q))] (xX12_worked_94 s_X12_flag Q))) ls st h
theorem kX12_worked_0 {X : zq_X} {d : Nat} (C : zq_C X cX12_worked 3 RX12 d) {d_X12_flag : Nat} {s_X12_flag : zq_Sp} (h_X12_flag : zq_M yX12_flag cX12_flag 1 (some .int) 1 d_X12_flag s_X12_flag) (g_X12_flag : d_X12_flag + 1 ≤ d) {Q : zq_Q} (hq : zq_R X (some .int) 1 Q) : zq_ok X 3 0 (xX12_worked_0 s_X12_flag Q) := by
  refine zs_iload_n C dX12_worked_0 rfl ?_
  exact zs_tsw C dX12_worked_1 (by rfl) ⟨⟨by decide, _, _, rfl, by decide, kX12_worked_40 C h_X12_flag g_X12_flag hq⟩, ⟨by decide, _, _, rfl, by decide, kX12_worked_54 C h_X12_flag g_X12_flag hq⟩, ⟨by decide, _, _, rfl, by decide, kX12_worked_68 C h_X12_flag g_X12_flag hq⟩, ⟨by decide, _, _, rfl, by decide, kX12_worked_82 C h_X12_flag g_X12_flag hq⟩, ⟨by decide, _, _, rfl, by decide, kX12_worked_86 C h_X12_flag g_X12_flag hq⟩, ⟨by decide, _, _, rfl, by decide, kX12_worked_90 C h_X12_flag g_X12_flag hq⟩, trivial⟩ (by decide) (kX12_worked_94 C h_X12_flag g_X12_flag hq)
theorem mX12_worked {d : Nat} {spec : zq_Sp} {d_X12_flag : Nat} {s_X12_flag : zq_Sp} (h_X12_flag : zq_M yX12_flag cX12_flag 1 (some .int) 1 d_X12_flag s_X12_flag) (g_X12_flag : d_X12_flag + 1 ≤ d) (v : ∀ args h Q, spec args h Q → (zq_a args).length ≤ 3 ∧ xX12_worked_0 s_X12_flag Q (zq_l0 3 args) [] h) : zq_M yX12_worked cX12_worked 3 (some .int) 1 d spec := by
  refine zq_met (by decide +kernel) (by decide) (fun X Q args h C hq hs => ⟨(v args h Q hs).1, _, ?_, (v args h Q hs).2⟩)
  exact kX12_worked_0 C h_X12_flag g_X12_flag hq
/-! ToOneCrumbModel.ruled()I -/
theorem dX12_ruled_0 : decode cX12_ruled 0 = .ok (.iconst 0, 1) := by decide +kernel
theorem dX12_ruled_1 : decode cX12_ruled 1 = .ok (.istore_n 1, 1) := by decide +kernel
theorem dX12_ruled_2 : decode cX12_ruled 2 = .ok (.iconst 0, 1) := by decide +kernel
theorem dX12_ruled_3 : decode cX12_ruled 3 = .ok (.istore_n 2, 1) := by decide +kernel
theorem dX12_ruled_4 : decode cX12_ruled 4 = .ok (.iload_n 2, 1) := by decide +kernel
theorem dX12_ruled_5 : decode cX12_ruled 5 = .ok (.aload_n 0, 1) := by decide +kernel
theorem dX12_ruled_6 : decode cX12_ruled 6 = .ok (.getfield 289, 3) := by decide +kernel
theorem dX12_ruled_9 : decode cX12_ruled 9 = .ok (.if_icmp .ge 116, 3) := by decide +kernel
theorem dX12_ruled_12 : decode cX12_ruled 12 = .ok (.aload_n 0, 1) := by decide +kernel
theorem dX12_ruled_13 : decode cX12_ruled 13 = .ok (.getfield 51, 3) := by decide +kernel
theorem dX12_ruled_16 : decode cX12_ruled 16 = .ok (.iload_n 2, 1) := by decide +kernel
theorem dX12_ruled_17 : decode cX12_ruled 17 = .ok (.iaload, 1) := by decide +kernel
theorem dX12_ruled_18 : decode cX12_ruled 18 = .ok (.istore_n 3, 1) := by decide +kernel
theorem dX12_ruled_19 : decode cX12_ruled 19 = .ok (.iload_n 3, 1) := by decide +kernel
theorem dX12_ruled_20 : decode cX12_ruled 20 = .ok (.sipush 3000, 3) := by decide +kernel
theorem dX12_ruled_23 : decode cX12_ruled 23 = .ok (.if_icmp .ne 23, 3) := by decide +kernel
theorem dX12_ruled_26 : decode cX12_ruled 26 = .ok (.aload_n 0, 1) := by decide +kernel
theorem dX12_ruled_27 : decode cX12_ruled 27 = .ok (.getfield 57, 3) := by decide +kernel
theorem dX12_ruled_30 : decode cX12_ruled 30 = .ok (.iload_n 1, 1) := by decide +kernel
theorem dX12_ruled_31 : decode cX12_ruled 31 = .ok (.iconst 1, 1) := by decide +kernel
theorem dX12_ruled_32 : decode cX12_ruled 32 = .ok (.isub, 1) := by decide +kernel
theorem dX12_ruled_33 : decode cX12_ruled 33 = .ok (.aload_n 0, 1) := by decide +kernel
theorem dX12_ruled_34 : decode cX12_ruled 34 = .ok (.getfield 57, 3) := by decide +kernel
theorem dX12_ruled_37 : decode cX12_ruled 37 = .ok (.iload_n 1, 1) := by decide +kernel
theorem dX12_ruled_38 : decode cX12_ruled 38 = .ok (.iconst 1, 1) := by decide +kernel
theorem dX12_ruled_39 : decode cX12_ruled 39 = .ok (.isub, 1) := by decide +kernel
theorem dX12_ruled_40 : decode cX12_ruled 40 = .ok (.iaload, 1) := by decide +kernel
theorem dX12_ruled_41 : decode cX12_ruled 41 = .ok (.ineg, 1) := by decide +kernel
theorem dX12_ruled_42 : decode cX12_ruled 42 = .ok (.iastore, 1) := by decide +kernel
theorem dX12_ruled_43 : decode cX12_ruled 43 = .ok (.goto 76, 3) := by decide +kernel
theorem dX12_ruled_46 : decode cX12_ruled 46 = .ok (.iload_n 3, 1) := by decide +kernel
theorem dX12_ruled_47 : decode cX12_ruled 47 = .ok (.sipush 2000, 3) := by decide +kernel
theorem dX12_ruled_50 : decode cX12_ruled 50 = .ok (.if_icmp .lt 39, 3) := by decide +kernel
theorem dX12_ruled_53 : decode cX12_ruled 53 = .ok (.iinc 1 (-1), 3) := by decide +kernel
theorem dX12_ruled_56 : decode cX12_ruled 56 = .ok (.aload_n 0, 1) := by decide +kernel
theorem dX12_ruled_57 : decode cX12_ruled 57 = .ok (.getfield 57, 3) := by decide +kernel
theorem dX12_ruled_60 : decode cX12_ruled 60 = .ok (.iload_n 1, 1) := by decide +kernel
theorem dX12_ruled_61 : decode cX12_ruled 61 = .ok (.iconst 1, 1) := by decide +kernel
theorem dX12_ruled_62 : decode cX12_ruled 62 = .ok (.isub, 1) := by decide +kernel
theorem dX12_ruled_63 : decode cX12_ruled 63 = .ok (.iload_n 3, 1) := by decide +kernel
theorem dX12_ruled_64 : decode cX12_ruled 64 = .ok (.sipush 2000, 3) := by decide +kernel
theorem dX12_ruled_67 : decode cX12_ruled 67 = .ok (.isub, 1) := by decide +kernel
theorem dX12_ruled_68 : decode cX12_ruled 68 = .ok (.aload_n 0, 1) := by decide +kernel
theorem dX12_ruled_69 : decode cX12_ruled 69 = .ok (.getfield 57, 3) := by decide +kernel
theorem dX12_ruled_72 : decode cX12_ruled 72 = .ok (.iload_n 1, 1) := by decide +kernel
theorem dX12_ruled_73 : decode cX12_ruled 73 = .ok (.iconst 1, 1) := by decide +kernel
theorem dX12_ruled_74 : decode cX12_ruled 74 = .ok (.isub, 1) := by decide +kernel
theorem dX12_ruled_75 : decode cX12_ruled 75 = .ok (.iaload, 1) := by decide +kernel
theorem dX12_ruled_76 : decode cX12_ruled 76 = .ok (.aload_n 0, 1) := by decide +kernel
theorem dX12_ruled_77 : decode cX12_ruled 77 = .ok (.getfield 57, 3) := by decide +kernel
theorem dX12_ruled_80 : decode cX12_ruled 80 = .ok (.iload_n 1, 1) := by decide +kernel
theorem dX12_ruled_81 : decode cX12_ruled 81 = .ok (.iaload, 1) := by decide +kernel
theorem dX12_ruled_82 : decode cX12_ruled 82 = .ok (.invokestatic 292, 3) := by decide +kernel
theorem dX12_ruled_85 : decode cX12_ruled 85 = .ok (.iastore, 1) := by decide +kernel
theorem dX12_ruled_86 : decode cX12_ruled 86 = .ok (.goto 33, 3) := by decide +kernel
theorem dX12_ruled_89 : decode cX12_ruled 89 = .ok (.aload_n 0, 1) := by decide +kernel
theorem dX12_ruled_90 : decode cX12_ruled 90 = .ok (.getfield 57, 3) := by decide +kernel
theorem dX12_ruled_93 : decode cX12_ruled 93 = .ok (.iload_n 1, 1) := by decide +kernel
theorem dX12_ruled_94 : decode cX12_ruled 94 = .ok (.iload_n 3, 1) := by decide +kernel
theorem dX12_ruled_95 : decode cX12_ruled 95 = .ok (.sipush 1000, 3) := by decide +kernel
theorem dX12_ruled_98 : decode cX12_ruled 98 = .ok (.if_icmp .lt 16, 3) := by decide +kernel
theorem dX12_ruled_101 : decode cX12_ruled 101 = .ok (.aload_n 0, 1) := by decide +kernel
theorem dX12_ruled_102 : decode cX12_ruled 102 = .ok (.getfield 60, 3) := by decide +kernel
theorem dX12_ruled_105 : decode cX12_ruled 105 = .ok (.iload_n 3, 1) := by decide +kernel
theorem dX12_ruled_106 : decode cX12_ruled 106 = .ok (.sipush 1000, 3) := by decide +kernel
theorem dX12_ruled_109 : decode cX12_ruled 109 = .ok (.isub, 1) := by decide +kernel
theorem dX12_ruled_110 : decode cX12_ruled 110 = .ok (.iaload, 1) := by decide +kernel
theorem dX12_ruled_111 : decode cX12_ruled 111 = .ok (.goto 4, 3) := by decide +kernel
theorem dX12_ruled_114 : decode cX12_ruled 114 = .ok (.iload_n 3, 1) := by decide +kernel
theorem dX12_ruled_115 : decode cX12_ruled 115 = .ok (.iastore, 1) := by decide +kernel
theorem dX12_ruled_116 : decode cX12_ruled 116 = .ok (.iinc 1 1, 3) := by decide +kernel
theorem dX12_ruled_119 : decode cX12_ruled 119 = .ok (.iinc 2 1, 3) := by decide +kernel
theorem dX12_ruled_122 : decode cX12_ruled 122 = .ok (.goto (-118), 3) := by decide +kernel
theorem dX12_ruled_125 : decode cX12_ruled 125 = .ok (.aload_n 0, 1) := by decide +kernel
theorem dX12_ruled_126 : decode cX12_ruled 126 = .ok (.getfield 289, 3) := by decide +kernel
theorem dX12_ruled_129 : decode cX12_ruled 129 = .ok (.ifCond .ne 47, 3) := by decide +kernel
theorem dX12_ruled_132 : decode cX12_ruled 132 = .ok (.aload_n 0, 1) := by decide +kernel
theorem dX12_ruled_133 : decode cX12_ruled 133 = .ok (.getfield 60, 3) := by decide +kernel
theorem dX12_ruled_136 : decode cX12_ruled 136 = .ok (.iconst 0, 1) := by decide +kernel
theorem dX12_ruled_137 : decode cX12_ruled 137 = .ok (.iaload, 1) := by decide +kernel
theorem dX12_ruled_138 : decode cX12_ruled 138 = .ok (.aload_n 0, 1) := by decide +kernel
theorem dX12_ruled_139 : decode cX12_ruled 139 = .ok (.getfield 60, 3) := by decide +kernel
theorem dX12_ruled_142 : decode cX12_ruled 142 = .ok (.iconst 3, 1) := by decide +kernel
theorem dX12_ruled_143 : decode cX12_ruled 143 = .ok (.iaload, 1) := by decide +kernel
theorem dX12_ruled_144 : decode cX12_ruled 144 = .ok (.imul, 1) := by decide +kernel
theorem dX12_ruled_145 : decode cX12_ruled 145 = .ok (.aload_n 0, 1) := by decide +kernel
theorem dX12_ruled_146 : decode cX12_ruled 146 = .ok (.getfield 60, 3) := by decide +kernel
theorem dX12_ruled_149 : decode cX12_ruled 149 = .ok (.iconst 1, 1) := by decide +kernel
theorem dX12_ruled_150 : decode cX12_ruled 150 = .ok (.iaload, 1) := by decide +kernel
theorem dX12_ruled_151 : decode cX12_ruled 151 = .ok (.aload_n 0, 1) := by decide +kernel
theorem dX12_ruled_152 : decode cX12_ruled 152 = .ok (.getfield 60, 3) := by decide +kernel
theorem dX12_ruled_155 : decode cX12_ruled 155 = .ok (.iconst 4, 1) := by decide +kernel
theorem dX12_ruled_156 : decode cX12_ruled 156 = .ok (.iaload, 1) := by decide +kernel
theorem dX12_ruled_157 : decode cX12_ruled 157 = .ok (.imul, 1) := by decide +kernel
theorem dX12_ruled_158 : decode cX12_ruled 158 = .ok (.iadd, 1) := by decide +kernel
theorem dX12_ruled_159 : decode cX12_ruled 159 = .ok (.aload_n 0, 1) := by decide +kernel
theorem dX12_ruled_160 : decode cX12_ruled 160 = .ok (.getfield 60, 3) := by decide +kernel
theorem dX12_ruled_163 : decode cX12_ruled 163 = .ok (.iconst 2, 1) := by decide +kernel
theorem dX12_ruled_164 : decode cX12_ruled 164 = .ok (.iaload, 1) := by decide +kernel
theorem dX12_ruled_165 : decode cX12_ruled 165 = .ok (.aload_n 0, 1) := by decide +kernel
theorem dX12_ruled_166 : decode cX12_ruled 166 = .ok (.getfield 60, 3) := by decide +kernel
theorem dX12_ruled_169 : decode cX12_ruled 169 = .ok (.iconst 5, 1) := by decide +kernel
theorem dX12_ruled_170 : decode cX12_ruled 170 = .ok (.iaload, 1) := by decide +kernel
theorem dX12_ruled_171 : decode cX12_ruled 171 = .ok (.imul, 1) := by decide +kernel
theorem dX12_ruled_172 : decode cX12_ruled 172 = .ok (.iadd, 1) := by decide +kernel
theorem dX12_ruled_173 : decode cX12_ruled 173 = .ok (.goto 9, 3) := by decide +kernel
theorem dX12_ruled_176 : decode cX12_ruled 176 = .ok (.aload_n 0, 1) := by decide +kernel
theorem dX12_ruled_177 : decode cX12_ruled 177 = .ok (.getfield 57, 3) := by decide +kernel
theorem dX12_ruled_180 : decode cX12_ruled 180 = .ok (.iconst 0, 1) := by decide +kernel
theorem dX12_ruled_181 : decode cX12_ruled 181 = .ok (.iaload, 1) := by decide +kernel
theorem dX12_ruled_182 : decode cX12_ruled 182 = .ok (.istore_n 2, 1) := by decide +kernel
theorem dX12_ruled_183 : decode cX12_ruled 183 = .ok (.iconst 0, 1) := by decide +kernel
theorem dX12_ruled_184 : decode cX12_ruled 184 = .ok (.sipush 999, 3) := by decide +kernel
theorem dX12_ruled_187 : decode cX12_ruled 187 = .ok (.iload_n 2, 1) := by decide +kernel
theorem dX12_ruled_188 : decode cX12_ruled 188 = .ok (.invokestatic 181, 3) := by decide +kernel
theorem dX12_ruled_191 : decode cX12_ruled 191 = .ok (.invokestatic 262, 3) := by decide +kernel
theorem dX12_ruled_194 : decode cX12_ruled 194 = .ok (.ireturn, 1) := by decide +kernel
def xX12_ruled_182 (s_X12_worked : zq_Sp) (J4 : zq_P) (Q : zq_Q) (ls : zq_L) (st : List Value) (h : zq_H) : Prop := (zi_istore 2 (zi_push (.int 0) (zi_push (.int 999) (zi_iload 2 (zi_m2 zf_min (zi_m2 zf_max (zi_iret Q))))))) ls st h
theorem kX12_ruled_182 {X : zq_X} {d : Nat} (C : zq_C X cX12_ruled 4 RX12 d) (hd1 : 1 ≤ d) {d_X12_worked : Nat} {s_X12_worked : zq_Sp} (h_X12_worked : zq_M yX12_worked cX12_worked 3 (some .int) 1 d_X12_worked s_X12_worked) (g_X12_worked : d_X12_worked + 1 ≤ d) {J4 : zq_P} (j4 : zq_ok X 4 4 J4) {Q : zq_Q} (hq : zq_R X (some .int) 1 Q) : zq_ok X 4 182 (xX12_ruled_182 s_X12_worked J4 Q) := by
  refine zs_istore_n C dX12_ruled_182 rfl (by decide) ?_
  refine zs_iconst C dX12_ruled_183 (by decide) ?_
  refine zs_sipush C dX12_ruled_184 (by decide) ?_
  refine zs_iload_n C dX12_ruled_187 rfl ?_
  refine zs_mmin C hd1 zw_1322 zw_393 zw_14 zw_394 dX12_ruled_188 ?_
  refine zs_mmax C hd1 zw_1424 zw_454 zw_14 zw_455 dX12_ruled_191 ?_
  exact zs_iret C hq dX12_ruled_194
def xX12_ruled_176 (s_X12_worked : zq_Sp) (J4 : zq_P) (Q : zq_Q) (ls : zq_L) (st : List Value) (h : zq_H) : Prop := (zi_aload 0 (zi_getR 56 72 (zi_push (.int 0) (zi_aldI 72 80 ((xX12_ruled_182 s_X12_worked J4 Q)))))) ls st h
theorem kX12_ruled_176 {X : zq_X} {d : Nat} (C : zq_C X cX12_ruled 4 RX12 d) (hd1 : 1 ≤ d) {d_X12_worked : Nat} {s_X12_worked : zq_Sp} (h_X12_worked : zq_M yX12_worked cX12_worked 3 (some .int) 1 d_X12_worked s_X12_worked) (g_X12_worked : d_X12_worked + 1 ≤ d) {J4 : zq_P} (j4 : zq_ok X 4 4 J4) {Q : zq_Q} (hq : zq_R X (some .int) 1 Q) : zq_ok X 4 176 (xX12_ruled_176 s_X12_worked J4 Q) := by
  refine zs_aload_n C dX12_ruled_176 rfl ?_
  refine zs_getR C zp_56 zF12 (j := 27) ⟨by decide, rfl⟩ zw_1123 dX12_ruled_177 ?_
  refine zs_iconst C dX12_ruled_180 (by decide) ?_
  refine zs_iaload C zp_72 dX12_ruled_181 ?_
  exact kX12_ruled_182 C hd1 h_X12_worked g_X12_worked j4 hq
def xX12_ruled_132 (s_X12_worked : zq_Sp) (J4 : zq_P) (Q : zq_Q) (ls : zq_L) (st : List Value) (h : zq_H) : Prop := (zi_aload 0 (zi_getR 56 73 (zi_push (.int 0) (zi_aldI 73 9 (zi_aload 0 (zi_getR 56 73 (zi_push (.int 3) (zi_aldI 73 9 (zi_i2 (fun x y => x * y) (zi_aload 0 (zi_getR 56 73 (zi_push (.int 1) (zi_aldI 73 9 (zi_aload 0 (zi_getR 56 73 (zi_push (.int 4) (zi_aldI 73 9 (zi_i2 (fun x y => x * y) (zi_i2 (fun x y => x + y) (zi_aload 0 (zi_getR 56 73 (zi_push (.int 2) (zi_aldI 73 9 (zi_aload 0 (zi_getR 56 73 (zi_push (.int 5) (zi_aldI 73 9 (zi_i2 (fun x y => x * y) (zi_i2 (fun x y => x + y) ((xX12_ruled_182 s_X12_worked J4 Q))))))))))))))))))))))))))))))) ls st h
theorem kX12_ruled_132 {X : zq_X} {d : Nat} (C : zq_C X cX12_ruled 4 RX12 d) (hd1 : 1 ≤ d) {d_X12_worked : Nat} {s_X12_worked : zq_Sp} (h_X12_worked : zq_M yX12_worked cX12_worked 3 (some .int) 1 d_X12_worked s_X12_worked) (g_X12_worked : d_X12_worked + 1 ≤ d) {J4 : zq_P} (j4 : zq_ok X 4 4 J4) {Q : zq_Q} (hq : zq_R X (some .int) 1 Q) : zq_ok X 4 132 (xX12_ruled_132 s_X12_worked J4 Q) := by
  refine zs_aload_n C dX12_ruled_132 rfl ?_
  refine zs_getR C zp_56 zF12 (j := 28) ⟨by decide, rfl⟩ zw_1124 dX12_ruled_133 ?_
  refine zs_iconst C dX12_ruled_136 (by decide) ?_
  refine zs_iaload C zp_73 dX12_ruled_137 ?_
  refine zs_aload_n C dX12_ruled_138 rfl ?_
  refine zs_getR C zp_56 zF12 (j := 28) ⟨by decide, rfl⟩ zw_1124 dX12_ruled_139 ?_
  refine zs_iconst C dX12_ruled_142 (by decide) ?_
  refine zs_iaload C zp_73 dX12_ruled_143 ?_
  refine zs_imul C dX12_ruled_144 ?_
  refine zs_aload_n C dX12_ruled_145 rfl ?_
  refine zs_getR C zp_56 zF12 (j := 28) ⟨by decide, rfl⟩ zw_1124 dX12_ruled_146 ?_
  refine zs_iconst C dX12_ruled_149 (by decide) ?_
  refine zs_iaload C zp_73 dX12_ruled_150 ?_
  refine zs_aload_n C dX12_ruled_151 rfl ?_
  refine zs_getR C zp_56 zF12 (j := 28) ⟨by decide, rfl⟩ zw_1124 dX12_ruled_152 ?_
  refine zs_iconst C dX12_ruled_155 (by decide) ?_
  refine zs_iaload C zp_73 dX12_ruled_156 ?_
  refine zs_imul C dX12_ruled_157 ?_
  refine zs_iadd C dX12_ruled_158 ?_
  refine zs_aload_n C dX12_ruled_159 rfl ?_
  refine zs_getR C zp_56 zF12 (j := 28) ⟨by decide, rfl⟩ zw_1124 dX12_ruled_160 ?_
  refine zs_iconst C dX12_ruled_163 (by decide) ?_
  refine zs_iaload C zp_73 dX12_ruled_164 ?_
  refine zs_aload_n C dX12_ruled_165 rfl ?_
  refine zs_getR C zp_56 zF12 (j := 28) ⟨by decide, rfl⟩ zw_1124 dX12_ruled_166 ?_
  refine zs_iconst C dX12_ruled_169 (by decide) ?_
  refine zs_iaload C zp_73 dX12_ruled_170 ?_
  refine zs_imul C dX12_ruled_171 ?_
  refine zs_iadd C dX12_ruled_172 ?_
  exact zs_goto C dX12_ruled_173 (by decide) (kX12_ruled_182 C hd1 h_X12_worked g_X12_worked j4 hq)
def xX12_ruled_125 (s_X12_worked : zq_Sp) (J4 : zq_P) (Q : zq_Q) (ls : zq_L) (st : List Value) (h : zq_H) : Prop := (zi_aload 0 (zi_getI 56 25 (zi_if1 (fun x => x = 0) (xX12_ruled_132 s_X12_worked J4 Q) (xX12_ruled_176 s_X12_worked J4 Q)))) ls st h
theorem kX12_ruled_125 {X : zq_X} {d : Nat} (C : zq_C X cX12_ruled 4 RX12 d) (hd1 : 1 ≤ d) {d_X12_worked : Nat} {s_X12_worked : zq_Sp} (h_X12_worked : zq_M yX12_worked cX12_worked 3 (some .int) 1 d_X12_worked s_X12_worked) (g_X12_worked : d_X12_worked + 1 ≤ d) {J4 : zq_P} (j4 : zq_ok X 4 4 J4) {Q : zq_Q} (hq : zq_R X (some .int) 1 Q) : zq_ok X 4 125 (xX12_ruled_125 s_X12_worked J4 Q) := by
  refine zs_aload_n C dX12_ruled_125 rfl ?_
  refine zs_getI C zp_56 zF12 (j := 25) ⟨by decide, rfl⟩ zw_1121 dX12_ruled_126 ?_
  exact zs_if_ne C dX12_ruled_129 (by decide) (kX12_ruled_176 C hd1 h_X12_worked g_X12_worked j4 hq) (kX12_ruled_132 C hd1 h_X12_worked g_X12_worked j4 hq)
def xX12_ruled_119 (s_X12_worked : zq_Sp) (J4 : zq_P) (Q : zq_Q) (ls : zq_L) (st : List Value) (h : zq_H) : Prop := (zi_iinc 2 1 (J4)) ls st h
theorem kX12_ruled_119 {X : zq_X} {d : Nat} (C : zq_C X cX12_ruled 4 RX12 d) (hd1 : 1 ≤ d) {d_X12_worked : Nat} {s_X12_worked : zq_Sp} (h_X12_worked : zq_M yX12_worked cX12_worked 3 (some .int) 1 d_X12_worked s_X12_worked) (g_X12_worked : d_X12_worked + 1 ≤ d) {J4 : zq_P} (j4 : zq_ok X 4 4 J4) {Q : zq_Q} (hq : zq_R X (some .int) 1 Q) : zq_ok X 4 119 (xX12_ruled_119 s_X12_worked J4 Q) := by
  refine zs_iinc C dX12_ruled_119 (by decide) (by decide) ?_
  exact zs_goto C dX12_ruled_122 (by decide) (j4)
def xX12_ruled_115 (s_X12_worked : zq_Sp) (J4 : zq_P) (Q : zq_Q) (ls : zq_L) (st : List Value) (h : zq_H) : Prop := (zi_astI 72 80 (zi_iinc 1 1 ((xX12_ruled_119 s_X12_worked J4 Q)))) ls st h
theorem kX12_ruled_115 {X : zq_X} {d : Nat} (C : zq_C X cX12_ruled 4 RX12 d) (hd1 : 1 ≤ d) {d_X12_worked : Nat} {s_X12_worked : zq_Sp} (h_X12_worked : zq_M yX12_worked cX12_worked 3 (some .int) 1 d_X12_worked s_X12_worked) (g_X12_worked : d_X12_worked + 1 ≤ d) {J4 : zq_P} (j4 : zq_ok X 4 4 J4) {Q : zq_Q} (hq : zq_R X (some .int) 1 Q) : zq_ok X 4 115 (xX12_ruled_115 s_X12_worked J4 Q) := by
  refine zs_iastore C zp_72 dX12_ruled_115 ?_
  refine zs_iinc C dX12_ruled_116 (by decide) (by decide) ?_
  exact kX12_ruled_119 C hd1 h_X12_worked g_X12_worked j4 hq
def xX12_ruled_114 (s_X12_worked : zq_Sp) (J4 : zq_P) (Q : zq_Q) (ls : zq_L) (st : List Value) (h : zq_H) : Prop := (zi_iload 3 ((xX12_ruled_115 s_X12_worked J4 Q))) ls st h
theorem kX12_ruled_114 {X : zq_X} {d : Nat} (C : zq_C X cX12_ruled 4 RX12 d) (hd1 : 1 ≤ d) {d_X12_worked : Nat} {s_X12_worked : zq_Sp} (h_X12_worked : zq_M yX12_worked cX12_worked 3 (some .int) 1 d_X12_worked s_X12_worked) (g_X12_worked : d_X12_worked + 1 ≤ d) {J4 : zq_P} (j4 : zq_ok X 4 4 J4) {Q : zq_Q} (hq : zq_R X (some .int) 1 Q) : zq_ok X 4 114 (xX12_ruled_114 s_X12_worked J4 Q) := by
  refine zs_iload_n C dX12_ruled_114 rfl ?_
  exact kX12_ruled_115 C hd1 h_X12_worked g_X12_worked j4 hq
def xX12_ruled_101 (s_X12_worked : zq_Sp) (J4 : zq_P) (Q : zq_Q) (ls : zq_L) (st : List Value) (h : zq_H) : Prop := (zi_aload 0 (zi_getR 56 73 (zi_iload 3 (zi_push (.int 1000) (zi_i2 (fun x y => x - y) (zi_aldI 73 9 ((xX12_ruled_115 s_X12_worked J4 Q)))))))) ls st h
theorem kX12_ruled_101 {X : zq_X} {d : Nat} (C : zq_C X cX12_ruled 4 RX12 d) (hd1 : 1 ≤ d) {d_X12_worked : Nat} {s_X12_worked : zq_Sp} (h_X12_worked : zq_M yX12_worked cX12_worked 3 (some .int) 1 d_X12_worked s_X12_worked) (g_X12_worked : d_X12_worked + 1 ≤ d) {J4 : zq_P} (j4 : zq_ok X 4 4 J4) {Q : zq_Q} (hq : zq_R X (some .int) 1 Q) : zq_ok X 4 101 (xX12_ruled_101 s_X12_worked J4 Q) := by
  refine zs_aload_n C dX12_ruled_101 rfl ?_
  refine zs_getR C zp_56 zF12 (j := 28) ⟨by decide, rfl⟩ zw_1124 dX12_ruled_102 ?_
  refine zs_iload_n C dX12_ruled_105 rfl ?_
  refine zs_sipush C dX12_ruled_106 (by decide) ?_
  refine zs_isub C dX12_ruled_109 ?_
  refine zs_iaload C zp_73 dX12_ruled_110 ?_
  exact zs_goto C dX12_ruled_111 (by decide) (kX12_ruled_115 C hd1 h_X12_worked g_X12_worked j4 hq)
def xX12_ruled_89 (s_X12_worked : zq_Sp) (J4 : zq_P) (Q : zq_Q) (ls : zq_L) (st : List Value) (h : zq_H) : Prop := (zi_aload 0 (zi_getR 56 72 (zi_iload 1 (zi_iload 3 (zi_push (.int 1000) (zi_if2 (fun x y => x < y) (xX12_ruled_114 s_X12_worked J4 Q) (xX12_ruled_101 s_X12_worked J4 Q))))))) ls st h
theorem kX12_ruled_89 {X : zq_X} {d : Nat} (C : zq_C X cX12_ruled 4 RX12 d) (hd1 : 1 ≤ d) {d_X12_worked : Nat} {s_X12_worked : zq_Sp} (h_X12_worked : zq_M yX12_worked cX12_worked 3 (some .int) 1 d_X12_worked s_X12_worked) (g_X12_worked : d_X12_worked + 1 ≤ d) {J4 : zq_P} (j4 : zq_ok X 4 4 J4) {Q : zq_Q} (hq : zq_R X (some .int) 1 Q) : zq_ok X 4 89 (xX12_ruled_89 s_X12_worked J4 Q) := by
  refine zs_aload_n C dX12_ruled_89 rfl ?_
  refine zs_getR C zp_56 zF12 (j := 27) ⟨by decide, rfl⟩ zw_1123 dX12_ruled_90 ?_
  refine zs_iload_n C dX12_ruled_93 rfl ?_
  refine zs_iload_n C dX12_ruled_94 rfl ?_
  refine zs_sipush C dX12_ruled_95 (by decide) ?_
  exact zs_icmp_lt C dX12_ruled_98 (by decide) (kX12_ruled_114 C hd1 h_X12_worked g_X12_worked j4 hq) (kX12_ruled_101 C hd1 h_X12_worked g_X12_worked j4 hq)
def xX12_ruled_53 (s_X12_worked : zq_Sp) (J4 : zq_P) (Q : zq_Q) (ls : zq_L) (st : List Value) (h : zq_H) : Prop := (zi_iinc 1 (-1) (zi_aload 0 (zi_getR 56 72 (zi_iload 1 (zi_push (.int 1) (zi_i2 (fun x y => x - y) (zi_iload 3 (zi_push (.int 2000) (zi_i2 (fun x y => x - y) (zi_aload 0 (zi_getR 56 72 (zi_iload 1 (zi_push (.int 1) (zi_i2 (fun x y => x - y) (zi_aldI 72 80 (zi_aload 0 (zi_getR 56 72 (zi_iload 1 (zi_aldI 72 80 (zi_callS 3 s_X12_worked (zi_astI 72 80 ((xX12_ruled_119 s_X12_worked J4 Q))))))))))))))))))))))) ls st h
theorem kX12_ruled_53 {X : zq_X} {d : Nat} (C : zq_C X cX12_ruled 4 RX12 d) (hd1 : 1 ≤ d) {d_X12_worked : Nat} {s_X12_worked : zq_Sp} (h_X12_worked : zq_M yX12_worked cX12_worked 3 (some .int) 1 d_X12_worked s_X12_worked) (g_X12_worked : d_X12_worked + 1 ≤ d) {J4 : zq_P} (j4 : zq_ok X 4 4 J4) {Q : zq_Q} (hq : zq_R X (some .int) 1 Q) : zq_ok X 4 53 (xX12_ruled_53 s_X12_worked J4 Q) := by
  refine zs_iinc C dX12_ruled_53 (by decide) (by decide) ?_
  refine zs_aload_n C dX12_ruled_56 rfl ?_
  refine zs_getR C zp_56 zF12 (j := 27) ⟨by decide, rfl⟩ zw_1123 dX12_ruled_57 ?_
  refine zs_iload_n C dX12_ruled_60 rfl ?_
  refine zs_iconst C dX12_ruled_61 (by decide) ?_
  refine zs_isub C dX12_ruled_62 ?_
  refine zs_iload_n C dX12_ruled_63 rfl ?_
  refine zs_sipush C dX12_ruled_64 (by decide) ?_
  refine zs_isub C dX12_ruled_67 ?_
  refine zs_aload_n C dX12_ruled_68 rfl ?_
  refine zs_getR C zp_56 zF12 (j := 27) ⟨by decide, rfl⟩ zw_1123 dX12_ruled_69 ?_
  refine zs_iload_n C dX12_ruled_72 rfl ?_
  refine zs_iconst C dX12_ruled_73 (by decide) ?_
  refine zs_isub C dX12_ruled_74 ?_
  refine zs_iaload C zp_72 dX12_ruled_75 ?_
  refine zs_aload_n C dX12_ruled_76 rfl ?_
  refine zs_getR C zp_56 zF12 (j := 27) ⟨by decide, rfl⟩ zw_1123 dX12_ruled_77 ?_
  refine zs_iload_n C dX12_ruled_80 rfl ?_
  refine zs_iaload C zp_72 dX12_ruled_81 ?_
  refine zs_callS C h_X12_worked g_X12_worked zy_X12_worked zw_1487 zw_1488 dX12_ruled_82 ?_
  refine zs_iastore C zp_72 dX12_ruled_85 ?_
  exact zs_goto C dX12_ruled_86 (by decide) (kX12_ruled_119 C hd1 h_X12_worked g_X12_worked j4 hq)
def xX12_ruled_46 (s_X12_worked : zq_Sp) (J4 : zq_P) (Q : zq_Q) (ls : zq_L) (st : List Value) (h : zq_H) : Prop := (zi_iload 3 (zi_push (.int 2000) (zi_if2 (fun x y => x < y) (xX12_ruled_89 s_X12_worked J4 Q) (xX12_ruled_53 s_X12_worked J4 Q)))) ls st h
theorem kX12_ruled_46 {X : zq_X} {d : Nat} (C : zq_C X cX12_ruled 4 RX12 d) (hd1 : 1 ≤ d) {d_X12_worked : Nat} {s_X12_worked : zq_Sp} (h_X12_worked : zq_M yX12_worked cX12_worked 3 (some .int) 1 d_X12_worked s_X12_worked) (g_X12_worked : d_X12_worked + 1 ≤ d) {J4 : zq_P} (j4 : zq_ok X 4 4 J4) {Q : zq_Q} (hq : zq_R X (some .int) 1 Q) : zq_ok X 4 46 (xX12_ruled_46 s_X12_worked J4 Q) := by
  refine zs_iload_n C dX12_ruled_46 rfl ?_
  refine zs_sipush C dX12_ruled_47 (by decide) ?_
  exact zs_icmp_lt C dX12_ruled_50 (by decide) (kX12_ruled_89 C hd1 h_X12_worked g_X12_worked j4 hq) (kX12_ruled_53 C hd1 h_X12_worked g_X12_worked j4 hq)
def xX12_ruled_26 (s_X12_worked : zq_Sp) (J4 : zq_P) (Q : zq_Q) (ls : zq_L) (st : List Value) (h : zq_H) : Prop := (zi_aload 0 (zi_getR 56 72 (zi_iload 1 (zi_push (.int 1) (zi_i2 (fun x y => x - y) (zi_aload 0 (zi_getR 56 72 (zi_iload 1 (zi_push (.int 1) (zi_i2 (fun x y => x - y) (zi_aldI 72 80 (zi_i1 (fun x => -x) (zi_astI 72 80 ((xX12_ruled_119 s_X12_worked J4 Q))))))))))))))) ls st h
theorem kX12_ruled_26 {X : zq_X} {d : Nat} (C : zq_C X cX12_ruled 4 RX12 d) (hd1 : 1 ≤ d) {d_X12_worked : Nat} {s_X12_worked : zq_Sp} (h_X12_worked : zq_M yX12_worked cX12_worked 3 (some .int) 1 d_X12_worked s_X12_worked) (g_X12_worked : d_X12_worked + 1 ≤ d) {J4 : zq_P} (j4 : zq_ok X 4 4 J4) {Q : zq_Q} (hq : zq_R X (some .int) 1 Q) : zq_ok X 4 26 (xX12_ruled_26 s_X12_worked J4 Q) := by
  refine zs_aload_n C dX12_ruled_26 rfl ?_
  refine zs_getR C zp_56 zF12 (j := 27) ⟨by decide, rfl⟩ zw_1123 dX12_ruled_27 ?_
  refine zs_iload_n C dX12_ruled_30 rfl ?_
  refine zs_iconst C dX12_ruled_31 (by decide) ?_
  refine zs_isub C dX12_ruled_32 ?_
  refine zs_aload_n C dX12_ruled_33 rfl ?_
  refine zs_getR C zp_56 zF12 (j := 27) ⟨by decide, rfl⟩ zw_1123 dX12_ruled_34 ?_
  refine zs_iload_n C dX12_ruled_37 rfl ?_
  refine zs_iconst C dX12_ruled_38 (by decide) ?_
  refine zs_isub C dX12_ruled_39 ?_
  refine zs_iaload C zp_72 dX12_ruled_40 ?_
  refine zs_ineg C dX12_ruled_41 ?_
  refine zs_iastore C zp_72 dX12_ruled_42 ?_
  exact zs_goto C dX12_ruled_43 (by decide) (kX12_ruled_119 C hd1 h_X12_worked g_X12_worked j4 hq)
def xX12_ruled_12 (s_X12_worked : zq_Sp) (J4 : zq_P) (Q : zq_Q) (ls : zq_L) (st : List Value) (h : zq_H) : Prop := (zi_aload 0 (zi_getR 56 70 (zi_iload 2 (zi_aldI 70 80 (zi_istore 3 (zi_iload 3 (zi_push (.int 3000) (zi_if2 (fun x y => x = y) (xX12_ruled_26 s_X12_worked J4 Q) (xX12_ruled_46 s_X12_worked J4 Q))))))))) ls st h
theorem kX12_ruled_12 {X : zq_X} {d : Nat} (C : zq_C X cX12_ruled 4 RX12 d) (hd1 : 1 ≤ d) {d_X12_worked : Nat} {s_X12_worked : zq_Sp} (h_X12_worked : zq_M yX12_worked cX12_worked 3 (some .int) 1 d_X12_worked s_X12_worked) (g_X12_worked : d_X12_worked + 1 ≤ d) {J4 : zq_P} (j4 : zq_ok X 4 4 J4) {Q : zq_Q} (hq : zq_R X (some .int) 1 Q) : zq_ok X 4 12 (xX12_ruled_12 s_X12_worked J4 Q) := by
  refine zs_aload_n C dX12_ruled_12 rfl ?_
  refine zs_getR C zp_56 zF12 (j := 23) ⟨by decide, rfl⟩ zw_1119 dX12_ruled_13 ?_
  refine zs_iload_n C dX12_ruled_16 rfl ?_
  refine zs_iaload C zp_70 dX12_ruled_17 ?_
  refine zs_istore_n C dX12_ruled_18 rfl (by decide) ?_
  refine zs_iload_n C dX12_ruled_19 rfl ?_
  refine zs_sipush C dX12_ruled_20 (by decide) ?_
  exact zs_icmp_ne C dX12_ruled_23 (by decide) (kX12_ruled_46 C hd1 h_X12_worked g_X12_worked j4 hq) (kX12_ruled_26 C hd1 h_X12_worked g_X12_worked j4 hq)
def xX12_ruled_4 (s_X12_worked : zq_Sp) (J4 : zq_P) (Q : zq_Q) (ls : zq_L) (st : List Value) (h : zq_H) : Prop := (zi_iload 2 (zi_aload 0 (zi_getI 56 25 (zi_if2 (fun x y => y ≤ x) (xX12_ruled_125 s_X12_worked J4 Q) (xX12_ruled_12 s_X12_worked J4 Q))))) ls st h
theorem kX12_ruled_4 {X : zq_X} {d : Nat} (C : zq_C X cX12_ruled 4 RX12 d) (hd1 : 1 ≤ d) {d_X12_worked : Nat} {s_X12_worked : zq_Sp} (h_X12_worked : zq_M yX12_worked cX12_worked 3 (some .int) 1 d_X12_worked s_X12_worked) (g_X12_worked : d_X12_worked + 1 ≤ d) {J4 : zq_P} (j4 : zq_ok X 4 4 J4) {Q : zq_Q} (hq : zq_R X (some .int) 1 Q) : zq_ok X 4 4 (xX12_ruled_4 s_X12_worked J4 Q) := by
  refine zs_iload_n C dX12_ruled_4 rfl ?_
  refine zs_aload_n C dX12_ruled_5 rfl ?_
  refine zs_getI C zp_56 zF12 (j := 25) ⟨by decide, rfl⟩ zw_1121 dX12_ruled_6 ?_
  exact zs_icmp_ge C dX12_ruled_9 (by decide) (kX12_ruled_125 C hd1 h_X12_worked g_X12_worked j4 hq) (kX12_ruled_12 C hd1 h_X12_worked g_X12_worked j4 hq)
def xX12_ruled_0 (s_X12_worked : zq_Sp) (J4 : zq_P) (Q : zq_Q) (ls : zq_L) (st : List Value) (h : zq_H) : Prop := (zi_push (.int 0) (zi_istore 1 (zi_push (.int 0) (zi_istore 2 (J4))))) ls st h
theorem kX12_ruled_0 {X : zq_X} {d : Nat} (C : zq_C X cX12_ruled 4 RX12 d) (hd1 : 1 ≤ d) {d_X12_worked : Nat} {s_X12_worked : zq_Sp} (h_X12_worked : zq_M yX12_worked cX12_worked 3 (some .int) 1 d_X12_worked s_X12_worked) (g_X12_worked : d_X12_worked + 1 ≤ d) {J4 : zq_P} (j4 : zq_ok X 4 4 J4) {Q : zq_Q} (hq : zq_R X (some .int) 1 Q) : zq_ok X 4 0 (xX12_ruled_0 s_X12_worked J4 Q) := by
  refine zs_iconst C dX12_ruled_0 (by decide) ?_
  refine zs_istore_n C dX12_ruled_1 rfl (by decide) ?_
  refine zs_iconst C dX12_ruled_2 (by decide) ?_
  refine zs_istore_n C dX12_ruled_3 rfl (by decide) ?_
  exact j4
theorem mX12_ruled {d : Nat} {spec : zq_Sp} {σ4 : Type} {d_X12_worked : Nat} {s_X12_worked : zq_Sp} (h_X12_worked : zq_M yX12_worked cX12_worked 3 (some .int) 1 d_X12_worked s_X12_worked) (g_X12_worked : d_X12_worked + 1 ≤ d) (hd1 : 1 ≤ d) (μ4 : σ4 → Nat) (I4 : zq_Q → σ4 → zq_P) (v : ∀ args h Q, spec args h Q → (zq_a args).length ≤ 4 ∧ xX12_ruled_0 s_X12_worked (fun ls st h => ∃ b, I4 Q b ls st h) Q (zq_l0 4 args) [] h) (v4 : ∀ Q a ls st h, I4 Q a ls st h → xX12_ruled_4 s_X12_worked (fun ls st h => ∃ b, μ4 b < μ4 a ∧ I4 Q b ls st h) Q ls st h) : zq_M yX12_ruled cX12_ruled 4 (some .int) 1 d spec := by
  refine zq_met (by decide +kernel) (by decide) (fun X Q args h C hq hs => ⟨(v args h Q hs).1, _, ?_, (v args h Q hs).2⟩)
  have hl := zq_loop1 (X := X) (nL := 4) (pc1 := 4) μ4 (I4 Q) (fun J4 => xX12_ruled_4 s_X12_worked J4 Q) (fun j4 => kX12_ruled_4 C hd1 h_X12_worked g_X12_worked j4 hq) (v4 Q)
  exact kX12_ruled_0 C hd1 h_X12_worked g_X12_worked hl hq
/-! ToOneCrumbModel.worthBy(IIIII)I -/
theorem dX12_worthBy_0 : decode cX12_worthBy 0 = .ok (.aload_n 0, 1) := by decide +kernel
theorem dX12_worthBy_1 : decode cX12_worthBy 1 = .ok (.getfield 60, 3) := by decide +kernel
theorem dX12_worthBy_4 : decode cX12_worthBy 4 = .ok (.iconst 0, 1) := by decide +kernel
theorem dX12_worthBy_5 : decode cX12_worthBy 5 = .ok (.aload_n 0, 1) := by decide +kernel
theorem dX12_worthBy_6 : decode cX12_worthBy 6 = .ok (.getfield 13, 3) := by decide +kernel
theorem dX12_worthBy_9 : decode cX12_worthBy 9 = .ok (.iload_n 2, 1) := by decide +kernel
theorem dX12_worthBy_10 : decode cX12_worthBy 10 = .ok (.iaload, 1) := by decide +kernel
theorem dX12_worthBy_11 : decode cX12_worthBy 11 = .ok (.iastore, 1) := by decide +kernel
theorem dX12_worthBy_12 : decode cX12_worthBy 12 = .ok (.aload_n 0, 1) := by decide +kernel
theorem dX12_worthBy_13 : decode cX12_worthBy 13 = .ok (.getfield 60, 3) := by decide +kernel
theorem dX12_worthBy_16 : decode cX12_worthBy 16 = .ok (.iconst 1, 1) := by decide +kernel
theorem dX12_worthBy_17 : decode cX12_worthBy 17 = .ok (.aload_n 0, 1) := by decide +kernel
theorem dX12_worthBy_18 : decode cX12_worthBy 18 = .ok (.getfield 17, 3) := by decide +kernel
theorem dX12_worthBy_21 : decode cX12_worthBy 21 = .ok (.iload_n 2, 1) := by decide +kernel
theorem dX12_worthBy_22 : decode cX12_worthBy 22 = .ok (.iaload, 1) := by decide +kernel
theorem dX12_worthBy_23 : decode cX12_worthBy 23 = .ok (.iastore, 1) := by decide +kernel
theorem dX12_worthBy_24 : decode cX12_worthBy 24 = .ok (.aload_n 0, 1) := by decide +kernel
theorem dX12_worthBy_25 : decode cX12_worthBy 25 = .ok (.getfield 60, 3) := by decide +kernel
theorem dX12_worthBy_28 : decode cX12_worthBy 28 = .ok (.iconst 2, 1) := by decide +kernel
theorem dX12_worthBy_29 : decode cX12_worthBy 29 = .ok (.aload_n 0, 1) := by decide +kernel
theorem dX12_worthBy_30 : decode cX12_worthBy 30 = .ok (.getfield 20, 3) := by decide +kernel
theorem dX12_worthBy_33 : decode cX12_worthBy 33 = .ok (.iload_n 2, 1) := by decide +kernel
theorem dX12_worthBy_34 : decode cX12_worthBy 34 = .ok (.baload, 1) := by decide +kernel
theorem dX12_worthBy_35 : decode cX12_worthBy 35 = .ok (.invokestatic 190, 3) := by decide +kernel
theorem dX12_worthBy_38 : decode cX12_worthBy 38 = .ok (.iastore, 1) := by decide +kernel
theorem dX12_worthBy_39 : decode cX12_worthBy 39 = .ok (.aload_n 0, 1) := by decide +kernel
theorem dX12_worthBy_40 : decode cX12_worthBy 40 = .ok (.getfield 60, 3) := by decide +kernel
theorem dX12_worthBy_43 : decode cX12_worthBy 43 = .ok (.iconst 3, 1) := by decide +kernel
theorem dX12_worthBy_44 : decode cX12_worthBy 44 = .ok (.iload_n 3, 1) := by decide +kernel
theorem dX12_worthBy_45 : decode cX12_worthBy 45 = .ok (.iastore, 1) := by decide +kernel
theorem dX12_worthBy_46 : decode cX12_worthBy 46 = .ok (.aload_n 0, 1) := by decide +kernel
theorem dX12_worthBy_47 : decode cX12_worthBy 47 = .ok (.getfield 60, 3) := by decide +kernel
theorem dX12_worthBy_50 : decode cX12_worthBy 50 = .ok (.iconst 4, 1) := by decide +kernel
theorem dX12_worthBy_51 : decode cX12_worthBy 51 = .ok (.iload 4, 2) := by decide +kernel
theorem dX12_worthBy_53 : decode cX12_worthBy 53 = .ok (.iastore, 1) := by decide +kernel
theorem dX12_worthBy_54 : decode cX12_worthBy 54 = .ok (.aload_n 0, 1) := by decide +kernel
theorem dX12_worthBy_55 : decode cX12_worthBy 55 = .ok (.getfield 60, 3) := by decide +kernel
theorem dX12_worthBy_58 : decode cX12_worthBy 58 = .ok (.iconst 5, 1) := by decide +kernel
theorem dX12_worthBy_59 : decode cX12_worthBy 59 = .ok (.iload 5, 2) := by decide +kernel
theorem dX12_worthBy_61 : decode cX12_worthBy 61 = .ok (.iastore, 1) := by decide +kernel
theorem dX12_worthBy_62 : decode cX12_worthBy 62 = .ok (.aload_n 0, 1) := by decide +kernel
theorem dX12_worthBy_63 : decode cX12_worthBy 63 = .ok (.getfield 60, 3) := by decide +kernel
theorem dX12_worthBy_66 : decode cX12_worthBy 66 = .ok (.bipush 6, 2) := by decide +kernel
theorem dX12_worthBy_68 : decode cX12_worthBy 68 = .ok (.iload_n 1, 1) := by decide +kernel
theorem dX12_worthBy_69 : decode cX12_worthBy 69 = .ok (.iastore, 1) := by decide +kernel
theorem dX12_worthBy_70 : decode cX12_worthBy 70 = .ok (.aload_n 0, 1) := by decide +kernel
theorem dX12_worthBy_71 : decode cX12_worthBy 71 = .ok (.getfield 60, 3) := by decide +kernel
theorem dX12_worthBy_74 : decode cX12_worthBy 74 = .ok (.bipush 7, 2) := by decide +kernel
theorem dX12_worthBy_76 : decode cX12_worthBy 76 = .ok (.iload_n 2, 1) := by decide +kernel
theorem dX12_worthBy_77 : decode cX12_worthBy 77 = .ok (.iastore, 1) := by decide +kernel
theorem dX12_worthBy_78 : decode cX12_worthBy 78 = .ok (.aload_n 0, 1) := by decide +kernel
theorem dX12_worthBy_79 : decode cX12_worthBy 79 = .ok (.getfield 60, 3) := by decide +kernel
theorem dX12_worthBy_82 : decode cX12_worthBy 82 = .ok (.bipush 8, 2) := by decide +kernel
theorem dX12_worthBy_84 : decode cX12_worthBy 84 = .ok (.iload_n 2, 1) := by decide +kernel
theorem dX12_worthBy_85 : decode cX12_worthBy 85 = .ok (.ifCond .eq 13, 3) := by decide +kernel
theorem dX12_worthBy_88 : decode cX12_worthBy 88 = .ok (.iload_n 2, 1) := by decide +kernel
theorem dX12_worthBy_89 : decode cX12_worthBy 89 = .ok (.aload_n 0, 1) := by decide +kernel
theorem dX12_worthBy_90 : decode cX12_worthBy 90 = .ok (.getfield 158, 3) := by decide +kernel
theorem dX12_worthBy_93 : decode cX12_worthBy 93 = .ok (.iconst 1, 1) := by decide +kernel
theorem dX12_worthBy_94 : decode cX12_worthBy 94 = .ok (.isub, 1) := by decide +kernel
theorem dX12_worthBy_95 : decode cX12_worthBy 95 = .ok (.if_icmp .ne 7, 3) := by decide +kernel
theorem dX12_worthBy_98 : decode cX12_worthBy 98 = .ok (.iconst 1, 1) := by decide +kernel
theorem dX12_worthBy_99 : decode cX12_worthBy 99 = .ok (.goto 4, 3) := by decide +kernel
theorem dX12_worthBy_102 : decode cX12_worthBy 102 = .ok (.iconst 0, 1) := by decide +kernel
theorem dX12_worthBy_103 : decode cX12_worthBy 103 = .ok (.invokestatic 190, 3) := by decide +kernel
theorem dX12_worthBy_106 : decode cX12_worthBy 106 = .ok (.iastore, 1) := by decide +kernel
theorem dX12_worthBy_107 : decode cX12_worthBy 107 = .ok (.aload_n 0, 1) := by decide +kernel
theorem dX12_worthBy_108 : decode cX12_worthBy 108 = .ok (.invokevirtual 296, 3) := by decide +kernel
theorem dX12_worthBy_111 : decode cX12_worthBy 111 = .ok (.ireturn, 1) := by decide +kernel
def xX12_worthBy_103 (s_X12_flag : zq_Sp) (s_X12_ruled : zq_Sp) (Q : zq_Q) (ls : zq_L) (st : List Value) (h : zq_H) : Prop := (zi_callS 1 s_X12_flag (zi_astI 73 9 (zi_aload 0 (zi_callV 0 56 s_X12_ruled (zi_iret Q))))) ls st h
theorem kX12_worthBy_103 {X : zq_X} {d : Nat} (C : zq_C X cX12_worthBy 6 RX12 d) {d_X12_flag : Nat} {s_X12_flag : zq_Sp} (h_X12_flag : zq_M yX12_flag cX12_flag 1 (some .int) 1 d_X12_flag s_X12_flag) (g_X12_flag : d_X12_flag + 1 ≤ d) {d_X12_ruled : Nat} {s_X12_ruled : zq_Sp} (h_X12_ruled : zq_M yX12_ruled cX12_ruled 4 (some .int) 1 d_X12_ruled s_X12_ruled) (g_X12_ruled : d_X12_ruled + 1 ≤ d) {Q : zq_Q} (hq : zq_R X (some .int) 1 Q) : zq_ok X 6 103 (xX12_worthBy_103 s_X12_flag s_X12_ruled Q) := by
  refine zs_callS C h_X12_flag g_X12_flag zy_X12_flag zw_1380 zw_1381 dX12_worthBy_103 ?_
  refine zs_iastore C zp_73 dX12_worthBy_106 ?_
  refine zs_aload_n C dX12_worthBy_107 rfl ?_
  refine zs_callV C h_X12_ruled g_X12_ruled zy_X12_ruled zp_56 (show vwCl[12]? = some (RX12, TX12, 67) from rfl) zw_1483 zw_1485 zs9_X12_ruled dX12_worthBy_108 ?_
  exact zs_iret C hq dX12_worthBy_111
def xX12_worthBy_102 (s_X12_flag : zq_Sp) (s_X12_ruled : zq_Sp) (Q : zq_Q) (ls : zq_L) (st : List Value) (h : zq_H) : Prop := (zi_push (.int 0) ((xX12_worthBy_103 s_X12_flag s_X12_ruled Q))) ls st h
theorem kX12_worthBy_102 {X : zq_X} {d : Nat} (C : zq_C X cX12_worthBy 6 RX12 d) {d_X12_flag : Nat} {s_X12_flag : zq_Sp} (h_X12_flag : zq_M yX12_flag cX12_flag 1 (some .int) 1 d_X12_flag s_X12_flag) (g_X12_flag : d_X12_flag + 1 ≤ d) {d_X12_ruled : Nat} {s_X12_ruled : zq_Sp} (h_X12_ruled : zq_M yX12_ruled cX12_ruled 4 (some .int) 1 d_X12_ruled s_X12_ruled) (g_X12_ruled : d_X12_ruled + 1 ≤ d) {Q : zq_Q} (hq : zq_R X (some .int) 1 Q) : zq_ok X 6 102 (xX12_worthBy_102 s_X12_flag s_X12_ruled Q) := by
  refine zs_iconst C dX12_worthBy_102 (by decide) ?_
  exact kX12_worthBy_103 C h_X12_flag g_X12_flag h_X12_ruled g_X12_ruled hq
def xX12_worthBy_98 (s_X12_flag : zq_Sp) (s_X12_ruled : zq_Sp) (Q : zq_Q) (ls : zq_L) (st : List Value) (h : zq_H) : Prop := (zi_push (.int 1) ((xX12_worthBy_103 s_X12_flag s_X12_ruled Q))) ls st h
theorem kX12_worthBy_98 {X : zq_X} {d : Nat} (C : zq_C X cX12_worthBy 6 RX12 d) {d_X12_flag : Nat} {s_X12_flag : zq_Sp} (h_X12_flag : zq_M yX12_flag cX12_flag 1 (some .int) 1 d_X12_flag s_X12_flag) (g_X12_flag : d_X12_flag + 1 ≤ d) {d_X12_ruled : Nat} {s_X12_ruled : zq_Sp} (h_X12_ruled : zq_M yX12_ruled cX12_ruled 4 (some .int) 1 d_X12_ruled s_X12_ruled) (g_X12_ruled : d_X12_ruled + 1 ≤ d) {Q : zq_Q} (hq : zq_R X (some .int) 1 Q) : zq_ok X 6 98 (xX12_worthBy_98 s_X12_flag s_X12_ruled Q) := by
  refine zs_iconst C dX12_worthBy_98 (by decide) ?_
  exact zs_goto C dX12_worthBy_99 (by decide) (kX12_worthBy_103 C h_X12_flag g_X12_flag h_X12_ruled g_X12_ruled hq)
def xX12_worthBy_88 (s_X12_flag : zq_Sp) (s_X12_ruled : zq_Sp) (Q : zq_Q) (ls : zq_L) (st : List Value) (h : zq_H) : Prop := (zi_iload 2 (zi_aload 0 (zi_getI 56 3 (zi_push (.int 1) (zi_i2 (fun x y => x - y) (zi_if2 (fun x y => x = y) (xX12_worthBy_98 s_X12_flag s_X12_ruled Q) (xX12_worthBy_102 s_X12_flag s_X12_ruled Q))))))) ls st h
theorem kX12_worthBy_88 {X : zq_X} {d : Nat} (C : zq_C X cX12_worthBy 6 RX12 d) {d_X12_flag : Nat} {s_X12_flag : zq_Sp} (h_X12_flag : zq_M yX12_flag cX12_flag 1 (some .int) 1 d_X12_flag s_X12_flag) (g_X12_flag : d_X12_flag + 1 ≤ d) {d_X12_ruled : Nat} {s_X12_ruled : zq_Sp} (h_X12_ruled : zq_M yX12_ruled cX12_ruled 4 (some .int) 1 d_X12_ruled s_X12_ruled) (g_X12_ruled : d_X12_ruled + 1 ≤ d) {Q : zq_Q} (hq : zq_R X (some .int) 1 Q) : zq_ok X 6 88 (xX12_worthBy_88 s_X12_flag s_X12_ruled Q) := by
  refine zs_iload_n C dX12_worthBy_88 rfl ?_
  refine zs_aload_n C dX12_worthBy_89 rfl ?_
  refine zs_getI C zp_56 zF12 (j := 3) ⟨by decide, rfl⟩ zw_1099 dX12_worthBy_90 ?_
  refine zs_iconst C dX12_worthBy_93 (by decide) ?_
  refine zs_isub C dX12_worthBy_94 ?_
  exact zs_icmp_ne C dX12_worthBy_95 (by decide) (kX12_worthBy_102 C h_X12_flag g_X12_flag h_X12_ruled g_X12_ruled hq) (kX12_worthBy_98 C h_X12_flag g_X12_flag h_X12_ruled g_X12_ruled hq)
def xX12_worthBy_0 (s_X12_flag : zq_Sp) (s_X12_ruled : zq_Sp) (Q : zq_Q) (ls : zq_L) (st : List Value) (h : zq_H) : Prop := (zi_aload 0 (zi_getR 56 73 (zi_push (.int 0) (zi_aload 0 (zi_getR 56 58 (zi_iload 2 (zi_aldI 58 16 (zi_astI 73 9 (zi_aload 0 (zi_getR 56 73 (zi_push (.int 1) (zi_aload 0 (zi_getR 56 59 (zi_iload 2 (zi_aldI 59 16 (zi_astI 73 9 (zi_aload 0 (zi_getR 56 73 (zi_push (.int 2) (zi_aload 0 (zi_getR 56 60 (zi_iload 2 (zi_aldI 60 16 (zi_callS 1 s_X12_flag (zi_astI 73 9 (zi_aload 0 (zi_getR 56 73 (zi_push (.int 3) (zi_iload 3 (zi_astI 73 9 (zi_aload 0 (zi_getR 56 73 (zi_push (.int 4) (zi_iload 4 (zi_astI 73 9 (zi_aload 0 (zi_getR 56 73 (zi_push (.int 5) (zi_iload 5 (zi_astI 73 9 (zi_aload 0 (zi_getR 56 73 (zi_push (.int 6) (zi_iload 1 (zi_astI 73 9 (zi_aload 0 (zi_getR 56 73 (zi_push (.int 7) (zi_iload 2 (zi_astI 73 9 (zi_aload 0 (zi_getR 56 73 (zi_push (.int 8) (zi_iload 2 (zi_if1 (fun x => x = 0) (xX12_worthBy_98 s_X12_flag s_X12_ruled Q) (xX12_worthBy_88 s_X12_flag s_X12_ruled Q)))))))))))))))))))))))))))))))))))))))))))))))))))))))) ls st h
theorem kX12_worthBy_0 {X : zq_X} {d : Nat} (C : zq_C X cX12_worthBy 6 RX12 d) {d_X12_flag : Nat} {s_X12_flag : zq_Sp} (h_X12_flag : zq_M yX12_flag cX12_flag 1 (some .int) 1 d_X12_flag s_X12_flag) (g_X12_flag : d_X12_flag + 1 ≤ d) {d_X12_ruled : Nat} {s_X12_ruled : zq_Sp} (h_X12_ruled : zq_M yX12_ruled cX12_ruled 4 (some .int) 1 d_X12_ruled s_X12_ruled) (g_X12_ruled : d_X12_ruled + 1 ≤ d) {Q : zq_Q} (hq : zq_R X (some .int) 1 Q) : zq_ok X 6 0 (xX12_worthBy_0 s_X12_flag s_X12_ruled Q) := by
  refine zs_aload_n C dX12_worthBy_0 rfl ?_
  refine zs_getR C zp_56 zF12 (j := 28) ⟨by decide, rfl⟩ zw_1124 dX12_worthBy_1 ?_
  refine zs_iconst C dX12_worthBy_4 (by decide) ?_
  refine zs_aload_n C dX12_worthBy_5 rfl ?_
  refine zs_getR C zp_56 zF12 (j := 6) ⟨by decide, rfl⟩ zw_1102 dX12_worthBy_6 ?_
  refine zs_iload_n C dX12_worthBy_9 rfl ?_
  refine zs_iaload C zp_58 dX12_worthBy_10 ?_
  refine zs_iastore C zp_73 dX12_worthBy_11 ?_
  refine zs_aload_n C dX12_worthBy_12 rfl ?_
  refine zs_getR C zp_56 zF12 (j := 28) ⟨by decide, rfl⟩ zw_1124 dX12_worthBy_13 ?_
  refine zs_iconst C dX12_worthBy_16 (by decide) ?_
  refine zs_aload_n C dX12_worthBy_17 rfl ?_
  refine zs_getR C zp_56 zF12 (j := 7) ⟨by decide, rfl⟩ zw_1103 dX12_worthBy_18 ?_
  refine zs_iload_n C dX12_worthBy_21 rfl ?_
  refine zs_iaload C zp_59 dX12_worthBy_22 ?_
  refine zs_iastore C zp_73 dX12_worthBy_23 ?_
  refine zs_aload_n C dX12_worthBy_24 rfl ?_
  refine zs_getR C zp_56 zF12 (j := 28) ⟨by decide, rfl⟩ zw_1124 dX12_worthBy_25 ?_
  refine zs_iconst C dX12_worthBy_28 (by decide) ?_
  refine zs_aload_n C dX12_worthBy_29 rfl ?_
  refine zs_getR C zp_56 zF12 (j := 8) ⟨by decide, rfl⟩ zw_1104 dX12_worthBy_30 ?_
  refine zs_iload_n C dX12_worthBy_33 rfl ?_
  refine zs_baload C zp_60 dX12_worthBy_34 ?_
  refine zs_callS C h_X12_flag g_X12_flag zy_X12_flag zw_1380 zw_1381 dX12_worthBy_35 ?_
  refine zs_iastore C zp_73 dX12_worthBy_38 ?_
  refine zs_aload_n C dX12_worthBy_39 rfl ?_
  refine zs_getR C zp_56 zF12 (j := 28) ⟨by decide, rfl⟩ zw_1124 dX12_worthBy_40 ?_
  refine zs_iconst C dX12_worthBy_43 (by decide) ?_
  refine zs_iload_n C dX12_worthBy_44 rfl ?_
  refine zs_iastore C zp_73 dX12_worthBy_45 ?_
  refine zs_aload_n C dX12_worthBy_46 rfl ?_
  refine zs_getR C zp_56 zF12 (j := 28) ⟨by decide, rfl⟩ zw_1124 dX12_worthBy_47 ?_
  refine zs_iconst C dX12_worthBy_50 (by decide) ?_
  refine zs_iload C dX12_worthBy_51 ?_
  refine zs_iastore C zp_73 dX12_worthBy_53 ?_
  refine zs_aload_n C dX12_worthBy_54 rfl ?_
  refine zs_getR C zp_56 zF12 (j := 28) ⟨by decide, rfl⟩ zw_1124 dX12_worthBy_55 ?_
  refine zs_iconst C dX12_worthBy_58 (by decide) ?_
  refine zs_iload C dX12_worthBy_59 ?_
  refine zs_iastore C zp_73 dX12_worthBy_61 ?_
  refine zs_aload_n C dX12_worthBy_62 rfl ?_
  refine zs_getR C zp_56 zF12 (j := 28) ⟨by decide, rfl⟩ zw_1124 dX12_worthBy_63 ?_
  refine zs_bipush C dX12_worthBy_66 (by decide) ?_
  refine zs_iload_n C dX12_worthBy_68 rfl ?_
  refine zs_iastore C zp_73 dX12_worthBy_69 ?_
  refine zs_aload_n C dX12_worthBy_70 rfl ?_
  refine zs_getR C zp_56 zF12 (j := 28) ⟨by decide, rfl⟩ zw_1124 dX12_worthBy_71 ?_
  refine zs_bipush C dX12_worthBy_74 (by decide) ?_
  refine zs_iload_n C dX12_worthBy_76 rfl ?_
  refine zs_iastore C zp_73 dX12_worthBy_77 ?_
  refine zs_aload_n C dX12_worthBy_78 rfl ?_
  refine zs_getR C zp_56 zF12 (j := 28) ⟨by decide, rfl⟩ zw_1124 dX12_worthBy_79 ?_
  refine zs_bipush C dX12_worthBy_82 (by decide) ?_
  refine zs_iload_n C dX12_worthBy_84 rfl ?_
  exact zs_if_eq C dX12_worthBy_85 (by decide) (kX12_worthBy_98 C h_X12_flag g_X12_flag h_X12_ruled g_X12_ruled hq) (kX12_worthBy_88 C h_X12_flag g_X12_flag h_X12_ruled g_X12_ruled hq)
theorem mX12_worthBy {d : Nat} {spec : zq_Sp} {d_X12_flag : Nat} {s_X12_flag : zq_Sp} (h_X12_flag : zq_M yX12_flag cX12_flag 1 (some .int) 1 d_X12_flag s_X12_flag) (g_X12_flag : d_X12_flag + 1 ≤ d) {d_X12_ruled : Nat} {s_X12_ruled : zq_Sp} (h_X12_ruled : zq_M yX12_ruled cX12_ruled 4 (some .int) 1 d_X12_ruled s_X12_ruled) (g_X12_ruled : d_X12_ruled + 1 ≤ d) (v : ∀ args h Q, spec args h Q → (zq_a args).length ≤ 6 ∧ xX12_worthBy_0 s_X12_flag s_X12_ruled Q (zq_l0 6 args) [] h) : zq_M yX12_worthBy cX12_worthBy 6 (some .int) 1 d spec := by
  refine zq_met (by decide +kernel) (by decide) (fun X Q args h C hq hs => ⟨(v args h Q hs).1, _, ?_, (v args h Q hs).2⟩)
  exact kX12_worthBy_0 C h_X12_flag g_X12_flag h_X12_ruled g_X12_ruled hq
/-! ToOneCrumbModel.worthOf(II)I -/
theorem dX12_worthOf_0 : decode cX12_worthOf 0 = .ok (.aload_n 0, 1) := by decide +kernel
theorem dX12_worthOf_1 : decode cX12_worthOf 1 = .ok (.iload_n 1, 1) := by decide +kernel
theorem dX12_worthOf_2 : decode cX12_worthOf 2 = .ok (.iload_n 2, 1) := by decide +kernel
theorem dX12_worthOf_3 : decode cX12_worthOf 3 = .ok (.aload_n 0, 1) := by decide +kernel
theorem dX12_worthOf_4 : decode cX12_worthOf 4 = .ok (.getfield 24, 3) := by decide +kernel
theorem dX12_worthOf_7 : decode cX12_worthOf 7 = .ok (.iconst 3, 1) := by decide +kernel
theorem dX12_worthOf_8 : decode cX12_worthOf 8 = .ok (.iload_n 1, 1) := by decide +kernel
theorem dX12_worthOf_9 : decode cX12_worthOf 9 = .ok (.imul, 1) := by decide +kernel
theorem dX12_worthOf_10 : decode cX12_worthOf 10 = .ok (.iaload, 1) := by decide +kernel
theorem dX12_worthOf_11 : decode cX12_worthOf 11 = .ok (.aload_n 0, 1) := by decide +kernel
theorem dX12_worthOf_12 : decode cX12_worthOf 12 = .ok (.getfield 24, 3) := by decide +kernel
theorem dX12_worthOf_15 : decode cX12_worthOf 15 = .ok (.iconst 3, 1) := by decide +kernel
theorem dX12_worthOf_16 : decode cX12_worthOf 16 = .ok (.iload_n 1, 1) := by decide +kernel
theorem dX12_worthOf_17 : decode cX12_worthOf 17 = .ok (.imul, 1) := by decide +kernel
theorem dX12_worthOf_18 : decode cX12_worthOf 18 = .ok (.iconst 1, 1) := by decide +kernel
theorem dX12_worthOf_19 : decode cX12_worthOf 19 = .ok (.iadd, 1) := by decide +kernel
theorem dX12_worthOf_20 : decode cX12_worthOf 20 = .ok (.iaload, 1) := by decide +kernel
theorem dX12_worthOf_21 : decode cX12_worthOf 21 = .ok (.aload_n 0, 1) := by decide +kernel
theorem dX12_worthOf_22 : decode cX12_worthOf 22 = .ok (.getfield 24, 3) := by decide +kernel
theorem dX12_worthOf_25 : decode cX12_worthOf 25 = .ok (.iconst 3, 1) := by decide +kernel
theorem dX12_worthOf_26 : decode cX12_worthOf 26 = .ok (.iload_n 1, 1) := by decide +kernel
theorem dX12_worthOf_27 : decode cX12_worthOf 27 = .ok (.imul, 1) := by decide +kernel
theorem dX12_worthOf_28 : decode cX12_worthOf 28 = .ok (.iconst 2, 1) := by decide +kernel
theorem dX12_worthOf_29 : decode cX12_worthOf 29 = .ok (.iadd, 1) := by decide +kernel
theorem dX12_worthOf_30 : decode cX12_worthOf 30 = .ok (.iaload, 1) := by decide +kernel
theorem dX12_worthOf_31 : decode cX12_worthOf 31 = .ok (.invokevirtual 299, 3) := by decide +kernel
theorem dX12_worthOf_34 : decode cX12_worthOf 34 = .ok (.ireturn, 1) := by decide +kernel
def xX12_worthOf_0 (s_X12_worthBy : zq_Sp) (Q : zq_Q) (ls : zq_L) (st : List Value) (h : zq_H) : Prop := (zi_aload 0 (zi_iload 1 (zi_iload 2 (zi_aload 0 (zi_getR 56 61 (zi_push (.int 3) (zi_iload 1 (zi_i2 (fun x y => x * y) (zi_aldI 61 18 (zi_aload 0 (zi_getR 56 61 (zi_push (.int 3) (zi_iload 1 (zi_i2 (fun x y => x * y) (zi_push (.int 1) (zi_i2 (fun x y => x + y) (zi_aldI 61 18 (zi_aload 0 (zi_getR 56 61 (zi_push (.int 3) (zi_iload 1 (zi_i2 (fun x y => x * y) (zi_push (.int 2) (zi_i2 (fun x y => x + y) (zi_aldI 61 18 (zi_callV 5 56 s_X12_worthBy (zi_iret Q))))))))))))))))))))))))))) ls st h
theorem kX12_worthOf_0 {X : zq_X} {d : Nat} (C : zq_C X cX12_worthOf 3 RX12 d) {d_X12_worthBy : Nat} {s_X12_worthBy : zq_Sp} (h_X12_worthBy : zq_M yX12_worthBy cX12_worthBy 6 (some .int) 1 d_X12_worthBy s_X12_worthBy) (g_X12_worthBy : d_X12_worthBy + 1 ≤ d) {Q : zq_Q} (hq : zq_R X (some .int) 1 Q) : zq_ok X 3 0 (xX12_worthOf_0 s_X12_worthBy Q) := by
  refine zs_aload_n C dX12_worthOf_0 rfl ?_
  refine zs_iload_n C dX12_worthOf_1 rfl ?_
  refine zs_iload_n C dX12_worthOf_2 rfl ?_
  refine zs_aload_n C dX12_worthOf_3 rfl ?_
  refine zs_getR C zp_56 zF12 (j := 9) ⟨by decide, rfl⟩ zw_1105 dX12_worthOf_4 ?_
  refine zs_iconst C dX12_worthOf_7 (by decide) ?_
  refine zs_iload_n C dX12_worthOf_8 rfl ?_
  refine zs_imul C dX12_worthOf_9 ?_
  refine zs_iaload C zp_61 dX12_worthOf_10 ?_
  refine zs_aload_n C dX12_worthOf_11 rfl ?_
  refine zs_getR C zp_56 zF12 (j := 9) ⟨by decide, rfl⟩ zw_1105 dX12_worthOf_12 ?_
  refine zs_iconst C dX12_worthOf_15 (by decide) ?_
  refine zs_iload_n C dX12_worthOf_16 rfl ?_
  refine zs_imul C dX12_worthOf_17 ?_
  refine zs_iconst C dX12_worthOf_18 (by decide) ?_
  refine zs_iadd C dX12_worthOf_19 ?_
  refine zs_iaload C zp_61 dX12_worthOf_20 ?_
  refine zs_aload_n C dX12_worthOf_21 rfl ?_
  refine zs_getR C zp_56 zF12 (j := 9) ⟨by decide, rfl⟩ zw_1105 dX12_worthOf_22 ?_
  refine zs_iconst C dX12_worthOf_25 (by decide) ?_
  refine zs_iload_n C dX12_worthOf_26 rfl ?_
  refine zs_imul C dX12_worthOf_27 ?_
  refine zs_iconst C dX12_worthOf_28 (by decide) ?_
  refine zs_iadd C dX12_worthOf_29 ?_
  refine zs_iaload C zp_61 dX12_worthOf_30 ?_
  refine zs_callV C h_X12_worthBy g_X12_worthBy zy_X12_worthBy zp_56 (show vwCl[12]? = some (RX12, TX12, 67) from rfl) zw_1479 zw_1481 zs9_X12_worthBy dX12_worthOf_31 ?_
  exact zs_iret C hq dX12_worthOf_34
theorem mX12_worthOf {d : Nat} {spec : zq_Sp} {d_X12_worthBy : Nat} {s_X12_worthBy : zq_Sp} (h_X12_worthBy : zq_M yX12_worthBy cX12_worthBy 6 (some .int) 1 d_X12_worthBy s_X12_worthBy) (g_X12_worthBy : d_X12_worthBy + 1 ≤ d) (v : ∀ args h Q, spec args h Q → (zq_a args).length ≤ 3 ∧ xX12_worthOf_0 s_X12_worthBy Q (zq_l0 3 args) [] h) : zq_M yX12_worthOf cX12_worthOf 3 (some .int) 1 d spec := by
  refine zq_met (by decide +kernel) (by decide) (fun X Q args h C hq hs => ⟨(v args h Q hs).1, _, ?_, (v args h Q hs).2⟩)
  exact kX12_worthOf_0 C h_X12_worthBy g_X12_worthBy hq
