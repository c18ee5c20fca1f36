/-! ToOneCrumb$Text.addFour(I)I -/
theorem dX8_addFour_0 : decode cX8_addFour 0 = .ok (.aload_n 0, 1) := by decide +kernel
theorem dX8_addFour_1 : decode cX8_addFour 1 = .ok (.getfield 15, 3) := by decide +kernel
theorem dX8_addFour_4 : decode cX8_addFour 4 = .ok (.iconst 4, 1) := by decide +kernel
theorem dX8_addFour_5 : decode cX8_addFour 5 = .ok (.iadd, 1) := by decide +kernel
theorem dX8_addFour_6 : decode cX8_addFour 6 = .ok (.bipush 80, 2) := by decide +kernel
theorem dX8_addFour_8 : decode cX8_addFour 8 = .ok (.if_icmp .le 5, 3) := by decide +kernel
theorem dX8_addFour_11 : decode cX8_addFour 11 = .ok (.iconst (-1), 1) := by decide +kernel
theorem dX8_addFour_12 : decode cX8_addFour 12 = .ok (.ireturn, 1) := by decide +kernel
theorem dX8_addFour_13 : decode cX8_addFour 13 = .ok (.bipush 24, 2) := by decide +kernel
theorem dX8_addFour_15 : decode cX8_addFour 15 = .ok (.istore_n 2, 1) := by decide +kernel
theorem dX8_addFour_16 : decode cX8_addFour 16 = .ok (.iload_n 2, 1) := by decide +kernel
theorem dX8_addFour_17 : decode cX8_addFour 17 = .ok (.ifCond .lt 35, 3) := by decide +kernel
theorem dX8_addFour_20 : decode cX8_addFour 20 = .ok (.aload_n 0, 1) := by decide +kernel
theorem dX8_addFour_21 : decode cX8_addFour 21 = .ok (.getfield 11, 3) := by decide +kernel
theorem dX8_addFour_24 : decode cX8_addFour 24 = .ok (.aload_n 0, 1) := by decide +kernel
theorem dX8_addFour_25 : decode cX8_addFour 25 = .ok (.getfield 15, 3) := by decide +kernel
theorem dX8_addFour_28 : decode cX8_addFour 28 = .ok (.iload_n 1, 1) := by decide +kernel
theorem dX8_addFour_29 : decode cX8_addFour 29 = .ok (.iload_n 2, 1) := by decide +kernel
theorem dX8_addFour_30 : decode cX8_addFour 30 = .ok (.iushr, 1) := by decide +kernel
theorem dX8_addFour_31 : decode cX8_addFour 31 = .ok (.sipush 255, 3) := by decide +kernel
theorem dX8_addFour_34 : decode cX8_addFour 34 = .ok (.iand, 1) := by decide +kernel
theorem dX8_addFour_35 : decode cX8_addFour 35 = .ok (.iastore, 1) := by decide +kernel
theorem dX8_addFour_36 : decode cX8_addFour 36 = .ok (.aload_n 0, 1) := by decide +kernel
theorem dX8_addFour_37 : decode cX8_addFour 37 = .ok (.dup, 1) := by decide +kernel
theorem dX8_addFour_38 : decode cX8_addFour 38 = .ok (.getfield 15, 3) := by decide +kernel
theorem dX8_addFour_41 : decode cX8_addFour 41 = .ok (.iconst 1, 1) := by decide +kernel
theorem dX8_addFour_42 : decode cX8_addFour 42 = .ok (.iadd, 1) := by decide +kernel
theorem dX8_addFour_43 : decode cX8_addFour 43 = .ok (.putfield 15, 3) := by decide +kernel
theorem dX8_addFour_46 : decode cX8_addFour 46 = .ok (.iinc 2 (-8), 3) := by decide +kernel
theorem dX8_addFour_49 : decode cX8_addFour 49 = .ok (.goto (-33), 3) := by decide +kernel
theorem dX8_addFour_52 : decode cX8_addFour 52 = .ok (.aload_n 0, 1) := by decide +kernel
theorem dX8_addFour_53 : decode cX8_addFour 53 = .ok (.getfield 15, 3) := by decide +kernel
theorem dX8_addFour_56 : decode cX8_addFour 56 = .ok (.ireturn, 1) := by decide +kernel
def xX8_addFour_52 (J16 : zq_P) (Q : zq_Q) (ls : zq_L) (st : List Value) (h : zq_H) : Prop := (zi_aload 0 (zi_getI 1 1 (zi_iret Q))) ls st h
theorem kX8_addFour_52 {X : zq_X} {d : Nat} (C : zq_C X cX8_addFour 3 RX8 d) {J16 : zq_P} (j16 : zq_ok X 3 16 J16) {Q : zq_Q} (hq : zq_R X (some .int) 1 Q) : zq_ok X 3 52 (xX8_addFour_52 J16 Q) := by
  refine zs_aload_n C dX8_addFour_52 rfl ?_
  refine zs_getI C zp_1 zF8 (j := 1) ⟨by decide, rfl⟩ zw_41 dX8_addFour_53 ?_
  exact zs_iret C hq dX8_addFour_56
def xX8_addFour_20 (J16 : zq_P) (Q : zq_Q) (ls : zq_L) (st : List Value) (h : zq_H) : Prop := (zi_aload 0 (zi_getR 1 2 (zi_aload 0 (zi_getI 1 1 (zi_iload 1 (zi_iload 2 (zi_i2 zf_ushr (zi_push (.int 255) (zi_i2 (fun x y => x &&& y) (zi_astI 2 80 (zi_aload 0 (zi_dup (zi_getI 1 1 (zi_push (.int 1) (zi_i2 (fun x y => x + y) (zi_putI 1 1 (zi_iinc 2 (-8) (J16)))))))))))))))))) ls st h
theorem kX8_addFour_20 {X : zq_X} {d : Nat} (C : zq_C X cX8_addFour 3 RX8 d) {J16 : zq_P} (j16 : zq_ok X 3 16 J16) {Q : zq_Q} (hq : zq_R X (some .int) 1 Q) : zq_ok X 3 20 (xX8_addFour_20 J16 Q) := by
  refine zs_aload_n C dX8_addFour_20 rfl ?_
  refine zs_getR C zp_1 zF8 (j := 0) ⟨by decide, rfl⟩ zw_40 dX8_addFour_21 ?_
  refine zs_aload_n C dX8_addFour_24 rfl ?_
  refine zs_getI C zp_1 zF8 (j := 1) ⟨by decide, rfl⟩ zw_41 dX8_addFour_25 ?_
  refine zs_iload_n C dX8_addFour_28 rfl ?_
  refine zs_iload_n C dX8_addFour_29 rfl ?_
  refine zs_iushr C dX8_addFour_30 ?_
  refine zs_sipush C dX8_addFour_31 (by decide) ?_
  refine zs_iand C dX8_addFour_34 ?_
  refine zs_iastore C zp_2 dX8_addFour_35 ?_
  refine zs_aload_n C dX8_addFour_36 rfl ?_
  refine zs_dup C dX8_addFour_37 ?_
  refine zs_getI C zp_1 zF8 (j := 1) ⟨by decide, rfl⟩ zw_41 dX8_addFour_38 ?_
  refine zs_iconst C dX8_addFour_41 (by decide) ?_
  refine zs_iadd C dX8_addFour_42 ?_
  refine zs_putI C zp_1 zF8 (j := 1) ⟨by decide, rfl⟩ ⟨rfl, by decide +kernel⟩ zw_41 dX8_addFour_43 ?_
  refine zs_iinc C dX8_addFour_46 (by decide) (by decide) ?_
  exact zs_goto C dX8_addFour_49 (by decide) (j16)
def xX8_addFour_16 (J16 : zq_P) (Q : zq_Q) (ls : zq_L) (st : List Value) (h : zq_H) : Prop := (zi_iload 2 (zi_if1 (fun x => x < 0) (xX8_addFour_52 J16 Q) (xX8_addFour_20 J16 Q))) ls st h
theorem kX8_addFour_16 {X : zq_X} {d : Nat} (C : zq_C X cX8_addFour 3 RX8 d) {J16 : zq_P} (j16 : zq_ok X 3 16 J16) {Q : zq_Q} (hq : zq_R X (some .int) 1 Q) : zq_ok X 3 16 (xX8_addFour_16 J16 Q) := by
  refine zs_iload_n C dX8_addFour_16 rfl ?_
  exact zs_if_lt C dX8_addFour_17 (by decide) (kX8_addFour_52 C j16 hq) (kX8_addFour_20 C j16 hq)
def xX8_addFour_13 (J16 : zq_P) (Q : zq_Q) (ls : zq_L) (st : List Value) (h : zq_H) : Prop := (zi_push (.int 24) (zi_istore 2 (J16))) ls st h
theorem kX8_addFour_13 {X : zq_X} {d : Nat} (C : zq_C X cX8_addFour 3 RX8 d) {J16 : zq_P} (j16 : zq_ok X 3 16 J16) {Q : zq_Q} (hq : zq_R X (some .int) 1 Q) : zq_ok X 3 13 (xX8_addFour_13 J16 Q) := by
  refine zs_bipush C dX8_addFour_13 (by decide) ?_
  refine zs_istore_n C dX8_addFour_15 rfl (by decide) ?_
  exact j16
def xX8_addFour_11 (J16 : zq_P) (Q : zq_Q) (ls : zq_L) (st : List Value) (h : zq_H) : Prop := (zi_push (.int (-1)) (zi_iret Q)) ls st h
theorem kX8_addFour_11 {X : zq_X} {d : Nat} (C : zq_C X cX8_addFour 3 RX8 d) {J16 : zq_P} (j16 : zq_ok X 3 16 J16) {Q : zq_Q} (hq : zq_R X (some .int) 1 Q) : zq_ok X 3 11 (xX8_addFour_11 J16 Q) := by
  refine zs_iconst C dX8_addFour_11 (by decide) ?_
  exact zs_iret C hq dX8_addFour_12
def xX8_addFour_0 (J16 : zq_P) (Q : zq_Q) (ls : zq_L) (st : List Value) (h : zq_H) : Prop := (zi_aload 0 (zi_getI 1 1 (zi_push (.int 4) (zi_i2 (fun x y => x + y) (zi_push (.int 80) (zi_if2 (fun x y => x ≤ y) (xX8_addFour_13 J16 Q) (xX8_addFour_11 J16 Q))))))) ls st h
theorem kX8_addFour_0 {X : zq_X} {d : Nat} (C : zq_C X cX8_addFour 3 RX8 d) {J16 : zq_P} (j16 : zq_ok X 3 16 J16) {Q : zq_Q} (hq : zq_R X (some .int) 1 Q) : zq_ok X 3 0 (xX8_addFour_0 J16 Q) := by
  refine zs_aload_n C dX8_addFour_0 rfl ?_
  refine zs_getI C zp_1 zF8 (j := 1) ⟨by decide, rfl⟩ zw_41 dX8_addFour_1 ?_
  refine zs_iconst C dX8_addFour_4 (by decide) ?_
  refine zs_iadd C dX8_addFour_5 ?_
  refine zs_bipush C dX8_addFour_6 (by decide) ?_
  exact zs_icmp_le C dX8_addFour_8 (by decide) (kX8_addFour_13 C j16 hq) (kX8_addFour_11 C j16 hq)
theorem mX8_addFour {d : Nat} {spec : zq_Sp} {σ16 : Type} (μ16 : σ16 → Nat) (I16 : zq_Q → σ16 → zq_P) (v : ∀ args h Q, spec args h Q → (zq_a args).length ≤ 3 ∧ xX8_addFour_0 (fun ls st h => ∃ b, I16 Q b ls st h) Q (zq_l0 3 args) [] h) (v16 : ∀ Q a ls st h, I16 Q a ls st h → xX8_addFour_16 (fun ls st h => ∃ b, μ16 b < μ16 a ∧ I16 Q b ls st h) Q ls st h) : zq_M yX8_addFour cX8_addFour 3 (some .int) 1 d spec := by
  refine zq_met (by decide +kernel) (by decide) (fun X Q args h C hq hs => ⟨(v args h Q hs).1, _, ?_, (v args h Q hs).2⟩)
  have hl := zq_loop1 (X := X) (nL := 3) (pc1 := 16) μ16 (I16 Q) (fun J16 => xX8_addFour_16 J16 Q) (fun j16 => kX8_addFour_16 C j16 hq) (v16 Q)
  exact kX8_addFour_0 C hl hq
/-! ToOneCrumb$Text.shorten(I)Z -/
theorem dX8_shorten_0 : decode cX8_shorten 0 = .ok (.iload_n 1, 1) := by decide +kernel
theorem dX8_shorten_1 : decode cX8_shorten 1 = .ok (.ifCond .lt 11, 3) := by decide +kernel
theorem dX8_shorten_4 : decode cX8_shorten 4 = .ok (.iload_n 1, 1) := by decide +kernel
theorem dX8_shorten_5 : decode cX8_shorten 5 = .ok (.aload_n 0, 1) := by decide +kernel
theorem dX8_shorten_6 : decode cX8_shorten 6 = .ok (.getfield 15, 3) := by decide +kernel
theorem dX8_shorten_9 : decode cX8_shorten 9 = .ok (.if_icmp .le 5, 3) := by decide +kernel
theorem dX8_shorten_12 : decode cX8_shorten 12 = .ok (.iconst 0, 1) := by decide +kernel
theorem dX8_shorten_13 : decode cX8_shorten 13 = .ok (.ireturn, 1) := by decide +kernel
theorem dX8_shorten_14 : decode cX8_shorten 14 = .ok (.aload_n 0, 1) := by decide +kernel
theorem dX8_shorten_15 : decode cX8_shorten 15 = .ok (.iload_n 1, 1) := by decide +kernel
theorem dX8_shorten_16 : decode cX8_shorten 16 = .ok (.putfield 15, 3) := by decide +kernel
theorem dX8_shorten_19 : decode cX8_shorten 19 = .ok (.iconst 1, 1) := by decide +kernel
theorem dX8_shorten_20 : decode cX8_shorten 20 = .ok (.ireturn, 1) := by decide +kernel
def xX8_shorten_14 (Q : zq_Q) (ls : zq_L) (st : List Value) (h : zq_H) : Prop := (zi_aload 0 (zi_iload 1 (zi_putI 1 1 (zi_push (.int 1) (zi_zret Q))))) ls st h
theorem kX8_shorten_14 {X : zq_X} {d : Nat} (C : zq_C X cX8_shorten 2 RX8 d) {Q : zq_Q} (hq : zq_R X (some .boolean) 1 Q) : zq_ok X 2 14 (xX8_shorten_14 Q) := by
  refine zs_aload_n C dX8_shorten_14 rfl ?_
  refine zs_iload_n C dX8_shorten_15 rfl ?_
  refine zs_putI C zp_1 zF8 (j := 1) ⟨by decide, rfl⟩ ⟨rfl, by decide +kernel⟩ zw_41 dX8_shorten_16 ?_
  refine zs_iconst C dX8_shorten_19 (by decide) ?_
  exact zs_zret C hq dX8_shorten_20
def xX8_shorten_12 (Q : zq_Q) (ls : zq_L) (st : List Value) (h : zq_H) : Prop := (zi_push (.int 0) (zi_zret Q)) ls st h
theorem kX8_shorten_12 {X : zq_X} {d : Nat} (C : zq_C X cX8_shorten 2 RX8 d) {Q : zq_Q} (hq : zq_R X (some .boolean) 1 Q) : zq_ok X 2 12 (xX8_shorten_12 Q) := by
  refine zs_iconst C dX8_shorten_12 (by decide) ?_
  exact zs_zret C hq dX8_shorten_13
def xX8_shorten_4 (Q : zq_Q) (ls : zq_L) (st : List Value) (h : zq_H) : Prop := (zi_iload 1 (zi_aload 0 (zi_getI 1 1 (zi_if2 (fun x y => x ≤ y) (xX8_shorten_14 Q) (xX8_shorten_12 Q))))) ls st h
theorem kX8_shorten_4 {X : zq_X} {d : Nat} (C : zq_C X cX8_shorten 2 RX8 d) {Q : zq_Q} (hq : zq_R X (some .boolean) 1 Q) : zq_ok X 2 4 (xX8_shorten_4 Q) := by
  refine zs_iload_n C dX8_shorten_4 rfl ?_
  refine zs_aload_n C dX8_shorten_5 rfl ?_
  refine zs_getI C zp_1 zF8 (j := 1) ⟨by decide, rfl⟩ zw_41 dX8_shorten_6 ?_
  exact zs_icmp_le C dX8_shorten_9 (by decide) (kX8_shorten_14 C hq) (kX8_shorten_12 C hq)
def xX8_shorten_0 (Q : zq_Q) (ls : zq_L) (st : List Value) (h : zq_H) : Prop := (zi_iload 1 (zi_if1 (fun x => x < 0) (xX8_shorten_12 Q) (xX8_shorten_4 Q))) ls st h
theorem kX8_shorten_0 {X : zq_X} {d : Nat} (C : zq_C X cX8_shorten 2 RX8 d) {Q : zq_Q} (hq : zq_R X (some .boolean) 1 Q) : zq_ok X 2 0 (xX8_shorten_0 Q) := by
  refine zs_iload_n C dX8_shorten_0 rfl ?_
  exact zs_if_lt C dX8_shorten_1 (by decide) (kX8_shorten_12 C hq) (kX8_shorten_4 C hq)
theorem mX8_shorten {d : Nat} {spec : zq_Sp} (v : ∀ args h Q, spec args h Q → (zq_a args).length ≤ 2 ∧ xX8_shorten_0 Q (zq_l0 2 args) [] h) : zq_M yX8_shorten cX8_shorten 2 (some .boolean) 1 d spec := by
  refine zq_met (by decide +kernel) (by decide) (fun X Q args h C hq hs => ⟨(v args h Q hs).1, _, ?_, (v args h Q hs).2⟩)
  exact kX8_shorten_0 C hq
/-! ToOneCrumb$Text.clear()V -/
theorem dX8_clear_0 : decode cX8_clear 0 = .ok (.aload_n 0, 1) := by decide +kernel
theorem dX8_clear_1 : decode cX8_clear 1 = .ok (.iconst 0, 1) := by decide +kernel
theorem dX8_clear_2 : decode cX8_clear 2 = .ok (.putfield 15, 3) := by decide +kernel
theorem dX8_clear_5 : decode cX8_clear 5 = .ok (.return_, 1) := by decide +kernel
def xX8_clear_0 (Q : zq_Q) (ls : zq_L) (st : List Value) (h : zq_H) : Prop := (zi_aload 0 (zi_push (.int 0) (zi_putI 1 1 (zi_vret Q)))) ls st h
theorem kX8_clear_0 {X : zq_X} {d : Nat} (C : zq_C X cX8_clear 1 RX8 d) {Q : zq_Q} (hq : zq_R X none 0 Q) : zq_ok X 1 0 (xX8_clear_0 Q) := by
  refine zs_aload_n C dX8_clear_0 rfl ?_
  refine zs_iconst C dX8_clear_1 (by decide) ?_
  refine zs_putI C zp_1 zF8 (j := 1) ⟨by decide, rfl⟩ ⟨rfl, by decide +kernel⟩ zw_41 dX8_clear_2 ?_
  exact zs_vret C hq dX8_clear_5
theorem mX8_clear {d : Nat} {spec : zq_Sp} (v : ∀ args h Q, spec args h Q → (zq_a args).length ≤ 1 ∧ xX8_clear_0 Q (zq_l0 1 args) [] h) : zq_M yX8_clear cX8_clear 1 none 0 d spec := by
  refine zq_met (by decide +kernel) (by decide) (fun X Q args h C hq hs => ⟨(v args h Q hs).1, _, ?_, (v args h Q hs).2⟩)
  exact kX8_clear_0 C hq
/-! ToOneCrumb$Text.start(I)V -/
theorem dX8_start_0 : decode cX8_start 0 = .ok (.aload_n 0, 1) := by decide +kernel
theorem dX8_start_1 : decode cX8_start 1 = .ok (.iconst 0, 1) := by decide +kernel
theorem dX8_start_2 : decode cX8_start 2 = .ok (.putfield 19, 3) := by decide +kernel
theorem dX8_start_5 : decode cX8_start 5 = .ok (.aload_n 0, 1) := by decide +kernel
theorem dX8_start_6 : decode cX8_start 6 = .ok (.aload_n 0, 1) := by decide +kernel
theorem dX8_start_7 : decode cX8_start 7 = .ok (.getfield 15, 3) := by decide +kernel
theorem dX8_start_10 : decode cX8_start 10 = .ok (.iload_n 1, 1) := by decide +kernel
theorem dX8_start_11 : decode cX8_start 11 = .ok (.invokestatic 22, 3) := by decide +kernel
theorem dX8_start_14 : decode cX8_start 14 = .ok (.putfield 28, 3) := by decide +kernel
theorem dX8_start_17 : decode cX8_start 17 = .ok (.return_, 1) := by decide +kernel
def xX8_start_0 (Q : zq_Q) (ls : zq_L) (st : List Value) (h : zq_H) : Prop := (zi_aload 0 (zi_push (.int 0) (zi_putI 1 3 (zi_aload 0 (zi_aload 0 (zi_getI 1 1 (zi_iload 1 (zi_m2 zf_min (zi_putI 1 2 (zi_vret Q)))))))))) ls st h
theorem kX8_start_0 {X : zq_X} {d : Nat} (C : zq_C X cX8_start 2 RX8 d) (hd1 : 1 ≤ d) {Q : zq_Q} (hq : zq_R X none 0 Q) : zq_ok X 2 0 (xX8_start_0 Q) := by
  refine zs_aload_n C dX8_start_0 rfl ?_
  refine zs_iconst C dX8_start_1 (by decide) ?_
  refine zs_putI C zp_1 zF8 (j := 3) ⟨by decide, rfl⟩ ⟨rfl, by decide +kernel⟩ zw_44 dX8_start_2 ?_
  refine zs_aload_n C dX8_start_5 rfl ?_
  refine zs_aload_n C dX8_start_6 rfl ?_
  refine zs_getI C zp_1 zF8 (j := 1) ⟨by decide, rfl⟩ zw_41 dX8_start_7 ?_
  refine zs_iload_n C dX8_start_10 rfl ?_
  refine zs_mmin C hd1 zw_392 zw_393 zw_14 zw_394 dX8_start_11 ?_
  refine zs_putI C zp_1 zF8 (j := 2) ⟨by decide, rfl⟩ ⟨rfl, by decide +kernel⟩ zw_43 dX8_start_14 ?_
  exact zs_vret C hq dX8_start_17
theorem mX8_start {d : Nat} {spec : zq_Sp} (hd1 : 1 ≤ d) (v : ∀ args h Q, spec args h Q → (zq_a args).length ≤ 2 ∧ xX8_start_0 Q (zq_l0 2 args) [] h) : zq_M yX8_start cX8_start 2 none 0 d spec := by
  refine zq_met (by decide +kernel) (by decide) (fun X Q args h C hq hs => ⟨(v args h Q hs).1, _, ?_, (v args h Q hs).2⟩)
  exact kX8_start_0 C hd1 hq
/-! ToOneCrumb$Text.isFinished()Z -/
theorem dX8_isFinished_0 : decode cX8_isFinished 0 = .ok (.aload_n 0, 1) := by decide +kernel
theorem dX8_isFinished_1 : decode cX8_isFinished 1 = .ok (.getfield 19, 3) := by decide +kernel
theorem dX8_isFinished_4 : decode cX8_isFinished 4 = .ok (.aload_n 0, 1) := by decide +kernel
theorem dX8_isFinished_5 : decode cX8_isFinished 5 = .ok (.getfield 15, 3) := by decide +kernel
theorem dX8_isFinished_8 : decode cX8_isFinished 8 = .ok (.if_icmp .lt 7, 3) := by decide +kernel
theorem dX8_isFinished_11 : decode cX8_isFinished 11 = .ok (.iconst 1, 1) := by decide +kernel
theorem dX8_isFinished_12 : decode cX8_isFinished 12 = .ok (.goto 4, 3) := by decide +kernel
theorem dX8_isFinished_15 : decode cX8_isFinished 15 = .ok (.iconst 0, 1) := by decide +kernel
theorem dX8_isFinished_16 : decode cX8_isFinished 16 = .ok (.ireturn, 1) := by decide +kernel
def xX8_isFinished_16 (Q : zq_Q) (ls : zq_L) (st : List Value) (h : zq_H) : Prop := (zi_zret Q) ls st h
theorem kX8_isFinished_16 {X : zq_X} {d : Nat} (C : zq_C X cX8_isFinished 1 RX8 d) {Q : zq_Q} (hq : zq_R X (some .boolean) 1 Q) : zq_ok X 1 16 (xX8_isFinished_16 Q) := by
  exact zs_zret C hq dX8_isFinished_16
def xX8_isFinished_15 (Q : zq_Q) (ls : zq_L) (st : List Value) (h : zq_H) : Prop := (zi_push (.int 0) ((xX8_isFinished_16 Q))) ls st h
theorem kX8_isFinished_15 {X : zq_X} {d : Nat} (C : zq_C X cX8_isFinished 1 RX8 d) {Q : zq_Q} (hq : zq_R X (some .boolean) 1 Q) : zq_ok X 1 15 (xX8_isFinished_15 Q) := by
  refine zs_iconst C dX8_isFinished_15 (by decide) ?_
  exact kX8_isFinished_16 C hq
def xX8_isFinished_11 (Q : zq_Q) (ls : zq_L) (st : List Value) (h : zq_H) : Prop := (zi_push (.int 1) ((xX8_isFinished_16 Q))) ls st h
theorem kX8_isFinished_11 {X : zq_X} {d : Nat} (C : zq_C X cX8_isFinished 1 RX8 d) {Q : zq_Q} (hq : zq_R X (some .boolean) 1 Q) : zq_ok X 1 11 (xX8_isFinished_11 Q) := by
  refine zs_iconst C dX8_isFinished_11 (by decide) ?_
  exact zs_goto C dX8_isFinished_12 (by decide) (kX8_isFinished_16 C hq)
def xX8_isFinished_0 (Q : zq_Q) (ls : zq_L) (st : List Value) (h : zq_H) : Prop := (zi_aload 0 (zi_getI 1 3 (zi_aload 0 (zi_getI 1 1 (zi_if2 (fun x y => x < y) (xX8_isFinished_15 Q) (xX8_isFinished_11 Q)))))) ls st h
theorem kX8_isFinished_0 {X : zq_X} {d : Nat} (C : zq_C X cX8_isFinished 1 RX8 d) {Q : zq_Q} (hq : zq_R X (some .boolean) 1 Q) : zq_ok X 1 0 (xX8_isFinished_0 Q) := by
  refine zs_aload_n C dX8_isFinished_0 rfl ?_
  refine zs_getI C zp_1 zF8 (j := 3) ⟨by decide, rfl⟩ zw_44 dX8_isFinished_1 ?_
  refine zs_aload_n C dX8_isFinished_4 rfl ?_
  refine zs_getI C zp_1 zF8 (j := 1) ⟨by decide, rfl⟩ zw_41 dX8_isFinished_5 ?_
  exact zs_icmp_lt C dX8_isFinished_8 (by decide) (kX8_isFinished_15 C hq) (kX8_isFinished_11 C hq)
theorem mX8_isFinished {d : Nat} {spec : zq_Sp} (v : ∀ args h Q, spec args h Q → (zq_a args).length ≤ 1 ∧ xX8_isFinished_0 Q (zq_l0 1 args) [] h) : zq_M yX8_isFinished cX8_isFinished 1 (some .boolean) 1 d spec := by
  refine zq_met (by decide +kernel) (by decide) (fun X Q args h C hq hs => ⟨(v args h Q hs).1, _, ?_, (v args h Q hs).2⟩)
  exact kX8_isFinished_0 C hq
/-! ToOneCrumb$Text.fault()I -/
theorem dX8_fault_0 : decode cX8_fault 0 = .ok (.iconst (-1), 1) := by decide +kernel
theorem dX8_fault_1 : decode cX8_fault 1 = .ok (.aload_n 0, 1) := by decide +kernel
theorem dX8_fault_2 : decode cX8_fault 2 = .ok (.getfield 19, 3) := by decide +kernel
theorem dX8_fault_5 : decode cX8_fault 5 = .ok (.isub, 1) := by decide +kernel
theorem dX8_fault_6 : decode cX8_fault 6 = .ok (.ireturn, 1) := by decide +kernel
def xX8_fault_0 (Q : zq_Q) (ls : zq_L) (st : List Value) (h : zq_H) : Prop := (zi_push (.int (-1)) (zi_aload 0 (zi_getI 1 3 (zi_i2 (fun x y => x - y) (zi_iret Q))))) ls st h
theorem kX8_fault_0 {X : zq_X} {d : Nat} (C : zq_C X cX8_fault 1 RX8 d) {Q : zq_Q} (hq : zq_R X (some .int) 1 Q) : zq_ok X 1 0 (xX8_fault_0 Q) := by
  refine zs_iconst C dX8_fault_0 (by decide) ?_
  refine zs_aload_n C dX8_fault_1 rfl ?_
  refine zs_getI C zp_1 zF8 (j := 3) ⟨by decide, rfl⟩ zw_44 dX8_fault_2 ?_
  refine zs_isub C dX8_fault_5 ?_
  exact zs_iret C hq dX8_fault_6
theorem mX8_fault {d : Nat} {spec : zq_Sp} (v : ∀ args h Q, spec args h Q → (zq_a args).length ≤ 1 ∧ xX8_fault_0 Q (zq_l0 1 args) [] h) : zq_M yX8_fault cX8_fault 1 (some .int) 1 d spec := by
  refine zq_met (by decide +kernel) (by decide) (fun X Q args h C hq hs => ⟨(v args h Q hs).1, _, ?_, (v args h Q hs).2⟩)
  exact kX8_fault_0 C hq
/-! ToOneCrumb$Text.next()I -/
theorem dX8_next_0 : decode cX8_next 0 = .ok (.aload_n 0, 1) := by decide +kernel
theorem dX8_next_1 : decode cX8_next 1 = .ok (.getfield 19, 3) := by decide +kernel
theorem dX8_next_4 : decode cX8_next 4 = .ok (.aload_n 0, 1) := by decide +kernel
theorem dX8_next_5 : decode cX8_next 5 = .ok (.getfield 28, 3) := by decide +kernel
theorem dX8_next_8 : decode cX8_next 8 = .ok (.if_icmp .ge 15, 3) := by decide +kernel
theorem dX8_next_11 : decode cX8_next 11 = .ok (.aload_n 0, 1) := by decide +kernel
theorem dX8_next_12 : decode cX8_next 12 = .ok (.getfield 11, 3) := by decide +kernel
theorem dX8_next_15 : decode cX8_next 15 = .ok (.aload_n 0, 1) := by decide +kernel
theorem dX8_next_16 : decode cX8_next 16 = .ok (.getfield 19, 3) := by decide +kernel
theorem dX8_next_19 : decode cX8_next 19 = .ok (.iaload, 1) := by decide +kernel
theorem dX8_next_20 : decode cX8_next 20 = .ok (.goto 4, 3) := by decide +kernel
theorem dX8_next_23 : decode cX8_next 23 = .ok (.iconst (-1), 1) := by decide +kernel
theorem dX8_next_24 : decode cX8_next 24 = .ok (.ireturn, 1) := by decide +kernel
def xX8_next_24 (Q : zq_Q) (ls : zq_L) (st : List Value) (h : zq_H) : Prop := (zi_iret Q) ls st h
theorem kX8_next_24 {X : zq_X} {d : Nat} (C : zq_C X cX8_next 1 RX8 d) {Q : zq_Q} (hq : zq_R X (some .int) 1 Q) : zq_ok X 1 24 (xX8_next_24 Q) := by
  exact zs_iret C hq dX8_next_24
def xX8_next_23 (Q : zq_Q) (ls : zq_L) (st : List Value) (h : zq_H) : Prop := (zi_push (.int (-1)) ((xX8_next_24 Q))) ls st h
theorem kX8_next_23 {X : zq_X} {d : Nat} (C : zq_C X cX8_next 1 RX8 d) {Q : zq_Q} (hq : zq_R X (some .int) 1 Q) : zq_ok X 1 23 (xX8_next_23 Q) := by
  refine zs_iconst C dX8_next_23 (by decide) ?_
  exact kX8_next_24 C hq
def xX8_next_11 (Q : zq_Q) (ls : zq_L) (st : List Value) (h : zq_H) : Prop := (zi_aload 0 (zi_getR 1 2 (zi_aload 0 (zi_getI 1 3 (zi_aldI 2 80 ((xX8_next_24 Q))))))) ls st h
theorem kX8_next_11 {X : zq_X} {d : Nat} (C : zq_C X cX8_next 1 RX8 d) {Q : zq_Q} (hq : zq_R X (some .int) 1 Q) : zq_ok X 1 11 (xX8_next_11 Q) := by
  refine zs_aload_n C dX8_next_11 rfl ?_
  refine zs_getR C zp_1 zF8 (j := 0) ⟨by decide, rfl⟩ zw_40 dX8_next_12 ?_
  refine zs_aload_n C dX8_next_15 rfl ?_
  refine zs_getI C zp_1 zF8 (j := 3) ⟨by decide, rfl⟩ zw_44 dX8_next_16 ?_
  refine zs_iaload C zp_2 dX8_next_19 ?_
  exact zs_goto C dX8_next_20 (by decide) (kX8_next_24 C hq)
def xX8_next_0 (Q : zq_Q) (ls : zq_L) (st : List Value) (h : zq_H) : Prop := (zi_aload 0 (zi_getI 1 3 (zi_aload 0 (zi_getI 1 2 (zi_if2 (fun x y => y ≤ x) (xX8_next_23 Q) (xX8_next_11 Q)))))) ls st h
theorem kX8_next_0 {X : zq_X} {d : Nat} (C : zq_C X cX8_next 1 RX8 d) {Q : zq_Q} (hq : zq_R X (some .int) 1 Q) : zq_ok X 1 0 (xX8_next_0 Q) := by
  refine zs_aload_n C dX8_next_0 rfl ?_
  refine zs_getI C zp_1 zF8 (j := 3) ⟨by decide, rfl⟩ zw_44 dX8_next_1 ?_
  refine zs_aload_n C dX8_next_4 rfl ?_
  refine zs_getI C zp_1 zF8 (j := 2) ⟨by decide, rfl⟩ zw_43 dX8_next_5 ?_
  exact zs_icmp_ge C dX8_next_8 (by decide) (kX8_next_23 C hq) (kX8_next_11 C hq)
theorem mX8_next {d : Nat} {spec : zq_Sp} (v : ∀ args h Q, spec args h Q → (zq_a args).length ≤ 1 ∧ xX8_next_0 Q (zq_l0 1 args) [] h) : zq_M yX8_next cX8_next 1 (some .int) 1 d spec := by
  refine zq_met (by decide +kernel) (by decide) (fun X Q args h C hq hs => ⟨(v args h Q hs).1, _, ?_, (v args h Q hs).2⟩)
  exact kX8_next_0 C hq
/-! ToOneCrumb$Text.skip(I)Z -/
theorem dX8_skip_0 : decode cX8_skip 0 = .ok (.aload_n 0, 1) := by decide +kernel
theorem dX8_skip_1 : decode cX8_skip 1 = .ok (.getfield 19, 3) := by decide +kernel
theorem dX8_skip_4 : decode cX8_skip 4 = .ok (.aload_n 0, 1) := by decide +kernel
theorem dX8_skip_5 : decode cX8_skip 5 = .ok (.getfield 28, 3) := by decide +kernel
theorem dX8_skip_8 : decode cX8_skip 8 = .ok (.if_icmp .ge 16, 3) := by decide +kernel
theorem dX8_skip_11 : decode cX8_skip 11 = .ok (.aload_n 0, 1) := by decide +kernel
theorem dX8_skip_12 : decode cX8_skip 12 = .ok (.getfield 11, 3) := by decide +kernel
theorem dX8_skip_15 : decode cX8_skip 15 = .ok (.aload_n 0, 1) := by decide +kernel
theorem dX8_skip_16 : decode cX8_skip 16 = .ok (.getfield 19, 3) := by decide +kernel
theorem dX8_skip_19 : decode cX8_skip 19 = .ok (.iaload, 1) := by decide +kernel
theorem dX8_skip_20 : decode cX8_skip 20 = .ok (.iload_n 1, 1) := by decide +kernel
theorem dX8_skip_21 : decode cX8_skip 21 = .ok (.if_icmp .eq 5, 3) := by decide +kernel
theorem dX8_skip_24 : decode cX8_skip 24 = .ok (.iconst 0, 1) := by decide +kernel
theorem dX8_skip_25 : decode cX8_skip 25 = .ok (.ireturn, 1) := by decide +kernel
theorem dX8_skip_26 : decode cX8_skip 26 = .ok (.aload_n 0, 1) := by decide +kernel
theorem dX8_skip_27 : decode cX8_skip 27 = .ok (.dup, 1) := by decide +kernel
theorem dX8_skip_28 : decode cX8_skip 28 = .ok (.getfield 19, 3) := by decide +kernel
theorem dX8_skip_31 : decode cX8_skip 31 = .ok (.iconst 1, 1) := by decide +kernel
theorem dX8_skip_32 : decode cX8_skip 32 = .ok (.iadd, 1) := by decide +kernel
theorem dX8_skip_33 : decode cX8_skip 33 = .ok (.putfield 19, 3) := by decide +kernel
theorem dX8_skip_36 : decode cX8_skip 36 = .ok (.iconst 1, 1) := by decide +kernel
theorem dX8_skip_37 : decode cX8_skip 37 = .ok (.ireturn, 1) := by decide +kernel
def xX8_skip_26 (Q : zq_Q) (ls : zq_L) (st : List Value) (h : zq_H) : Prop := (zi_aload 0 (zi_dup (zi_getI 1 3 (zi_push (.int 1) (zi_i2 (fun x y => x + y) (zi_putI 1 3 (zi_push (.int 1) (zi_zret Q)))))))) ls st h
theorem kX8_skip_26 {X : zq_X} {d : Nat} (C : zq_C X cX8_skip 2 RX8 d) {Q : zq_Q} (hq : zq_R X (some .boolean) 1 Q) : zq_ok X 2 26 (xX8_skip_26 Q) := by
  refine zs_aload_n C dX8_skip_26 rfl ?_
  refine zs_dup C dX8_skip_27 ?_
  refine zs_getI C zp_1 zF8 (j := 3) ⟨by decide, rfl⟩ zw_44 dX8_skip_28 ?_
  refine zs_iconst C dX8_skip_31 (by decide) ?_
  refine zs_iadd C dX8_skip_32 ?_
  refine zs_putI C zp_1 zF8 (j := 3) ⟨by decide, rfl⟩ ⟨rfl, by decide +kernel⟩ zw_44 dX8_skip_33 ?_
  refine zs_iconst C dX8_skip_36 (by decide) ?_
  exact zs_zret C hq dX8_skip_37
def xX8_skip_24 (Q : zq_Q) (ls : zq_L) (st : List Value) (h : zq_H) : Prop := (zi_push (.int 0) (zi_zret Q)) ls st h
theorem kX8_skip_24 {X : zq_X} {d : Nat} (C : zq_C X cX8_skip 2 RX8 d) {Q : zq_Q} (hq : zq_R X (some .boolean) 1 Q) : zq_ok X 2 24 (xX8_skip_24 Q) := by
  refine zs_iconst C dX8_skip_24 (by decide) ?_
  exact zs_zret C hq dX8_skip_25
def xX8_skip_11 (Q : zq_Q) (ls : zq_L) (st : List Value) (h : zq_H) : Prop := (zi_aload 0 (zi_getR 1 2 (zi_aload 0 (zi_getI 1 3 (zi_aldI 2 80 (zi_iload 1 (zi_if2 (fun x y => x = y) (xX8_skip_26 Q) (xX8_skip_24 Q)))))))) ls st h
theorem kX8_skip_11 {X : zq_X} {d : Nat} (C : zq_C X cX8_skip 2 RX8 d) {Q : zq_Q} (hq : zq_R X (some .boolean) 1 Q) : zq_ok X 2 11 (xX8_skip_11 Q) := by
  refine zs_aload_n C dX8_skip_11 rfl ?_
  refine zs_getR C zp_1 zF8 (j := 0) ⟨by decide, rfl⟩ zw_40 dX8_skip_12 ?_
  refine zs_aload_n C dX8_skip_15 rfl ?_
  refine zs_getI C zp_1 zF8 (j := 3) ⟨by decide, rfl⟩ zw_44 dX8_skip_16 ?_
  refine zs_iaload C zp_2 dX8_skip_19 ?_
  refine zs_iload_n C dX8_skip_20 rfl ?_
  exact zs_icmp_eq C dX8_skip_21 (by decide) (kX8_skip_26 C hq) (kX8_skip_24 C hq)
def xX8_skip_0 (Q : zq_Q) (ls : zq_L) (st : List Value) (h : zq_H) : Prop := (zi_aload 0 (zi_getI 1 3 (zi_aload 0 (zi_getI 1 2 (zi_if2 (fun x y => y ≤ x) (xX8_skip_24 Q) (xX8_skip_11 Q)))))) ls st h
theorem kX8_skip_0 {X : zq_X} {d : Nat} (C : zq_C X cX8_skip 2 RX8 d) {Q : zq_Q} (hq : zq_R X (some .boolean) 1 Q) : zq_ok X 2 0 (xX8_skip_0 Q) := by
  refine zs_aload_n C dX8_skip_0 rfl ?_
  refine zs_getI C zp_1 zF8 (j := 3) ⟨by decide, rfl⟩ zw_44 dX8_skip_1 ?_
  refine zs_aload_n C dX8_skip_4 rfl ?_
  refine zs_getI C zp_1 zF8 (j := 2) ⟨by decide, rfl⟩ zw_43 dX8_skip_5 ?_
  exact zs_icmp_ge C dX8_skip_8 (by decide) (kX8_skip_24 C hq) (kX8_skip_11 C hq)
theorem mX8_skip {d : Nat} {spec : zq_Sp} (v : ∀ args h Q, spec args h Q → (zq_a args).length ≤ 2 ∧ xX8_skip_0 Q (zq_l0 2 args) [] h) : zq_M yX8_skip cX8_skip 2 (some .boolean) 1 d spec := by
  refine zq_met (by decide +kernel) (by decide) (fun X Q args h C hq hs => ⟨(v args h Q hs).1, _, ?_, (v args h Q hs).2⟩)
  exact kX8_skip_0 C hq
/-! ToOneCrumb$Text.takeDigit(I)I -/
theorem dX8_takeDigit_0 : decode cX8_takeDigit 0 = .ok (.aload_n 0, 1) := by decide +kernel
theorem dX8_takeDigit_1 : decode cX8_takeDigit 1 = .ok (.invokevirtual 31, 3) := by decide +kernel
theorem dX8_takeDigit_4 : decode cX8_takeDigit 4 = .ok (.bipush 48, 2) := by decide +kernel
theorem dX8_takeDigit_6 : decode cX8_takeDigit 6 = .ok (.isub, 1) := by decide +kernel
theorem dX8_takeDigit_7 : decode cX8_takeDigit 7 = .ok (.istore_n 2, 1) := by decide +kernel
theorem dX8_takeDigit_8 : decode cX8_takeDigit 8 = .ok (.iload_n 2, 1) := by decide +kernel
theorem dX8_takeDigit_9 : decode cX8_takeDigit 9 = .ok (.iload_n 1, 1) := by decide +kernel
theorem dX8_takeDigit_10 : decode cX8_takeDigit 10 = .ok (.if_icmp .lt 9, 3) := by decide +kernel
theorem dX8_takeDigit_13 : decode cX8_takeDigit 13 = .ok (.iload_n 2, 1) := by decide +kernel
theorem dX8_takeDigit_14 : decode cX8_takeDigit 14 = .ok (.bipush 9, 2) := by decide +kernel
theorem dX8_takeDigit_16 : decode cX8_takeDigit 16 = .ok (.if_icmp .le 5, 3) := by decide +kernel
theorem dX8_takeDigit_19 : decode cX8_takeDigit 19 = .ok (.iconst (-1), 1) := by decide +kernel
theorem dX8_takeDigit_20 : decode cX8_takeDigit 20 = .ok (.ireturn, 1) := by decide +kernel
theorem dX8_takeDigit_21 : decode cX8_takeDigit 21 = .ok (.aload_n 0, 1) := by decide +kernel
theorem dX8_takeDigit_22 : decode cX8_takeDigit 22 = .ok (.dup, 1) := by decide +kernel
theorem dX8_takeDigit_23 : decode cX8_takeDigit 23 = .ok (.getfield 19, 3) := by decide +kernel
theorem dX8_takeDigit_26 : decode cX8_takeDigit 26 = .ok (.iconst 1, 1) := by decide +kernel
theorem dX8_takeDigit_27 : decode cX8_takeDigit 27 = .ok (.iadd, 1) := by decide +kernel
theorem dX8_takeDigit_28 : decode cX8_takeDigit 28 = .ok (.putfield 19, 3) := by decide +kernel
theorem dX8_takeDigit_31 : decode cX8_takeDigit 31 = .ok (.iload_n 2, 1) := by decide +kernel
theorem dX8_takeDigit_32 : decode cX8_takeDigit 32 = .ok (.ireturn, 1) := by decide +kernel
def xX8_takeDigit_21 (s_X8_next : zq_Sp) (Q : zq_Q) (ls : zq_L) (st : List Value) (h : zq_H) : Prop := (zi_aload 0 (zi_dup (zi_getI 1 3 (zi_push (.int 1) (zi_i2 (fun x y => x + y) (zi_putI 1 3 (zi_iload 2 (zi_iret Q)))))))) ls st h
theorem kX8_takeDigit_21 {X : zq_X} {d : Nat} (C : zq_C X cX8_takeDigit 3 RX8 d) {d_X8_next : Nat} {s_X8_next : zq_Sp} (h_X8_next : zq_M yX8_next cX8_next 1 (some .int) 1 d_X8_next s_X8_next) (g_X8_next : d_X8_next + 1 ≤ d) {Q : zq_Q} (hq : zq_R X (some .int) 1 Q) : zq_ok X 3 21 (xX8_takeDigit_21 s_X8_next Q) := by
  refine zs_aload_n C dX8_takeDigit_21 rfl ?_
  refine zs_dup C dX8_takeDigit_22 ?_
  refine zs_getI C zp_1 zF8 (j := 3) ⟨by decide, rfl⟩ zw_44 dX8_takeDigit_23 ?_
  refine zs_iconst C dX8_takeDigit_26 (by decide) ?_
  refine zs_iadd C dX8_takeDigit_27 ?_
  refine zs_putI C zp_1 zF8 (j := 3) ⟨by decide, rfl⟩ ⟨rfl, by decide +kernel⟩ zw_44 dX8_takeDigit_28 ?_
  refine zs_iload_n C dX8_takeDigit_31 rfl ?_
  exact zs_iret C hq dX8_takeDigit_32
def xX8_takeDigit_19 (s_X8_next : zq_Sp) (Q : zq_Q) (ls : zq_L) (st : List Value) (h : zq_H) : Prop := (zi_push (.int (-1)) (zi_iret Q)) ls st h
theorem kX8_takeDigit_19 {X : zq_X} {d : Nat} (C : zq_C X cX8_takeDigit 3 RX8 d) {d_X8_next : Nat} {s_X8_next : zq_Sp} (h_X8_next : zq_M yX8_next cX8_next 1 (some .int) 1 d_X8_next s_X8_next) (g_X8_next : d_X8_next + 1 ≤ d) {Q : zq_Q} (hq : zq_R X (some .int) 1 Q) : zq_ok X 3 19 (xX8_takeDigit_19 s_X8_next Q) := by
  refine zs_iconst C dX8_takeDigit_19 (by decide) ?_
  exact zs_iret C hq dX8_takeDigit_20
def xX8_takeDigit_13 (s_X8_next : zq_Sp) (Q : zq_Q) (ls : zq_L) (st : List Value) (h : zq_H) : Prop := (zi_iload 2 (zi_push (.int 9) (zi_if2 (fun x y => x ≤ y) (xX8_takeDigit_21 s_X8_next Q) (xX8_takeDigit_19 s_X8_next Q)))) ls st h
theorem kX8_takeDigit_13 {X : zq_X} {d : Nat} (C : zq_C X cX8_takeDigit 3 RX8 d) {d_X8_next : Nat} {s_X8_next : zq_Sp} (h_X8_next : zq_M yX8_next cX8_next 1 (some .int) 1 d_X8_next s_X8_next) (g_X8_next : d_X8_next + 1 ≤ d) {Q : zq_Q} (hq : zq_R X (some .int) 1 Q) : zq_ok X 3 13 (xX8_takeDigit_13 s_X8_next Q) := by
  refine zs_iload_n C dX8_takeDigit_13 rfl ?_
  refine zs_bipush C dX8_takeDigit_14 (by decide) ?_
  exact zs_icmp_le C dX8_takeDigit_16 (by decide) (kX8_takeDigit_21 C h_X8_next g_X8_next hq) (kX8_takeDigit_19 C h_X8_next g_X8_next hq)
def xX8_takeDigit_0 (s_X8_next : zq_Sp) (Q : zq_Q) (ls : zq_L) (st : List Value) (h : zq_H) : Prop := (zi_aload 0 (zi_callV 0 1 s_X8_next (zi_push (.int 48) (zi_i2 (fun x y => x - y) (zi_istore 2 (zi_iload 2 (zi_iload 1 (zi_if2 (fun x y => x < y) (xX8_takeDigit_19 s_X8_next Q) (xX8_takeDigit_13 s_X8_next Q))))))))) ls st h
theorem kX8_takeDigit_0 {X : zq_X} {d : Nat} (C : zq_C X cX8_takeDigit 3 RX8 d) {d_X8_next : Nat} {s_X8_next : zq_Sp} (h_X8_next : zq_M yX8_next cX8_next 1 (some .int) 1 d_X8_next s_X8_next) (g_X8_next : d_X8_next + 1 ≤ d) {Q : zq_Q} (hq : zq_R X (some .int) 1 Q) : zq_ok X 3 0 (xX8_takeDigit_0 s_X8_next Q) := by
  refine zs_aload_n C dX8_takeDigit_0 rfl ?_
  refine zs_callV C h_X8_next g_X8_next zy_X8_next zp_1 (show vwCl[8]? = some (RX8, TX8, 4) from rfl) zw_403 zw_404 zs9_X8_next dX8_takeDigit_1 ?_
  refine zs_bipush C dX8_takeDigit_4 (by decide) ?_
  refine zs_isub C dX8_takeDigit_6 ?_
  refine zs_istore_n C dX8_takeDigit_7 rfl (by decide) ?_
  refine zs_iload_n C dX8_takeDigit_8 rfl ?_
  refine zs_iload_n C dX8_takeDigit_9 rfl ?_
  exact zs_icmp_lt C dX8_takeDigit_10 (by decide) (kX8_takeDigit_19 C h_X8_next g_X8_next hq) (kX8_takeDigit_13 C h_X8_next g_X8_next hq)
theorem mX8_takeDigit {d : Nat} {spec : zq_Sp} {d_X8_next : Nat} {s_X8_next : zq_Sp} (h_X8_next : zq_M yX8_next cX8_next 1 (some .int) 1 d_X8_next s_X8_next) (g_X8_next : d_X8_next + 1 ≤ d) (v : ∀ args h Q, spec args h Q → (zq_a args).length ≤ 3 ∧ xX8_takeDigit_0 s_X8_next Q (zq_l0 3 args) [] h) : zq_M yX8_takeDigit cX8_takeDigit 3 (some .int) 1 d spec := by
  refine zq_met (by decide +kernel) (by decide) (fun X Q args h C hq hs => ⟨(v args h Q hs).1, _, ?_, (v args h Q hs).2⟩)
  exact kX8_takeDigit_0 C h_X8_next g_X8_next hq
/-! ToOneCrumb$Text.takeNumber(I)I -/
theorem dX8_takeNumber_0 : decode cX8_takeNumber 0 = .ok (.aload_n 0, 1) := by decide +kernel
theorem dX8_takeNumber_1 : decode cX8_takeNumber 1 = .ok (.iconst 0, 1) := by decide +kernel
theorem dX8_takeNumber_2 : decode cX8_takeNumber 2 = .ok (.invokevirtual 35, 3) := by decide +kernel
theorem dX8_takeNumber_5 : decode cX8_takeNumber 5 = .ok (.istore_n 2, 1) := by decide +kernel
theorem dX8_takeNumber_6 : decode cX8_takeNumber 6 = .ok (.iconst 1, 1) := by decide +kernel
theorem dX8_takeNumber_7 : decode cX8_takeNumber 7 = .ok (.istore_n 3, 1) := by decide +kernel
theorem dX8_takeNumber_8 : decode cX8_takeNumber 8 = .ok (.iload_n 2, 1) := by decide +kernel
theorem dX8_takeNumber_9 : decode cX8_takeNumber 9 = .ok (.ifCond .lt 37, 3) := by decide +kernel
theorem dX8_takeNumber_12 : decode cX8_takeNumber 12 = .ok (.iload_n 3, 1) := by decide +kernel
theorem dX8_takeNumber_13 : decode cX8_takeNumber 13 = .ok (.iload_n 1, 1) := by decide +kernel
theorem dX8_takeNumber_14 : decode cX8_takeNumber 14 = .ok (.if_icmp .ge 32, 3) := by decide +kernel
theorem dX8_takeNumber_17 : decode cX8_takeNumber 17 = .ok (.aload_n 0, 1) := by decide +kernel
theorem dX8_takeNumber_18 : decode cX8_takeNumber 18 = .ok (.iconst 0, 1) := by decide +kernel
theorem dX8_takeNumber_19 : decode cX8_takeNumber 19 = .ok (.invokevirtual 35, 3) := by decide +kernel
theorem dX8_takeNumber_22 : decode cX8_takeNumber 22 = .ok (.istore 4, 2) := by decide +kernel
theorem dX8_takeNumber_24 : decode cX8_takeNumber 24 = .ok (.iload 4, 2) := by decide +kernel
theorem dX8_takeNumber_26 : decode cX8_takeNumber 26 = .ok (.ifCond .ge 6, 3) := by decide +kernel
theorem dX8_takeNumber_29 : decode cX8_takeNumber 29 = .ok (.goto 17, 3) := by decide +kernel
theorem dX8_takeNumber_32 : decode cX8_takeNumber 32 = .ok (.iload_n 2, 1) := by decide +kernel
theorem dX8_takeNumber_33 : decode cX8_takeNumber 33 = .ok (.bipush 10, 2) := by decide +kernel
theorem dX8_takeNumber_35 : decode cX8_takeNumber 35 = .ok (.imul, 1) := by decide +kernel
theorem dX8_takeNumber_36 : decode cX8_takeNumber 36 = .ok (.iload 4, 2) := by decide +kernel
theorem dX8_takeNumber_38 : decode cX8_takeNumber 38 = .ok (.iadd, 1) := by decide +kernel
theorem dX8_takeNumber_39 : decode cX8_takeNumber 39 = .ok (.istore_n 2, 1) := by decide +kernel
theorem dX8_takeNumber_40 : decode cX8_takeNumber 40 = .ok (.iinc 3 1, 3) := by decide +kernel
theorem dX8_takeNumber_43 : decode cX8_takeNumber 43 = .ok (.goto (-35), 3) := by decide +kernel
theorem dX8_takeNumber_46 : decode cX8_takeNumber 46 = .ok (.iload_n 2, 1) := by decide +kernel
theorem dX8_takeNumber_47 : decode cX8_takeNumber 47 = .ok (.ireturn, 1) := by decide +kernel
def xX8_takeNumber_46 (s_X8_takeDigit : zq_Sp) (J8 : zq_P) (Q : zq_Q) (ls : zq_L) (st : List Value) (h : zq_H) : Prop := (zi_iload 2 (zi_iret Q)) ls st h
theorem kX8_takeNumber_46 {X : zq_X} {d : Nat} (C : zq_C X cX8_takeNumber 5 RX8 d) {d_X8_takeDigit : Nat} {s_X8_takeDigit : zq_Sp} (h_X8_takeDigit : zq_M yX8_takeDigit cX8_takeDigit 3 (some .int) 1 d_X8_takeDigit s_X8_takeDigit) (g_X8_takeDigit : d_X8_takeDigit + 1 ≤ d) {J8 : zq_P} (j8 : zq_ok X 5 8 J8) {Q : zq_Q} (hq : zq_R X (some .int) 1 Q) : zq_ok X 5 46 (xX8_takeNumber_46 s_X8_takeDigit J8 Q) := by
  refine zs_iload_n C dX8_takeNumber_46 rfl ?_
  exact zs_iret C hq dX8_takeNumber_47
def xX8_takeNumber_32 (s_X8_takeDigit : zq_Sp) (J8 : zq_P) (Q : zq_Q) (ls : zq_L) (st : List Value) (h : zq_H) : Prop := (zi_iload 2 (zi_push (.int 10) (zi_i2 (fun x y => x * y) (zi_iload 4 (zi_i2 (fun x y => x + y) (zi_istore 2 (zi_iinc 3 1 (J8)))))))) ls st h
theorem kX8_takeNumber_32 {X : zq_X} {d : Nat} (C : zq_C X cX8_takeNumber 5 RX8 d) {d_X8_takeDigit : Nat} {s_X8_takeDigit : zq_Sp} (h_X8_takeDigit : zq_M yX8_takeDigit cX8_takeDigit 3 (some .int) 1 d_X8_takeDigit s_X8_takeDigit) (g_X8_takeDigit : d_X8_takeDigit + 1 ≤ d) {J8 : zq_P} (j8 : zq_ok X 5 8 J8) {Q : zq_Q} (hq : zq_R X (some .int) 1 Q) : zq_ok X 5 32 (xX8_takeNumber_32 s_X8_takeDigit J8 Q) := by
  refine zs_iload_n C dX8_takeNumber_32 rfl ?_
  refine zs_bipush C dX8_takeNumber_33 (by decide) ?_
  refine zs_imul C dX8_takeNumber_35 ?_
  refine zs_iload C dX8_takeNumber_36 ?_
  refine zs_iadd C dX8_takeNumber_38 ?_
  refine zs_istore_n C dX8_takeNumber_39 rfl (by decide) ?_
  refine zs_iinc C dX8_takeNumber_40 (by decide) (by decide) ?_
  exact zs_goto C dX8_takeNumber_43 (by decide) (j8)
def xX8_takeNumber_29 (s_X8_takeDigit : zq_Sp) (J8 : zq_P) (Q : zq_Q) (ls : zq_L) (st : List Value) (h : zq_H) : Prop := ((xX8_takeNumber_46 s_X8_takeDigit J8 Q)) ls st h
theorem kX8_takeNumber_29 {X : zq_X} {d : Nat} (C : zq_C X cX8_takeNumber 5 RX8 d) {d_X8_takeDigit : Nat} {s_X8_takeDigit : zq_Sp} (h_X8_takeDigit : zq_M yX8_takeDigit cX8_takeDigit 3 (some .int) 1 d_X8_takeDigit s_X8_takeDigit) (g_X8_takeDigit : d_X8_takeDigit + 1 ≤ d) {J8 : zq_P} (j8 : zq_ok X 5 8 J8) {Q : zq_Q} (hq : zq_R X (some .int) 1 Q) : zq_ok X 5 29 (xX8_takeNumber_29 s_X8_takeDigit J8 Q) := by
  exact zs_goto C dX8_takeNumber_29 (by decide) (kX8_takeNumber_46 C h_X8_takeDigit g_X8_takeDigit j8 hq)
def xX8_takeNumber_17 (s_X8_takeDigit : zq_Sp) (J8 : zq_P) (Q : zq_Q) (ls : zq_L) (st : List Value) (h : zq_H) : Prop := (zi_aload 0 (zi_push (.int 0) (zi_callV 1 1 s_X8_takeDigit (zi_istore 4 (zi_iload 4 (zi_if1 (fun x => 0 ≤ x) (xX8_takeNumber_32 s_X8_takeDigit J8 Q) (xX8_takeNumber_29 s_X8_takeDigit J8 Q))))))) ls st h
theorem kX8_takeNumber_17 {X : zq_X} {d : Nat} (C : zq_C X cX8_takeNumber 5 RX8 d) {d_X8_takeDigit : Nat} {s_X8_takeDigit : zq_Sp} (h_X8_takeDigit : zq_M yX8_takeDigit cX8_takeDigit 3 (some .int) 1 d_X8_takeDigit s_X8_takeDigit) (g_X8_takeDigit : d_X8_takeDigit + 1 ≤ d) {J8 : zq_P} (j8 : zq_ok X 5 8 J8) {Q : zq_Q} (hq : zq_R X (some .int) 1 Q) : zq_ok X 5 17 (xX8_takeNumber_17 s_X8_takeDigit J8 Q) := by
  refine zs_aload_n C dX8_takeNumber_17 rfl ?_
  refine zs_iconst C dX8_takeNumber_18 (by decide) ?_
  refine zs_callV C h_X8_takeDigit g_X8_takeDigit zy_X8_takeDigit zp_1 (show vwCl[8]? = some (RX8, TX8, 4) from rfl) zw_521 zw_400 zs9_X8_takeDigit dX8_takeNumber_19 ?_
  refine zs_istore C dX8_takeNumber_22 (by decide) ?_
  refine zs_iload C dX8_takeNumber_24 ?_
  exact zs_if_ge C dX8_takeNumber_26 (by decide) (kX8_takeNumber_32 C h_X8_takeDigit g_X8_takeDigit j8 hq) (kX8_takeNumber_29 C h_X8_takeDigit g_X8_takeDigit j8 hq)
def xX8_takeNumber_12 (s_X8_takeDigit : zq_Sp) (J8 : zq_P) (Q : zq_Q) (ls : zq_L) (st : List Value) (h : zq_H) : Prop := (zi_iload 3 (zi_iload 1 (zi_if2 (fun x y => y ≤ x) (xX8_takeNumber_46 s_X8_takeDigit J8 Q) (xX8_takeNumber_17 s_X8_takeDigit J8 Q)))) ls st h
theorem kX8_takeNumber_12 {X : zq_X} {d : Nat} (C : zq_C X cX8_takeNumber 5 RX8 d) {d_X8_takeDigit : Nat} {s_X8_takeDigit : zq_Sp} (h_X8_takeDigit : zq_M yX8_takeDigit cX8_takeDigit 3 (some .int) 1 d_X8_takeDigit s_X8_takeDigit) (g_X8_takeDigit : d_X8_takeDigit + 1 ≤ d) {J8 : zq_P} (j8 : zq_ok X 5 8 J8) {Q : zq_Q} (hq : zq_R X (some .int) 1 Q) : zq_ok X 5 12 (xX8_takeNumber_12 s_X8_takeDigit J8 Q) := by
  refine zs_iload_n C dX8_takeNumber_12 rfl ?_
  refine zs_iload_n C dX8_takeNumber_13 rfl ?_
  exact zs_icmp_ge C dX8_takeNumber_14 (by decide) (kX8_takeNumber_46 C h_X8_takeDigit g_X8_takeDigit j8 hq) (kX8_takeNumber_17 C h_X8_takeDigit g_X8_takeDigit j8 hq)
def xX8_takeNumber_8 (s_X8_takeDigit : zq_Sp) (J8 : zq_P) (Q : zq_Q) (ls : zq_L) (st : List Value) (h : zq_H) : Prop := (zi_iload 2 (zi_if1 (fun x => x < 0) (xX8_takeNumber_46 s_X8_takeDigit J8 Q) (xX8_takeNumber_12 s_X8_takeDigit J8 Q))) ls st h
theorem kX8_takeNumber_8 {X : zq_X} {d : Nat} (C : zq_C X cX8_takeNumber 5 RX8 d) {d_X8_takeDigit : Nat} {s_X8_takeDigit : zq_Sp} (h_X8_takeDigit : zq_M yX8_takeDigit cX8_takeDigit 3 (some .int) 1 d_X8_takeDigit s_X8_takeDigit) (g_X8_takeDigit : d_X8_takeDigit + 1 ≤ d) {J8 : zq_P} (j8 : zq_ok X 5 8 J8) {Q : zq_Q} (hq : zq_R X (some .int) 1 Q) : zq_ok X 5 8 (xX8_takeNumber_8 s_X8_takeDigit J8 Q) := by
  refine zs_iload_n C dX8_takeNumber_8 rfl ?_
  exact zs_if_lt C dX8_takeNumber_9 (by decide) (kX8_takeNumber_46 C h_X8_takeDigit g_X8_takeDigit j8 hq) (kX8_takeNumber_12 C h_X8_takeDigit g_X8_takeDigit j8 hq)
def xX8_takeNumber_0 (s_X8_takeDigit : zq_Sp) (J8 : zq_P) (Q : zq_Q) (ls : zq_L) (st : List Value) (h : zq_H) : Prop := (zi_aload 0 (zi_push (.int 0) (zi_callV 1 1 s_X8_takeDigit (zi_istore 2 (zi_push (.int 1) (zi_istore 3 (J8))))))) ls st h
theorem kX8_takeNumber_0 {X : zq_X} {d : Nat} (C : zq_C X cX8_takeNumber 5 RX8 d) {d_X8_takeDigit : Nat} {s_X8_takeDigit : zq_Sp} (h_X8_takeDigit : zq_M yX8_takeDigit cX8_takeDigit 3 (some .int) 1 d_X8_takeDigit s_X8_takeDigit) (g_X8_takeDigit : d_X8_takeDigit + 1 ≤ d) {J8 : zq_P} (j8 : zq_ok X 5 8 J8) {Q : zq_Q} (hq : zq_R X (some .int) 1 Q) : zq_ok X 5 0 (xX8_takeNumber_0 s_X8_takeDigit J8 Q) := by
  refine zs_aload_n C dX8_takeNumber_0 rfl ?_
  refine zs_iconst C dX8_takeNumber_1 (by decide) ?_
  refine zs_callV C h_X8_takeDigit g_X8_takeDigit zy_X8_takeDigit zp_1 (show vwCl[8]? = some (RX8, TX8, 4) from rfl) zw_521 zw_400 zs9_X8_takeDigit dX8_takeNumber_2 ?_
  refine zs_istore_n C dX8_takeNumber_5 rfl (by decide) ?_
  refine zs_iconst C dX8_takeNumber_6 (by decide) ?_
  refine zs_istore_n C dX8_takeNumber_7 rfl (by decide) ?_
  exact j8
theorem mX8_takeNumber {d : Nat} {spec : zq_Sp} {σ8 : Type} {d_X8_takeDigit : Nat} {s_X8_takeDigit : zq_Sp} (h_X8_takeDigit : zq_M yX8_takeDigit cX8_takeDigit 3 (some .int) 1 d_X8_takeDigit s_X8_takeDigit) (g_X8_takeDigit : d_X8_takeDigit + 1 ≤ d) (μ8 : σ8 → Nat) (I8 : zq_Q → σ8 → zq_P) (v : ∀ args h Q, spec args h Q → (zq_a args).length ≤ 5 ∧ xX8_takeNumber_0 s_X8_takeDigit (fun ls st h => ∃ b, I8 Q b ls st h) Q (zq_l0 5 args) [] h) (v8 : ∀ Q a ls st h, I8 Q a ls st h → xX8_takeNumber_8 s_X8_takeDigit (fun ls st h => ∃ b, μ8 b < μ8 a ∧ I8 Q b ls st h) Q ls st h) : zq_M yX8_takeNumber cX8_takeNumber 5 (some .int) 1 d spec := by
  refine zq_met (by decide +kernel) (by decide) (fun X Q args h C hq hs => ⟨(v args h Q hs).1, _, ?_, (v args h Q hs).2⟩)
  have hl := zq_loop1 (X := X) (nL := 5) (pc1 := 8) μ8 (I8 Q) (fun J8 => xX8_takeNumber_8 s_X8_takeDigit J8 Q) (fun j8 => kX8_takeNumber_8 C h_X8_takeDigit g_X8_takeDigit j8 hq) (v8 Q)
  exact kX8_takeNumber_0 C h_X8_takeDigit g_X8_takeDigit hl hq
/-! ToOneCrumb$Text.takeLetter(I)I -/
theorem dX8_takeLetter_0 : decode cX8_takeLetter 0 = .ok (.aload_n 0, 1) := by decide +kernel
theorem dX8_takeLetter_1 : decode cX8_takeLetter 1 = .ok (.invokevirtual 31, 3) := by decide +kernel
theorem dX8_takeLetter_4 : decode cX8_takeLetter 4 = .ok (.bipush 97, 2) := by decide +kernel
theorem dX8_takeLetter_6 : decode cX8_takeLetter 6 = .ok (.isub, 1) := by decide +kernel
theorem dX8_takeLetter_7 : decode cX8_takeLetter 7 = .ok (.istore_n 2, 1) := by decide +kernel
theorem dX8_takeLetter_8 : decode cX8_takeLetter 8 = .ok (.iload_n 2, 1) := by decide +kernel
theorem dX8_takeLetter_9 : decode cX8_takeLetter 9 = .ok (.ifCond .lt 8, 3) := by decide +kernel
theorem dX8_takeLetter_12 : decode cX8_takeLetter 12 = .ok (.iload_n 2, 1) := by decide +kernel
theorem dX8_takeLetter_13 : decode cX8_takeLetter 13 = .ok (.iload_n 1, 1) := by decide +kernel
theorem dX8_takeLetter_14 : decode cX8_takeLetter 14 = .ok (.if_icmp .lt 5, 3) := by decide +kernel
theorem dX8_takeLetter_17 : decode cX8_takeLetter 17 = .ok (.iconst (-1), 1) := by decide +kernel
theorem dX8_takeLetter_18 : decode cX8_takeLetter 18 = .ok (.ireturn, 1) := by decide +kernel
theorem dX8_takeLetter_19 : decode cX8_takeLetter 19 = .ok (.aload_n 0, 1) := by decide +kernel
theorem dX8_takeLetter_20 : decode cX8_takeLetter 20 = .ok (.dup, 1) := by decide +kernel
theorem dX8_takeLetter_21 : decode cX8_takeLetter 21 = .ok (.getfield 19, 3) := by decide +kernel
theorem dX8_takeLetter_24 : decode cX8_takeLetter 24 = .ok (.iconst 1, 1) := by decide +kernel
theorem dX8_takeLetter_25 : decode cX8_takeLetter 25 = .ok (.iadd, 1) := by decide +kernel
theorem dX8_takeLetter_26 : decode cX8_takeLetter 26 = .ok (.putfield 19, 3) := by decide +kernel
theorem dX8_takeLetter_29 : decode cX8_takeLetter 29 = .ok (.iload_n 2, 1) := by decide +kernel
theorem dX8_takeLetter_30 : decode cX8_takeLetter 30 = .ok (.ireturn, 1) := by decide +kernel
def xX8_takeLetter_19 (s_X8_next : zq_Sp) (Q : zq_Q) (ls : zq_L) (st : List Value) (h : zq_H) : Prop := (zi_aload 0 (zi_dup (zi_getI 1 3 (zi_push (.int 1) (zi_i2 (fun x y => x + y) (zi_putI 1 3 (zi_iload 2 (zi_iret Q)))))))) ls st h
theorem kX8_takeLetter_19 {X : zq_X} {d : Nat} (C : zq_C X cX8_takeLetter 3 RX8 d) {d_X8_next : Nat} {s_X8_next : zq_Sp} (h_X8_next : zq_M yX8_next cX8_next 1 (some .int) 1 d_X8_next s_X8_next) (g_X8_next : d_X8_next + 1 ≤ d) {Q : zq_Q} (hq : zq_R X (some .int) 1 Q) : zq_ok X 3 19 (xX8_takeLetter_19 s_X8_next Q) := by
  refine zs_aload_n C dX8_takeLetter_19 rfl ?_
  refine zs_dup C dX8_takeLetter_20 ?_
  refine zs_getI C zp_1 zF8 (j := 3) ⟨by decide, rfl⟩ zw_44 dX8_takeLetter_21 ?_
  refine zs_iconst C dX8_takeLetter_24 (by decide) ?_
  refine zs_iadd C dX8_takeLetter_25 ?_
  refine zs_putI C zp_1 zF8 (j := 3) ⟨by decide, rfl⟩ ⟨rfl, by decide +kernel⟩ zw_44 dX8_takeLetter_26 ?_
  refine zs_iload_n C dX8_takeLetter_29 rfl ?_
  exact zs_iret C hq dX8_takeLetter_30
def xX8_takeLetter_17 (s_X8_next : zq_Sp) (Q : zq_Q) (ls : zq_L) (st : List Value) (h : zq_H) : Prop := (zi_push (.int (-1)) (zi_iret Q)) ls st h
theorem kX8_takeLetter_17 {X : zq_X} {d : Nat} (C : zq_C X cX8_takeLetter 3 RX8 d) {d_X8_next : Nat} {s_X8_next : zq_Sp} (h_X8_next : zq_M yX8_next cX8_next 1 (some .int) 1 d_X8_next s_X8_next) (g_X8_next : d_X8_next + 1 ≤ d) {Q : zq_Q} (hq : zq_R X (some .int) 1 Q) : zq_ok X 3 17 (xX8_takeLetter_17 s_X8_next Q) := by
  refine zs_iconst C dX8_takeLetter_17 (by decide) ?_
  exact zs_iret C hq dX8_takeLetter_18
def xX8_takeLetter_12 (s_X8_next : zq_Sp) (Q : zq_Q) (ls : zq_L) (st : List Value) (h : zq_H) : Prop := (zi_iload 2 (zi_iload 1 (zi_if2 (fun x y => x < y) (xX8_takeLetter_19 s_X8_next Q) (xX8_takeLetter_17 s_X8_next Q)))) ls st h
theorem kX8_takeLetter_12 {X : zq_X} {d : Nat} (C : zq_C X cX8_takeLetter 3 RX8 d) {d_X8_next : Nat} {s_X8_next : zq_Sp} (h_X8_next : zq_M yX8_next cX8_next 1 (some .int) 1 d_X8_next s_X8_next) (g_X8_next : d_X8_next + 1 ≤ d) {Q : zq_Q} (hq : zq_R X (some .int) 1 Q) : zq_ok X 3 12 (xX8_takeLetter_12 s_X8_next Q) := by
  refine zs_iload_n C dX8_takeLetter_12 rfl ?_
  refine zs_iload_n C dX8_takeLetter_13 rfl ?_
  exact zs_icmp_lt C dX8_takeLetter_14 (by decide) (kX8_takeLetter_19 C h_X8_next g_X8_next hq) (kX8_takeLetter_17 C h_X8_next g_X8_next hq)
def xX8_takeLetter_0 (s_X8_next : zq_Sp) (Q : zq_Q) (ls : zq_L) (st : List Value) (h : zq_H) : Prop := (zi_aload 0 (zi_callV 0 1 s_X8_next (zi_push (.int 97) (zi_i2 (fun x y => x - y) (zi_istore 2 (zi_iload 2 (zi_if1 (fun x => x < 0) (xX8_takeLetter_17 s_X8_next Q) (xX8_takeLetter_12 s_X8_next Q)))))))) ls st h
theorem kX8_takeLetter_0 {X : zq_X} {d : Nat} (C : zq_C X cX8_takeLetter 3 RX8 d) {d_X8_next : Nat} {s_X8_next : zq_Sp} (h_X8_next : zq_M yX8_next cX8_next 1 (some .int) 1 d_X8_next s_X8_next) (g_X8_next : d_X8_next + 1 ≤ d) {Q : zq_Q} (hq : zq_R X (some .int) 1 Q) : zq_ok X 3 0 (xX8_takeLetter_0 s_X8_next Q) := by
  refine zs_aload_n C dX8_takeLetter_0 rfl ?_
  refine zs_callV C h_X8_next g_X8_next zy_X8_next zp_1 (show vwCl[8]? = some (RX8, TX8, 4) from rfl) zw_403 zw_404 zs9_X8_next dX8_takeLetter_1 ?_
  refine zs_bipush C dX8_takeLetter_4 (by decide) ?_
  refine zs_isub C dX8_takeLetter_6 ?_
  refine zs_istore_n C dX8_takeLetter_7 rfl (by decide) ?_
  refine zs_iload_n C dX8_takeLetter_8 rfl ?_
  exact zs_if_lt C dX8_takeLetter_9 (by decide) (kX8_takeLetter_17 C h_X8_next g_X8_next hq) (kX8_takeLetter_12 C h_X8_next g_X8_next hq)
theorem mX8_takeLetter {d : Nat} {spec : zq_Sp} {d_X8_next : Nat} {s_X8_next : zq_Sp} (h_X8_next : zq_M yX8_next cX8_next 1 (some .int) 1 d_X8_next s_X8_next) (g_X8_next : d_X8_next + 1 ≤ d) (v : ∀ args h Q, spec args h Q → (zq_a args).length ≤ 3 ∧ xX8_takeLetter_0 s_X8_next Q (zq_l0 3 args) [] h) : zq_M yX8_takeLetter cX8_takeLetter 3 (some .int) 1 d spec := by
  refine zq_met (by decide +kernel) (by decide) (fun X Q args h C hq hs => ⟨(v args h Q hs).1, _, ?_, (v args h Q hs).2⟩)
  exact kX8_takeLetter_0 C h_X8_next g_X8_next hq
/-! ToOneCrumb$Row.clear()V -/
theorem dX5_clear_0 : decode cX5_clear 0 = .ok (.aload_n 0, 1) := by decide +kernel
theorem dX5_clear_1 : decode cX5_clear 1 = .ok (.iconst 0, 1) := by decide +kernel
theorem dX5_clear_2 : decode cX5_clear 2 = .ok (.putfield 15, 3) := by decide +kernel
theorem dX5_clear_5 : decode cX5_clear 5 = .ok (.return_, 1) := by decide +kernel
def xX5_clear_0 (Q : zq_Q) (ls : zq_L) (st : List Value) (h : zq_H) : Prop := (zi_aload 0 (zi_push (.int 0) (zi_putI 3 1 (zi_vret Q)))) ls st h
theorem kX5_clear_0 {X : zq_X} {d : Nat} (C : zq_C X cX5_clear 1 RX5 d) {Q : zq_Q} (hq : zq_R X none 0 Q) : zq_ok X 1 0 (xX5_clear_0 Q) := by
  refine zs_aload_n C dX5_clear_0 rfl ?_
  refine zs_iconst C dX5_clear_1 (by decide) ?_
  refine zs_putI C zp_3 zF5 (j := 1) ⟨by decide, rfl⟩ ⟨rfl, by decide +kernel⟩ zw_63 dX5_clear_2 ?_
  exact zs_vret C hq dX5_clear_5
theorem mX5_clear {d : Nat} {spec : zq_Sp} (v : ∀ args h Q, spec args h Q → (zq_a args).length ≤ 1 ∧ xX5_clear_0 Q (zq_l0 1 args) [] h) : zq_M yX5_clear cX5_clear 1 none 0 d spec := by
  refine zq_met (by decide +kernel) (by decide) (fun X Q args h C hq hs => ⟨(v args h Q hs).1, _, ?_, (v args h Q hs).2⟩)
  exact kX5_clear_0 C hq
/-! ToOneCrumb$Row.add(J)V -/
theorem dX5_add_0 : decode cX5_add 0 = .ok (.aload_n 0, 1) := by decide +kernel
theorem dX5_add_1 : decode cX5_add 1 = .ok (.getfield 15, 3) := by decide +kernel
theorem dX5_add_4 : decode cX5_add 4 = .ok (.aload_n 0, 1) := by decide +kernel
theorem dX5_add_5 : decode cX5_add 5 = .ok (.getfield 9, 3) := by decide +kernel
theorem dX5_add_8 : decode cX5_add 8 = .ok (.arraylength, 1) := by decide +kernel
theorem dX5_add_9 : decode cX5_add 9 = .ok (.if_icmp .ge 23, 3) := by decide +kernel
theorem dX5_add_12 : decode cX5_add 12 = .ok (.aload_n 0, 1) := by decide +kernel
theorem dX5_add_13 : decode cX5_add 13 = .ok (.getfield 9, 3) := by decide +kernel
theorem dX5_add_16 : decode cX5_add 16 = .ok (.aload_n 0, 1) := by decide +kernel
theorem dX5_add_17 : decode cX5_add 17 = .ok (.getfield 15, 3) := by decide +kernel
theorem dX5_add_20 : decode cX5_add 20 = .ok (.lload_n 1, 1) := by decide +kernel
theorem dX5_add_21 : decode cX5_add 21 = .ok (.lastore, 1) := by decide +kernel
theorem dX5_add_22 : decode cX5_add 22 = .ok (.aload_n 0, 1) := by decide +kernel
theorem dX5_add_23 : decode cX5_add 23 = .ok (.dup, 1) := by decide +kernel
theorem dX5_add_24 : decode cX5_add 24 = .ok (.getfield 15, 3) := by decide +kernel
theorem dX5_add_27 : decode cX5_add 27 = .ok (.iconst 1, 1) := by decide +kernel
theorem dX5_add_28 : decode cX5_add 28 = .ok (.iadd, 1) := by decide +kernel
theorem dX5_add_29 : decode cX5_add 29 = .ok (.putfield 15, 3) := by decide +kernel
theorem dX5_add_32 : decode cX5_add 32 = .ok (.return_, 1) := by decide +kernel
def xX5_add_32 (Q : zq_Q) (ls : zq_L) (st : List Value) (h : zq_H) : Prop := (zi_vret Q) ls st h
theorem kX5_add_32 {X : zq_X} {d : Nat} (C : zq_C X cX5_add 3 RX5 d) {Q : zq_Q} (hq : zq_R X none 0 Q) : zq_ok X 3 32 (xX5_add_32 Q) := by
  exact zs_vret C hq dX5_add_32
def xX5_add_12 (Q : zq_Q) (ls : zq_L) (st : List Value) (h : zq_H) : Prop := (zi_aload 0 (zi_getR 3 4 (zi_aload 0 (zi_getI 3 1 (zi_lload 1 (zi_astL 4 16 (zi_aload 0 (zi_dup (zi_getI 3 1 (zi_push (.int 1) (zi_i2 (fun x y => x + y) (zi_putI 3 1 ((xX5_add_32 Q)))))))))))))) ls st h
theorem kX5_add_12 {X : zq_X} {d : Nat} (C : zq_C X cX5_add 3 RX5 d) {Q : zq_Q} (hq : zq_R X none 0 Q) : zq_ok X 3 12 (xX5_add_12 Q) := by
  refine zs_aload_n C dX5_add_12 rfl ?_
  refine zs_getR C zp_3 zF5 (j := 0) ⟨by decide, rfl⟩ zw_61 dX5_add_13 ?_
  refine zs_aload_n C dX5_add_16 rfl ?_
  refine zs_getI C zp_3 zF5 (j := 1) ⟨by decide, rfl⟩ zw_63 dX5_add_17 ?_
  refine zs_lload_n C dX5_add_20 rfl ?_
  refine zs_lastore C zp_4 dX5_add_21 ?_
  refine zs_aload_n C dX5_add_22 rfl ?_
  refine zs_dup C dX5_add_23 ?_
  refine zs_getI C zp_3 zF5 (j := 1) ⟨by decide, rfl⟩ zw_63 dX5_add_24 ?_
  refine zs_iconst C dX5_add_27 (by decide) ?_
  refine zs_iadd C dX5_add_28 ?_
  refine zs_putI C zp_3 zF5 (j := 1) ⟨by decide, rfl⟩ ⟨rfl, by decide +kernel⟩ zw_63 dX5_add_29 ?_
  exact kX5_add_32 C hq
def xX5_add_0 (Q : zq_Q) (ls : zq_L) (st : List Value) (h : zq_H) : Prop := (zi_aload 0 (zi_getI 3 1 (zi_aload 0 (zi_getR 3 4 (zi_alen 4 16 (zi_if2 (fun x y => y ≤ x) (xX5_add_32 Q) (xX5_add_12 Q))))))) ls st h
theorem kX5_add_0 {X : zq_X} {d : Nat} (C : zq_C X cX5_add 3 RX5 d) {Q : zq_Q} (hq : zq_R X none 0 Q) : zq_ok X 3 0 (xX5_add_0 Q) := by
  refine zs_aload_n C dX5_add_0 rfl ?_
  refine zs_getI C zp_3 zF5 (j := 1) ⟨by decide, rfl⟩ zw_63 dX5_add_1 ?_
  refine zs_aload_n C dX5_add_4 rfl ?_
  refine zs_getR C zp_3 zF5 (j := 0) ⟨by decide, rfl⟩ zw_61 dX5_add_5 ?_
  refine zs_alen C (Or.inr zp_4) dX5_add_8 ?_
  exact zs_icmp_ge C dX5_add_9 (by decide) (kX5_add_32 C hq) (kX5_add_12 C hq)
theorem mX5_add {d : Nat} {spec : zq_Sp} (v : ∀ args h Q, spec args h Q → (zq_a args).length ≤ 3 ∧ xX5_add_0 Q (zq_l0 3 args) [] h) : zq_M yX5_add cX5_add 3 none 0 d spec := by
  refine zq_met (by decide +kernel) (by decide) (fun X Q args h C hq hs => ⟨(v args h Q hs).1, _, ?_, (v args h Q hs).2⟩)
  exact kX5_add_0 C hq
/-! ToOneCrumb$Row.addFraction(JJ)V -/
theorem dX5_addFraction_0 : decode cX5_addFraction 0 = .ok (.lload_n 1, 1) := by decide +kernel
theorem dX5_addFraction_1 : decode cX5_addFraction 1 = .ok (.lstore 5, 2) := by decide +kernel
theorem dX5_addFraction_3 : decode cX5_addFraction 3 = .ok (.lload_n 3, 1) := by decide +kernel
theorem dX5_addFraction_4 : decode cX5_addFraction 4 = .ok (.lstore 7, 2) := by decide +kernel
theorem dX5_addFraction_6 : decode cX5_addFraction 6 = .ok (.iconst 0, 1) := by decide +kernel
theorem dX5_addFraction_7 : decode cX5_addFraction 7 = .ok (.istore 9, 2) := by decide +kernel
theorem dX5_addFraction_9 : decode cX5_addFraction 9 = .ok (.iload 9, 2) := by decide +kernel
theorem dX5_addFraction_11 : decode cX5_addFraction 11 = .ok (.bipush 100, 2) := by decide +kernel
theorem dX5_addFraction_13 : decode cX5_addFraction 13 = .ok (.if_icmp .ge 31, 3) := by decide +kernel
theorem dX5_addFraction_16 : decode cX5_addFraction 16 = .ok (.lload 7, 2) := by decide +kernel
theorem dX5_addFraction_18 : decode cX5_addFraction 18 = .ok (.lconst 0, 1) := by decide +kernel
theorem dX5_addFraction_19 : decode cX5_addFraction 19 = .ok (.lcmp, 1) := by decide +kernel
theorem dX5_addFraction_20 : decode cX5_addFraction 20 = .ok (.ifCond .eq 24, 3) := by decide +kernel
theorem dX5_addFraction_23 : decode cX5_addFraction 23 = .ok (.lload 5, 2) := by decide +kernel
theorem dX5_addFraction_25 : decode cX5_addFraction 25 = .ok (.lload 7, 2) := by decide +kernel
theorem dX5_addFraction_27 : decode cX5_addFraction 27 = .ok (.lrem, 1) := by decide +kernel
theorem dX5_addFraction_28 : decode cX5_addFraction 28 = .ok (.lstore 10, 2) := by decide +kernel
theorem dX5_addFraction_30 : decode cX5_addFraction 30 = .ok (.lload 7, 2) := by decide +kernel
theorem dX5_addFraction_32 : decode cX5_addFraction 32 = .ok (.lstore 5, 2) := by decide +kernel
theorem dX5_addFraction_34 : decode cX5_addFraction 34 = .ok (.lload 10, 2) := by decide +kernel
theorem dX5_addFraction_36 : decode cX5_addFraction 36 = .ok (.lstore 7, 2) := by decide +kernel
theorem dX5_addFraction_38 : decode cX5_addFraction 38 = .ok (.iinc 9 1, 3) := by decide +kernel
theorem dX5_addFraction_41 : decode cX5_addFraction 41 = .ok (.goto (-32), 3) := by decide +kernel
theorem dX5_addFraction_44 : decode cX5_addFraction 44 = .ok (.aload_n 0, 1) := by decide +kernel
theorem dX5_addFraction_45 : decode cX5_addFraction 45 = .ok (.lload 5, 2) := by decide +kernel
theorem dX5_addFraction_47 : decode cX5_addFraction 47 = .ok (.lconst 0, 1) := by decide +kernel
theorem dX5_addFraction_48 : decode cX5_addFraction 48 = .ok (.lcmp, 1) := by decide +kernel
theorem dX5_addFraction_49 : decode cX5_addFraction 49 = .ok (.ifCond .ne 7, 3) := by decide +kernel
theorem dX5_addFraction_52 : decode cX5_addFraction 52 = .ok (.lload_n 1, 1) := by decide +kernel
theorem dX5_addFraction_53 : decode cX5_addFraction 53 = .ok (.goto 7, 3) := by decide +kernel
theorem dX5_addFraction_56 : decode cX5_addFraction 56 = .ok (.lload_n 1, 1) := by decide +kernel
theorem dX5_addFraction_57 : decode cX5_addFraction 57 = .ok (.lload 5, 2) := by decide +kernel
theorem dX5_addFraction_59 : decode cX5_addFraction 59 = .ok (.ldiv, 1) := by decide +kernel
theorem dX5_addFraction_60 : decode cX5_addFraction 60 = .ok (.invokevirtual 19, 3) := by decide +kernel
theorem dX5_addFraction_63 : decode cX5_addFraction 63 = .ok (.aload_n 0, 1) := by decide +kernel
theorem dX5_addFraction_64 : decode cX5_addFraction 64 = .ok (.lload 5, 2) := by decide +kernel
theorem dX5_addFraction_66 : decode cX5_addFraction 66 = .ok (.lconst 0, 1) := by decide +kernel
theorem dX5_addFraction_67 : decode cX5_addFraction 67 = .ok (.lcmp, 1) := by decide +kernel
theorem dX5_addFraction_68 : decode cX5_addFraction 68 = .ok (.ifCond .ne 7, 3) := by decide +kernel
theorem dX5_addFraction_71 : decode cX5_addFraction 71 = .ok (.lload_n 3, 1) := by decide +kernel
theorem dX5_addFraction_72 : decode cX5_addFraction 72 = .ok (.goto 7, 3) := by decide +kernel
theorem dX5_addFraction_75 : decode cX5_addFraction 75 = .ok (.lload_n 3, 1) := by decide +kernel
theorem dX5_addFraction_76 : decode cX5_addFraction 76 = .ok (.lload 5, 2) := by decide +kernel
theorem dX5_addFraction_78 : decode cX5_addFraction 78 = .ok (.ldiv, 1) := by decide +kernel
theorem dX5_addFraction_79 : decode cX5_addFraction 79 = .ok (.invokevirtual 19, 3) := by decide +kernel
theorem dX5_addFraction_82 : decode cX5_addFraction 82 = .ok (.return_, 1) := by decide +kernel
def xX5_addFraction_79 (s_X5_add : zq_Sp) (J9 : zq_P) (Q : zq_Q) (ls : zq_L) (st : List Value) (h : zq_H) : Prop := (zi_callV 1 3 s_X5_add (zi_vret Q)) ls st h
theorem kX5_addFraction_79 {X : zq_X} {d : Nat} (C : zq_C X cX5_addFraction 12 RX5 d) {d_X5_add : Nat} {s_X5_add : zq_Sp} (h_X5_add : zq_M yX5_add cX5_add 3 none 0 d_X5_add s_X5_add) (g_X5_add : d_X5_add + 1 ≤ d) {J9 : zq_P} (j9 : zq_ok X 12 9 J9) {Q : zq_Q} (hq : zq_R X none 0 Q) : zq_ok X 12 79 (xX5_addFraction_79 s_X5_add J9 Q) := by
  refine zs_callV C h_X5_add g_X5_add zy_X5_add zp_3 (show vwCl[5]? = some (RX5, TX5, 2) from rfl) zw_709 zw_655 zs9_X5_add dX5_addFraction_79 ?_
  exact zs_vret C hq dX5_addFraction_82
def xX5_addFraction_75 (s_X5_add : zq_Sp) (J9 : zq_P) (Q : zq_Q) (ls : zq_L) (st : List Value) (h : zq_H) : Prop := (zi_lload 3 (zi_lload 5 (zi_ldv (fun x y => x / y) ((xX5_addFraction_79 s_X5_add J9 Q))))) ls st h
theorem kX5_addFraction_75 {X : zq_X} {d : Nat} (C : zq_C X cX5_addFraction 12 RX5 d) {d_X5_add : Nat} {s_X5_add : zq_Sp} (h_X5_add : zq_M yX5_add cX5_add 3 none 0 d_X5_add s_X5_add) (g_X5_add : d_X5_add + 1 ≤ d) {J9 : zq_P} (j9 : zq_ok X 12 9 J9) {Q : zq_Q} (hq : zq_R X none 0 Q) : zq_ok X 12 75 (xX5_addFraction_75 s_X5_add J9 Q) := by
  refine zs_lload_n C dX5_addFraction_75 rfl ?_
  refine zs_lload C dX5_addFraction_76 ?_
  refine zs_ldiv C dX5_addFraction_78 ?_
  exact kX5_addFraction_79 C h_X5_add g_X5_add j9 hq
def xX5_addFraction_71 (s_X5_add : zq_Sp) (J9 : zq_P) (Q : zq_Q) (ls : zq_L) (st : List Value) (h : zq_H) : Prop := (zi_lload 3 ((xX5_addFraction_79 s_X5_add J9 Q))) ls st h
theorem kX5_addFraction_71 {X : zq_X} {d : Nat} (C : zq_C X cX5_addFraction 12 RX5 d) {d_X5_add : Nat} {s_X5_add : zq_Sp} (h_X5_add : zq_M yX5_add cX5_add 3 none 0 d_X5_add s_X5_add) (g_X5_add : d_X5_add + 1 ≤ d) {J9 : zq_P} (j9 : zq_ok X 12 9 J9) {Q : zq_Q} (hq : zq_R X none 0 Q) : zq_ok X 12 71 (xX5_addFraction_71 s_X5_add J9 Q) := by
  refine zs_lload_n C dX5_addFraction_71 rfl ?_
  exact zs_goto C dX5_addFraction_72 (by decide) (kX5_addFraction_79 C h_X5_add g_X5_add j9 hq)
def xX5_addFraction_60 (s_X5_add : zq_Sp) (J9 : zq_P) (Q : zq_Q) (ls : zq_L) (st : List Value) (h : zq_H) : Prop := (zi_callV 1 3 s_X5_add (zi_aload 0 (zi_lload 5 (zi_push (.long 0) (zi_lcmp (zi_if1 (fun x => x = 0) (xX5_addFraction_71 s_X5_add J9 Q) (xX5_addFraction_75 s_X5_add J9 Q))))))) ls st h
theorem kX5_addFraction_60 {X : zq_X} {d : Nat} (C : zq_C X cX5_addFraction 12 RX5 d) {d_X5_add : Nat} {s_X5_add : zq_Sp} (h_X5_add : zq_M yX5_add cX5_add 3 none 0 d_X5_add s_X5_add) (g_X5_add : d_X5_add + 1 ≤ d) {J9 : zq_P} (j9 : zq_ok X 12 9 J9) {Q : zq_Q} (hq : zq_R X none 0 Q) : zq_ok X 12 60 (xX5_addFraction_60 s_X5_add J9 Q) := by
  refine zs_callV C h_X5_add g_X5_add zy_X5_add zp_3 (show vwCl[5]? = some (RX5, TX5, 2) from rfl) zw_709 zw_655 zs9_X5_add dX5_addFraction_60 ?_
  refine zs_aload_n C dX5_addFraction_63 rfl ?_
  refine zs_lload C dX5_addFraction_64 ?_
  refine zs_lconst C dX5_addFraction_66 (by decide) ?_
  refine zs_lcmp C dX5_addFraction_67 ?_
  exact zs_if_ne C dX5_addFraction_68 (by decide) (kX5_addFraction_75 C h_X5_add g_X5_add j9 hq) (kX5_addFraction_71 C h_X5_add g_X5_add j9 hq)
def xX5_addFraction_56 (s_X5_add : zq_Sp) (J9 : zq_P) (Q : zq_Q) (ls : zq_L) (st : List Value) (h : zq_H) : Prop := (zi_lload 1 (zi_lload 5 (zi_ldv (fun x y => x / y) ((xX5_addFraction_60 s_X5_add J9 Q))))) ls st h
theorem kX5_addFraction_56 {X : zq_X} {d : Nat} (C : zq_C X cX5_addFraction 12 RX5 d) {d_X5_add : Nat} {s_X5_add : zq_Sp} (h_X5_add : zq_M yX5_add cX5_add 3 none 0 d_X5_add s_X5_add) (g_X5_add : d_X5_add + 1 ≤ d) {J9 : zq_P} (j9 : zq_ok X 12 9 J9) {Q : zq_Q} (hq : zq_R X none 0 Q) : zq_ok X 12 56 (xX5_addFraction_56 s_X5_add J9 Q) := by
  refine zs_lload_n C dX5_addFraction_56 rfl ?_
  refine zs_lload C dX5_addFraction_57 ?_
  refine zs_ldiv C dX5_addFraction_59 ?_
  exact kX5_addFraction_60 C h_X5_add g_X5_add j9 hq
def xX5_addFraction_52 (s_X5_add : zq_Sp) (J9 : zq_P) (Q : zq_Q) (ls : zq_L) (st : List Value) (h : zq_H) : Prop := (zi_lload 1 ((xX5_addFraction_60 s_X5_add J9 Q))) ls st h
theorem kX5_addFraction_52 {X : zq_X} {d : Nat} (C : zq_C X cX5_addFraction 12 RX5 d) {d_X5_add : Nat} {s_X5_add : zq_Sp} (h_X5_add : zq_M yX5_add cX5_add 3 none 0 d_X5_add s_X5_add) (g_X5_add : d_X5_add + 1 ≤ d) {J9 : zq_P} (j9 : zq_ok X 12 9 J9) {Q : zq_Q} (hq : zq_R X none 0 Q) : zq_ok X 12 52 (xX5_addFraction_52 s_X5_add J9 Q) := by
  refine zs_lload_n C dX5_addFraction_52 rfl ?_
  exact zs_goto C dX5_addFraction_53 (by decide) (kX5_addFraction_60 C h_X5_add g_X5_add j9 hq)
def xX5_addFraction_44 (s_X5_add : zq_Sp) (J9 : zq_P) (Q : zq_Q) (ls : zq_L) (st : List Value) (h : zq_H) : Prop := (zi_aload 0 (zi_lload 5 (zi_push (.long 0) (zi_lcmp (zi_if1 (fun x => x = 0) (xX5_addFraction_52 s_X5_add J9 Q) (xX5_addFraction_56 s_X5_add J9 Q)))))) ls st h
theorem kX5_addFraction_44 {X : zq_X} {d : Nat} (C : zq_C X cX5_addFraction 12 RX5 d) {d_X5_add : Nat} {s_X5_add : zq_Sp} (h_X5_add : zq_M yX5_add cX5_add 3 none 0 d_X5_add s_X5_add) (g_X5_add : d_X5_add + 1 ≤ d) {J9 : zq_P} (j9 : zq_ok X 12 9 J9) {Q : zq_Q} (hq : zq_R X none 0 Q) : zq_ok X 12 44 (xX5_addFraction_44 s_X5_add J9 Q) := by
  refine zs_aload_n C dX5_addFraction_44 rfl ?_
  refine zs_lload C dX5_addFraction_45 ?_
  refine zs_lconst C dX5_addFraction_47 (by decide) ?_
  refine zs_lcmp C dX5_addFraction_48 ?_
  exact zs_if_ne C dX5_addFraction_49 (by decide) (kX5_addFraction_56 C h_X5_add g_X5_add j9 hq) (kX5_addFraction_52 C h_X5_add g_X5_add j9 hq)
def xX5_addFraction_23 (s_X5_add : zq_Sp) (J9 : zq_P) (Q : zq_Q) (ls : zq_L) (st : List Value) (h : zq_H) : Prop := (zi_lload 5 (zi_lload 7 (zi_ldv zf_lrem (zi_lstore 10 (zi_lload 7 (zi_lstore 5 (zi_lload 10 (zi_lstore 7 (zi_iinc 9 1 (J9)))))))))) ls st h
theorem kX5_addFraction_23 {X : zq_X} {d : Nat} (C : zq_C X cX5_addFraction 12 RX5 d) {d_X5_add : Nat} {s_X5_add : zq_Sp} (h_X5_add : zq_M yX5_add cX5_add 3 none 0 d_X5_add s_X5_add) (g_X5_add : d_X5_add + 1 ≤ d) {J9 : zq_P} (j9 : zq_ok X 12 9 J9) {Q : zq_Q} (hq : zq_R X none 0 Q) : zq_ok X 12 23 (xX5_addFraction_23 s_X5_add J9 Q) := by
  refine zs_lload C dX5_addFraction_23 ?_
  refine zs_lload C dX5_addFraction_25 ?_
  refine zs_lrem C dX5_addFraction_27 ?_
  refine zs_lstore C dX5_addFraction_28 (by decide) ?_
  refine zs_lload C dX5_addFraction_30 ?_
  refine zs_lstore C dX5_addFraction_32 (by decide) ?_
  refine zs_lload C dX5_addFraction_34 ?_
  refine zs_lstore C dX5_addFraction_36 (by decide) ?_
  refine zs_iinc C dX5_addFraction_38 (by decide) (by decide) ?_
  exact zs_goto C dX5_addFraction_41 (by decide) (j9)
def xX5_addFraction_16 (s_X5_add : zq_Sp) (J9 : zq_P) (Q : zq_Q) (ls : zq_L) (st : List Value) (h : zq_H) : Prop := (zi_lload 7 (zi_push (.long 0) (zi_lcmp (zi_if1 (fun x => x = 0) (xX5_addFraction_44 s_X5_add J9 Q) (xX5_addFraction_23 s_X5_add J9 Q))))) ls st h
theorem kX5_addFraction_16 {X : zq_X} {d : Nat} (C : zq_C X cX5_addFraction 12 RX5 d) {d_X5_add : Nat} {s_X5_add : zq_Sp} (h_X5_add : zq_M yX5_add cX5_add 3 none 0 d_X5_add s_X5_add) (g_X5_add : d_X5_add + 1 ≤ d) {J9 : zq_P} (j9 : zq_ok X 12 9 J9) {Q : zq_Q} (hq : zq_R X none 0 Q) : zq_ok X 12 16 (xX5_addFraction_16 s_X5_add J9 Q) := by
  refine zs_lload C dX5_addFraction_16 ?_
  refine zs_lconst C dX5_addFraction_18 (by decide) ?_
  refine zs_lcmp C dX5_addFraction_19 ?_
  exact zs_if_eq C dX5_addFraction_20 (by decide) (kX5_addFraction_44 C h_X5_add g_X5_add j9 hq) (kX5_addFraction_23 C h_X5_add g_X5_add j9 hq)
def xX5_addFraction_9 (s_X5_add : zq_Sp) (J9 : zq_P) (Q : zq_Q) (ls : zq_L) (st : List Value) (h : zq_H) : Prop := (zi_iload 9 (zi_push (.int 100) (zi_if2 (fun x y => y ≤ x) (xX5_addFraction_44 s_X5_add J9 Q) (xX5_addFraction_16 s_X5_add J9 Q)))) ls st h
theorem kX5_addFraction_9 {X : zq_X} {d : Nat} (C : zq_C X cX5_addFraction 12 RX5 d) {d_X5_add : Nat} {s_X5_add : zq_Sp} (h_X5_add : zq_M yX5_add cX5_add 3 none 0 d_X5_add s_X5_add) (g_X5_add : d_X5_add + 1 ≤ d) {J9 : zq_P} (j9 : zq_ok X 12 9 J9) {Q : zq_Q} (hq : zq_R X none 0 Q) : zq_ok X 12 9 (xX5_addFraction_9 s_X5_add J9 Q) := by
  refine zs_iload C dX5_addFraction_9 ?_
  refine zs_bipush C dX5_addFraction_11 (by decide) ?_
  exact zs_icmp_ge C dX5_addFraction_13 (by decide) (kX5_addFraction_44 C h_X5_add g_X5_add j9 hq) (kX5_addFraction_16 C h_X5_add g_X5_add j9 hq)
def xX5_addFraction_0 (s_X5_add : zq_Sp) (J9 : zq_P) (Q : zq_Q) (ls : zq_L) (st : List Value) (h : zq_H) : Prop := (zi_lload 1 (zi_lstore 5 (zi_lload 3 (zi_lstore 7 (zi_push (.int 0) (zi_istore 9 (J9))))))) ls st h
theorem kX5_addFraction_0 {X : zq_X} {d : Nat} (C : zq_C X cX5_addFraction 12 RX5 d) {d_X5_add : Nat} {s_X5_add : zq_Sp} (h_X5_add : zq_M yX5_add cX5_add 3 none 0 d_X5_add s_X5_add) (g_X5_add : d_X5_add + 1 ≤ d) {J9 : zq_P} (j9 : zq_ok X 12 9 J9) {Q : zq_Q} (hq : zq_R X none 0 Q) : zq_ok X 12 0 (xX5_addFraction_0 s_X5_add J9 Q) := by
  refine zs_lload_n C dX5_addFraction_0 rfl ?_
  refine zs_lstore C dX5_addFraction_1 (by decide) ?_
  refine zs_lload_n C dX5_addFraction_3 rfl ?_
  refine zs_lstore C dX5_addFraction_4 (by decide) ?_
  refine zs_iconst C dX5_addFraction_6 (by decide) ?_
  refine zs_istore C dX5_addFraction_7 (by decide) ?_
  exact j9
theorem mX5_addFraction {d : Nat} {spec : zq_Sp} {σ9 : Type} {d_X5_add : Nat} {s_X5_add : zq_Sp} (h_X5_add : zq_M yX5_add cX5_add 3 none 0 d_X5_add s_X5_add) (g_X5_add : d_X5_add + 1 ≤ d) (μ9 : σ9 → Nat) (I9 : zq_Q → σ9 → zq_P) (v : ∀ args h Q, spec args h Q → (zq_a args).length ≤ 12 ∧ xX5_addFraction_0 s_X5_add (fun ls st h => ∃ b, I9 Q b ls st h) Q (zq_l0 12 args) [] h) (v9 : ∀ Q a ls st h, I9 Q a ls st h → xX5_addFraction_9 s_X5_add (fun ls st h => ∃ b, μ9 b < μ9 a ∧ I9 Q b ls st h) Q ls st h) : zq_M yX5_addFraction cX5_addFraction 12 none 0 d spec := by
  refine zq_met (by decide +kernel) (by decide) (fun X Q args h C hq hs => ⟨(v args h Q hs).1, _, ?_, (v args h Q hs).2⟩)
  have hl := zq_loop1 (X := X) (nL := 12) (pc1 := 9) μ9 (I9 Q) (fun J9 => xX5_addFraction_9 s_X5_add J9 Q) (fun j9 => kX5_addFraction_9 C h_X5_add g_X5_add j9 hq) (v9 Q)
  exact kX5_addFraction_0 C h_X5_add g_X5_add hl hq
/-! ToOneCrumb$Loaf.read(LToOneCrumb$Text;)Z -/
theorem dX2_read_0 : decode cX2_read 0 = .ok (.aload_n 1, 1) := by decide +kernel
theorem dX2_read_1 : decode cX2_read 1 = .ok (.bipush 64, 2) := by decide +kernel
theorem dX2_read_3 : decode cX2_read 3 = .ok (.invokevirtual 21, 3) := by decide +kernel
theorem dX2_read_6 : decode cX2_read 6 = .ok (.aload_n 0, 1) := by decide +kernel
theorem dX2_read_7 : decode cX2_read 7 = .ok (.iconst 0, 1) := by decide +kernel
theorem dX2_read_8 : decode cX2_read 8 = .ok (.putfield 27, 3) := by decide +kernel
theorem dX2_read_11 : decode cX2_read 11 = .ok (.aload_n 0, 1) := by decide +kernel
theorem dX2_read_12 : decode cX2_read 12 = .ok (.getfield 27, 3) := by decide +kernel
theorem dX2_read_15 : decode cX2_read 15 = .ok (.bipush 16, 2) := by decide +kernel
theorem dX2_read_17 : decode cX2_read 17 = .ok (.if_icmp .ge 95, 3) := by decide +kernel
theorem dX2_read_20 : decode cX2_read 20 = .ok (.aload_n 1, 1) := by decide +kernel
theorem dX2_read_21 : decode cX2_read 21 = .ok (.invokevirtual 31, 3) := by decide +kernel
theorem dX2_read_24 : decode cX2_read 24 = .ok (.ifCond .ne 88, 3) := by decide +kernel
theorem dX2_read_27 : decode cX2_read 27 = .ok (.aload_n 1, 1) := by decide +kernel
theorem dX2_read_28 : decode cX2_read 28 = .ok (.iconst 1, 1) := by decide +kernel
theorem dX2_read_29 : decode cX2_read 29 = .ok (.invokevirtual 35, 3) := by decide +kernel
theorem dX2_read_32 : decode cX2_read 32 = .ok (.istore_n 2, 1) := by decide +kernel
theorem dX2_read_33 : decode cX2_read 33 = .ok (.iload_n 2, 1) := by decide +kernel
theorem dX2_read_34 : decode cX2_read 34 = .ok (.ifCond .ge 5, 3) := by decide +kernel
theorem dX2_read_37 : decode cX2_read 37 = .ok (.iconst 0, 1) := by decide +kernel
theorem dX2_read_38 : decode cX2_read 38 = .ok (.ireturn, 1) := by decide +kernel
theorem dX2_read_39 : decode cX2_read 39 = .ok (.aload_n 0, 1) := by decide +kernel
theorem dX2_read_40 : decode cX2_read 40 = .ok (.getfield 9, 3) := by decide +kernel
theorem dX2_read_43 : decode cX2_read 43 = .ok (.aload_n 0, 1) := by decide +kernel
theorem dX2_read_44 : decode cX2_read 44 = .ok (.getfield 27, 3) := by decide +kernel
theorem dX2_read_47 : decode cX2_read 47 = .ok (.iload_n 2, 1) := by decide +kernel
theorem dX2_read_48 : decode cX2_read 48 = .ok (.iastore, 1) := by decide +kernel
theorem dX2_read_49 : decode cX2_read 49 = .ok (.aload_n 1, 1) := by decide +kernel
theorem dX2_read_50 : decode cX2_read 50 = .ok (.bipush 9, 2) := by decide +kernel
theorem dX2_read_52 : decode cX2_read 52 = .ok (.invokevirtual 39, 3) := by decide +kernel
theorem dX2_read_55 : decode cX2_read 55 = .ok (.istore_n 3, 1) := by decide +kernel
theorem dX2_read_56 : decode cX2_read 56 = .ok (.aload_n 0, 1) := by decide +kernel
theorem dX2_read_57 : decode cX2_read 57 = .ok (.getfield 15, 3) := by decide +kernel
theorem dX2_read_60 : decode cX2_read 60 = .ok (.aload_n 0, 1) := by decide +kernel
theorem dX2_read_61 : decode cX2_read 61 = .ok (.getfield 27, 3) := by decide +kernel
theorem dX2_read_64 : decode cX2_read 64 = .ok (.iload_n 3, 1) := by decide +kernel
theorem dX2_read_65 : decode cX2_read 65 = .ok (.ifCond .ge 7, 3) := by decide +kernel
theorem dX2_read_68 : decode cX2_read 68 = .ok (.iconst 0, 1) := by decide +kernel
theorem dX2_read_69 : decode cX2_read 69 = .ok (.goto 6, 3) := by decide +kernel
theorem dX2_read_72 : decode cX2_read 72 = .ok (.iload_n 3, 1) := by decide +kernel
theorem dX2_read_73 : decode cX2_read 73 = .ok (.iconst 1, 1) := by decide +kernel
theorem dX2_read_74 : decode cX2_read 74 = .ok (.iadd, 1) := by decide +kernel
theorem dX2_read_75 : decode cX2_read 75 = .ok (.iastore, 1) := by decide +kernel
theorem dX2_read_76 : decode cX2_read 76 = .ok (.aload_n 0, 1) := by decide +kernel
theorem dX2_read_77 : decode cX2_read 77 = .ok (.getfield 18, 3) := by decide +kernel
theorem dX2_read_80 : decode cX2_read 80 = .ok (.aload_n 0, 1) := by decide +kernel
theorem dX2_read_81 : decode cX2_read 81 = .ok (.getfield 27, 3) := by decide +kernel
theorem dX2_read_84 : decode cX2_read 84 = .ok (.aload_n 1, 1) := by decide +kernel
theorem dX2_read_85 : decode cX2_read 85 = .ok (.bipush 42, 2) := by decide +kernel
theorem dX2_read_87 : decode cX2_read 87 = .ok (.invokevirtual 42, 3) := by decide +kernel
theorem dX2_read_90 : decode cX2_read 90 = .ok (.ifCond .eq 7, 3) := by decide +kernel
theorem dX2_read_93 : decode cX2_read 93 = .ok (.iconst 1, 1) := by decide +kernel
theorem dX2_read_94 : decode cX2_read 94 = .ok (.goto 4, 3) := by decide +kernel
theorem dX2_read_97 : decode cX2_read 97 = .ok (.iconst 0, 1) := by decide +kernel
theorem dX2_read_98 : decode cX2_read 98 = .ok (.iastore, 1) := by decide +kernel
theorem dX2_read_99 : decode cX2_read 99 = .ok (.aload_n 0, 1) := by decide +kernel
theorem dX2_read_100 : decode cX2_read 100 = .ok (.dup, 1) := by decide +kernel
theorem dX2_read_101 : decode cX2_read 101 = .ok (.getfield 27, 3) := by decide +kernel
theorem dX2_read_104 : decode cX2_read 104 = .ok (.iconst 1, 1) := by decide +kernel
theorem dX2_read_105 : decode cX2_read 105 = .ok (.iadd, 1) := by decide +kernel
theorem dX2_read_106 : decode cX2_read 106 = .ok (.putfield 27, 3) := by decide +kernel
theorem dX2_read_109 : decode cX2_read 109 = .ok (.goto (-98), 3) := by decide +kernel
theorem dX2_read_112 : decode cX2_read 112 = .ok (.aload_n 1, 1) := by decide +kernel
theorem dX2_read_113 : decode cX2_read 113 = .ok (.invokevirtual 31, 3) := by decide +kernel
theorem dX2_read_116 : decode cX2_read 116 = .ok (.ireturn, 1) := by decide +kernel
def xX2_read_112 (s_X8_start : zq_Sp) (s_X8_isFinished : zq_Sp) (s_X8_takeDigit : zq_Sp) (s_X8_takeLetter : zq_Sp) (s_X8_skip : zq_Sp) (J11 : zq_P) (Q : zq_Q) (ls : zq_L) (st : List Value) (h : zq_H) : Prop := (zi_aload 1 (zi_callV 0 1 s_X8_isFinished (zi_zret Q))) ls st h
theorem kX2_read_112 {X : zq_X} {d : Nat} (C : zq_C X cX2_read 4 RX2 d) {d_X8_start : Nat} {s_X8_start : zq_Sp} (h_X8_start : zq_M yX8_start cX8_start 2 none 0 d_X8_start s_X8_start) (g_X8_start : d_X8_start + 1 ≤ d) {d_X8_isFinished : Nat} {s_X8_isFinished : zq_Sp} (h_X8_isFinished : zq_M yX8_isFinished cX8_isFinished 1 (some .boolean) 1 d_X8_isFinished s_X8_isFinished) (g_X8_isFinished : d_X8_isFinished + 1 ≤ d) {d_X8_takeDigit : Nat} {s_X8_takeDigit : zq_Sp} (h_X8_takeDigit : zq_M yX8_takeDigit cX8_takeDigit 3 (some .int) 1 d_X8_takeDigit s_X8_takeDigit) (g_X8_takeDigit : d_X8_takeDigit + 1 ≤ d) {d_X8_takeLetter : Nat} {s_X8_takeLetter : zq_Sp} (h_X8_takeLetter : zq_M yX8_takeLetter cX8_takeLetter 3 (some .int) 1 d_X8_takeLetter s_X8_takeLetter) (g_X8_takeLetter : d_X8_takeLetter + 1 ≤ d) {d_X8_skip : Nat} {s_X8_skip : zq_Sp} (h_X8_skip : zq_M yX8_skip cX8_skip 2 (some .boolean) 1 d_X8_skip s_X8_skip) (g_X8_skip : d_X8_skip + 1 ≤ d) {J11 : zq_P} (j11 : zq_ok X 4 11 J11) {Q : zq_Q} (hq : zq_R X (some .boolean) 1 Q) : zq_ok X 4 112 (xX2_read_112 s_X8_start s_X8_isFinished s_X8_takeDigit s_X8_takeLetter s_X8_skip J11 Q) := by
  refine zs_aload_n C dX2_read_112 rfl ?_
  refine zs_callV C h_X8_isFinished g_X8_isFinished zy_X8_isFinished zp_1 (show vwCl[8]? = some (RX8, TX8, 4) from rfl) zw_395 zw_396 zs9_X8_isFinished dX2_read_113 ?_
  exact zs_zret C hq dX2_read_116
def xX2_read_98 (s_X8_start : zq_Sp) (s_X8_isFinished : zq_Sp) (s_X8_takeDigit : zq_Sp) (s_X8_takeLetter : zq_Sp) (s_X8_skip : zq_Sp) (J11 : zq_P) (Q : zq_Q) (ls : zq_L) (st : List Value) (h : zq_H) : Prop := (zi_astI 47 16 (zi_aload 0 (zi_dup (zi_getI 44 3 (zi_push (.int 1) (zi_i2 (fun x y => x + y) (zi_putI 44 3 (J11)))))))) ls st h
theorem kX2_read_98 {X : zq_X} {d : Nat} (C : zq_C X cX2_read 4 RX2 d) {d_X8_start : Nat} {s_X8_start : zq_Sp} (h_X8_start : zq_M yX8_start cX8_start 2 none 0 d_X8_start s_X8_start) (g_X8_start : d_X8_start + 1 ≤ d) {d_X8_isFinished : Nat} {s_X8_isFinished : zq_Sp} (h_X8_isFinished : zq_M yX8_isFinished cX8_isFinished 1 (some .boolean) 1 d_X8_isFinished s_X8_isFinished) (g_X8_isFinished : d_X8_isFinished + 1 ≤ d) {d_X8_takeDigit : Nat} {s_X8_takeDigit : zq_Sp} (h_X8_takeDigit : zq_M yX8_takeDigit cX8_takeDigit 3 (some .int) 1 d_X8_takeDigit s_X8_takeDigit) (g_X8_takeDigit : d_X8_takeDigit + 1 ≤ d) {d_X8_takeLetter : Nat} {s_X8_takeLetter : zq_Sp} (h_X8_takeLetter : zq_M yX8_takeLetter cX8_takeLetter 3 (some .int) 1 d_X8_takeLetter s_X8_takeLetter) (g_X8_takeLetter : d_X8_takeLetter + 1 ≤ d) {d_X8_skip : Nat} {s_X8_skip : zq_Sp} (h_X8_skip : zq_M yX8_skip cX8_skip 2 (some .boolean) 1 d_X8_skip s_X8_skip) (g_X8_skip : d_X8_skip + 1 ≤ d) {J11 : zq_P} (j11 : zq_ok X 4 11 J11) {Q : zq_Q} (hq : zq_R X (some .boolean) 1 Q) : zq_ok X 4 98 (xX2_read_98 s_X8_start s_X8_isFinished s_X8_takeDigit s_X8_takeLetter s_X8_skip J11 Q) := by
  refine zs_iastore C zp_47 dX2_read_98 ?_
  refine zs_aload_n C dX2_read_99 rfl ?_
  refine zs_dup C dX2_read_100 ?_
  refine zs_getI C zp_44 zF2 (j := 3) ⟨by decide, rfl⟩ zw_271 dX2_read_101 ?_
  refine zs_iconst C dX2_read_104 (by decide) ?_
  refine zs_iadd C dX2_read_105 ?_
  refine zs_putI C zp_44 zF2 (j := 3) ⟨by decide, rfl⟩ ⟨rfl, by decide +kernel⟩ zw_271 dX2_read_106 ?_
  exact zs_goto C dX2_read_109 (by decide) (j11)
def xX2_read_97 (s_X8_start : zq_Sp) (s_X8_isFinished : zq_Sp) (s_X8_takeDigit : zq_Sp) (s_X8_takeLetter : zq_Sp) (s_X8_skip : zq_Sp) (J11 : zq_P) (Q : zq_Q) (ls : zq_L) (st : List Value) (h : zq_H) : Prop := (zi_push (.int 0) ((xX2_read_98 s_X8_start s_X8_isFinished s_X8_takeDigit s_X8_takeLetter s_X8_skip J11 Q))) ls st h
theorem kX2_read_97 {X : zq_X} {d : Nat} (C : zq_C X cX2_read 4 RX2 d) {d_X8_start : Nat} {s_X8_start : zq_Sp} (h_X8_start : zq_M yX8_start cX8_start 2 none 0 d_X8_start s_X8_start) (g_X8_start : d_X8_start + 1 ≤ d) {d_X8_isFinished : Nat} {s_X8_isFinished : zq_Sp} (h_X8_isFinished : zq_M yX8_isFinished cX8_isFinished 1 (some .boolean) 1 d_X8_isFinished s_X8_isFinished) (g_X8_isFinished : d_X8_isFinished + 1 ≤ d) {d_X8_takeDigit : Nat} {s_X8_takeDigit : zq_Sp} (h_X8_takeDigit : zq_M yX8_takeDigit cX8_takeDigit 3 (some .int) 1 d_X8_takeDigit s_X8_takeDigit) (g_X8_takeDigit : d_X8_takeDigit + 1 ≤ d) {d_X8_takeLetter : Nat} {s_X8_takeLetter : zq_Sp} (h_X8_takeLetter : zq_M yX8_takeLetter cX8_takeLetter 3 (some .int) 1 d_X8_takeLetter s_X8_takeLetter) (g_X8_takeLetter : d_X8_takeLetter + 1 ≤ d) {d_X8_skip : Nat} {s_X8_skip : zq_Sp} (h_X8_skip : zq_M yX8_skip cX8_skip 2 (some .boolean) 1 d_X8_skip s_X8_skip) (g_X8_skip : d_X8_skip + 1 ≤ d) {J11 : zq_P} (j11 : zq_ok X 4 11 J11) {Q : zq_Q} (hq : zq_R X (some .boolean) 1 Q) : zq_ok X 4 97 (xX2_read_97 s_X8_start s_X8_isFinished s_X8_takeDigit s_X8_takeLetter s_X8_skip J11 Q) := by
  refine zs_iconst C dX2_read_97 (by decide) ?_
  exact kX2_read_98 C h_X8_start g_X8_start h_X8_isFinished g_X8_isFinished h_X8_takeDigit g_X8_takeDigit h_X8_takeLetter g_X8_takeLetter h_X8_skip g_X8_skip j11 hq
def xX2_read_93 (s_X8_start : zq_Sp) (s_X8_isFinished : zq_Sp) (s_X8_takeDigit : zq_Sp) (s_X8_takeLetter : zq_Sp) (s_X8_skip : zq_Sp) (J11 : zq_P) (Q : zq_Q) (ls : zq_L) (st : List Value) (h : zq_H) : Prop := (zi_push (.int 1) ((xX2_read_98 s_X8_start s_X8_isFinished s_X8_takeDigit s_X8_takeLetter s_X8_skip J11 Q))) ls st h
theorem kX2_read_93 {X : zq_X} {d : Nat} (C : zq_C X cX2_read 4 RX2 d) {d_X8_start : Nat} {s_X8_start : zq_Sp} (h_X8_start : zq_M yX8_start cX8_start 2 none 0 d_X8_start s_X8_start) (g_X8_start : d_X8_start + 1 ≤ d) {d_X8_isFinished : Nat} {s_X8_isFinished : zq_Sp} (h_X8_isFinished : zq_M yX8_isFinished cX8_isFinished 1 (some .boolean) 1 d_X8_isFinished s_X8_isFinished) (g_X8_isFinished : d_X8_isFinished + 1 ≤ d) {d_X8_takeDigit : Nat} {s_X8_takeDigit : zq_Sp} (h_X8_takeDigit : zq_M yX8_takeDigit cX8_takeDigit 3 (some .int) 1 d_X8_takeDigit s_X8_takeDigit) (g_X8_takeDigit : d_X8_takeDigit + 1 ≤ d) {d_X8_takeLetter : Nat} {s_X8_takeLetter : zq_Sp} (h_X8_takeLetter : zq_M yX8_takeLetter cX8_takeLetter 3 (some .int) 1 d_X8_takeLetter s_X8_takeLetter) (g_X8_takeLetter : d_X8_takeLetter + 1 ≤ d) {d_X8_skip : Nat} {s_X8_skip : zq_Sp} (h_X8_skip : zq_M yX8_skip cX8_skip 2 (some .boolean) 1 d_X8_skip s_X8_skip) (g_X8_skip : d_X8_skip + 1 ≤ d) {J11 : zq_P} (j11 : zq_ok X 4 11 J11) {Q : zq_Q} (hq : zq_R X (some .boolean) 1 Q) : zq_ok X 4 93 (xX2_read_93 s_X8_start s_X8_isFinished s_X8_takeDigit s_X8_takeLetter s_X8_skip J11 Q) := by
  refine zs_iconst C dX2_read_93 (by decide) ?_
  exact zs_goto C dX2_read_94 (by decide) (kX2_read_98 C h_X8_start g_X8_start h_X8_isFinished g_X8_isFinished h_X8_takeDigit g_X8_takeDigit h_X8_takeLetter g_X8_takeLetter h_X8_skip g_X8_skip j11 hq)
def xX2_read_75 (s_X8_start : zq_Sp) (s_X8_isFinished : zq_Sp) (s_X8_takeDigit : zq_Sp) (s_X8_takeLetter : zq_Sp) (s_X8_skip : zq_Sp) (J11 : zq_P) (Q : zq_Q) (ls : zq_L) (st : List Value) (h : zq_H) : Prop := (zi_astI 46 16 (zi_aload 0 (zi_getR 44 47 (zi_aload 0 (zi_getI 44 3 (zi_aload 1 (zi_push (.int 42) (zi_callV 1 1 s_X8_skip (zi_if1 (fun x => x = 0) (xX2_read_97 s_X8_start s_X8_isFinished s_X8_takeDigit s_X8_takeLetter s_X8_skip J11 Q) (xX2_read_93 s_X8_start s_X8_isFinished s_X8_takeDigit s_X8_takeLetter s_X8_skip J11 Q)))))))))) ls st h
theorem kX2_read_75 {X : zq_X} {d : Nat} (C : zq_C X cX2_read 4 RX2 d) {d_X8_start : Nat} {s_X8_start : zq_Sp} (h_X8_start : zq_M yX8_start cX8_start 2 none 0 d_X8_start s_X8_start) (g_X8_start : d_X8_start + 1 ≤ d) {d_X8_isFinished : Nat} {s_X8_isFinished : zq_Sp} (h_X8_isFinished : zq_M yX8_isFinished cX8_isFinished 1 (some .boolean) 1 d_X8_isFinished s_X8_isFinished) (g_X8_isFinished : d_X8_isFinished + 1 ≤ d) {d_X8_takeDigit : Nat} {s_X8_takeDigit : zq_Sp} (h_X8_takeDigit : zq_M yX8_takeDigit cX8_takeDigit 3 (some .int) 1 d_X8_takeDigit s_X8_takeDigit) (g_X8_takeDigit : d_X8_takeDigit + 1 ≤ d) {d_X8_takeLetter : Nat} {s_X8_takeLetter : zq_Sp} (h_X8_takeLetter : zq_M yX8_takeLetter cX8_takeLetter 3 (some .int) 1 d_X8_takeLetter s_X8_takeLetter) (g_X8_takeLetter : d_X8_takeLetter + 1 ≤ d) {d_X8_skip : Nat} {s_X8_skip : zq_Sp} (h_X8_skip : zq_M yX8_skip cX8_skip 2 (some .boolean) 1 d_X8_skip s_X8_skip) (g_X8_skip : d_X8_skip + 1 ≤ d) {J11 : zq_P} (j11 : zq_ok X 4 11 J11) {Q : zq_Q} (hq : zq_R X (some .boolean) 1 Q) : zq_ok X 4 75 (xX2_read_75 s_X8_start s_X8_isFinished s_X8_takeDigit s_X8_takeLetter s_X8_skip J11 Q) := by
  refine zs_iastore C zp_46 dX2_read_75 ?_
  refine zs_aload_n C dX2_read_76 rfl ?_
  refine zs_getR C zp_44 zF2 (j := 2) ⟨by decide, rfl⟩ zw_267 dX2_read_77 ?_
  refine zs_aload_n C dX2_read_80 rfl ?_
  refine zs_getI C zp_44 zF2 (j := 3) ⟨by decide, rfl⟩ zw_271 dX2_read_81 ?_
  refine zs_aload_n C dX2_read_84 rfl ?_
  refine zs_bipush C dX2_read_85 (by decide) ?_
  refine zs_callV C h_X8_skip g_X8_skip zy_X8_skip zp_1 (show vwCl[8]? = some (RX8, TX8, 4) from rfl) zw_411 zw_412 zs9_X8_skip dX2_read_87 ?_
  exact zs_if_eq C dX2_read_90 (by decide) (kX2_read_97 C h_X8_start g_X8_start h_X8_isFinished g_X8_isFinished h_X8_takeDigit g_X8_takeDigit h_X8_takeLetter g_X8_takeLetter h_X8_skip g_X8_skip j11 hq) (kX2_read_93 C h_X8_start g_X8_start h_X8_isFinished g_X8_isFinished h_X8_takeDigit g_X8_takeDigit h_X8_takeLetter g_X8_takeLetter h_X8_skip g_X8_skip j11 hq)
def xX2_read_72 (s_X8_start : zq_Sp) (s_X8_isFinished : zq_Sp) (s_X8_takeDigit : zq_Sp) (s_X8_takeLetter : zq_Sp) (s_X8_skip : zq_Sp) (J11 : zq_P) (Q : zq_Q) (ls : zq_L) (st : List Value) (h : zq_H) : Prop := (zi_iload 3 (zi_push (.int 1) (zi_i2 (fun x y => x + y) ((xX2_read_75 s_X8_start s_X8_isFinished s_X8_takeDigit s_X8_takeLetter s_X8_skip J11 Q))))) ls st h
theorem kX2_read_72 {X : zq_X} {d : Nat} (C : zq_C X cX2_read 4 RX2 d) {d_X8_start : Nat} {s_X8_start : zq_Sp} (h_X8_start : zq_M yX8_start cX8_start 2 none 0 d_X8_start s_X8_start) (g_X8_start : d_X8_start + 1 ≤ d) {d_X8_isFinished : Nat} {s_X8_isFinished : zq_Sp} (h_X8_isFinished : zq_M yX8_isFinished cX8_isFinished 1 (some .boolean) 1 d_X8_isFinished s_X8_isFinished) (g_X8_isFinished : d_X8_isFinished + 1 ≤ d) {d_X8_takeDigit : Nat} {s_X8_takeDigit : zq_Sp} (h_X8_takeDigit : zq_M yX8_takeDigit cX8_takeDigit 3 (some .int) 1 d_X8_takeDigit s_X8_takeDigit) (g_X8_takeDigit : d_X8_takeDigit + 1 ≤ d) {d_X8_takeLetter : Nat} {s_X8_takeLetter : zq_Sp} (h_X8_takeLetter : zq_M yX8_takeLetter cX8_takeLetter 3 (some .int) 1 d_X8_takeLetter s_X8_takeLetter) (g_X8_takeLetter : d_X8_takeLetter + 1 ≤ d) {d_X8_skip : Nat} {s_X8_skip : zq_Sp} (h_X8_skip : zq_M yX8_skip cX8_skip 2 (some .boolean) 1 d_X8_skip s_X8_skip) (g_X8_skip : d_X8_skip + 1 ≤ d) {J11 : zq_P} (j11 : zq_ok X 4 11 J11) {Q : zq_Q} (hq : zq_R X (some .boolean) 1 Q) : zq_ok X 4 72 (xX2_read_72 s_X8_start s_X8_isFinished s_X8_takeDigit s_X8_takeLetter s_X8_skip J11 Q) := by
  refine zs_iload_n C dX2_read_72 rfl ?_
  refine zs_iconst C dX2_read_73 (by decide) ?_
  refine zs_iadd C dX2_read_74 ?_
  exact kX2_read_75 C h_X8_start g_X8_start h_X8_isFinished g_X8_isFinished h_X8_takeDigit g_X8_takeDigit h_X8_takeLetter g_X8_takeLetter h_X8_skip g_X8_skip j11 hq
def xX2_read_68 (s_X8_start : zq_Sp) (s_X8_isFinished : zq_Sp) (s_X8_takeDigit : zq_Sp) (s_X8_takeLetter : zq_Sp) (s_X8_skip : zq_Sp) (J11 : zq_P) (Q : zq_Q) (ls : zq_L) (st : List Value) (h : zq_H) : Prop := (zi_push (.int 0) ((xX2_read_75 s_X8_start s_X8_isFinished s_X8_takeDigit s_X8_takeLetter s_X8_skip J11 Q))) ls st h
theorem kX2_read_68 {X : zq_X} {d : Nat} (C : zq_C X cX2_read 4 RX2 d) {d_X8_start : Nat} {s_X8_start : zq_Sp} (h_X8_start : zq_M yX8_start cX8_start 2 none 0 d_X8_start s_X8_start) (g_X8_start : d_X8_start + 1 ≤ d) {d_X8_isFinished : Nat} {s_X8_isFinished : zq_Sp} (h_X8_isFinished : zq_M yX8_isFinished cX8_isFinished 1 (some .boolean) 1 d_X8_isFinished s_X8_isFinished) (g_X8_isFinished : d_X8_isFinished + 1 ≤ d) {d_X8_takeDigit : Nat} {s_X8_takeDigit : zq_Sp} (h_X8_takeDigit : zq_M yX8_takeDigit cX8_takeDigit 3 (some .int) 1 d_X8_takeDigit s_X8_takeDigit) (g_X8_takeDigit : d_X8_takeDigit + 1 ≤ d) {d_X8_takeLetter : Nat} {s_X8_takeLetter : zq_Sp} (h_X8_takeLetter : zq_M yX8_takeLetter cX8_takeLetter 3 (some .int) 1 d_X8_takeLetter s_X8_takeLetter) (g_X8_takeLetter : d_X8_takeLetter + 1 ≤ d) {d_X8_skip : Nat} {s_X8_skip : zq_Sp} (h_X8_skip : zq_M yX8_skip cX8_skip 2 (some .boolean) 1 d_X8_skip s_X8_skip) (g_X8_skip : d_X8_skip + 1 ≤ d) {J11 : zq_P} (j11 : zq_ok X 4 11 J11) {Q : zq_Q} (hq : zq_R X (some .boolean) 1 Q) : zq_ok X 4 68 (xX2_read_68 s_X8_start s_X8_isFinished s_X8_takeDigit s_X8_takeLetter s_X8_skip J11 Q) := by
  refine zs_iconst C dX2_read_68 (by decide) ?_
  exact zs_goto C dX2_read_69 (by decide) (kX2_read_75 C h_X8_start g_X8_start h_X8_isFinished g_X8_isFinished h_X8_takeDigit g_X8_takeDigit h_X8_takeLetter g_X8_takeLetter h_X8_skip g_X8_skip j11 hq)
def xX2_read_39 (s_X8_start : zq_Sp) (s_X8_isFinished : zq_Sp) (s_X8_takeDigit : zq_Sp) (s_X8_takeLetter : zq_Sp) (s_X8_skip : zq_Sp) (J11 : zq_P) (Q : zq_Q) (ls : zq_L) (st : List Value) (h : zq_H) : Prop := (zi_aload 0 (zi_getR 44 45 (zi_aload 0 (zi_getI 44 3 (zi_iload 2 (zi_astI 45 16 (zi_aload 1 (zi_push (.int 9) (zi_callV 1 1 s_X8_takeLetter (zi_istore 3 (zi_aload 0 (zi_getR 44 46 (zi_aload 0 (zi_getI 44 3 (zi_iload 3 (zi_if1 (fun x => 0 ≤ x) (xX2_read_72 s_X8_start s_X8_isFinished s_X8_takeDigit s_X8_takeLetter s_X8_skip J11 Q) (xX2_read_68 s_X8_start s_X8_isFinished s_X8_takeDigit s_X8_takeLetter s_X8_skip J11 Q))))))))))))))))) ls st h
theorem kX2_read_39 {X : zq_X} {d : Nat} (C : zq_C X cX2_read 4 RX2 d) {d_X8_start : Nat} {s_X8_start : zq_Sp} (h_X8_start : zq_M yX8_start cX8_start 2 none 0 d_X8_start s_X8_start) (g_X8_start : d_X8_start + 1 ≤ d) {d_X8_isFinished : Nat} {s_X8_isFinished : zq_Sp} (h_X8_isFinished : zq_M yX8_isFinished cX8_isFinished 1 (some .boolean) 1 d_X8_isFinished s_X8_isFinished) (g_X8_isFinished : d_X8_isFinished + 1 ≤ d) {d_X8_takeDigit : Nat} {s_X8_takeDigit : zq_Sp} (h_X8_takeDigit : zq_M yX8_takeDigit cX8_takeDigit 3 (some .int) 1 d_X8_takeDigit s_X8_takeDigit) (g_X8_takeDigit : d_X8_takeDigit + 1 ≤ d) {d_X8_takeLetter : Nat} {s_X8_takeLetter : zq_Sp} (h_X8_takeLetter : zq_M yX8_takeLetter cX8_takeLetter 3 (some .int) 1 d_X8_takeLetter s_X8_takeLetter) (g_X8_takeLetter : d_X8_takeLetter + 1 ≤ d) {d_X8_skip : Nat} {s_X8_skip : zq_Sp} (h_X8_skip : zq_M yX8_skip cX8_skip 2 (some .boolean) 1 d_X8_skip s_X8_skip) (g_X8_skip : d_X8_skip + 1 ≤ d) {J11 : zq_P} (j11 : zq_ok X 4 11 J11) {Q : zq_Q} (hq : zq_R X (some .boolean) 1 Q) : zq_ok X 4 39 (xX2_read_39 s_X8_start s_X8_isFinished s_X8_takeDigit s_X8_takeLetter s_X8_skip J11 Q) := by
  refine zs_aload_n C dX2_read_39 rfl ?_
  refine zs_getR C zp_44 zF2 (j := 0) ⟨by decide, rfl⟩ zw_261 dX2_read_40 ?_
  refine zs_aload_n C dX2_read_43 rfl ?_
  refine zs_getI C zp_44 zF2 (j := 3) ⟨by decide, rfl⟩ zw_271 dX2_read_44 ?_
  refine zs_iload_n C dX2_read_47 rfl ?_
  refine zs_iastore C zp_45 dX2_read_48 ?_
  refine zs_aload_n C dX2_read_49 rfl ?_
  refine zs_bipush C dX2_read_50 (by decide) ?_
  refine zs_callV C h_X8_takeLetter g_X8_takeLetter zy_X8_takeLetter zp_1 (show vwCl[8]? = some (RX8, TX8, 4) from rfl) zw_407 zw_408 zs9_X8_takeLetter dX2_read_52 ?_
  refine zs_istore_n C dX2_read_55 rfl (by decide) ?_
  refine zs_aload_n C dX2_read_56 rfl ?_
  refine zs_getR C zp_44 zF2 (j := 1) ⟨by decide, rfl⟩ zw_264 dX2_read_57 ?_
  refine zs_aload_n C dX2_read_60 rfl ?_
  refine zs_getI C zp_44 zF2 (j := 3) ⟨by decide, rfl⟩ zw_271 dX2_read_61 ?_
  refine zs_iload_n C dX2_read_64 rfl ?_
  exact zs_if_ge C dX2_read_65 (by decide) (kX2_read_72 C h_X8_start g_X8_start h_X8_isFinished g_X8_isFinished h_X8_takeDigit g_X8_takeDigit h_X8_takeLetter g_X8_takeLetter h_X8_skip g_X8_skip j11 hq) (kX2_read_68 C h_X8_start g_X8_start h_X8_isFinished g_X8_isFinished h_X8_takeDigit g_X8_takeDigit h_X8_takeLetter g_X8_takeLetter h_X8_skip g_X8_skip j11 hq)
def xX2_read_37 (s_X8_start : zq_Sp) (s_X8_isFinished : zq_Sp) (s_X8_takeDigit : zq_Sp) (s_X8_takeLetter : zq_Sp) (s_X8_skip : zq_Sp) (J11 : zq_P) (Q : zq_Q) (ls : zq_L) (st : List Value) (h : zq_H) : Prop := (zi_push (.int 0) (zi_zret Q)) ls st h
theorem kX2_read_37 {X : zq_X} {d : Nat} (C : zq_C X cX2_read 4 RX2 d) {d_X8_start : Nat} {s_X8_start : zq_Sp} (h_X8_start : zq_M yX8_start cX8_start 2 none 0 d_X8_start s_X8_start) (g_X8_start : d_X8_start + 1 ≤ d) {d_X8_isFinished : Nat} {s_X8_isFinished : zq_Sp} (h_X8_isFinished : zq_M yX8_isFinished cX8_isFinished 1 (some .boolean) 1 d_X8_isFinished s_X8_isFinished) (g_X8_isFinished : d_X8_isFinished + 1 ≤ d) {d_X8_takeDigit : Nat} {s_X8_takeDigit : zq_Sp} (h_X8_takeDigit : zq_M yX8_takeDigit cX8_takeDigit 3 (some .int) 1 d_X8_takeDigit s_X8_takeDigit) (g_X8_takeDigit : d_X8_takeDigit + 1 ≤ d) {d_X8_takeLetter : Nat} {s_X8_takeLetter : zq_Sp} (h_X8_takeLetter : zq_M yX8_takeLetter cX8_takeLetter 3 (some .int) 1 d_X8_takeLetter s_X8_takeLetter) (g_X8_takeLetter : d_X8_takeLetter + 1 ≤ d) {d_X8_skip : Nat} {s_X8_skip : zq_Sp} (h_X8_skip : zq_M yX8_skip cX8_skip 2 (some .boolean) 1 d_X8_skip s_X8_skip) (g_X8_skip : d_X8_skip + 1 ≤ d) {J11 : zq_P} (j11 : zq_ok X 4 11 J11) {Q : zq_Q} (hq : zq_R X (some .boolean) 1 Q) : zq_ok X 4 37 (xX2_read_37 s_X8_start s_X8_isFinished s_X8_takeDigit s_X8_takeLetter s_X8_skip J11 Q) := by
  refine zs_iconst C dX2_read_37 (by decide) ?_
  exact zs_zret C hq dX2_read_38
def xX2_read_27 (s_X8_start : zq_Sp) (s_X8_isFinished : zq_Sp) (s_X8_takeDigit : zq_Sp) (s_X8_takeLetter : zq_Sp) (s_X8_skip : zq_Sp) (J11 : zq_P) (Q : zq_Q) (ls : zq_L) (st : List Value) (h : zq_H) : Prop := (zi_aload 1 (zi_push (.int 1) (zi_callV 1 1 s_X8_takeDigit (zi_istore 2 (zi_iload 2 (zi_if1 (fun x => 0 ≤ x) (xX2_read_39 s_X8_start s_X8_isFinished s_X8_takeDigit s_X8_takeLetter s_X8_skip J11 Q) (xX2_read_37 s_X8_start s_X8_isFinished s_X8_takeDigit s_X8_takeLetter s_X8_skip J11 Q))))))) ls st h
theorem kX2_read_27 {X : zq_X} {d : Nat} (C : zq_C X cX2_read 4 RX2 d) {d_X8_start : Nat} {s_X8_start : zq_Sp} (h_X8_start : zq_M yX8_start cX8_start 2 none 0 d_X8_start s_X8_start) (g_X8_start : d_X8_start + 1 ≤ d) {d_X8_isFinished : Nat} {s_X8_isFinished : zq_Sp} (h_X8_isFinished : zq_M yX8_isFinished cX8_isFinished 1 (some .boolean) 1 d_X8_isFinished s_X8_isFinished) (g_X8_isFinished : d_X8_isFinished + 1 ≤ d) {d_X8_takeDigit : Nat} {s_X8_takeDigit : zq_Sp} (h_X8_takeDigit : zq_M yX8_takeDigit cX8_takeDigit 3 (some .int) 1 d_X8_takeDigit s_X8_takeDigit) (g_X8_takeDigit : d_X8_takeDigit + 1 ≤ d) {d_X8_takeLetter : Nat} {s_X8_takeLetter : zq_Sp} (h_X8_takeLetter : zq_M yX8_takeLetter cX8_takeLetter 3 (some .int) 1 d_X8_takeLetter s_X8_takeLetter) (g_X8_takeLetter : d_X8_takeLetter + 1 ≤ d) {d_X8_skip : Nat} {s_X8_skip : zq_Sp} (h_X8_skip : zq_M yX8_skip cX8_skip 2 (some .boolean) 1 d_X8_skip s_X8_skip) (g_X8_skip : d_X8_skip + 1 ≤ d) {J11 : zq_P} (j11 : zq_ok X 4 11 J11) {Q : zq_Q} (hq : zq_R X (some .boolean) 1 Q) : zq_ok X 4 27 (xX2_read_27 s_X8_start s_X8_isFinished s_X8_takeDigit s_X8_takeLetter s_X8_skip J11 Q) := by
  refine zs_aload_n C dX2_read_27 rfl ?_
  refine zs_iconst C dX2_read_28 (by decide) ?_
  refine zs_callV C h_X8_takeDigit g_X8_takeDigit zy_X8_takeDigit zp_1 (show vwCl[8]? = some (RX8, TX8, 4) from rfl) zw_399 zw_400 zs9_X8_takeDigit dX2_read_29 ?_
  refine zs_istore_n C dX2_read_32 rfl (by decide) ?_
  refine zs_iload_n C dX2_read_33 rfl ?_
  exact zs_if_ge C dX2_read_34 (by decide) (kX2_read_39 C h_X8_start g_X8_start h_X8_isFinished g_X8_isFinished h_X8_takeDigit g_X8_takeDigit h_X8_takeLetter g_X8_takeLetter h_X8_skip g_X8_skip j11 hq) (kX2_read_37 C h_X8_start g_X8_start h_X8_isFinished g_X8_isFinished h_X8_takeDigit g_X8_takeDigit h_X8_takeLetter g_X8_takeLetter h_X8_skip g_X8_skip j11 hq)
def xX2_read_20 (s_X8_start : zq_Sp) (s_X8_isFinished : zq_Sp) (s_X8_takeDigit : zq_Sp) (s_X8_takeLetter : zq_Sp) (s_X8_skip : zq_Sp) (J11 : zq_P) (Q : zq_Q) (ls : zq_L) (st : List Value) (h : zq_H) : Prop := (zi_aload 1 (zi_callV 0 1 s_X8_isFinished (zi_if1 (fun x => x = 0) (xX2_read_27 s_X8_start s_X8_isFinished s_X8_takeDigit s_X8_takeLetter s_X8_skip J11 Q) (xX2_read_112 s_X8_start s_X8_isFinished s_X8_takeDigit s_X8_takeLetter s_X8_skip J11 Q)))) ls st h
theorem kX2_read_20 {X : zq_X} {d : Nat} (C : zq_C X cX2_read 4 RX2 d) {d_X8_start : Nat} {s_X8_start : zq_Sp} (h_X8_start : zq_M yX8_start cX8_start 2 none 0 d_X8_start s_X8_start) (g_X8_start : d_X8_start + 1 ≤ d) {d_X8_isFinished : Nat} {s_X8_isFinished : zq_Sp} (h_X8_isFinished : zq_M yX8_isFinished cX8_isFinished 1 (some .boolean) 1 d_X8_isFinished s_X8_isFinished) (g_X8_isFinished : d_X8_isFinished + 1 ≤ d) {d_X8_takeDigit : Nat} {s_X8_takeDigit : zq_Sp} (h_X8_takeDigit : zq_M yX8_takeDigit cX8_takeDigit 3 (some .int) 1 d_X8_takeDigit s_X8_takeDigit) (g_X8_takeDigit : d_X8_takeDigit + 1 ≤ d) {d_X8_takeLetter : Nat} {s_X8_takeLetter : zq_Sp} (h_X8_takeLetter : zq_M yX8_takeLetter cX8_takeLetter 3 (some .int) 1 d_X8_takeLetter s_X8_takeLetter) (g_X8_takeLetter : d_X8_takeLetter + 1 ≤ d) {d_X8_skip : Nat} {s_X8_skip : zq_Sp} (h_X8_skip : zq_M yX8_skip cX8_skip 2 (some .boolean) 1 d_X8_skip s_X8_skip) (g_X8_skip : d_X8_skip + 1 ≤ d) {J11 : zq_P} (j11 : zq_ok X 4 11 J11) {Q : zq_Q} (hq : zq_R X (some .boolean) 1 Q) : zq_ok X 4 20 (xX2_read_20 s_X8_start s_X8_isFinished s_X8_takeDigit s_X8_takeLetter s_X8_skip J11 Q) := by
  refine zs_aload_n C dX2_read_20 rfl ?_
  refine zs_callV C h_X8_isFinished g_X8_isFinished zy_X8_isFinished zp_1 (show vwCl[8]? = some (RX8, TX8, 4) from rfl) zw_395 zw_396 zs9_X8_isFinished dX2_read_21 ?_
  exact zs_if_ne C dX2_read_24 (by decide) (kX2_read_112 C h_X8_start g_X8_start h_X8_isFinished g_X8_isFinished h_X8_takeDigit g_X8_takeDigit h_X8_takeLetter g_X8_takeLetter h_X8_skip g_X8_skip j11 hq) (kX2_read_27 C h_X8_start g_X8_start h_X8_isFinished g_X8_isFinished h_X8_takeDigit g_X8_takeDigit h_X8_takeLetter g_X8_takeLetter h_X8_skip g_X8_skip j11 hq)
def xX2_read_11 (s_X8_start : zq_Sp) (s_X8_isFinished : zq_Sp) (s_X8_takeDigit : zq_Sp) (s_X8_takeLetter : zq_Sp) (s_X8_skip : zq_Sp) (J11 : zq_P) (Q : zq_Q) (ls : zq_L) (st : List Value) (h : zq_H) : Prop := (zi_aload 0 (zi_getI 44 3 (zi_push (.int 16) (zi_if2 (fun x y => y ≤ x) (xX2_read_112 s_X8_start s_X8_isFinished s_X8_takeDigit s_X8_takeLetter s_X8_skip J11 Q) (xX2_read_20 s_X8_start s_X8_isFinished s_X8_takeDigit s_X8_takeLetter s_X8_skip J11 Q))))) ls st h
theorem kX2_read_11 {X : zq_X} {d : Nat} (C : zq_C X cX2_read 4 RX2 d) {d_X8_start : Nat} {s_X8_start : zq_Sp} (h_X8_start : zq_M yX8_start cX8_start 2 none 0 d_X8_start s_X8_start) (g_X8_start : d_X8_start + 1 ≤ d) {d_X8_isFinished : Nat} {s_X8_isFinished : zq_Sp} (h_X8_isFinished : zq_M yX8_isFinished cX8_isFinished 1 (some .boolean) 1 d_X8_isFinished s_X8_isFinished) (g_X8_isFinished : d_X8_isFinished + 1 ≤ d) {d_X8_takeDigit : Nat} {s_X8_takeDigit : zq_Sp} (h_X8_takeDigit : zq_M yX8_takeDigit cX8_takeDigit 3 (some .int) 1 d_X8_takeDigit s_X8_takeDigit) (g_X8_takeDigit : d_X8_takeDigit + 1 ≤ d) {d_X8_takeLetter : Nat} {s_X8_takeLetter : zq_Sp} (h_X8_takeLetter : zq_M yX8_takeLetter cX8_takeLetter 3 (some .int) 1 d_X8_takeLetter s_X8_takeLetter) (g_X8_takeLetter : d_X8_takeLetter + 1 ≤ d) {d_X8_skip : Nat} {s_X8_skip : zq_Sp} (h_X8_skip : zq_M yX8_skip cX8_skip 2 (some .boolean) 1 d_X8_skip s_X8_skip) (g_X8_skip : d_X8_skip + 1 ≤ d) {J11 : zq_P} (j11 : zq_ok X 4 11 J11) {Q : zq_Q} (hq : zq_R X (some .boolean) 1 Q) : zq_ok X 4 11 (xX2_read_11 s_X8_start s_X8_isFinished s_X8_takeDigit s_X8_takeLetter s_X8_skip J11 Q) := by
  refine zs_aload_n C dX2_read_11 rfl ?_
  refine zs_getI C zp_44 zF2 (j := 3) ⟨by decide, rfl⟩ zw_271 dX2_read_12 ?_
  refine zs_bipush C dX2_read_15 (by decide) ?_
  exact zs_icmp_ge C dX2_read_17 (by decide) (kX2_read_112 C h_X8_start g_X8_start h_X8_isFinished g_X8_isFinished h_X8_takeDigit g_X8_takeDigit h_X8_takeLetter g_X8_takeLetter h_X8_skip g_X8_skip j11 hq) (kX2_read_20 C h_X8_start g_X8_start h_X8_isFinished g_X8_isFinished h_X8_takeDigit g_X8_takeDigit h_X8_takeLetter g_X8_takeLetter h_X8_skip g_X8_skip j11 hq)
def xX2_read_0 (s_X8_start : zq_Sp) (s_X8_isFinished : zq_Sp) (s_X8_takeDigit : zq_Sp) (s_X8_takeLetter : zq_Sp) (s_X8_skip : zq_Sp) (J11 : zq_P) (Q : zq_Q) (ls : zq_L) (st : List Value) (h : zq_H) : Prop := (zi_aload 1 (zi_push (.int 64) (zi_callV 1 1 s_X8_start (zi_aload 0 (zi_push (.int 0) (zi_putI 44 3 (J11))))))) ls st h
theorem kX2_read_0 {X : zq_X} {d : Nat} (C : zq_C X cX2_read 4 RX2 d) {d_X8_start : Nat} {s_X8_start : zq_Sp} (h_X8_start : zq_M yX8_start cX8_start 2 none 0 d_X8_start s_X8_start) (g_X8_start : d_X8_start + 1 ≤ d) {d_X8_isFinished : Nat} {s_X8_isFinished : zq_Sp} (h_X8_isFinished : zq_M yX8_isFinished cX8_isFinished 1 (some .boolean) 1 d_X8_isFinished s_X8_isFinished) (g_X8_isFinished : d_X8_isFinished + 1 ≤ d) {d_X8_takeDigit : Nat} {s_X8_takeDigit : zq_Sp} (h_X8_takeDigit : zq_M yX8_takeDigit cX8_takeDigit 3 (some .int) 1 d_X8_takeDigit s_X8_takeDigit) (g_X8_takeDigit : d_X8_takeDigit + 1 ≤ d) {d_X8_takeLetter : Nat} {s_X8_takeLetter : zq_Sp} (h_X8_takeLetter : zq_M yX8_takeLetter cX8_takeLetter 3 (some .int) 1 d_X8_takeLetter s_X8_takeLetter) (g_X8_takeLetter : d_X8_takeLetter + 1 ≤ d) {d_X8_skip : Nat} {s_X8_skip : zq_Sp} (h_X8_skip : zq_M yX8_skip cX8_skip 2 (some .boolean) 1 d_X8_skip s_X8_skip) (g_X8_skip : d_X8_skip + 1 ≤ d) {J11 : zq_P} (j11 : zq_ok X 4 11 J11) {Q : zq_Q} (hq : zq_R X (some .boolean) 1 Q) : zq_ok X 4 0 (xX2_read_0 s_X8_start s_X8_isFinished s_X8_takeDigit s_X8_takeLetter s_X8_skip J11 Q) := by
  refine zs_aload_n C dX2_read_0 rfl ?_
  refine zs_bipush C dX2_read_1 (by decide) ?_
  refine zs_callV C h_X8_start g_X8_start zy_X8_start zp_1 (show vwCl[8]? = some (RX8, TX8, 4) from rfl) zw_388 zw_389 zs9_X8_start dX2_read_3 ?_
  refine zs_aload_n C dX2_read_6 rfl ?_
  refine zs_iconst C dX2_read_7 (by decide) ?_
  refine zs_putI C zp_44 zF2 (j := 3) ⟨by decide, rfl⟩ ⟨rfl, by decide +kernel⟩ zw_271 dX2_read_8 ?_
  exact j11
theorem mX2_read {d : Nat} {spec : zq_Sp} {σ11 : Type} {d_X8_start : Nat} {s_X8_start : zq_Sp} (h_X8_start : zq_M yX8_start cX8_start 2 none 0 d_X8_start s_X8_start) (g_X8_start : d_X8_start + 1 ≤ d) {d_X8_isFinished : Nat} {s_X8_isFinished : zq_Sp} (h_X8_isFinished : zq_M yX8_isFinished cX8_isFinished 1 (some .boolean) 1 d_X8_isFinished s_X8_isFinished) (g_X8_isFinished : d_X8_isFinished + 1 ≤ d) {d_X8_takeDigit : Nat} {s_X8_takeDigit : zq_Sp} (h_X8_takeDigit : zq_M yX8_takeDigit cX8_takeDigit 3 (some .int) 1 d_X8_takeDigit s_X8_takeDigit) (g_X8_takeDigit : d_X8_takeDigit + 1 ≤ d) {d_X8_takeLetter : Nat} {s_X8_takeLetter : zq_Sp} (h_X8_takeLetter : zq_M yX8_takeLetter cX8_takeLetter 3 (some .int) 1 d_X8_takeLetter s_X8_takeLetter) (g_X8_takeLetter : d_X8_takeLetter + 1 ≤ d) {d_X8_skip : Nat} {s_X8_skip : zq_Sp} (h_X8_skip : zq_M yX8_skip cX8_skip 2 (some .boolean) 1 d_X8_skip s_X8_skip) (g_X8_skip : d_X8_skip + 1 ≤ d) (μ11 : σ11 → Nat) (I11 : zq_Q → σ11 → zq_P) (v : ∀ args h Q, spec args h Q → (zq_a args).length ≤ 4 ∧ xX2_read_0 s_X8_start s_X8_isFinished s_X8_takeDigit s_X8_takeLetter s_X8_skip (fun ls st h => ∃ b, I11 Q b ls st h) Q (zq_l0 4 args) [] h) (v11 : ∀ Q a ls st h, I11 Q a ls st h → xX2_read_11 s_X8_start s_X8_isFinished s_X8_takeDigit s_X8_takeLetter s_X8_skip (fun ls st h => ∃ b, μ11 b < μ11 a ∧ I11 Q b ls st h) Q ls st h) : zq_M yX2_read cX2_read 4 (some .boolean) 1 d spec := by
  refine zq_met (by decide +kernel) (by decide) (fun X Q args h C hq hs => ⟨(v args h Q hs).1, _, ?_, (v args h Q hs).2⟩)
  have hl := zq_loop1 (X := X) (nL := 4) (pc1 := 11) μ11 (I11 Q) (fun J11 => xX2_read_11 s_X8_start s_X8_isFinished s_X8_takeDigit s_X8_takeLetter s_X8_skip J11 Q) (fun j11 => kX2_read_11 C h_X8_start g_X8_start h_X8_isFinished g_X8_isFinished h_X8_takeDigit g_X8_takeDigit h_X8_takeLetter g_X8_takeLetter h_X8_skip g_X8_skip j11 hq) (v11 Q)
  exact kX2_read_0 C h_X8_start g_X8_start h_X8_isFinished g_X8_isFinished h_X8_takeDigit g_X8_takeDigit h_X8_takeLetter g_X8_takeLetter h_X8_skip g_X8_skip hl hq
/-! ToOneCrumb$Loaf.allCrumbs()I -/
theorem dX2_allCrumbs_0 : decode cX2_allCrumbs 0 = .ok (.iconst 0, 1) := by decide +kernel
theorem dX2_allCrumbs_1 : decode cX2_allCrumbs 1 = .ok (.istore_n 1, 1) := by decide +kernel
theorem dX2_allCrumbs_2 : decode cX2_allCrumbs 2 = .ok (.iconst 0, 1) := by decide +kernel
theorem dX2_allCrumbs_3 : decode cX2_allCrumbs 3 = .ok (.istore_n 2, 1) := by decide +kernel
theorem dX2_allCrumbs_4 : decode cX2_allCrumbs 4 = .ok (.iload_n 2, 1) := by decide +kernel
theorem dX2_allCrumbs_5 : decode cX2_allCrumbs 5 = .ok (.aload_n 0, 1) := by decide +kernel
theorem dX2_allCrumbs_6 : decode cX2_allCrumbs 6 = .ok (.getfield 27, 3) := by decide +kernel
theorem dX2_allCrumbs_9 : decode cX2_allCrumbs 9 = .ok (.if_icmp .ge 18, 3) := by decide +kernel
theorem dX2_allCrumbs_12 : decode cX2_allCrumbs 12 = .ok (.iload_n 1, 1) := by decide +kernel
theorem dX2_allCrumbs_13 : decode cX2_allCrumbs 13 = .ok (.aload_n 0, 1) := by decide +kernel
theorem dX2_allCrumbs_14 : decode cX2_allCrumbs 14 = .ok (.getfield 9, 3) := by decide +kernel
theorem dX2_allCrumbs_17 : decode cX2_allCrumbs 17 = .ok (.iload_n 2, 1) := by decide +kernel
theorem dX2_allCrumbs_18 : decode cX2_allCrumbs 18 = .ok (.iaload, 1) := by decide +kernel
theorem dX2_allCrumbs_19 : decode cX2_allCrumbs 19 = .ok (.iadd, 1) := by decide +kernel
theorem dX2_allCrumbs_20 : decode cX2_allCrumbs 20 = .ok (.istore_n 1, 1) := by decide +kernel
theorem dX2_allCrumbs_21 : decode cX2_allCrumbs 21 = .ok (.iinc 2 1, 3) := by decide +kernel
theorem dX2_allCrumbs_24 : decode cX2_allCrumbs 24 = .ok (.goto (-20), 3) := by decide +kernel
theorem dX2_allCrumbs_27 : decode cX2_allCrumbs 27 = .ok (.iload_n 1, 1) := by decide +kernel
theorem dX2_allCrumbs_28 : decode cX2_allCrumbs 28 = .ok (.ireturn, 1) := by decide +kernel
def xX2_allCrumbs_27 (J4 : zq_P) (Q : zq_Q) (ls : zq_L) (st : List Value) (h : zq_H) : Prop := (zi_iload 1 (zi_iret Q)) ls st h
theorem kX2_allCrumbs_27 {X : zq_X} {d : Nat} (C : zq_C X cX2_allCrumbs 3 RX2 d) {J4 : zq_P} (j4 : zq_ok X 3 4 J4) {Q : zq_Q} (hq : zq_R X (some .int) 1 Q) : zq_ok X 3 27 (xX2_allCrumbs_27 J4 Q) := by
  refine zs_iload_n C dX2_allCrumbs_27 rfl ?_
  exact zs_iret C hq dX2_allCrumbs_28
def xX2_allCrumbs_12 (J4 : zq_P) (Q : zq_Q) (ls : zq_L) (st : List Value) (h : zq_H) : Prop := (zi_iload 1 (zi_aload 0 (zi_getR 40 41 (zi_iload 2 (zi_aldI 41 16 (zi_i2 (fun x y => x + y) (zi_istore 1 (zi_iinc 2 1 (J4))))))))) ls st h
theorem kX2_allCrumbs_12 {X : zq_X} {d : Nat} (C : zq_C X cX2_allCrumbs 3 RX2 d) {J4 : zq_P} (j4 : zq_ok X 3 4 J4) {Q : zq_Q} (hq : zq_R X (some .int) 1 Q) : zq_ok X 3 12 (xX2_allCrumbs_12 J4 Q) := by
  refine zs_iload_n C dX2_allCrumbs_12 rfl ?_
  refine zs_aload_n C dX2_allCrumbs_13 rfl ?_
  refine zs_getR C zp_40 zF2 (j := 0) ⟨by decide, rfl⟩ zw_261 dX2_allCrumbs_14 ?_
  refine zs_iload_n C dX2_allCrumbs_17 rfl ?_
  refine zs_iaload C zp_41 dX2_allCrumbs_18 ?_
  refine zs_iadd C dX2_allCrumbs_19 ?_
  refine zs_istore_n C dX2_allCrumbs_20 rfl (by decide) ?_
  refine zs_iinc C dX2_allCrumbs_21 (by decide) (by decide) ?_
  exact zs_goto C dX2_allCrumbs_24 (by decide) (j4)
def xX2_allCrumbs_4 (J4 : zq_P) (Q : zq_Q) (ls : zq_L) (st : List Value) (h : zq_H) : Prop := (zi_iload 2 (zi_aload 0 (zi_getI 40 3 (zi_if2 (fun x y => y ≤ x) (xX2_allCrumbs_27 J4 Q) (xX2_allCrumbs_12 J4 Q))))) ls st h
theorem kX2_allCrumbs_4 {X : zq_X} {d : Nat} (C : zq_C X cX2_allCrumbs 3 RX2 d) {J4 : zq_P} (j4 : zq_ok X 3 4 J4) {Q : zq_Q} (hq : zq_R X (some .int) 1 Q) : zq_ok X 3 4 (xX2_allCrumbs_4 J4 Q) := by
  refine zs_iload_n C dX2_allCrumbs_4 rfl ?_
  refine zs_aload_n C dX2_allCrumbs_5 rfl ?_
  refine zs_getI C zp_40 zF2 (j := 3) ⟨by decide, rfl⟩ zw_271 dX2_allCrumbs_6 ?_
  exact zs_icmp_ge C dX2_allCrumbs_9 (by decide) (kX2_allCrumbs_27 C j4 hq) (kX2_allCrumbs_12 C j4 hq)
def xX2_allCrumbs_0 (J4 : zq_P) (Q : zq_Q) (ls : zq_L) (st : List Value) (h : zq_H) : Prop := (zi_push (.int 0) (zi_istore 1 (zi_push (.int 0) (zi_istore 2 (J4))))) ls st h
theorem kX2_allCrumbs_0 {X : zq_X} {d : Nat} (C : zq_C X cX2_allCrumbs 3 RX2 d) {J4 : zq_P} (j4 : zq_ok X 3 4 J4) {Q : zq_Q} (hq : zq_R X (some .int) 1 Q) : zq_ok X 3 0 (xX2_allCrumbs_0 J4 Q) := by
  refine zs_iconst C dX2_allCrumbs_0 (by decide) ?_
  refine zs_istore_n C dX2_allCrumbs_1 rfl (by decide) ?_
  refine zs_iconst C dX2_allCrumbs_2 (by decide) ?_
  refine zs_istore_n C dX2_allCrumbs_3 rfl (by decide) ?_
  exact j4
theorem mX2_allCrumbs {d : Nat} {spec : zq_Sp} {σ4 : Type} (μ4 : σ4 → Nat) (I4 : zq_Q → σ4 → zq_P) (v : ∀ args h Q, spec args h Q → (zq_a args).length ≤ 3 ∧ xX2_allCrumbs_0 (fun ls st h => ∃ b, I4 Q b ls st h) Q (zq_l0 3 args) [] h) (v4 : ∀ Q a ls st h, I4 Q a ls st h → xX2_allCrumbs_4 (fun ls st h => ∃ b, μ4 b < μ4 a ∧ I4 Q b ls st h) Q ls st h) : zq_M yX2_allCrumbs cX2_allCrumbs 3 (some .int) 1 d spec := by
  refine zq_met (by decide +kernel) (by decide) (fun X Q args h C hq hs => ⟨(v args h Q hs).1, _, ?_, (v args h Q hs).2⟩)
  have hl := zq_loop1 (X := X) (nL := 3) (pc1 := 4) μ4 (I4 Q) (fun J4 => xX2_allCrumbs_4 J4 Q) (fun j4 => kX2_allCrumbs_4 C j4 hq) (v4 Q)
  exact kX2_allCrumbs_0 C hl hq
/-! ToOneCrumb$Board.holderOf(I)I -/
theorem dX0_holderOf_0 : decode cX0_holderOf 0 = .ok (.aload_n 0, 1) := by decide +kernel
theorem dX0_holderOf_1 : decode cX0_holderOf 1 = .ok (.getfield 18, 3) := by decide +kernel
theorem dX0_holderOf_4 : decode cX0_holderOf 4 = .ok (.iconst 4, 1) := by decide +kernel
theorem dX0_holderOf_5 : decode cX0_holderOf 5 = .ok (.iload_n 1, 1) := by decide +kernel
theorem dX0_holderOf_6 : decode cX0_holderOf 6 = .ok (.imul, 1) := by decide +kernel
theorem dX0_holderOf_7 : decode cX0_holderOf 7 = .ok (.lushr, 1) := by decide +kernel
theorem dX0_holderOf_8 : decode cX0_holderOf 8 = .ok (.ldc2_w 22, 3) := by decide +kernel
theorem dX0_holderOf_11 : decode cX0_holderOf 11 = .ok (.land, 1) := by decide +kernel
theorem dX0_holderOf_12 : decode cX0_holderOf 12 = .ok (.l2i, 1) := by decide +kernel
theorem dX0_holderOf_13 : decode cX0_holderOf 13 = .ok (.iconst 1, 1) := by decide +kernel
theorem dX0_holderOf_14 : decode cX0_holderOf 14 = .ok (.isub, 1) := by decide +kernel
theorem dX0_holderOf_15 : decode cX0_holderOf 15 = .ok (.ireturn, 1) := by decide +kernel
def xX0_holderOf_0 (Q : zq_Q) (ls : zq_L) (st : List Value) (h : zq_H) : Prop := (zi_aload 0 (zi_getL 12 2 (zi_push (.int 4) (zi_iload 1 (zi_i2 (fun x y => x * y) (zi_lsh zf_lushr (zi_push (.long 15) (zi_l2 (fun x y => x &&& y) (zi_l2i (zi_push (.int 1) (zi_i2 (fun x y => x - y) (zi_iret Q)))))))))))) ls st h
theorem kX0_holderOf_0 {X : zq_X} {d : Nat} (C : zq_C X cX0_holderOf 2 RX0 d) {Q : zq_Q} (hq : zq_R X (some .int) 1 Q) : zq_ok X 2 0 (xX0_holderOf_0 Q) := by
  refine zs_aload_n C dX0_holderOf_0 rfl ?_
  refine zs_getL C zp_12 zF0 (j := 2) ⟨by decide, rfl⟩ zw_122 dX0_holderOf_1 ?_
  refine zs_iconst C dX0_holderOf_4 (by decide) ?_
  refine zs_iload_n C dX0_holderOf_5 rfl ?_
  refine zs_imul C dX0_holderOf_6 ?_
  refine zs_lushr C dX0_holderOf_7 ?_
  refine zs_ldc2 C dX0_holderOf_8 zw_591 ?_
  refine zs_land C dX0_holderOf_11 ?_
  refine zs_l2i C dX0_holderOf_12 ?_
  refine zs_iconst C dX0_holderOf_13 (by decide) ?_
  refine zs_isub C dX0_holderOf_14 ?_
  exact zs_iret C hq dX0_holderOf_15
theorem mX0_holderOf {d : Nat} {spec : zq_Sp} (v : ∀ args h Q, spec args h Q → (zq_a args).length ≤ 2 ∧ xX0_holderOf_0 Q (zq_l0 2 args) [] h) : zq_M yX0_holderOf cX0_holderOf 2 (some .int) 1 d spec := by
  refine zq_met (by decide +kernel) (by decide) (fun X Q args h C hq hs => ⟨(v args h Q hs).1, _, ?_, (v args h Q hs).2⟩)
  exact kX0_holderOf_0 C hq
/-! ToOneCrumb$Board.put(II)V -/
theorem dX0_put_0 : decode cX0_put 0 = .ok (.aload_n 0, 1) := by decide +kernel
theorem dX0_put_1 : decode cX0_put 1 = .ok (.getfield 18, 3) := by decide +kernel
theorem dX0_put_4 : decode cX0_put 4 = .ok (.ldc2_w 22, 3) := by decide +kernel
theorem dX0_put_7 : decode cX0_put 7 = .ok (.iconst 4, 1) := by decide +kernel
theorem dX0_put_8 : decode cX0_put 8 = .ok (.iload_n 1, 1) := by decide +kernel
theorem dX0_put_9 : decode cX0_put 9 = .ok (.imul, 1) := by decide +kernel
theorem dX0_put_10 : decode cX0_put 10 = .ok (.lshl, 1) := by decide +kernel
theorem dX0_put_11 : decode cX0_put 11 = .ok (.ldc2_w 24, 3) := by decide +kernel
theorem dX0_put_14 : decode cX0_put 14 = .ok (.lxor, 1) := by decide +kernel
theorem dX0_put_15 : decode cX0_put 15 = .ok (.land, 1) := by decide +kernel
theorem dX0_put_16 : decode cX0_put 16 = .ok (.lstore_n 3, 1) := by decide +kernel
theorem dX0_put_17 : decode cX0_put 17 = .ok (.aload_n 0, 1) := by decide +kernel
theorem dX0_put_18 : decode cX0_put 18 = .ok (.lload_n 3, 1) := by decide +kernel
theorem dX0_put_19 : decode cX0_put 19 = .ok (.iload_n 2, 1) := by decide +kernel
theorem dX0_put_20 : decode cX0_put 20 = .ok (.iconst 1, 1) := by decide +kernel
theorem dX0_put_21 : decode cX0_put 21 = .ok (.iadd, 1) := by decide +kernel
theorem dX0_put_22 : decode cX0_put 22 = .ok (.i2l, 1) := by decide +kernel
theorem dX0_put_23 : decode cX0_put 23 = .ok (.iconst 4, 1) := by decide +kernel
theorem dX0_put_24 : decode cX0_put 24 = .ok (.iload_n 1, 1) := by decide +kernel
theorem dX0_put_25 : decode cX0_put 25 = .ok (.imul, 1) := by decide +kernel
theorem dX0_put_26 : decode cX0_put 26 = .ok (.lshl, 1) := by decide +kernel
theorem dX0_put_27 : decode cX0_put 27 = .ok (.lor, 1) := by decide +kernel
theorem dX0_put_28 : decode cX0_put 28 = .ok (.putfield 18, 3) := by decide +kernel
theorem dX0_put_31 : decode cX0_put 31 = .ok (.return_, 1) := by decide +kernel
def xX0_put_0 (Q : zq_Q) (ls : zq_L) (st : List Value) (h : zq_H) : Prop := (zi_aload 0 (zi_getL 12 2 (zi_push (.long 15) (zi_push (.int 4) (zi_iload 1 (zi_i2 (fun x y => x * y) (zi_lsh zf_lshl (zi_push (.long (-1)) (zi_l2 (fun x y => x ^^^ y) (zi_l2 (fun x y => x &&& y) (zi_lstore 3 (zi_aload 0 (zi_lload 3 (zi_iload 2 (zi_push (.int 1) (zi_i2 (fun x y => x + y) (zi_i2l (zi_push (.int 4) (zi_iload 1 (zi_i2 (fun x y => x * y) (zi_lsh zf_lshl (zi_l2 (fun x y => x ||| y) (zi_putL 12 2 (zi_vret Q)))))))))))))))))))))))) ls st h
theorem kX0_put_0 {X : zq_X} {d : Nat} (C : zq_C X cX0_put 5 RX0 d) {Q : zq_Q} (hq : zq_R X none 0 Q) : zq_ok X 5 0 (xX0_put_0 Q) := by
  refine zs_aload_n C dX0_put_0 rfl ?_
  refine zs_getL C zp_12 zF0 (j := 2) ⟨by decide, rfl⟩ zw_122 dX0_put_1 ?_
  refine zs_ldc2 C dX0_put_4 zw_591 ?_
  refine zs_iconst C dX0_put_7 (by decide) ?_
  refine zs_iload_n C dX0_put_8 rfl ?_
  refine zs_imul C dX0_put_9 ?_
  refine zs_lshl C dX0_put_10 ?_
  refine zs_ldc2 C dX0_put_11 zw_596 ?_
  refine zs_lxor C dX0_put_14 ?_
  refine zs_land C dX0_put_15 ?_
  refine zs_lstore_n C dX0_put_16 rfl (by decide) ?_
  refine zs_aload_n C dX0_put_17 rfl ?_
  refine zs_lload_n C dX0_put_18 rfl ?_
  refine zs_iload_n C dX0_put_19 rfl ?_
  refine zs_iconst C dX0_put_20 (by decide) ?_
  refine zs_iadd C dX0_put_21 ?_
  refine zs_i2l C dX0_put_22 ?_
  refine zs_iconst C dX0_put_23 (by decide) ?_
  refine zs_iload_n C dX0_put_24 rfl ?_
  refine zs_imul C dX0_put_25 ?_
  refine zs_lshl C dX0_put_26 ?_
  refine zs_lor C dX0_put_27 ?_
  refine zs_putL C zp_12 zF0 (j := 2) ⟨by decide, rfl⟩ ⟨rfl, by decide +kernel⟩ zw_122 dX0_put_28 ?_
  exact zs_vret C hq dX0_put_31
theorem mX0_put {d : Nat} {spec : zq_Sp} (v : ∀ args h Q, spec args h Q → (zq_a args).length ≤ 5 ∧ xX0_put_0 Q (zq_l0 5 args) [] h) : zq_M yX0_put cX0_put 5 none 0 d spec := by
  refine zq_met (by decide +kernel) (by decide) (fun X Q args h C hq hs => ⟨(v args h Q hs).1, _, ?_, (v args h Q hs).2⟩)
  exact kX0_put_0 C hq
/-! ToOneCrumb$Board.startAnew()V -/
theorem dX0_startAnew_0 : decode cX0_startAnew 0 = .ok (.aload_n 0, 1) := by decide +kernel
theorem dX0_startAnew_1 : decode cX0_startAnew 1 = .ok (.lconst 0, 1) := by decide +kernel
theorem dX0_startAnew_2 : decode cX0_startAnew 2 = .ok (.putfield 18, 3) := by decide +kernel
theorem dX0_startAnew_5 : decode cX0_startAnew 5 = .ok (.aload_n 0, 1) := by decide +kernel
theorem dX0_startAnew_6 : decode cX0_startAnew 6 = .ok (.iconst 0, 1) := by decide +kernel
theorem dX0_startAnew_7 : decode cX0_startAnew 7 = .ok (.putfield 26, 3) := by decide +kernel
theorem dX0_startAnew_10 : decode cX0_startAnew 10 = .ok (.aload_n 0, 1) := by decide +kernel
theorem dX0_startAnew_11 : decode cX0_startAnew 11 = .ok (.iconst 0, 1) := by decide +kernel
theorem dX0_startAnew_12 : decode cX0_startAnew 12 = .ok (.putfield 30, 3) := by decide +kernel
theorem dX0_startAnew_15 : decode cX0_startAnew 15 = .ok (.return_, 1) := by decide +kernel
def xX0_startAnew_0 (Q : zq_Q) (ls : zq_L) (st : List Value) (h : zq_H) : Prop := (zi_aload 0 (zi_push (.long 0) (zi_putL 12 2 (zi_aload 0 (zi_push (.int 0) (zi_putI 12 3 (zi_aload 0 (zi_push (.int 0) (zi_putI 12 4 (zi_vret Q)))))))))) ls st h
theorem kX0_startAnew_0 {X : zq_X} {d : Nat} (C : zq_C X cX0_startAnew 1 RX0 d) {Q : zq_Q} (hq : zq_R X none 0 Q) : zq_ok X 1 0 (xX0_startAnew_0 Q) := by
  refine zs_aload_n C dX0_startAnew_0 rfl ?_
  refine zs_lconst C dX0_startAnew_1 (by decide) ?_
  refine zs_putL C zp_12 zF0 (j := 2) ⟨by decide, rfl⟩ ⟨rfl, by decide +kernel⟩ zw_122 dX0_startAnew_2 ?_
  refine zs_aload_n C dX0_startAnew_5 rfl ?_
  refine zs_iconst C dX0_startAnew_6 (by decide) ?_
  refine zs_putI C zp_12 zF0 (j := 3) ⟨by decide, rfl⟩ ⟨rfl, by decide +kernel⟩ zw_124 dX0_startAnew_7 ?_
  refine zs_aload_n C dX0_startAnew_10 rfl ?_
  refine zs_iconst C dX0_startAnew_11 (by decide) ?_
  refine zs_putI C zp_12 zF0 (j := 4) ⟨by decide, rfl⟩ ⟨rfl, by decide +kernel⟩ zw_126 dX0_startAnew_12 ?_
  exact zs_vret C hq dX0_startAnew_15
theorem mX0_startAnew {d : Nat} {spec : zq_Sp} (v : ∀ args h Q, spec args h Q → (zq_a args).length ≤ 1 ∧ xX0_startAnew_0 Q (zq_l0 1 args) [] h) : zq_M yX0_startAnew cX0_startAnew 1 none 0 d spec := by
  refine zq_met (by decide +kernel) (by decide) (fun X Q args h C hq hs => ⟨(v args h Q hs).1, _, ?_, (v args h Q hs).2⟩)
  exact kX0_startAnew_0 C hq
/-! ToOneCrumb$Board.remember(J)V -/
theorem dX0_remember_0 : decode cX0_remember 0 = .ok (.aload_n 0, 1) := by decide +kernel
theorem dX0_remember_1 : decode cX0_remember 1 = .ok (.getfield 26, 3) := by decide +kernel
theorem dX0_remember_4 : decode cX0_remember 4 = .ok (.bipush 15, 2) := by decide +kernel
theorem dX0_remember_6 : decode cX0_remember 6 = .ok (.if_icmp .ne 30, 3) := by decide +kernel
theorem dX0_remember_9 : decode cX0_remember 9 = .ok (.aload_n 0, 1) := by decide +kernel
theorem dX0_remember_10 : decode cX0_remember 10 = .ok (.dup, 1) := by decide +kernel
theorem dX0_remember_11 : decode cX0_remember 11 = .ok (.getfield 26, 3) := by decide +kernel
theorem dX0_remember_14 : decode cX0_remember 14 = .ok (.iconst 1, 1) := by decide +kernel
theorem dX0_remember_15 : decode cX0_remember 15 = .ok (.isub, 1) := by decide +kernel
theorem dX0_remember_16 : decode cX0_remember 16 = .ok (.putfield 26, 3) := by decide +kernel
theorem dX0_remember_19 : decode cX0_remember 19 = .ok (.aload_n 0, 1) := by decide +kernel
theorem dX0_remember_20 : decode cX0_remember 20 = .ok (.getfield 11, 3) := by decide +kernel
theorem dX0_remember_23 : decode cX0_remember 23 = .ok (.iconst 1, 1) := by decide +kernel
theorem dX0_remember_24 : decode cX0_remember 24 = .ok (.aload_n 0, 1) := by decide +kernel
theorem dX0_remember_25 : decode cX0_remember 25 = .ok (.getfield 11, 3) := by decide +kernel
theorem dX0_remember_28 : decode cX0_remember 28 = .ok (.iconst 0, 1) := by decide +kernel
theorem dX0_remember_29 : decode cX0_remember 29 = .ok (.aload_n 0, 1) := by decide +kernel
theorem dX0_remember_30 : decode cX0_remember 30 = .ok (.getfield 26, 3) := by decide +kernel
theorem dX0_remember_33 : decode cX0_remember 33 = .ok (.invokestatic 33, 3) := by decide +kernel
theorem dX0_remember_36 : decode cX0_remember 36 = .ok (.aload_n 0, 1) := by decide +kernel
theorem dX0_remember_37 : decode cX0_remember 37 = .ok (.getfield 11, 3) := by decide +kernel
theorem dX0_remember_40 : decode cX0_remember 40 = .ok (.aload_n 0, 1) := by decide +kernel
theorem dX0_remember_41 : decode cX0_remember 41 = .ok (.getfield 26, 3) := by decide +kernel
theorem dX0_remember_44 : decode cX0_remember 44 = .ok (.lload_n 1, 1) := by decide +kernel
theorem dX0_remember_45 : decode cX0_remember 45 = .ok (.lastore, 1) := by decide +kernel
theorem dX0_remember_46 : decode cX0_remember 46 = .ok (.aload_n 0, 1) := by decide +kernel
theorem dX0_remember_47 : decode cX0_remember 47 = .ok (.dup, 1) := by decide +kernel
theorem dX0_remember_48 : decode cX0_remember 48 = .ok (.getfield 26, 3) := by decide +kernel
theorem dX0_remember_51 : decode cX0_remember 51 = .ok (.iconst 1, 1) := by decide +kernel
theorem dX0_remember_52 : decode cX0_remember 52 = .ok (.iadd, 1) := by decide +kernel
theorem dX0_remember_53 : decode cX0_remember 53 = .ok (.putfield 26, 3) := by decide +kernel
theorem dX0_remember_56 : decode cX0_remember 56 = .ok (.return_, 1) := by decide +kernel
def xX0_remember_36 (Q : zq_Q) (ls : zq_L) (st : List Value) (h : zq_H) : Prop := (zi_aload 0 (zi_getR 12 13 (zi_aload 0 (zi_getI 12 3 (zi_lload 1 (zi_astL 13 15 (zi_aload 0 (zi_dup (zi_getI 12 3 (zi_push (.int 1) (zi_i2 (fun x y => x + y) (zi_putI 12 3 (zi_vret Q))))))))))))) ls st h
theorem kX0_remember_36 {X : zq_X} {d : Nat} (C : zq_C X cX0_remember 3 RX0 d) (hd1 : 1 ≤ d) {Q : zq_Q} (hq : zq_R X none 0 Q) : zq_ok X 3 36 (xX0_remember_36 Q) := by
  refine zs_aload_n C dX0_remember_36 rfl ?_
  refine zs_getR C zp_12 zF0 (j := 0) ⟨by decide, rfl⟩ zw_120 dX0_remember_37 ?_
  refine zs_aload_n C dX0_remember_40 rfl ?_
  refine zs_getI C zp_12 zF0 (j := 3) ⟨by decide, rfl⟩ zw_124 dX0_remember_41 ?_
  refine zs_lload_n C dX0_remember_44 rfl ?_
  refine zs_lastore C zp_13 dX0_remember_45 ?_
  refine zs_aload_n C dX0_remember_46 rfl ?_
  refine zs_dup C dX0_remember_47 ?_
  refine zs_getI C zp_12 zF0 (j := 3) ⟨by decide, rfl⟩ zw_124 dX0_remember_48 ?_
  refine zs_iconst C dX0_remember_51 (by decide) ?_
  refine zs_iadd C dX0_remember_52 ?_
  refine zs_putI C zp_12 zF0 (j := 3) ⟨by decide, rfl⟩ ⟨rfl, by decide +kernel⟩ zw_124 dX0_remember_53 ?_
  exact zs_vret C hq dX0_remember_56
def xX0_remember_9 (Q : zq_Q) (ls : zq_L) (st : List Value) (h : zq_H) : Prop := (zi_aload 0 (zi_dup (zi_getI 12 3 (zi_push (.int 1) (zi_i2 (fun x y => x - y) (zi_putI 12 3 (zi_aload 0 (zi_getR 12 13 (zi_push (.int 1) (zi_aload 0 (zi_getR 12 13 (zi_push (.int 0) (zi_aload 0 (zi_getI 12 3 (zi_copyL 13 15 13 15 ((xX0_remember_36 Q))))))))))))))))) ls st h
theorem kX0_remember_9 {X : zq_X} {d : Nat} (C : zq_C X cX0_remember 3 RX0 d) (hd1 : 1 ≤ d) {Q : zq_Q} (hq : zq_R X none 0 Q) : zq_ok X 3 9 (xX0_remember_9 Q) := by
  refine zs_aload_n C dX0_remember_9 rfl ?_
  refine zs_dup C dX0_remember_10 ?_
  refine zs_getI C zp_12 zF0 (j := 3) ⟨by decide, rfl⟩ zw_124 dX0_remember_11 ?_
  refine zs_iconst C dX0_remember_14 (by decide) ?_
  refine zs_isub C dX0_remember_15 ?_
  refine zs_putI C zp_12 zF0 (j := 3) ⟨by decide, rfl⟩ ⟨rfl, by decide +kernel⟩ zw_124 dX0_remember_16 ?_
  refine zs_aload_n C dX0_remember_19 rfl ?_
  refine zs_getR C zp_12 zF0 (j := 0) ⟨by decide, rfl⟩ zw_120 dX0_remember_20 ?_
  refine zs_iconst C dX0_remember_23 (by decide) ?_
  refine zs_aload_n C dX0_remember_24 rfl ?_
  refine zs_getR C zp_12 zF0 (j := 0) ⟨by decide, rfl⟩ zw_120 dX0_remember_25 ?_
  refine zs_iconst C dX0_remember_28 (by decide) ?_
  refine zs_aload_n C dX0_remember_29 rfl ?_
  refine zs_getI C zp_12 zF0 (j := 3) ⟨by decide, rfl⟩ zw_124 dX0_remember_30 ?_
  refine zs_copyL C zp_13 zp_13 zw_609 zw_611 zw_610 zw_24 hd1 dX0_remember_33 ?_
  exact kX0_remember_36 C hd1 hq
def xX0_remember_0 (Q : zq_Q) (ls : zq_L) (st : List Value) (h : zq_H) : Prop := (zi_aload 0 (zi_getI 12 3 (zi_push (.int 15) (zi_if2 (fun x y => x = y) (xX0_remember_9 Q) (xX0_remember_36 Q))))) ls st h
theorem kX0_remember_0 {X : zq_X} {d : Nat} (C : zq_C X cX0_remember 3 RX0 d) (hd1 : 1 ≤ d) {Q : zq_Q} (hq : zq_R X none 0 Q) : zq_ok X 3 0 (xX0_remember_0 Q) := by
  refine zs_aload_n C dX0_remember_0 rfl ?_
  refine zs_getI C zp_12 zF0 (j := 3) ⟨by decide, rfl⟩ zw_124 dX0_remember_1 ?_
  refine zs_bipush C dX0_remember_4 (by decide) ?_
  exact zs_icmp_ne C dX0_remember_6 (by decide) (kX0_remember_36 C hd1 hq) (kX0_remember_9 C hd1 hq)
theorem mX0_remember {d : Nat} {spec : zq_Sp} (hd1 : 1 ≤ d) (v : ∀ args h Q, spec args h Q → (zq_a args).length ≤ 3 ∧ xX0_remember_0 Q (zq_l0 3 args) [] h) : zq_M yX0_remember cX0_remember 3 none 0 d spec := by
  refine zq_met (by decide +kernel) (by decide) (fun X Q args h C hq hs => ⟨(v args h Q hs).1, _, ?_, (v args h Q hs).2⟩)
  exact kX0_remember_0 C hd1 hq
/-! ToOneCrumb$Board.stepBack()I -/
theorem dX0_stepBack_0 : decode cX0_stepBack 0 = .ok (.aload_n 0, 1) := by decide +kernel
theorem dX0_stepBack_1 : decode cX0_stepBack 1 = .ok (.getfield 26, 3) := by decide +kernel
theorem dX0_stepBack_4 : decode cX0_stepBack 4 = .ok (.ifCond .gt 5, 3) := by decide +kernel
theorem dX0_stepBack_7 : decode cX0_stepBack 7 = .ok (.iconst (-1), 1) := by decide +kernel
theorem dX0_stepBack_8 : decode cX0_stepBack 8 = .ok (.ireturn, 1) := by decide +kernel
theorem dX0_stepBack_9 : decode cX0_stepBack 9 = .ok (.aload_n 0, 1) := by decide +kernel
theorem dX0_stepBack_10 : decode cX0_stepBack 10 = .ok (.dup, 1) := by decide +kernel
theorem dX0_stepBack_11 : decode cX0_stepBack 11 = .ok (.getfield 26, 3) := by decide +kernel
theorem dX0_stepBack_14 : decode cX0_stepBack 14 = .ok (.iconst 1, 1) := by decide +kernel
theorem dX0_stepBack_15 : decode cX0_stepBack 15 = .ok (.isub, 1) := by decide +kernel
theorem dX0_stepBack_16 : decode cX0_stepBack 16 = .ok (.putfield 26, 3) := by decide +kernel
theorem dX0_stepBack_19 : decode cX0_stepBack 19 = .ok (.aload_n 0, 1) := by decide +kernel
theorem dX0_stepBack_20 : decode cX0_stepBack 20 = .ok (.aload_n 0, 1) := by decide +kernel
theorem dX0_stepBack_21 : decode cX0_stepBack 21 = .ok (.getfield 11, 3) := by decide +kernel
theorem dX0_stepBack_24 : decode cX0_stepBack 24 = .ok (.aload_n 0, 1) := by decide +kernel
theorem dX0_stepBack_25 : decode cX0_stepBack 25 = .ok (.getfield 26, 3) := by decide +kernel
theorem dX0_stepBack_28 : decode cX0_stepBack 28 = .ok (.laload, 1) := by decide +kernel
theorem dX0_stepBack_29 : decode cX0_stepBack 29 = .ok (.putfield 18, 3) := by decide +kernel
theorem dX0_stepBack_32 : decode cX0_stepBack 32 = .ok (.aload_n 0, 1) := by decide +kernel
theorem dX0_stepBack_33 : decode cX0_stepBack 33 = .ok (.getfield 26, 3) := by decide +kernel
theorem dX0_stepBack_36 : decode cX0_stepBack 36 = .ok (.ireturn, 1) := by decide +kernel
def xX0_stepBack_9 (Q : zq_Q) (ls : zq_L) (st : List Value) (h : zq_H) : Prop := (zi_aload 0 (zi_dup (zi_getI 12 3 (zi_push (.int 1) (zi_i2 (fun x y => x - y) (zi_putI 12 3 (zi_aload 0 (zi_aload 0 (zi_getR 12 13 (zi_aload 0 (zi_getI 12 3 (zi_aldL 13 15 (zi_putL 12 2 (zi_aload 0 (zi_getI 12 3 (zi_iret Q)))))))))))))))) ls st h
theorem kX0_stepBack_9 {X : zq_X} {d : Nat} (C : zq_C X cX0_stepBack 1 RX0 d) {Q : zq_Q} (hq : zq_R X (some .int) 1 Q) : zq_ok X 1 9 (xX0_stepBack_9 Q) := by
  refine zs_aload_n C dX0_stepBack_9 rfl ?_
  refine zs_dup C dX0_stepBack_10 ?_
  refine zs_getI C zp_12 zF0 (j := 3) ⟨by decide, rfl⟩ zw_124 dX0_stepBack_11 ?_
  refine zs_iconst C dX0_stepBack_14 (by decide) ?_
  refine zs_isub C dX0_stepBack_15 ?_
  refine zs_putI C zp_12 zF0 (j := 3) ⟨by decide, rfl⟩ ⟨rfl, by decide +kernel⟩ zw_124 dX0_stepBack_16 ?_
  refine zs_aload_n C dX0_stepBack_19 rfl ?_
  refine zs_aload_n C dX0_stepBack_20 rfl ?_
  refine zs_getR C zp_12 zF0 (j := 0) ⟨by decide, rfl⟩ zw_120 dX0_stepBack_21 ?_
  refine zs_aload_n C dX0_stepBack_24 rfl ?_
  refine zs_getI C zp_12 zF0 (j := 3) ⟨by decide, rfl⟩ zw_124 dX0_stepBack_25 ?_
  refine zs_laload C zp_13 dX0_stepBack_28 ?_
  refine zs_putL C zp_12 zF0 (j := 2) ⟨by decide, rfl⟩ ⟨rfl, by decide +kernel⟩ zw_122 dX0_stepBack_29 ?_
  refine zs_aload_n C dX0_stepBack_32 rfl ?_
  refine zs_getI C zp_12 zF0 (j := 3) ⟨by decide, rfl⟩ zw_124 dX0_stepBack_33 ?_
  exact zs_iret C hq dX0_stepBack_36
def xX0_stepBack_7 (Q : zq_Q) (ls : zq_L) (st : List Value) (h : zq_H) : Prop := (zi_push (.int (-1)) (zi_iret Q)) ls st h
theorem kX0_stepBack_7 {X : zq_X} {d : Nat} (C : zq_C X cX0_stepBack 1 RX0 d) {Q : zq_Q} (hq : zq_R X (some .int) 1 Q) : zq_ok X 1 7 (xX0_stepBack_7 Q) := by
  refine zs_iconst C dX0_stepBack_7 (by decide) ?_
  exact zs_iret C hq dX0_stepBack_8
def xX0_stepBack_0 (Q : zq_Q) (ls : zq_L) (st : List Value) (h : zq_H) : Prop := (zi_aload 0 (zi_getI 12 3 (zi_if1 (fun x => 0 < x) (xX0_stepBack_9 Q) (xX0_stepBack_7 Q)))) ls st h
theorem kX0_stepBack_0 {X : zq_X} {d : Nat} (C : zq_C X cX0_stepBack 1 RX0 d) {Q : zq_Q} (hq : zq_R X (some .int) 1 Q) : zq_ok X 1 0 (xX0_stepBack_0 Q) := by
  refine zs_aload_n C dX0_stepBack_0 rfl ?_
  refine zs_getI C zp_12 zF0 (j := 3) ⟨by decide, rfl⟩ zw_124 dX0_stepBack_1 ?_
  exact zs_if_gt C dX0_stepBack_4 (by decide) (kX0_stepBack_9 C hq) (kX0_stepBack_7 C hq)
theorem mX0_stepBack {d : Nat} {spec : zq_Sp} (v : ∀ args h Q, spec args h Q → (zq_a args).length ≤ 1 ∧ xX0_stepBack_0 Q (zq_l0 1 args) [] h) : zq_M yX0_stepBack cX0_stepBack 1 (some .int) 1 d spec := by
  refine zq_met (by decide +kernel) (by decide) (fun X Q args h C hq hs => ⟨(v args h Q hs).1, _, ?_, (v args h Q hs).2⟩)
  exact kX0_stepBack_0 C hq
/-! ToOneCrumb$Board.store(I)Z -/
theorem dX0_store_0 : decode cX0_store 0 = .ok (.iload_n 1, 1) := by decide +kernel
theorem dX0_store_1 : decode cX0_store 1 = .ok (.ifCond .lt 8, 3) := by decide +kernel
theorem dX0_store_4 : decode cX0_store 4 = .ok (.iload_n 1, 1) := by decide +kernel
theorem dX0_store_5 : decode cX0_store 5 = .ok (.iconst 3, 1) := by decide +kernel
theorem dX0_store_6 : decode cX0_store 6 = .ok (.if_icmp .lt 5, 3) := by decide +kernel
theorem dX0_store_9 : decode cX0_store 9 = .ok (.iconst 0, 1) := by decide +kernel
theorem dX0_store_10 : decode cX0_store 10 = .ok (.ireturn, 1) := by decide +kernel
theorem dX0_store_11 : decode cX0_store 11 = .ok (.aload_n 0, 1) := by decide +kernel
theorem dX0_store_12 : decode cX0_store 12 = .ok (.getfield 15, 3) := by decide +kernel
theorem dX0_store_15 : decode cX0_store 15 = .ok (.iload_n 1, 1) := by decide +kernel
theorem dX0_store_16 : decode cX0_store 16 = .ok (.aload_n 0, 1) := by decide +kernel
theorem dX0_store_17 : decode cX0_store 17 = .ok (.getfield 18, 3) := by decide +kernel
theorem dX0_store_20 : decode cX0_store 20 = .ok (.lastore, 1) := by decide +kernel
theorem dX0_store_21 : decode cX0_store 21 = .ok (.aload_n 0, 1) := by decide +kernel
theorem dX0_store_22 : decode cX0_store 22 = .ok (.dup, 1) := by decide +kernel
theorem dX0_store_23 : decode cX0_store 23 = .ok (.getfield 30, 3) := by decide +kernel
theorem dX0_store_26 : decode cX0_store 26 = .ok (.iconst 1, 1) := by decide +kernel
theorem dX0_store_27 : decode cX0_store 27 = .ok (.iload_n 1, 1) := by decide +kernel
theorem dX0_store_28 : decode cX0_store 28 = .ok (.ishl, 1) := by decide +kernel
theorem dX0_store_29 : decode cX0_store 29 = .ok (.ior, 1) := by decide +kernel
theorem dX0_store_30 : decode cX0_store 30 = .ok (.putfield 30, 3) := by decide +kernel
theorem dX0_store_33 : decode cX0_store 33 = .ok (.iconst 1, 1) := by decide +kernel
theorem dX0_store_34 : decode cX0_store 34 = .ok (.ireturn, 1) := by decide +kernel
def xX0_store_11 (Q : zq_Q) (ls : zq_L) (st : List Value) (h : zq_H) : Prop := (zi_aload 0 (zi_getR 12 14 (zi_iload 1 (zi_aload 0 (zi_getL 12 2 (zi_astL 14 3 (zi_aload 0 (zi_dup (zi_getI 12 4 (zi_push (.int 1) (zi_iload 1 (zi_i2 zf_shl (zi_i2 (fun x y => x ||| y) (zi_putI 12 4 (zi_push (.int 1) (zi_zret Q)))))))))))))))) ls st h
theorem kX0_store_11 {X : zq_X} {d : Nat} (C : zq_C X cX0_store 2 RX0 d) {Q : zq_Q} (hq : zq_R X (some .boolean) 1 Q) : zq_ok X 2 11 (xX0_store_11 Q) := by
  refine zs_aload_n C dX0_store_11 rfl ?_
  refine zs_getR C zp_12 zF0 (j := 1) ⟨by decide, rfl⟩ zw_121 dX0_store_12 ?_
  refine zs_iload_n C dX0_store_15 rfl ?_
  refine zs_aload_n C dX0_store_16 rfl ?_
  refine zs_getL C zp_12 zF0 (j := 2) ⟨by decide, rfl⟩ zw_122 dX0_store_17 ?_
  refine zs_lastore C zp_14 dX0_store_20 ?_
  refine zs_aload_n C dX0_store_21 rfl ?_
  refine zs_dup C dX0_store_22 ?_
  refine zs_getI C zp_12 zF0 (j := 4) ⟨by decide, rfl⟩ zw_126 dX0_store_23 ?_
  refine zs_iconst C dX0_store_26 (by decide) ?_
  refine zs_iload_n C dX0_store_27 rfl ?_
  refine zs_ishl C dX0_store_28 ?_
  refine zs_ior C dX0_store_29 ?_
  refine zs_putI C zp_12 zF0 (j := 4) ⟨by decide, rfl⟩ ⟨rfl, by decide +kernel⟩ zw_126 dX0_store_30 ?_
  refine zs_iconst C dX0_store_33 (by decide) ?_
  exact zs_zret C hq dX0_store_34
def xX0_store_9 (Q : zq_Q) (ls : zq_L) (st : List Value) (h : zq_H) : Prop := (zi_push (.int 0) (zi_zret Q)) ls st h
theorem kX0_store_9 {X : zq_X} {d : Nat} (C : zq_C X cX0_store 2 RX0 d) {Q : zq_Q} (hq : zq_R X (some .boolean) 1 Q) : zq_ok X 2 9 (xX0_store_9 Q) := by
  refine zs_iconst C dX0_store_9 (by decide) ?_
  exact zs_zret C hq dX0_store_10
def xX0_store_4 (Q : zq_Q) (ls : zq_L) (st : List Value) (h : zq_H) : Prop := (zi_iload 1 (zi_push (.int 3) (zi_if2 (fun x y => x < y) (xX0_store_11 Q) (xX0_store_9 Q)))) ls st h
theorem kX0_store_4 {X : zq_X} {d : Nat} (C : zq_C X cX0_store 2 RX0 d) {Q : zq_Q} (hq : zq_R X (some .boolean) 1 Q) : zq_ok X 2 4 (xX0_store_4 Q) := by
  refine zs_iload_n C dX0_store_4 rfl ?_
  refine zs_iconst C dX0_store_5 (by decide) ?_
  exact zs_icmp_lt C dX0_store_6 (by decide) (kX0_store_11 C hq) (kX0_store_9 C hq)
def xX0_store_0 (Q : zq_Q) (ls : zq_L) (st : List Value) (h : zq_H) : Prop := (zi_iload 1 (zi_if1 (fun x => x < 0) (xX0_store_9 Q) (xX0_store_4 Q))) ls st h
theorem kX0_store_0 {X : zq_X} {d : Nat} (C : zq_C X cX0_store 2 RX0 d) {Q : zq_Q} (hq : zq_R X (some .boolean) 1 Q) : zq_ok X 2 0 (xX0_store_0 Q) := by
  refine zs_iload_n C dX0_store_0 rfl ?_
  exact zs_if_lt C dX0_store_1 (by decide) (kX0_store_9 C hq) (kX0_store_4 C hq)
theorem mX0_store {d : Nat} {spec : zq_Sp} (v : ∀ args h Q, spec args h Q → (zq_a args).length ≤ 2 ∧ xX0_store_0 Q (zq_l0 2 args) [] h) : zq_M yX0_store cX0_store 2 (some .boolean) 1 d spec := by
  refine zq_met (by decide +kernel) (by decide) (fun X Q args h C hq hs => ⟨(v args h Q hs).1, _, ?_, (v args h Q hs).2⟩)
  exact kX0_store_0 C hq
/-! ToOneCrumb$Board.restore(I)Z -/
theorem dX0_restore_0 : decode cX0_restore 0 = .ok (.iload_n 1, 1) := by decide +kernel
theorem dX0_restore_1 : decode cX0_restore 1 = .ok (.ifCond .lt 19, 3) := by decide +kernel
theorem dX0_restore_4 : decode cX0_restore 4 = .ok (.iload_n 1, 1) := by decide +kernel
theorem dX0_restore_5 : decode cX0_restore 5 = .ok (.iconst 3, 1) := by decide +kernel
theorem dX0_restore_6 : decode cX0_restore 6 = .ok (.if_icmp .ge 14, 3) := by decide +kernel
theorem dX0_restore_9 : decode cX0_restore 9 = .ok (.aload_n 0, 1) := by decide +kernel
theorem dX0_restore_10 : decode cX0_restore 10 = .ok (.getfield 30, 3) := by decide +kernel
theorem dX0_restore_13 : decode cX0_restore 13 = .ok (.iload_n 1, 1) := by decide +kernel
theorem dX0_restore_14 : decode cX0_restore 14 = .ok (.ishr, 1) := by decide +kernel
theorem dX0_restore_15 : decode cX0_restore 15 = .ok (.iconst 1, 1) := by decide +kernel
theorem dX0_restore_16 : decode cX0_restore 16 = .ok (.iand, 1) := by decide +kernel
theorem dX0_restore_17 : decode cX0_restore 17 = .ok (.ifCond .ne 5, 3) := by decide +kernel
theorem dX0_restore_20 : decode cX0_restore 20 = .ok (.iconst 0, 1) := by decide +kernel
theorem dX0_restore_21 : decode cX0_restore 21 = .ok (.ireturn, 1) := by decide +kernel
theorem dX0_restore_22 : decode cX0_restore 22 = .ok (.aload_n 0, 1) := by decide +kernel
theorem dX0_restore_23 : decode cX0_restore 23 = .ok (.aload_n 0, 1) := by decide +kernel
theorem dX0_restore_24 : decode cX0_restore 24 = .ok (.getfield 15, 3) := by decide +kernel
theorem dX0_restore_27 : decode cX0_restore 27 = .ok (.iload_n 1, 1) := by decide +kernel
theorem dX0_restore_28 : decode cX0_restore 28 = .ok (.laload, 1) := by decide +kernel
theorem dX0_restore_29 : decode cX0_restore 29 = .ok (.putfield 18, 3) := by decide +kernel
theorem dX0_restore_32 : decode cX0_restore 32 = .ok (.aload_n 0, 1) := by decide +kernel
theorem dX0_restore_33 : decode cX0_restore 33 = .ok (.iconst 0, 1) := by decide +kernel
theorem dX0_restore_34 : decode cX0_restore 34 = .ok (.putfield 26, 3) := by decide +kernel
theorem dX0_restore_37 : decode cX0_restore 37 = .ok (.iconst 1, 1) := by decide +kernel
theorem dX0_restore_38 : decode cX0_restore 38 = .ok (.ireturn, 1) := by decide +kernel
def xX0_restore_22 (Q : zq_Q) (ls : zq_L) (st : List Value) (h : zq_H) : Prop := (zi_aload 0 (zi_aload 0 (zi_getR 12 14 (zi_iload 1 (zi_aldL 14 3 (zi_putL 12 2 (zi_aload 0 (zi_push (.int 0) (zi_putI 12 3 (zi_push (.int 1) (zi_zret Q))))))))))) ls st h
theorem kX0_restore_22 {X : zq_X} {d : Nat} (C : zq_C X cX0_restore 2 RX0 d) {Q : zq_Q} (hq : zq_R X (some .boolean) 1 Q) : zq_ok X 2 22 (xX0_restore_22 Q) := by
  refine zs_aload_n C dX0_restore_22 rfl ?_
  refine zs_aload_n C dX0_restore_23 rfl ?_
  refine zs_getR C zp_12 zF0 (j := 1) ⟨by decide, rfl⟩ zw_121 dX0_restore_24 ?_
  refine zs_iload_n C dX0_restore_27 rfl ?_
  refine zs_laload C zp_14 dX0_restore_28 ?_
  refine zs_putL C zp_12 zF0 (j := 2) ⟨by decide, rfl⟩ ⟨rfl, by decide +kernel⟩ zw_122 dX0_restore_29 ?_
  refine zs_aload_n C dX0_restore_32 rfl ?_
  refine zs_iconst C dX0_restore_33 (by decide) ?_
  refine zs_putI C zp_12 zF0 (j := 3) ⟨by decide, rfl⟩ ⟨rfl, by decide +kernel⟩ zw_124 dX0_restore_34 ?_
  refine zs_iconst C dX0_restore_37 (by decide) ?_
  exact zs_zret C hq dX0_restore_38
def xX0_restore_20 (Q : zq_Q) (ls : zq_L) (st : List Value) (h : zq_H) : Prop := (zi_push (.int 0) (zi_zret Q)) ls st h
theorem kX0_restore_20 {X : zq_X} {d : Nat} (C : zq_C X cX0_restore 2 RX0 d) {Q : zq_Q} (hq : zq_R X (some .boolean) 1 Q) : zq_ok X 2 20 (xX0_restore_20 Q) := by
  refine zs_iconst C dX0_restore_20 (by decide) ?_
  exact zs_zret C hq dX0_restore_21
def xX0_restore_9 (Q : zq_Q) (ls : zq_L) (st : List Value) (h : zq_H) : Prop := (zi_aload 0 (zi_getI 12 4 (zi_iload 1 (zi_i2 zf_shr (zi_push (.int 1) (zi_i2 (fun x y => x &&& y) (zi_if1 (fun x => x = 0) (xX0_restore_20 Q) (xX0_restore_22 Q)))))))) ls st h
theorem kX0_restore_9 {X : zq_X} {d : Nat} (C : zq_C X cX0_restore 2 RX0 d) {Q : zq_Q} (hq : zq_R X (some .boolean) 1 Q) : zq_ok X 2 9 (xX0_restore_9 Q) := by
  refine zs_aload_n C dX0_restore_9 rfl ?_
  refine zs_getI C zp_12 zF0 (j := 4) ⟨by decide, rfl⟩ zw_126 dX0_restore_10 ?_
  refine zs_iload_n C dX0_restore_13 rfl ?_
  refine zs_ishr C dX0_restore_14 ?_
  refine zs_iconst C dX0_restore_15 (by decide) ?_
  refine zs_iand C dX0_restore_16 ?_
  exact zs_if_ne C dX0_restore_17 (by decide) (kX0_restore_22 C hq) (kX0_restore_20 C hq)
def xX0_restore_4 (Q : zq_Q) (ls : zq_L) (st : List Value) (h : zq_H) : Prop := (zi_iload 1 (zi_push (.int 3) (zi_if2 (fun x y => y ≤ x) (xX0_restore_20 Q) (xX0_restore_9 Q)))) ls st h
theorem kX0_restore_4 {X : zq_X} {d : Nat} (C : zq_C X cX0_restore 2 RX0 d) {Q : zq_Q} (hq : zq_R X (some .boolean) 1 Q) : zq_ok X 2 4 (xX0_restore_4 Q) := by
  refine zs_iload_n C dX0_restore_4 rfl ?_
  refine zs_iconst C dX0_restore_5 (by decide) ?_
  exact zs_icmp_ge C dX0_restore_6 (by decide) (kX0_restore_20 C hq) (kX0_restore_9 C hq)
def xX0_restore_0 (Q : zq_Q) (ls : zq_L) (st : List Value) (h : zq_H) : Prop := (zi_iload 1 (zi_if1 (fun x => x < 0) (xX0_restore_20 Q) (xX0_restore_4 Q))) ls st h
theorem kX0_restore_0 {X : zq_X} {d : Nat} (C : zq_C X cX0_restore 2 RX0 d) {Q : zq_Q} (hq : zq_R X (some .boolean) 1 Q) : zq_ok X 2 0 (xX0_restore_0 Q) := by
  refine zs_iload_n C dX0_restore_0 rfl ?_
  exact zs_if_lt C dX0_restore_1 (by decide) (kX0_restore_20 C hq) (kX0_restore_4 C hq)
theorem mX0_restore {d : Nat} {spec : zq_Sp} (v : ∀ args h Q, spec args h Q → (zq_a args).length ≤ 2 ∧ xX0_restore_0 Q (zq_l0 2 args) [] h) : zq_M yX0_restore cX0_restore 2 (some .boolean) 1 d spec := by
  refine zq_met (by decide +kernel) (by decide) (fun X Q args h C hq hs => ⟨(v args h Q hs).1, _, ?_, (v args h Q hs).2⟩)
  exact kX0_restore_0 C hq
