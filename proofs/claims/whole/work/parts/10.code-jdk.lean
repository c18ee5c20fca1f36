/-! java/lang/Integer.bitCount(I)I -/
theorem dJ6_bitCount_0f7a4_0 : decode cJ6_bitCount_0f7a4 0 = .ok (.iload_n 0, 1) := by decide +kernel
theorem dJ6_bitCount_0f7a4_1 : decode cJ6_bitCount_0f7a4 1 = .ok (.iload_n 0, 1) := by decide +kernel
theorem dJ6_bitCount_0f7a4_2 : decode cJ6_bitCount_0f7a4 2 = .ok (.iconst 1, 1) := by decide +kernel
theorem dJ6_bitCount_0f7a4_3 : decode cJ6_bitCount_0f7a4 3 = .ok (.iushr, 1) := by decide +kernel
theorem dJ6_bitCount_0f7a4_4 : decode cJ6_bitCount_0f7a4 4 = .ok (.ldc_w 265, 3) := by decide +kernel
theorem dJ6_bitCount_0f7a4_7 : decode cJ6_bitCount_0f7a4 7 = .ok (.iand, 1) := by decide +kernel
theorem dJ6_bitCount_0f7a4_8 : decode cJ6_bitCount_0f7a4 8 = .ok (.isub, 1) := by decide +kernel
theorem dJ6_bitCount_0f7a4_9 : decode cJ6_bitCount_0f7a4 9 = .ok (.istore_n 0, 1) := by decide +kernel
theorem dJ6_bitCount_0f7a4_10 : decode cJ6_bitCount_0f7a4 10 = .ok (.iload_n 0, 1) := by decide +kernel
theorem dJ6_bitCount_0f7a4_11 : decode cJ6_bitCount_0f7a4 11 = .ok (.ldc_w 266, 3) := by decide +kernel
theorem dJ6_bitCount_0f7a4_14 : decode cJ6_bitCount_0f7a4 14 = .ok (.iand, 1) := by decide +kernel
theorem dJ6_bitCount_0f7a4_15 : decode cJ6_bitCount_0f7a4 15 = .ok (.iload_n 0, 1) := by decide +kernel
theorem dJ6_bitCount_0f7a4_16 : decode cJ6_bitCount_0f7a4 16 = .ok (.iconst 2, 1) := by decide +kernel
theorem dJ6_bitCount_0f7a4_17 : decode cJ6_bitCount_0f7a4 17 = .ok (.iushr, 1) := by decide +kernel
theorem dJ6_bitCount_0f7a4_18 : decode cJ6_bitCount_0f7a4 18 = .ok (.ldc_w 266, 3) := by decide +kernel
theorem dJ6_bitCount_0f7a4_21 : decode cJ6_bitCount_0f7a4 21 = .ok (.iand, 1) := by decide +kernel
theorem dJ6_bitCount_0f7a4_22 : decode cJ6_bitCount_0f7a4 22 = .ok (.iadd, 1) := by decide +kernel
theorem dJ6_bitCount_0f7a4_23 : decode cJ6_bitCount_0f7a4 23 = .ok (.istore_n 0, 1) := by decide +kernel
theorem dJ6_bitCount_0f7a4_24 : decode cJ6_bitCount_0f7a4 24 = .ok (.iload_n 0, 1) := by decide +kernel
theorem dJ6_bitCount_0f7a4_25 : decode cJ6_bitCount_0f7a4 25 = .ok (.iload_n 0, 1) := by decide +kernel
theorem dJ6_bitCount_0f7a4_26 : decode cJ6_bitCount_0f7a4 26 = .ok (.iconst 4, 1) := by decide +kernel
theorem dJ6_bitCount_0f7a4_27 : decode cJ6_bitCount_0f7a4 27 = .ok (.iushr, 1) := by decide +kernel
theorem dJ6_bitCount_0f7a4_28 : decode cJ6_bitCount_0f7a4 28 = .ok (.iadd, 1) := by decide +kernel
theorem dJ6_bitCount_0f7a4_29 : decode cJ6_bitCount_0f7a4 29 = .ok (.ldc_w 267, 3) := by decide +kernel
theorem dJ6_bitCount_0f7a4_32 : decode cJ6_bitCount_0f7a4 32 = .ok (.iand, 1) := by decide +kernel
theorem dJ6_bitCount_0f7a4_33 : decode cJ6_bitCount_0f7a4 33 = .ok (.istore_n 0, 1) := by decide +kernel
theorem dJ6_bitCount_0f7a4_34 : decode cJ6_bitCount_0f7a4 34 = .ok (.iload_n 0, 1) := by decide +kernel
theorem dJ6_bitCount_0f7a4_35 : decode cJ6_bitCount_0f7a4 35 = .ok (.iload_n 0, 1) := by decide +kernel
theorem dJ6_bitCount_0f7a4_36 : decode cJ6_bitCount_0f7a4 36 = .ok (.bipush 8, 2) := by decide +kernel
theorem dJ6_bitCount_0f7a4_38 : decode cJ6_bitCount_0f7a4 38 = .ok (.iushr, 1) := by decide +kernel
theorem dJ6_bitCount_0f7a4_39 : decode cJ6_bitCount_0f7a4 39 = .ok (.iadd, 1) := by decide +kernel
theorem dJ6_bitCount_0f7a4_40 : decode cJ6_bitCount_0f7a4 40 = .ok (.istore_n 0, 1) := by decide +kernel
theorem dJ6_bitCount_0f7a4_41 : decode cJ6_bitCount_0f7a4 41 = .ok (.iload_n 0, 1) := by decide +kernel
theorem dJ6_bitCount_0f7a4_42 : decode cJ6_bitCount_0f7a4 42 = .ok (.iload_n 0, 1) := by decide +kernel
theorem dJ6_bitCount_0f7a4_43 : decode cJ6_bitCount_0f7a4 43 = .ok (.bipush 16, 2) := by decide +kernel
theorem dJ6_bitCount_0f7a4_45 : decode cJ6_bitCount_0f7a4 45 = .ok (.iushr, 1) := by decide +kernel
theorem dJ6_bitCount_0f7a4_46 : decode cJ6_bitCount_0f7a4 46 = .ok (.iadd, 1) := by decide +kernel
theorem dJ6_bitCount_0f7a4_47 : decode cJ6_bitCount_0f7a4 47 = .ok (.istore_n 0, 1) := by decide +kernel
theorem dJ6_bitCount_0f7a4_48 : decode cJ6_bitCount_0f7a4 48 = .ok (.iload_n 0, 1) := by decide +kernel
theorem dJ6_bitCount_0f7a4_49 : decode cJ6_bitCount_0f7a4 49 = .ok (.bipush 63, 2) := by decide +kernel
theorem dJ6_bitCount_0f7a4_51 : decode cJ6_bitCount_0f7a4 51 = .ok (.iand, 1) := by decide +kernel
theorem dJ6_bitCount_0f7a4_52 : decode cJ6_bitCount_0f7a4 52 = .ok (.ireturn, 1) := by decide +kernel
def xJ6_bitCount_0f7a4_0 (Q : zq_Q) (ls : zq_L) (st : List Value) (h : zq_H) : Prop := (zi_iload 0 (zi_iload 0 (zi_push (.int 1) (zi_i2 zf_ushr (zi_push (.int 1431655765) (zi_i2 (fun x y => x &&& y) (zi_i2 (fun x y => x - y) (zi_istore 0 (zi_iload 0 (zi_push (.int 858993459) (zi_i2 (fun x y => x &&& y) (zi_iload 0 (zi_push (.int 2) (zi_i2 zf_ushr (zi_push (.int 858993459) (zi_i2 (fun x y => x &&& y) (zi_i2 (fun x y => x + y) (zi_istore 0 (zi_iload 0 (zi_iload 0 (zi_push (.int 4) (zi_i2 zf_ushr (zi_i2 (fun x y => x + y) (zi_push (.int 252645135) (zi_i2 (fun x y => x &&& y) (zi_istore 0 (zi_iload 0 (zi_iload 0 (zi_push (.int 8) (zi_i2 zf_ushr (zi_i2 (fun x y => x + y) (zi_istore 0 (zi_iload 0 (zi_iload 0 (zi_push (.int 16) (zi_i2 zf_ushr (zi_i2 (fun x y => x + y) (zi_istore 0 (zi_iload 0 (zi_push (.int 63) (zi_i2 (fun x y => x &&& y) (zi_iret Q)))))))))))))))))))))))))))))))))))))))))) ls st h
theorem kJ6_bitCount_0f7a4_0 {X : zq_X} {d : Nat} (C : zq_C X cJ6_bitCount_0f7a4 1 RJ6 d) {Q : zq_Q} (hq : zq_R X (some .int) 1 Q) : zq_ok X 1 0 (xJ6_bitCount_0f7a4_0 Q) := by
  refine zs_iload_n C dJ6_bitCount_0f7a4_0 rfl ?_
  refine zs_iload_n C dJ6_bitCount_0f7a4_1 rfl ?_
  refine zs_iconst C dJ6_bitCount_0f7a4_2 (by decide) ?_
  refine zs_iushr C dJ6_bitCount_0f7a4_3 ?_
  refine zs_ldcw C dJ6_bitCount_0f7a4_4 zw_698 ?_
  refine zs_iand C dJ6_bitCount_0f7a4_7 ?_
  refine zs_isub C dJ6_bitCount_0f7a4_8 ?_
  refine zs_istore_n C dJ6_bitCount_0f7a4_9 rfl (by decide) ?_
  refine zs_iload_n C dJ6_bitCount_0f7a4_10 rfl ?_
  refine zs_ldcw C dJ6_bitCount_0f7a4_11 zw_699 ?_
  refine zs_iand C dJ6_bitCount_0f7a4_14 ?_
  refine zs_iload_n C dJ6_bitCount_0f7a4_15 rfl ?_
  refine zs_iconst C dJ6_bitCount_0f7a4_16 (by decide) ?_
  refine zs_iushr C dJ6_bitCount_0f7a4_17 ?_
  refine zs_ldcw C dJ6_bitCount_0f7a4_18 zw_699 ?_
  refine zs_iand C dJ6_bitCount_0f7a4_21 ?_
  refine zs_iadd C dJ6_bitCount_0f7a4_22 ?_
  refine zs_istore_n C dJ6_bitCount_0f7a4_23 rfl (by decide) ?_
  refine zs_iload_n C dJ6_bitCount_0f7a4_24 rfl ?_
  refine zs_iload_n C dJ6_bitCount_0f7a4_25 rfl ?_
  refine zs_iconst C dJ6_bitCount_0f7a4_26 (by decide) ?_
  refine zs_iushr C dJ6_bitCount_0f7a4_27 ?_
  refine zs_iadd C dJ6_bitCount_0f7a4_28 ?_
  refine zs_ldcw C dJ6_bitCount_0f7a4_29 zw_700 ?_
  refine zs_iand C dJ6_bitCount_0f7a4_32 ?_
  refine zs_istore_n C dJ6_bitCount_0f7a4_33 rfl (by decide) ?_
  refine zs_iload_n C dJ6_bitCount_0f7a4_34 rfl ?_
  refine zs_iload_n C dJ6_bitCount_0f7a4_35 rfl ?_
  refine zs_bipush C dJ6_bitCount_0f7a4_36 (by decide) ?_
  refine zs_iushr C dJ6_bitCount_0f7a4_38 ?_
  refine zs_iadd C dJ6_bitCount_0f7a4_39 ?_
  refine zs_istore_n C dJ6_bitCount_0f7a4_40 rfl (by decide) ?_
  refine zs_iload_n C dJ6_bitCount_0f7a4_41 rfl ?_
  refine zs_iload_n C dJ6_bitCount_0f7a4_42 rfl ?_
  refine zs_bipush C dJ6_bitCount_0f7a4_43 (by decide) ?_
  refine zs_iushr C dJ6_bitCount_0f7a4_45 ?_
  refine zs_iadd C dJ6_bitCount_0f7a4_46 ?_
  refine zs_istore_n C dJ6_bitCount_0f7a4_47 rfl (by decide) ?_
  refine zs_iload_n C dJ6_bitCount_0f7a4_48 rfl ?_
  refine zs_bipush C dJ6_bitCount_0f7a4_49 (by decide) ?_
  refine zs_iand C dJ6_bitCount_0f7a4_51 ?_
  exact zs_iret C hq dJ6_bitCount_0f7a4_52
theorem mJ6_bitCount_0f7a4 {d : Nat} {spec : zq_Sp} (v : ∀ args h Q, spec args h Q → (zq_a args).length ≤ 1 ∧ xJ6_bitCount_0f7a4_0 Q (zq_l0 1 args) [] h) : zq_M yJ6_bitCount_0f7a4 cJ6_bitCount_0f7a4 1 (some .int) 1 d spec := by
  refine zq_met (by decide +kernel) (by decide) (fun X Q args h C hq hs => ⟨(v args h Q hs).1, _, ?_, (v args h Q hs).2⟩)
  exact kJ6_bitCount_0f7a4_0 C hq
/-! java/util/Arrays.fill([II)V -/
theorem dJ7_fill_53178_0 : decode cJ7_fill_53178 0 = .ok (.iconst 0, 1) := by decide +kernel
theorem dJ7_fill_53178_1 : decode cJ7_fill_53178 1 = .ok (.istore_n 2, 1) := by decide +kernel
theorem dJ7_fill_53178_2 : decode cJ7_fill_53178 2 = .ok (.aload_n 0, 1) := by decide +kernel
theorem dJ7_fill_53178_3 : decode cJ7_fill_53178 3 = .ok (.arraylength, 1) := by decide +kernel
theorem dJ7_fill_53178_4 : decode cJ7_fill_53178 4 = .ok (.istore_n 3, 1) := by decide +kernel
theorem dJ7_fill_53178_5 : decode cJ7_fill_53178 5 = .ok (.iload_n 2, 1) := by decide +kernel
theorem dJ7_fill_53178_6 : decode cJ7_fill_53178 6 = .ok (.iload_n 3, 1) := by decide +kernel
theorem dJ7_fill_53178_7 : decode cJ7_fill_53178 7 = .ok (.if_icmp .ge 13, 3) := by decide +kernel
theorem dJ7_fill_53178_10 : decode cJ7_fill_53178 10 = .ok (.aload_n 0, 1) := by decide +kernel
theorem dJ7_fill_53178_11 : decode cJ7_fill_53178 11 = .ok (.iload_n 2, 1) := by decide +kernel
theorem dJ7_fill_53178_12 : decode cJ7_fill_53178 12 = .ok (.iload_n 1, 1) := by decide +kernel
theorem dJ7_fill_53178_13 : decode cJ7_fill_53178 13 = .ok (.iastore, 1) := by decide +kernel
theorem dJ7_fill_53178_14 : decode cJ7_fill_53178 14 = .ok (.iinc 2 1, 3) := by decide +kernel
theorem dJ7_fill_53178_17 : decode cJ7_fill_53178 17 = .ok (.goto (-12), 3) := by decide +kernel
theorem dJ7_fill_53178_20 : decode cJ7_fill_53178 20 = .ok (.return_, 1) := by decide +kernel
def xJ7_fill_53178_20 (r n : Nat) (J5 : zq_P) (Q : zq_Q) (ls : zq_L) (st : List Value) (h : zq_H) : Prop := (zi_vret Q) ls st h
theorem kJ7_fill_53178_20 {X : zq_X} {d : Nat} {r n : Nat} (C : zq_C X cJ7_fill_53178 4 RJ7 d) (hr : zq_S[r]? = some (1, n, [])) {J5 : zq_P} (j5 : zq_ok X 4 5 J5) {Q : zq_Q} (hq : zq_R X none 0 Q) : zq_ok X 4 20 (xJ7_fill_53178_20 r n J5 Q) := by
  exact zs_vret C hq dJ7_fill_53178_20
def xJ7_fill_53178_10 (r n : Nat) (J5 : zq_P) (Q : zq_Q) (ls : zq_L) (st : List Value) (h : zq_H) : Prop := (zi_aload 0 (zi_iload 2 (zi_iload 1 (zi_astI r n (zi_iinc 2 1 (J5)))))) ls st h
theorem kJ7_fill_53178_10 {X : zq_X} {d : Nat} {r n : Nat} (C : zq_C X cJ7_fill_53178 4 RJ7 d) (hr : zq_S[r]? = some (1, n, [])) {J5 : zq_P} (j5 : zq_ok X 4 5 J5) {Q : zq_Q} (hq : zq_R X none 0 Q) : zq_ok X 4 10 (xJ7_fill_53178_10 r n J5 Q) := by
  refine zs_aload_n C dJ7_fill_53178_10 rfl ?_
  refine zs_iload_n C dJ7_fill_53178_11 rfl ?_
  refine zs_iload_n C dJ7_fill_53178_12 rfl ?_
  refine zs_iastore C hr dJ7_fill_53178_13 ?_
  refine zs_iinc C dJ7_fill_53178_14 (by decide) (by decide) ?_
  exact zs_goto C dJ7_fill_53178_17 (by decide) (j5)
def xJ7_fill_53178_5 (r n : Nat) (J5 : zq_P) (Q : zq_Q) (ls : zq_L) (st : List Value) (h : zq_H) : Prop := (zi_iload 2 (zi_iload 3 (zi_if2 (fun x y => y ≤ x) (xJ7_fill_53178_20 r n J5 Q) (xJ7_fill_53178_10 r n J5 Q)))) ls st h
theorem kJ7_fill_53178_5 {X : zq_X} {d : Nat} {r n : Nat} (C : zq_C X cJ7_fill_53178 4 RJ7 d) (hr : zq_S[r]? = some (1, n, [])) {J5 : zq_P} (j5 : zq_ok X 4 5 J5) {Q : zq_Q} (hq : zq_R X none 0 Q) : zq_ok X 4 5 (xJ7_fill_53178_5 r n J5 Q) := by
  refine zs_iload_n C dJ7_fill_53178_5 rfl ?_
  refine zs_iload_n C dJ7_fill_53178_6 rfl ?_
  exact zs_icmp_ge C dJ7_fill_53178_7 (by decide) (kJ7_fill_53178_20 C hr j5 hq) (kJ7_fill_53178_10 C hr j5 hq)
def xJ7_fill_53178_0 (r n : Nat) (J5 : zq_P) (Q : zq_Q) (ls : zq_L) (st : List Value) (h : zq_H) : Prop := (zi_push (.int 0) (zi_istore 2 (zi_aload 0 (zi_alen r n (zi_istore 3 (J5)))))) ls st h
theorem kJ7_fill_53178_0 {X : zq_X} {d : Nat} {r n : Nat} (C : zq_C X cJ7_fill_53178 4 RJ7 d) (hr : zq_S[r]? = some (1, n, [])) {J5 : zq_P} (j5 : zq_ok X 4 5 J5) {Q : zq_Q} (hq : zq_R X none 0 Q) : zq_ok X 4 0 (xJ7_fill_53178_0 r n J5 Q) := by
  refine zs_iconst C dJ7_fill_53178_0 (by decide) ?_
  refine zs_istore_n C dJ7_fill_53178_1 rfl (by decide) ?_
  refine zs_aload_n C dJ7_fill_53178_2 rfl ?_
  refine zs_alen C (Or.inl hr) dJ7_fill_53178_3 ?_
  refine zs_istore_n C dJ7_fill_53178_4 rfl (by decide) ?_
  exact j5
theorem mJ7_fill_53178 {d : Nat} {r n : Nat} {spec : zq_Sp} {σ5 : Type} (hr9 : ∀ args h Q, spec args h Q → zq_S[r]? = some (1, n, [])) (μ5 : σ5 → Nat) (I5 : zq_Q → σ5 → zq_P) (v : ∀ args h Q, spec args h Q → (zq_a args).length ≤ 4 ∧ xJ7_fill_53178_0 r n (fun ls st h => ∃ b, I5 Q b ls st h) Q (zq_l0 4 args) [] h) (v5 : ∀ Q a ls st h, I5 Q a ls st h → xJ7_fill_53178_5 r n (fun ls st h => ∃ b, μ5 b < μ5 a ∧ I5 Q b ls st h) Q ls st h) : zq_M yJ7_fill_53178 cJ7_fill_53178 4 none 0 d spec := by
  refine zq_met (by decide +kernel) (by decide) (fun X Q args h C hq hs => ⟨(v args h Q hs).1, _, ?_, (v args h Q hs).2⟩)
  have hr := hr9 args h Q hs
  have hl := zq_loop1 (X := X) (nL := 4) (pc1 := 5) μ5 (I5 Q) (fun J5 => xJ7_fill_53178_5 r n J5 Q) (fun j5 => kJ7_fill_53178_5 C hr j5 hq) (v5 Q)
  exact kJ7_fill_53178_0 C hr hl hq
/-! java/lang/String.length()I -/
theorem dJ0_length_8abf5_0 : decode cJ0_length_8abf5 0 = .ok (.aload_n 0, 1) := by decide +kernel
theorem dJ0_length_8abf5_1 : decode cJ0_length_8abf5 1 = .ok (.getfield 9, 3) := by decide +kernel
theorem dJ0_length_8abf5_4 : decode cJ0_length_8abf5 4 = .ok (.arraylength, 1) := by decide +kernel
theorem dJ0_length_8abf5_5 : decode cJ0_length_8abf5 5 = .ok (.aload_n 0, 1) := by decide +kernel
theorem dJ0_length_8abf5_6 : decode cJ0_length_8abf5 6 = .ok (.invokevirtual 335, 3) := by decide +kernel
theorem dJ0_length_8abf5_9 : decode cJ0_length_8abf5 9 = .ok (.ishr, 1) := by decide +kernel
theorem dJ0_length_8abf5_10 : decode cJ0_length_8abf5 10 = .ok (.ireturn, 1) := by decide +kernel
def xJ0_length_8abf5_0 (s_J0_coder_7d493 : zq_Sp) (Q : zq_Q) (ls : zq_L) (st : List Value) (h : zq_H) : Prop := (zi_aload 0 (zi_sval (zi_balen (zi_aload 0 (zi_callT 0 s_J0_coder_7d493 (zi_i2 zf_shr (zi_iret Q))))))) ls st h
theorem kJ0_length_8abf5_0 {X : zq_X} {d : Nat} (C : zq_C X cJ0_length_8abf5 1 RJ0 d) {d_J0_coder_7d493 : Nat} {s_J0_coder_7d493 : zq_Sp} (h_J0_coder_7d493 : zq_M yJ0_coder_7d493 cJ0_coder_7d493 1 (some .byte) 1 d_J0_coder_7d493 s_J0_coder_7d493) (g_J0_coder_7d493 : d_J0_coder_7d493 + 1 ≤ d) {Q : zq_Q} (hq : zq_R X (some .int) 1 Q) : zq_ok X 1 0 (xJ0_length_8abf5_0 s_J0_coder_7d493 Q) := by
  refine zs_aload_n C dJ0_length_8abf5_0 rfl ?_
  refine zs_sval C zw_1802 dJ0_length_8abf5_1 ?_
  refine zs_balen C dJ0_length_8abf5_4 ?_
  refine zs_aload_n C dJ0_length_8abf5_5 rfl ?_
  refine zs_callT C h_J0_coder_7d493 g_J0_coder_7d493 zy_J0_coder_7d493 rfl zw_1332 zw_1333 zs9_J0_coder_7d493 dJ0_length_8abf5_6 ?_
  refine zs_ishr C dJ0_length_8abf5_9 ?_
  exact zs_iret C hq dJ0_length_8abf5_10
theorem mJ0_length_8abf5 {d : Nat} {spec : zq_Sp} {d_J0_coder_7d493 : Nat} {s_J0_coder_7d493 : zq_Sp} (h_J0_coder_7d493 : zq_M yJ0_coder_7d493 cJ0_coder_7d493 1 (some .byte) 1 d_J0_coder_7d493 s_J0_coder_7d493) (g_J0_coder_7d493 : d_J0_coder_7d493 + 1 ≤ d) (v : ∀ args h Q, spec args h Q → (zq_a args).length ≤ 1 ∧ xJ0_length_8abf5_0 s_J0_coder_7d493 Q (zq_l0 1 args) [] h) : zq_M yJ0_length_8abf5 cJ0_length_8abf5 1 (some .int) 1 d spec := by
  refine zq_met (by decide +kernel) (by decide) (fun X Q args h C hq hs => ⟨(v args h Q hs).1, _, ?_, (v args h Q hs).2⟩)
  exact kJ0_length_8abf5_0 C h_J0_coder_7d493 g_J0_coder_7d493 hq
/-! java/lang/String.coder()B -/
theorem dJ0_coder_7d493_0 : decode cJ0_coder_7d493 0 = .ok (.getstatic 38, 3) := by decide +kernel
theorem dJ0_coder_7d493_3 : decode cJ0_coder_7d493 3 = .ok (.ifCond .eq 10, 3) := by decide +kernel
theorem dJ0_coder_7d493_6 : decode cJ0_coder_7d493 6 = .ok (.aload_n 0, 1) := by decide +kernel
theorem dJ0_coder_7d493_7 : decode cJ0_coder_7d493 7 = .ok (.getfield 15, 3) := by decide +kernel
theorem dJ0_coder_7d493_10 : decode cJ0_coder_7d493 10 = .ok (.goto 4, 3) := by decide +kernel
theorem dJ0_coder_7d493_13 : decode cJ0_coder_7d493 13 = .ok (.iconst 1, 1) := by decide +kernel
theorem dJ0_coder_7d493_14 : decode cJ0_coder_7d493 14 = .ok (.ireturn, 1) := by decide +kernel
def xJ0_coder_7d493_14 (Q : zq_Q) (ls : zq_L) (st : List Value) (h : zq_H) : Prop := (zi_bret .byte Q) ls st h
theorem kJ0_coder_7d493_14 {X : zq_X} {d : Nat} (C : zq_C X cJ0_coder_7d493 1 RJ0 d) {Q : zq_Q} (hq : zq_R X (some .byte) 1 Q) : zq_ok X 1 14 (xJ0_coder_7d493_14 Q) := by
  exact zs_bret C hq dJ0_coder_7d493_14
def xJ0_coder_7d493_13 (Q : zq_Q) (ls : zq_L) (st : List Value) (h : zq_H) : Prop := (zi_push (.int 1) ((xJ0_coder_7d493_14 Q))) ls st h
theorem kJ0_coder_7d493_13 {X : zq_X} {d : Nat} (C : zq_C X cJ0_coder_7d493 1 RJ0 d) {Q : zq_Q} (hq : zq_R X (some .byte) 1 Q) : zq_ok X 1 13 (xJ0_coder_7d493_13 Q) := by
  refine zs_iconst C dJ0_coder_7d493_13 (by decide) ?_
  exact kJ0_coder_7d493_14 C hq
def xJ0_coder_7d493_6 (Q : zq_Q) (ls : zq_L) (st : List Value) (h : zq_H) : Prop := (zi_aload 0 (zi_scod ((xJ0_coder_7d493_14 Q)))) ls st h
theorem kJ0_coder_7d493_6 {X : zq_X} {d : Nat} (C : zq_C X cJ0_coder_7d493 1 RJ0 d) {Q : zq_Q} (hq : zq_R X (some .byte) 1 Q) : zq_ok X 1 6 (xJ0_coder_7d493_6 Q) := by
  refine zs_aload_n C dJ0_coder_7d493_6 rfl ?_
  refine zs_scod C zw_1803 dJ0_coder_7d493_7 ?_
  exact zs_goto C dJ0_coder_7d493_10 (by decide) (kJ0_coder_7d493_14 C hq)
def xJ0_coder_7d493_0 (Q : zq_Q) (ls : zq_L) (st : List Value) (h : zq_H) : Prop := (zi_push (.int 1) (zi_if1 (fun x => x = 0) (xJ0_coder_7d493_13 Q) (xJ0_coder_7d493_6 Q))) ls st h
theorem kJ0_coder_7d493_0 {X : zq_X} {d : Nat} (C : zq_C X cJ0_coder_7d493 1 RJ0 d) {Q : zq_Q} (hq : zq_R X (some .byte) 1 Q) : zq_ok X 1 0 (xJ0_coder_7d493_0 Q) := by
  refine zs_compact C zw_1336 dJ0_coder_7d493_0 ?_
  exact zs_if_eq C dJ0_coder_7d493_3 (by decide) (kJ0_coder_7d493_13 C hq) (kJ0_coder_7d493_6 C hq)
theorem mJ0_coder_7d493 {d : Nat} {spec : zq_Sp} (v : ∀ args h Q, spec args h Q → (zq_a args).length ≤ 1 ∧ xJ0_coder_7d493_0 Q (zq_l0 1 args) [] h) : zq_M yJ0_coder_7d493 cJ0_coder_7d493 1 (some .byte) 1 d spec := by
  refine zq_met (by decide +kernel) (by decide) (fun X Q args h C hq hs => ⟨(v args h Q hs).1, _, ?_, (v args h Q hs).2⟩)
  exact kJ0_coder_7d493_0 C hq
/-! java/lang/String.isLatin1()Z -/
theorem dJ0_isLatin1_aae02_0 : decode cJ0_isLatin1_aae02 0 = .ok (.getstatic 38, 3) := by decide +kernel
theorem dJ0_isLatin1_aae02_3 : decode cJ0_isLatin1_aae02 3 = .ok (.ifCond .eq 14, 3) := by decide +kernel
theorem dJ0_isLatin1_aae02_6 : decode cJ0_isLatin1_aae02 6 = .ok (.aload_n 0, 1) := by decide +kernel
theorem dJ0_isLatin1_aae02_7 : decode cJ0_isLatin1_aae02 7 = .ok (.getfield 15, 3) := by decide +kernel
theorem dJ0_isLatin1_aae02_10 : decode cJ0_isLatin1_aae02 10 = .ok (.ifCond .ne 7, 3) := by decide +kernel
theorem dJ0_isLatin1_aae02_13 : decode cJ0_isLatin1_aae02 13 = .ok (.iconst 1, 1) := by decide +kernel
theorem dJ0_isLatin1_aae02_14 : decode cJ0_isLatin1_aae02 14 = .ok (.goto 4, 3) := by decide +kernel
theorem dJ0_isLatin1_aae02_17 : decode cJ0_isLatin1_aae02 17 = .ok (.iconst 0, 1) := by decide +kernel
theorem dJ0_isLatin1_aae02_18 : decode cJ0_isLatin1_aae02 18 = .ok (.ireturn, 1) := by decide +kernel
def xJ0_isLatin1_aae02_18 (Q : zq_Q) (ls : zq_L) (st : List Value) (h : zq_H) : Prop := (zi_zret Q) ls st h
theorem kJ0_isLatin1_aae02_18 {X : zq_X} {d : Nat} (C : zq_C X cJ0_isLatin1_aae02 1 RJ0 d) {Q : zq_Q} (hq : zq_R X (some .boolean) 1 Q) : zq_ok X 1 18 (xJ0_isLatin1_aae02_18 Q) := by
  exact zs_zret C hq dJ0_isLatin1_aae02_18
def xJ0_isLatin1_aae02_17 (Q : zq_Q) (ls : zq_L) (st : List Value) (h : zq_H) : Prop := (zi_push (.int 0) ((xJ0_isLatin1_aae02_18 Q))) ls st h
theorem kJ0_isLatin1_aae02_17 {X : zq_X} {d : Nat} (C : zq_C X cJ0_isLatin1_aae02 1 RJ0 d) {Q : zq_Q} (hq : zq_R X (some .boolean) 1 Q) : zq_ok X 1 17 (xJ0_isLatin1_aae02_17 Q) := by
  refine zs_iconst C dJ0_isLatin1_aae02_17 (by decide) ?_
  exact kJ0_isLatin1_aae02_18 C hq
def xJ0_isLatin1_aae02_13 (Q : zq_Q) (ls : zq_L) (st : List Value) (h : zq_H) : Prop := (zi_push (.int 1) ((xJ0_isLatin1_aae02_18 Q))) ls st h
theorem kJ0_isLatin1_aae02_13 {X : zq_X} {d : Nat} (C : zq_C X cJ0_isLatin1_aae02 1 RJ0 d) {Q : zq_Q} (hq : zq_R X (some .boolean) 1 Q) : zq_ok X 1 13 (xJ0_isLatin1_aae02_13 Q) := by
  refine zs_iconst C dJ0_isLatin1_aae02_13 (by decide) ?_
  exact zs_goto C dJ0_isLatin1_aae02_14 (by decide) (kJ0_isLatin1_aae02_18 C hq)
def xJ0_isLatin1_aae02_6 (Q : zq_Q) (ls : zq_L) (st : List Value) (h : zq_H) : Prop := (zi_aload 0 (zi_scod (zi_if1 (fun x => x = 0) (xJ0_isLatin1_aae02_13 Q) (xJ0_isLatin1_aae02_17 Q)))) ls st h
theorem kJ0_isLatin1_aae02_6 {X : zq_X} {d : Nat} (C : zq_C X cJ0_isLatin1_aae02 1 RJ0 d) {Q : zq_Q} (hq : zq_R X (some .boolean) 1 Q) : zq_ok X 1 6 (xJ0_isLatin1_aae02_6 Q) := by
  refine zs_aload_n C dJ0_isLatin1_aae02_6 rfl ?_
  refine zs_scod C zw_1803 dJ0_isLatin1_aae02_7 ?_
  exact zs_if_ne C dJ0_isLatin1_aae02_10 (by decide) (kJ0_isLatin1_aae02_17 C hq) (kJ0_isLatin1_aae02_13 C hq)
def xJ0_isLatin1_aae02_0 (Q : zq_Q) (ls : zq_L) (st : List Value) (h : zq_H) : Prop := (zi_push (.int 1) (zi_if1 (fun x => x = 0) (xJ0_isLatin1_aae02_17 Q) (xJ0_isLatin1_aae02_6 Q))) ls st h
theorem kJ0_isLatin1_aae02_0 {X : zq_X} {d : Nat} (C : zq_C X cJ0_isLatin1_aae02 1 RJ0 d) {Q : zq_Q} (hq : zq_R X (some .boolean) 1 Q) : zq_ok X 1 0 (xJ0_isLatin1_aae02_0 Q) := by
  refine zs_compact C zw_1336 dJ0_isLatin1_aae02_0 ?_
  exact zs_if_eq C dJ0_isLatin1_aae02_3 (by decide) (kJ0_isLatin1_aae02_17 C hq) (kJ0_isLatin1_aae02_6 C hq)
theorem mJ0_isLatin1_aae02 {d : Nat} {spec : zq_Sp} (v : ∀ args h Q, spec args h Q → (zq_a args).length ≤ 1 ∧ xJ0_isLatin1_aae02_0 Q (zq_l0 1 args) [] h) : zq_M yJ0_isLatin1_aae02 cJ0_isLatin1_aae02 1 (some .boolean) 1 d spec := by
  refine zq_met (by decide +kernel) (by decide) (fun X Q args h C hq hs => ⟨(v args h Q hs).1, _, ?_, (v args h Q hs).2⟩)
  exact kJ0_isLatin1_aae02_0 C hq
/-! java/lang/String.charAt(I)C -/
theorem dJ0_charAt_5068e_0 : decode cJ0_charAt_5068e 0 = .ok (.aload_n 0, 1) := by decide +kernel
theorem dJ0_charAt_5068e_1 : decode cJ0_charAt_5068e 1 = .ok (.invokevirtual 492, 3) := by decide +kernel
theorem dJ0_charAt_5068e_4 : decode cJ0_charAt_5068e 4 = .ok (.ifCond .eq 12, 3) := by decide +kernel
theorem dJ0_charAt_5068e_7 : decode cJ0_charAt_5068e 7 = .ok (.aload_n 0, 1) := by decide +kernel
theorem dJ0_charAt_5068e_8 : decode cJ0_charAt_5068e 8 = .ok (.getfield 9, 3) := by decide +kernel
theorem dJ0_charAt_5068e_11 : decode cJ0_charAt_5068e 11 = .ok (.iload_n 1, 1) := by decide +kernel
theorem dJ0_charAt_5068e_12 : decode cJ0_charAt_5068e 12 = .ok (.invokestatic 495, 3) := by decide +kernel
theorem dJ0_charAt_5068e_15 : decode cJ0_charAt_5068e 15 = .ok (.ireturn, 1) := by decide +kernel
theorem dJ0_charAt_5068e_16 : decode cJ0_charAt_5068e 16 = .ok (.aload_n 0, 1) := by decide +kernel
theorem dJ0_charAt_5068e_17 : decode cJ0_charAt_5068e 17 = .ok (.getfield 9, 3) := by decide +kernel
theorem dJ0_charAt_5068e_20 : decode cJ0_charAt_5068e 20 = .ok (.iload_n 1, 1) := by decide +kernel
theorem dJ0_charAt_5068e_21 : decode cJ0_charAt_5068e 21 = .ok (.invokestatic 498, 3) := by decide +kernel
theorem dJ0_charAt_5068e_24 : decode cJ0_charAt_5068e 24 = .ok (.ireturn, 1) := by decide +kernel
def xJ0_charAt_5068e_16 (s_J0_isLatin1_aae02 : zq_Sp) (s_J1_charAt_3b067 : zq_Sp) (s_J2_charAt_3b067 : zq_Sp) (Q : zq_Q) (ls : zq_L) (st : List Value) (h : zq_H) : Prop := (zi_aload 0 (zi_sval (zi_iload 1 (zi_callS 2 s_J2_charAt_3b067 (zi_bret .char Q))))) ls st h
theorem kJ0_charAt_5068e_16 {X : zq_X} {d : Nat} (C : zq_C X cJ0_charAt_5068e 2 RJ0 d) {d_J0_isLatin1_aae02 : Nat} {s_J0_isLatin1_aae02 : zq_Sp} (h_J0_isLatin1_aae02 : zq_M yJ0_isLatin1_aae02 cJ0_isLatin1_aae02 1 (some .boolean) 1 d_J0_isLatin1_aae02 s_J0_isLatin1_aae02) (g_J0_isLatin1_aae02 : d_J0_isLatin1_aae02 + 1 ≤ d) {d_J1_charAt_3b067 : Nat} {s_J1_charAt_3b067 : zq_Sp} (h_J1_charAt_3b067 : zq_M yJ1_charAt_3b067 cJ1_charAt_3b067 2 (some .char) 1 d_J1_charAt_3b067 s_J1_charAt_3b067) (g_J1_charAt_3b067 : d_J1_charAt_3b067 + 1 ≤ d) {d_J2_charAt_3b067 : Nat} {s_J2_charAt_3b067 : zq_Sp} (h_J2_charAt_3b067 : zq_M yJ2_charAt_3b067 cJ2_charAt_3b067 2 (some .char) 1 d_J2_charAt_3b067 s_J2_charAt_3b067) (g_J2_charAt_3b067 : d_J2_charAt_3b067 + 1 ≤ d) {Q : zq_Q} (hq : zq_R X (some .char) 1 Q) : zq_ok X 2 16 (xJ0_charAt_5068e_16 s_J0_isLatin1_aae02 s_J1_charAt_3b067 s_J2_charAt_3b067 Q) := by
  refine zs_aload_n C dJ0_charAt_5068e_16 rfl ?_
  refine zs_sval C zw_1802 dJ0_charAt_5068e_17 ?_
  refine zs_iload_n C dJ0_charAt_5068e_20 rfl ?_
  refine zs_callS C h_J2_charAt_3b067 g_J2_charAt_3b067 zy_J2_charAt_3b067 zw_1357 zw_1358 dJ0_charAt_5068e_21 ?_
  exact zs_bret C hq dJ0_charAt_5068e_24
def xJ0_charAt_5068e_7 (s_J0_isLatin1_aae02 : zq_Sp) (s_J1_charAt_3b067 : zq_Sp) (s_J2_charAt_3b067 : zq_Sp) (Q : zq_Q) (ls : zq_L) (st : List Value) (h : zq_H) : Prop := (zi_aload 0 (zi_sval (zi_iload 1 (zi_callS 2 s_J1_charAt_3b067 (zi_bret .char Q))))) ls st h
theorem kJ0_charAt_5068e_7 {X : zq_X} {d : Nat} (C : zq_C X cJ0_charAt_5068e 2 RJ0 d) {d_J0_isLatin1_aae02 : Nat} {s_J0_isLatin1_aae02 : zq_Sp} (h_J0_isLatin1_aae02 : zq_M yJ0_isLatin1_aae02 cJ0_isLatin1_aae02 1 (some .boolean) 1 d_J0_isLatin1_aae02 s_J0_isLatin1_aae02) (g_J0_isLatin1_aae02 : d_J0_isLatin1_aae02 + 1 ≤ d) {d_J1_charAt_3b067 : Nat} {s_J1_charAt_3b067 : zq_Sp} (h_J1_charAt_3b067 : zq_M yJ1_charAt_3b067 cJ1_charAt_3b067 2 (some .char) 1 d_J1_charAt_3b067 s_J1_charAt_3b067) (g_J1_charAt_3b067 : d_J1_charAt_3b067 + 1 ≤ d) {d_J2_charAt_3b067 : Nat} {s_J2_charAt_3b067 : zq_Sp} (h_J2_charAt_3b067 : zq_M yJ2_charAt_3b067 cJ2_charAt_3b067 2 (some .char) 1 d_J2_charAt_3b067 s_J2_charAt_3b067) (g_J2_charAt_3b067 : d_J2_charAt_3b067 + 1 ≤ d) {Q : zq_Q} (hq : zq_R X (some .char) 1 Q) : zq_ok X 2 7 (xJ0_charAt_5068e_7 s_J0_isLatin1_aae02 s_J1_charAt_3b067 s_J2_charAt_3b067 Q) := by
  refine zs_aload_n C dJ0_charAt_5068e_7 rfl ?_
  refine zs_sval C zw_1802 dJ0_charAt_5068e_8 ?_
  refine zs_iload_n C dJ0_charAt_5068e_11 rfl ?_
  refine zs_callS C h_J1_charAt_3b067 g_J1_charAt_3b067 zy_J1_charAt_3b067 zw_1346 zw_1347 dJ0_charAt_5068e_12 ?_
  exact zs_bret C hq dJ0_charAt_5068e_15
def xJ0_charAt_5068e_0 (s_J0_isLatin1_aae02 : zq_Sp) (s_J1_charAt_3b067 : zq_Sp) (s_J2_charAt_3b067 : zq_Sp) (Q : zq_Q) (ls : zq_L) (st : List Value) (h : zq_H) : Prop := (zi_aload 0 (zi_callT 0 s_J0_isLatin1_aae02 (zi_if1 (fun x => x = 0) (xJ0_charAt_5068e_16 s_J0_isLatin1_aae02 s_J1_charAt_3b067 s_J2_charAt_3b067 Q) (xJ0_charAt_5068e_7 s_J0_isLatin1_aae02 s_J1_charAt_3b067 s_J2_charAt_3b067 Q)))) ls st h
theorem kJ0_charAt_5068e_0 {X : zq_X} {d : Nat} (C : zq_C X cJ0_charAt_5068e 2 RJ0 d) {d_J0_isLatin1_aae02 : Nat} {s_J0_isLatin1_aae02 : zq_Sp} (h_J0_isLatin1_aae02 : zq_M yJ0_isLatin1_aae02 cJ0_isLatin1_aae02 1 (some .boolean) 1 d_J0_isLatin1_aae02 s_J0_isLatin1_aae02) (g_J0_isLatin1_aae02 : d_J0_isLatin1_aae02 + 1 ≤ d) {d_J1_charAt_3b067 : Nat} {s_J1_charAt_3b067 : zq_Sp} (h_J1_charAt_3b067 : zq_M yJ1_charAt_3b067 cJ1_charAt_3b067 2 (some .char) 1 d_J1_charAt_3b067 s_J1_charAt_3b067) (g_J1_charAt_3b067 : d_J1_charAt_3b067 + 1 ≤ d) {d_J2_charAt_3b067 : Nat} {s_J2_charAt_3b067 : zq_Sp} (h_J2_charAt_3b067 : zq_M yJ2_charAt_3b067 cJ2_charAt_3b067 2 (some .char) 1 d_J2_charAt_3b067 s_J2_charAt_3b067) (g_J2_charAt_3b067 : d_J2_charAt_3b067 + 1 ≤ d) {Q : zq_Q} (hq : zq_R X (some .char) 1 Q) : zq_ok X 2 0 (xJ0_charAt_5068e_0 s_J0_isLatin1_aae02 s_J1_charAt_3b067 s_J2_charAt_3b067 Q) := by
  refine zs_aload_n C dJ0_charAt_5068e_0 rfl ?_
  refine zs_callT C h_J0_isLatin1_aae02 g_J0_isLatin1_aae02 zy_J0_isLatin1_aae02 rfl zw_1342 zw_1343 zs9_J0_isLatin1_aae02 dJ0_charAt_5068e_1 ?_
  exact zs_if_eq C dJ0_charAt_5068e_4 (by decide) (kJ0_charAt_5068e_16 C h_J0_isLatin1_aae02 g_J0_isLatin1_aae02 h_J1_charAt_3b067 g_J1_charAt_3b067 h_J2_charAt_3b067 g_J2_charAt_3b067 hq) (kJ0_charAt_5068e_7 C h_J0_isLatin1_aae02 g_J0_isLatin1_aae02 h_J1_charAt_3b067 g_J1_charAt_3b067 h_J2_charAt_3b067 g_J2_charAt_3b067 hq)
theorem mJ0_charAt_5068e {d : Nat} {spec : zq_Sp} {d_J0_isLatin1_aae02 : Nat} {s_J0_isLatin1_aae02 : zq_Sp} (h_J0_isLatin1_aae02 : zq_M yJ0_isLatin1_aae02 cJ0_isLatin1_aae02 1 (some .boolean) 1 d_J0_isLatin1_aae02 s_J0_isLatin1_aae02) (g_J0_isLatin1_aae02 : d_J0_isLatin1_aae02 + 1 ≤ d) {d_J1_charAt_3b067 : Nat} {s_J1_charAt_3b067 : zq_Sp} (h_J1_charAt_3b067 : zq_M yJ1_charAt_3b067 cJ1_charAt_3b067 2 (some .char) 1 d_J1_charAt_3b067 s_J1_charAt_3b067) (g_J1_charAt_3b067 : d_J1_charAt_3b067 + 1 ≤ d) {d_J2_charAt_3b067 : Nat} {s_J2_charAt_3b067 : zq_Sp} (h_J2_charAt_3b067 : zq_M yJ2_charAt_3b067 cJ2_charAt_3b067 2 (some .char) 1 d_J2_charAt_3b067 s_J2_charAt_3b067) (g_J2_charAt_3b067 : d_J2_charAt_3b067 + 1 ≤ d) (v : ∀ args h Q, spec args h Q → (zq_a args).length ≤ 2 ∧ xJ0_charAt_5068e_0 s_J0_isLatin1_aae02 s_J1_charAt_3b067 s_J2_charAt_3b067 Q (zq_l0 2 args) [] h) : zq_M yJ0_charAt_5068e cJ0_charAt_5068e 2 (some .char) 1 d spec := by
  refine zq_met (by decide +kernel) (by decide) (fun X Q args h C hq hs => ⟨(v args h Q hs).1, _, ?_, (v args h Q hs).2⟩)
  exact kJ0_charAt_5068e_0 C h_J0_isLatin1_aae02 g_J0_isLatin1_aae02 h_J1_charAt_3b067 g_J1_charAt_3b067 h_J2_charAt_3b067 g_J2_charAt_3b067 hq
/-! java/lang/String.checkIndex(II)V -/
theorem dJ0_checkIndex_df160_0 : decode cJ0_checkIndex_df160 0 = .ok (.iload_n 0, 1) := by decide +kernel
theorem dJ0_checkIndex_df160_1 : decode cJ0_checkIndex_df160 1 = .ok (.iload_n 1, 1) := by decide +kernel
theorem dJ0_checkIndex_df160_2 : decode cJ0_checkIndex_df160 2 = .ok (.getstatic 1053, 3) := by decide +kernel
theorem dJ0_checkIndex_df160_5 : decode cJ0_checkIndex_df160 5 = .ok (.invokestatic 1059, 3) := by decide +kernel
theorem dJ0_checkIndex_df160_8 : decode cJ0_checkIndex_df160 8 = .ok (.pop, 1) := by decide +kernel
theorem dJ0_checkIndex_df160_9 : decode cJ0_checkIndex_df160 9 = .ok (.return_, 1) := by decide +kernel
def xJ0_checkIndex_df160_0 (s_J3_checkIndex_8e157 : zq_Sp) (Q : zq_Q) (ls : zq_L) (st : List Value) (h : zq_H) : Prop := (zi_iload 0 (zi_iload 1 (zi_fmt (zi_callS 3 s_J3_checkIndex_8e157 (zi_pop (zi_vret Q)))))) ls st h
theorem kJ0_checkIndex_df160_0 {X : zq_X} {d : Nat} (C : zq_C X cJ0_checkIndex_df160 2 RJ0 d) {d_J3_checkIndex_8e157 : Nat} {s_J3_checkIndex_8e157 : zq_Sp} (h_J3_checkIndex_8e157 : zq_M yJ3_checkIndex_8e157 cJ3_checkIndex_8e157 3 (some .int) 1 d_J3_checkIndex_8e157 s_J3_checkIndex_8e157) (g_J3_checkIndex_8e157 : d_J3_checkIndex_8e157 + 1 ≤ d) {Q : zq_Q} (hq : zq_R X none 0 Q) : zq_ok X 2 0 (xJ0_checkIndex_df160_0 s_J3_checkIndex_8e157 Q) := by
  refine zs_iload_n C dJ0_checkIndex_df160_0 rfl ?_
  refine zs_iload_n C dJ0_checkIndex_df160_1 rfl ?_
  refine zs_fmt C zw_1352 dJ0_checkIndex_df160_2 ?_
  refine zs_callS C h_J3_checkIndex_8e157 g_J3_checkIndex_8e157 zy_J3_checkIndex_8e157 zw_1354 zw_1355 dJ0_checkIndex_df160_5 ?_
  refine zs_pop C dJ0_checkIndex_df160_8 ?_
  exact zs_vret C hq dJ0_checkIndex_df160_9
theorem mJ0_checkIndex_df160 {d : Nat} {spec : zq_Sp} {d_J3_checkIndex_8e157 : Nat} {s_J3_checkIndex_8e157 : zq_Sp} (h_J3_checkIndex_8e157 : zq_M yJ3_checkIndex_8e157 cJ3_checkIndex_8e157 3 (some .int) 1 d_J3_checkIndex_8e157 s_J3_checkIndex_8e157) (g_J3_checkIndex_8e157 : d_J3_checkIndex_8e157 + 1 ≤ d) (v : ∀ args h Q, spec args h Q → (zq_a args).length ≤ 2 ∧ xJ0_checkIndex_df160_0 s_J3_checkIndex_8e157 Q (zq_l0 2 args) [] h) : zq_M yJ0_checkIndex_df160 cJ0_checkIndex_df160 2 none 0 d spec := by
  refine zq_met (by decide +kernel) (by decide) (fun X Q args h C hq hs => ⟨(v args h Q hs).1, _, ?_, (v args h Q hs).2⟩)
  exact kJ0_checkIndex_df160_0 C h_J3_checkIndex_8e157 g_J3_checkIndex_8e157 hq
/-! java/lang/StringLatin1.charAt([BI)C -/
theorem dJ1_charAt_3b067_0 : decode cJ1_charAt_3b067 0 = .ok (.iload_n 1, 1) := by decide +kernel
theorem dJ1_charAt_3b067_1 : decode cJ1_charAt_3b067 1 = .ok (.aload_n 0, 1) := by decide +kernel
theorem dJ1_charAt_3b067_2 : decode cJ1_charAt_3b067 2 = .ok (.arraylength, 1) := by decide +kernel
theorem dJ1_charAt_3b067_3 : decode cJ1_charAt_3b067 3 = .ok (.invokestatic 9, 3) := by decide +kernel
theorem dJ1_charAt_3b067_6 : decode cJ1_charAt_3b067 6 = .ok (.aload_n 0, 1) := by decide +kernel
theorem dJ1_charAt_3b067_7 : decode cJ1_charAt_3b067 7 = .ok (.iload_n 1, 1) := by decide +kernel
theorem dJ1_charAt_3b067_8 : decode cJ1_charAt_3b067 8 = .ok (.baload, 1) := by decide +kernel
theorem dJ1_charAt_3b067_9 : decode cJ1_charAt_3b067 9 = .ok (.sipush 255, 3) := by decide +kernel
theorem dJ1_charAt_3b067_12 : decode cJ1_charAt_3b067 12 = .ok (.iand, 1) := by decide +kernel
theorem dJ1_charAt_3b067_13 : decode cJ1_charAt_3b067 13 = .ok (.i2c, 1) := by decide +kernel
theorem dJ1_charAt_3b067_14 : decode cJ1_charAt_3b067 14 = .ok (.ireturn, 1) := by decide +kernel
def xJ1_charAt_3b067_0 (s_J0_checkIndex_df160 : zq_Sp) (Q : zq_Q) (ls : zq_L) (st : List Value) (h : zq_H) : Prop := (zi_iload 1 (zi_aload 0 (zi_balen (zi_callS 2 s_J0_checkIndex_df160 (zi_aload 0 (zi_iload 1 (zi_bald (zi_push (.int 255) (zi_i2 (fun x y => x &&& y) (zi_i1 (fun x => (x.toUInt32 % 65536).toInt32) (zi_bret .char Q))))))))))) ls st h
theorem kJ1_charAt_3b067_0 {X : zq_X} {d : Nat} (C : zq_C X cJ1_charAt_3b067 2 RJ1 d) {d_J0_checkIndex_df160 : Nat} {s_J0_checkIndex_df160 : zq_Sp} (h_J0_checkIndex_df160 : zq_M yJ0_checkIndex_df160 cJ0_checkIndex_df160 2 none 0 d_J0_checkIndex_df160 s_J0_checkIndex_df160) (g_J0_checkIndex_df160 : d_J0_checkIndex_df160 + 1 ≤ d) {Q : zq_Q} (hq : zq_R X (some .char) 1 Q) : zq_ok X 2 0 (xJ1_charAt_3b067_0 s_J0_checkIndex_df160 Q) := by
  refine zs_iload_n C dJ1_charAt_3b067_0 rfl ?_
  refine zs_aload_n C dJ1_charAt_3b067_1 rfl ?_
  refine zs_balen C dJ1_charAt_3b067_2 ?_
  refine zs_callS C h_J0_checkIndex_df160 g_J0_checkIndex_df160 zy_J0_checkIndex_df160 zw_1349 zw_1350 dJ1_charAt_3b067_3 ?_
  refine zs_aload_n C dJ1_charAt_3b067_6 rfl ?_
  refine zs_iload_n C dJ1_charAt_3b067_7 rfl ?_
  refine zs_bald C dJ1_charAt_3b067_8 ?_
  refine zs_sipush C dJ1_charAt_3b067_9 (by decide) ?_
  refine zs_iand C dJ1_charAt_3b067_12 ?_
  refine zs_i2c C dJ1_charAt_3b067_13 ?_
  exact zs_bret C hq dJ1_charAt_3b067_14
theorem mJ1_charAt_3b067 {d : Nat} {spec : zq_Sp} {d_J0_checkIndex_df160 : Nat} {s_J0_checkIndex_df160 : zq_Sp} (h_J0_checkIndex_df160 : zq_M yJ0_checkIndex_df160 cJ0_checkIndex_df160 2 none 0 d_J0_checkIndex_df160 s_J0_checkIndex_df160) (g_J0_checkIndex_df160 : d_J0_checkIndex_df160 + 1 ≤ d) (v : ∀ args h Q, spec args h Q → (zq_a args).length ≤ 2 ∧ xJ1_charAt_3b067_0 s_J0_checkIndex_df160 Q (zq_l0 2 args) [] h) : zq_M yJ1_charAt_3b067 cJ1_charAt_3b067 2 (some .char) 1 d spec := by
  refine zq_met (by decide +kernel) (by decide) (fun X Q args h C hq hs => ⟨(v args h Q hs).1, _, ?_, (v args h Q hs).2⟩)
  exact kJ1_charAt_3b067_0 C h_J0_checkIndex_df160 g_J0_checkIndex_df160 hq
/-! jdk/internal/util/Preconditions.checkIndex(IILjava/util/function/BiFunction;)I -/
theorem dJ3_checkIndex_8e157_0 : decode cJ3_checkIndex_8e157 0 = .ok (.iload_n 0, 1) := by decide +kernel
theorem dJ3_checkIndex_8e157_1 : decode cJ3_checkIndex_8e157 1 = .ok (.ifCond .lt 8, 3) := by decide +kernel
theorem dJ3_checkIndex_8e157_4 : decode cJ3_checkIndex_8e157 4 = .ok (.iload_n 0, 1) := by decide +kernel
theorem dJ3_checkIndex_8e157_5 : decode cJ3_checkIndex_8e157 5 = .ok (.iload_n 1, 1) := by decide +kernel
theorem dJ3_checkIndex_8e157_6 : decode cJ3_checkIndex_8e157 6 = .ok (.if_icmp .lt 10, 3) := by decide +kernel
theorem dJ3_checkIndex_8e157_9 : decode cJ3_checkIndex_8e157 9 = .ok (.aload_n 2, 1) := by decide +kernel
theorem dJ3_checkIndex_8e157_10 : decode cJ3_checkIndex_8e157 10 = .ok (.iload_n 0, 1) := by decide +kernel
theorem dJ3_checkIndex_8e157_11 : decode cJ3_checkIndex_8e157 11 = .ok (.iload_n 1, 1) := by decide +kernel
theorem dJ3_checkIndex_8e157_12 : decode cJ3_checkIndex_8e157 12 = .ok (.invokestatic 95, 3) := by decide +kernel
theorem dJ3_checkIndex_8e157_15 : decode cJ3_checkIndex_8e157 15 = .ok (.athrow, 1) := by decide +kernel
theorem dJ3_checkIndex_8e157_16 : decode cJ3_checkIndex_8e157 16 = .ok (.iload_n 0, 1) := by decide +kernel
theorem dJ3_checkIndex_8e157_17 : decode cJ3_checkIndex_8e157 17 = .ok (.ireturn, 1) := by decide +kernel
def xJ3_checkIndex_8e157_16 (J12 : zq_P) (Q : zq_Q) (ls : zq_L) (st : List Value) (h : zq_H) : Prop := (zi_iload 0 (zi_iret Q)) ls st h
theorem kJ3_checkIndex_8e157_16 {X : zq_X} {d : Nat} (C : zq_C X cJ3_checkIndex_8e157 3 RJ3 d) {J12 : zq_P} (j12 : zq_ok X 3 12 J12) {Q : zq_Q} (hq : zq_R X (some .int) 1 Q) : zq_ok X 3 16 (xJ3_checkIndex_8e157_16 J12 Q) := by
  refine zs_iload_n C dJ3_checkIndex_8e157_16 rfl ?_
  exact zs_iret C hq dJ3_checkIndex_8e157_17
def xJ3_checkIndex_8e157_9 (J12 : zq_P) (Q : zq_Q) (ls : zq_L) (st : List Value) (h : zq_H) : Prop := (zi_aload 2 (zi_iload 0 (zi_iload 1 (J12)))) ls st h
theorem kJ3_checkIndex_8e157_9 {X : zq_X} {d : Nat} (C : zq_C X cJ3_checkIndex_8e157 3 RJ3 d) {J12 : zq_P} (j12 : zq_ok X 3 12 J12) {Q : zq_Q} (hq : zq_R X (some .int) 1 Q) : zq_ok X 3 9 (xJ3_checkIndex_8e157_9 J12 Q) := by
  refine zs_aload_n C dJ3_checkIndex_8e157_9 rfl ?_
  refine zs_iload_n C dJ3_checkIndex_8e157_10 rfl ?_
  refine zs_iload_n C dJ3_checkIndex_8e157_11 rfl ?_
  exact j12
def xJ3_checkIndex_8e157_4 (J12 : zq_P) (Q : zq_Q) (ls : zq_L) (st : List Value) (h : zq_H) : Prop := (zi_iload 0 (zi_iload 1 (zi_if2 (fun x y => x < y) (xJ3_checkIndex_8e157_16 J12 Q) (xJ3_checkIndex_8e157_9 J12 Q)))) ls st h
theorem kJ3_checkIndex_8e157_4 {X : zq_X} {d : Nat} (C : zq_C X cJ3_checkIndex_8e157 3 RJ3 d) {J12 : zq_P} (j12 : zq_ok X 3 12 J12) {Q : zq_Q} (hq : zq_R X (some .int) 1 Q) : zq_ok X 3 4 (xJ3_checkIndex_8e157_4 J12 Q) := by
  refine zs_iload_n C dJ3_checkIndex_8e157_4 rfl ?_
  refine zs_iload_n C dJ3_checkIndex_8e157_5 rfl ?_
  exact zs_icmp_lt C dJ3_checkIndex_8e157_6 (by decide) (kJ3_checkIndex_8e157_16 C j12 hq) (kJ3_checkIndex_8e157_9 C j12 hq)
def xJ3_checkIndex_8e157_0 (J12 : zq_P) (Q : zq_Q) (ls : zq_L) (st : List Value) (h : zq_H) : Prop := (zi_iload 0 (zi_if1 (fun x => x < 0) (xJ3_checkIndex_8e157_9 J12 Q) (xJ3_checkIndex_8e157_4 J12 Q))) ls st h
theorem kJ3_checkIndex_8e157_0 {X : zq_X} {d : Nat} (C : zq_C X cJ3_checkIndex_8e157 3 RJ3 d) {J12 : zq_P} (j12 : zq_ok X 3 12 J12) {Q : zq_Q} (hq : zq_R X (some .int) 1 Q) : zq_ok X 3 0 (xJ3_checkIndex_8e157_0 J12 Q) := by
  refine zs_iload_n C dJ3_checkIndex_8e157_0 rfl ?_
  exact zs_if_lt C dJ3_checkIndex_8e157_1 (by decide) (kJ3_checkIndex_8e157_9 C j12 hq) (kJ3_checkIndex_8e157_4 C j12 hq)
