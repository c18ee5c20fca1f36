/-! java/lang/Integer.bitCount(I)I -/
theorem dJ6_bitCount_0f7a4_0 : decode cJ6_bitCount_0f7a4 0 = .ok (.iload_n 0, 1) := by decide +kernel
theorem dJ6_bitCount_0f7a4_1 : decode cJ6_bitCount_0f7a4 1 = .ok (.iload_n 0, 1) := by decide +kernel
theorem dJ6_bitCount_0f7a4_2 : decode cJ6_bitCount_0f7a4 2 = .ok (.iconst 1, 1) := by decide +kernel
theorem dJ6_bitCount_0f7a4_3 : decode cJ6_bitCount_0f7a4 3 = .ok (.iushr, 1) := by decide +kernel
theorem dJ6_bitCount_0f7a4_4 : decode cJ6_bitCount_0f7a4 4 = .ok (.ldc_w 265, 3) := by decide +kernel
theorem dJ6_bitCount_0f7a4_7 : decode cJ6_bitCount_0f7a4 7 = .ok (.iand, 1) := by decide +kernel
theorem dJ6_bitCount_0f7a4_8 : decode cJ6_bitCount_0f7a4 8 = .ok (.isub, 1) := by decide +kernel
theorem dJ6_bitCount_0f7a4_9 : decode cJ6_bitCount_0f7a4 9 = .ok (.istore_n 0, 1) := by decide +kernel
theorem dJ6_bitCount_0f7a4_10 : decode cJ6_bitCount_0f7a4 10 = .ok (.iload_n 0, 1) := by decide +kernel
theorem dJ6_bitCount_0f7a4_11 : decode cJ6_bitCount_0f7a4 11 = .ok (.ldc_w 266, 3) := by decide +kernel
theorem dJ6_bitCount_0f7a4_14 : decode cJ6_bitCount_0f7a4 14 = .ok (.iand, 1) := by decide +kernel
theorem dJ6_bitCount_0f7a4_15 : decode cJ6_bitCount_0f7a4 15 = .ok (.iload_n 0, 1) := by decide +kernel
theorem dJ6_bitCount_0f7a4_16 : decode cJ6_bitCount_0f7a4 16 = .ok (.iconst 2, 1) := by decide +kernel
theorem dJ6_bitCount_0f7a4_17 : decode cJ6_bitCount_0f7a4 17 = .ok (.iushr, 1) := by decide +kernel
theorem dJ6_bitCount_0f7a4_18 : decode cJ6_bitCount_0f7a4 18 = .ok (.ldc_w 266, 3) := by decide +kernel
theorem dJ6_bitCount_0f7a4_21 : decode cJ6_bitCount_0f7a4 21 = .ok (.iand, 1) := by decide +kernel
theorem dJ6_bitCount_0f7a4_22 : decode cJ6_bitCount_0f7a4 22 = .ok (.iadd, 1) := by decide +kernel
theorem dJ6_bitCount_0f7a4_23 : decode cJ6_bitCount_0f7a4 23 = .ok (.istore_n 0, 1) := by decide +kernel
theorem dJ6_bitCount_0f7a4_24 : decode cJ6_bitCount_0f7a4 24 = .ok (.iload_n 0, 1) := by decide +kernel
theorem dJ6_bitCount_0f7a4_25 : decode cJ6_bitCount_0f7a4 25 = .ok (.iload_n 0, 1) := by decide +kernel
theorem dJ6_bitCount_0f7a4_26 : decode cJ6_bitCount_0f7a4 26 = .ok (.iconst 4, 1) := by decide +kernel
theorem dJ6_bitCount_0f7a4_27 : decode cJ6_bitCount_0f7a4 27 = .ok (.iushr, 1) := by decide +kernel
theorem dJ6_bitCount_0f7a4_28 : decode cJ6_bitCount_0f7a4 28 = .ok (.iadd, 1) := by decide +kernel
theorem dJ6_bitCount_0f7a4_29 : decode cJ6_bitCount_0f7a4 29 = .ok (.ldc_w 267, 3) := by decide +kernel
theorem dJ6_bitCount_0f7a4_32 : decode cJ6_bitCount_0f7a4 32 = .ok (.iand, 1) := by decide +kernel
theorem dJ6_bitCount_0f7a4_33 : decode cJ6_bitCount_0f7a4 33 = .ok (.istore_n 0, 1) := by decide +kernel
theorem dJ6_bitCount_0f7a4_34 : decode cJ6_bitCount_0f7a4 34 = .ok (.iload_n 0, 1) := by decide +kernel
theorem dJ6_bitCount_0f7a4_35 : decode cJ6_bitCount_0f7a4 35 = .ok (.iload_n 0, 1) := by decide +kernel
theorem dJ6_bitCount_0f7a4_36 : decode cJ6_bitCount_0f7a4 36 = .ok (.bipush 8, 2) := by decide +kernel
theorem dJ6_bitCount_0f7a4_38 : decode cJ6_bitCount_0f7a4 38 = .ok (.iushr, 1) := by decide +kernel
theorem dJ6_bitCount_0f7a4_39 : decode cJ6_bitCount_0f7a4 39 = .ok (.iadd, 1) := by decide +kernel
theorem dJ6_bitCount_0f7a4_40 : decode cJ6_bitCount_0f7a4 40 = .ok (.istore_n 0, 1) := by decide +kernel
theorem dJ6_bitCount_0f7a4_41 : decode cJ6_bitCount_0f7a4 41 = .ok (.iload_n 0, 1) := by decide +kernel
theorem dJ6_bitCount_0f7a4_42 : decode cJ6_bitCount_0f7a4 42 = .ok (.iload_n 0, 1) := by decide +kernel
theorem dJ6_bitCount_0f7a4_43 : decode cJ6_bitCount_0f7a4 43 = .ok (.bipush 16, 2) := by decide +kernel
theorem dJ6_bitCount_0f7a4_45 : decode cJ6_bitCount_0f7a4 45 = .ok (.iushr, 1) := by decide +kernel
theorem dJ6_bitCount_0f7a4_46 : decode cJ6_bitCount_0f7a4 46 = .ok (.iadd, 1) := by decide +kernel
theorem dJ6_bitCount_0f7a4_47 : decode cJ6_bitCount_0f7a4 47 = .ok (.istore_n 0, 1) := by decide +kernel
theorem dJ6_bitCount_0f7a4_48 : decode cJ6_bitCount_0f7a4 48 = .ok (.iload_n 0, 1) := by decide +kernel
theorem dJ6_bitCount_0f7a4_49 : decode cJ6_bitCount_0f7a4 49 = .ok (.bipush 63, 2) := by decide +kernel
theorem dJ6_bitCount_0f7a4_51 : decode cJ6_bitCount_0f7a4 51 = .ok (.iand, 1) := by decide +kernel
theorem dJ6_bitCount_0f7a4_52 : decode cJ6_bitCount_0f7a4 52 = .ok (.ireturn, 1) := by decide +kernel
def xJ6_bitCount_0f7a4_0 (Q : zq_Q) : zq_P := zi_iload 0 (zi_iload 0 (zi_push (.int 1) (zi_i2 zf_ushr (zi_push (.int 1431655765) (zi_i2 (fun x y => x &&& y) (zi_i2 (fun x y => x - y) (zi_istore 0 (zi_iload 0 (zi_push (.int 858993459) (zi_i2 (fun x y => x &&& y) (zi_iload 0 (zi_push (.int 2) (zi_i2 zf_ushr (zi_push (.int 858993459) (zi_i2 (fun x y => x &&& y) (zi_i2 (fun x y => x + y) (zi_istore 0 (zi_iload 0 (zi_iload 0 (zi_push (.int 4) (zi_i2 zf_ushr (zi_i2 (fun x y => x + y) (zi_push (.int 252645135) (zi_i2 (fun x y => x &&& y) (zi_istore 0 (zi_iload 0 (zi_iload 0 (zi_push (.int 8) (zi_i2 zf_ushr (zi_i2 (fun x y => x + y) (zi_istore 0 (zi_iload 0 (zi_iload 0 (zi_push (.int 16) (zi_i2 zf_ushr (zi_i2 (fun x y => x + y) (zi_istore 0 (zi_iload 0 (zi_push (.int 63) (zi_i2 (fun x y => x &&& y) (zi_iret Q)))))))))))))))))))))))))))))))))))))))))
theorem kJ6_bitCount_0f7a4_0 {X : zq_X} {d : Nat} (C : zq_C X cJ6_bitCount_0f7a4 1 RJ6 d) {Q : zq_Q} (hq : zq_R X (some .int) 1 Q) : zq_ok X 1 0 (xJ6_bitCount_0f7a4_0 Q) := by
  refine zs_iload_n C dJ6_bitCount_0f7a4_0 rfl ?_
  refine zs_iload_n C dJ6_bitCount_0f7a4_1 rfl ?_
  refine zs_iconst C dJ6_bitCount_0f7a4_2 (by decide) ?_
  refine zs_iushr C dJ6_bitCount_0f7a4_3 ?_
  refine zs_ldcw C dJ6_bitCount_0f7a4_4 zw_700 ?_
  refine zs_iand C dJ6_bitCount_0f7a4_7 ?_
  refine zs_isub C dJ6_bitCount_0f7a4_8 ?_
  refine zs_istore_n C dJ6_bitCount_0f7a4_9 rfl (by decide) ?_
  refine zs_iload_n C dJ6_bitCount_0f7a4_10 rfl ?_
  refine zs_ldcw C dJ6_bitCount_0f7a4_11 zw_701 ?_
  refine zs_iand C dJ6_bitCount_0f7a4_14 ?_
  refine zs_iload_n C dJ6_bitCount_0f7a4_15 rfl ?_
  refine zs_iconst C dJ6_bitCount_0f7a4_16 (by decide) ?_
  refine zs_iushr C dJ6_bitCount_0f7a4_17 ?_
  refine zs_ldcw C dJ6_bitCount_0f7a4_18 zw_701 ?_
  refine zs_iand C dJ6_bitCount_0f7a4_21 ?_
  refine zs_iadd C dJ6_bitCount_0f7a4_22 ?_
  refine zs_istore_n C dJ6_bitCount_0f7a4_23 rfl (by decide) ?_
  refine zs_iload_n C dJ6_bitCount_0f7a4_24 rfl ?_
  refine zs_iload_n C dJ6_bitCount_0f7a4_25 rfl ?_
  refine zs_iconst C dJ6_bitCount_0f7a4_26 (by decide) ?_
  refine zs_iushr C dJ6_bitCount_0f7a4_27 ?_
  refine zs_iadd C dJ6_bitCount_0f7a4_28 ?_
  refine zs_ldcw C dJ6_bitCount_0f7a4_29 zw_702 ?_
  refine zs_iand C dJ6_bitCount_0f7a4_32 ?_
  refine zs_istore_n C dJ6_bitCount_0f7a4_33 rfl (by decide) ?_
  refine zs_iload_n C dJ6_bitCount_0f7a4_34 rfl ?_
  refine zs_iload_n C dJ6_bitCount_0f7a4_35 rfl ?_
  refine zs_bipush C dJ6_bitCount_0f7a4_36 (by decide) ?_
  refine zs_iushr C dJ6_bitCount_0f7a4_38 ?_
  refine zs_iadd C dJ6_bitCount_0f7a4_39 ?_
  refine zs_istore_n C dJ6_bitCount_0f7a4_40 rfl (by decide) ?_
  refine zs_iload_n C dJ6_bitCount_0f7a4_41 rfl ?_
  refine zs_iload_n C dJ6_bitCount_0f7a4_42 rfl ?_
  refine zs_bipush C dJ6_bitCount_0f7a4_43 (by decide) ?_
  refine zs_iushr C dJ6_bitCount_0f7a4_45 ?_
  refine zs_iadd C dJ6_bitCount_0f7a4_46 ?_
  refine zs_istore_n C dJ6_bitCount_0f7a4_47 rfl (by decide) ?_
  refine zs_iload_n C dJ6_bitCount_0f7a4_48 rfl ?_
  refine zs_bipush C dJ6_bitCount_0f7a4_49 (by decide) ?_
  refine zs_iand C dJ6_bitCount_0f7a4_51 ?_
  exact zs_iret C hq dJ6_bitCount_0f7a4_52
theorem mJ6_bitCount_0f7a4 {d : Nat} {spec : zq_Sp} (v : ∀ args h Q, spec args h Q → (zq_a args).length ≤ 1 ∧ xJ6_bitCount_0f7a4_0 Q (zq_l0 1 args) [] h) : zq_M yJ6_bitCount_0f7a4 cJ6_bitCount_0f7a4 1 (some .int) 1 d spec := by
  refine zq_met (by decide +kernel) (by decide) (fun X Q args h C hq hs => ⟨(v args h Q hs).1, _, ?_, (v args h Q hs).2⟩)
  exact kJ6_bitCount_0f7a4_0 C hq
/-! java/util/Arrays.fill([II)V -/
theorem dJ7_fill_53178_0 : decode cJ7_fill_53178 0 = .ok (.iconst 0, 1) := by decide +kernel
theorem dJ7_fill_53178_1 : decode cJ7_fill_53178 1 = .ok (.istore_n 2, 1) := by decide +kernel
theorem dJ7_fill_53178_2 : decode cJ7_fill_53178 2 = .ok (.aload_n 0, 1) := by decide +kernel
theorem dJ7_fill_53178_3 : decode cJ7_fill_53178 3 = .ok (.arraylength, 1) := by decide +kernel
theorem dJ7_fill_53178_4 : decode cJ7_fill_53178 4 = .ok (.istore_n 3, 1) := by decide +kernel
theorem dJ7_fill_53178_5 : decode cJ7_fill_53178 5 = .ok (.iload_n 2, 1) := by decide +kernel
theorem dJ7_fill_53178_6 : decode cJ7_fill_53178 6 = .ok (.iload_n 3, 1) := by decide +kernel
theorem dJ7_fill_53178_7 : decode cJ7_fill_53178 7 = .ok (.if_icmp .ge 13, 3) := by decide +kernel
theorem dJ7_fill_53178_10 : decode cJ7_fill_53178 10 = .ok (.aload_n 0, 1) := by decide +kernel
theorem dJ7_fill_53178_11 : decode cJ7_fill_53178 11 = .ok (.iload_n 2, 1) := by decide +kernel
theorem dJ7_fill_53178_12 : decode cJ7_fill_53178 12 = .ok (.iload_n 1, 1) := by decide +kernel
theorem dJ7_fill_53178_13 : decode cJ7_fill_53178 13 = .ok (.iastore, 1) := by decide +kernel
theorem dJ7_fill_53178_14 : decode cJ7_fill_53178 14 = .ok (.iinc 2 1, 3) := by decide +kernel
theorem dJ7_fill_53178_17 : decode cJ7_fill_53178 17 = .ok (.goto (-12), 3) := by decide +kernel
theorem dJ7_fill_53178_20 : decode cJ7_fill_53178 20 = .ok (.return_, 1) := by decide +kernel
def xJ7_fill_53178_20 (r n : Nat) (J5 : zq_P) (Q : zq_Q) : zq_P := zi_vret Q
theorem kJ7_fill_53178_20 {X : zq_X} {d : Nat} {r n : Nat} (C : zq_C X cJ7_fill_53178 4 RJ7 d) (hr : zq_S[r]? = some (1, n, [])) {J5 : zq_P} (j5 : zq_ok X 4 5 J5) {Q : zq_Q} (hq : zq_R X none 0 Q) : zq_ok X 4 20 (xJ7_fill_53178_20 r n J5 Q) := by
  exact zs_vret C hq dJ7_fill_53178_20
def xJ7_fill_53178_10 (r n : Nat) (J5 : zq_P) (Q : zq_Q) : zq_P := zi_aload 0 (zi_iload 2 (zi_iload 1 (zi_astI r n (zi_iinc 2 1 (J5)))))
theorem kJ7_fill_53178_10 {X : zq_X} {d : Nat} {r n : Nat} (C : zq_C X cJ7_fill_53178 4 RJ7 d) (hr : zq_S[r]? = some (1, n, [])) {J5 : zq_P} (j5 : zq_ok X 4 5 J5) {Q : zq_Q} (hq : zq_R X none 0 Q) : zq_ok X 4 10 (xJ7_fill_53178_10 r n J5 Q) := by
  refine zs_aload_n C dJ7_fill_53178_10 rfl ?_
  refine zs_iload_n C dJ7_fill_53178_11 rfl ?_
  refine zs_iload_n C dJ7_fill_53178_12 rfl ?_
  refine zs_iastore C hr dJ7_fill_53178_13 ?_
  refine zs_iinc C dJ7_fill_53178_14 (by decide) (by decide) ?_
  exact zs_goto C dJ7_fill_53178_17 (by decide) (j5)
def xJ7_fill_53178_5 (r n : Nat) (J5 : zq_P) (Q : zq_Q) : zq_P := zi_iload 2 (zi_iload 3 (zi_if2 (fun x y => y ≤ x) (xJ7_fill_53178_20 r n J5 Q) (xJ7_fill_53178_10 r n J5 Q)))
theorem kJ7_fill_53178_5 {X : zq_X} {d : Nat} {r n : Nat} (C : zq_C X cJ7_fill_53178 4 RJ7 d) (hr : zq_S[r]? = some (1, n, [])) {J5 : zq_P} (j5 : zq_ok X 4 5 J5) {Q : zq_Q} (hq : zq_R X none 0 Q) : zq_ok X 4 5 (xJ7_fill_53178_5 r n J5 Q) := by
  refine zs_iload_n C dJ7_fill_53178_5 rfl ?_
  refine zs_iload_n C dJ7_fill_53178_6 rfl ?_
  exact zs_icmp_ge C dJ7_fill_53178_7 (by decide) (kJ7_fill_53178_20 C hr j5 hq) (kJ7_fill_53178_10 C hr j5 hq)
def xJ7_fill_53178_0 (r n : Nat) (J5 : zq_P) (Q : zq_Q) : zq_P := zi_push (.int 0) (zi_istore 2 (zi_aload 0 (zi_alen r n (zi_istore 3 (J5)))))
theorem kJ7_fill_53178_0 {X : zq_X} {d : Nat} {r n : Nat} (C : zq_C X cJ7_fill_53178 4 RJ7 d) (hr : zq_S[r]? = some (1, n, [])) {J5 : zq_P} (j5 : zq_ok X 4 5 J5) {Q : zq_Q} (hq : zq_R X none 0 Q) : zq_ok X 4 0 (xJ7_fill_53178_0 r n J5 Q) := by
  refine zs_iconst C dJ7_fill_53178_0 (by decide) ?_
  refine zs_istore_n C dJ7_fill_53178_1 rfl (by decide) ?_
  refine zs_aload_n C dJ7_fill_53178_2 rfl ?_
  refine zs_alen C (Or.inl hr) dJ7_fill_53178_3 ?_
  refine zs_istore_n C dJ7_fill_53178_4 rfl (by decide) ?_
  exact j5
theorem mJ7_fill_53178 {d : Nat} {r n : Nat} {spec : zq_Sp} {σ5 : Type} (hr9 : ∀ args h Q, spec args h Q → zq_S[r]? = some (1, n, [])) (μ5 : σ5 → Nat) (I5 : zq_Q → σ5 → zq_P) (v : ∀ args h Q, spec args h Q → (zq_a args).length ≤ 4 ∧ xJ7_fill_53178_0 r n (fun ls st h => ∃ b, I5 Q b ls st h) Q (zq_l0 4 args) [] h) (v5 : ∀ Q a ls st h, I5 Q a ls st h → xJ7_fill_53178_5 r n (fun ls st h => ∃ b, μ5 b < μ5 a ∧ I5 Q b ls st h) Q ls st h) : zq_M yJ7_fill_53178 cJ7_fill_53178 4 none 0 d spec := by
  refine zq_met (by decide +kernel) (by decide) (fun X Q args h C hq hs => ⟨(v args h Q hs).1, _, ?_, (v args h Q hs).2⟩)
  have hr := hr9 args h Q hs
  have hl := zq_loop1 (X := X) (nL := 4) (pc1 := 5) μ5 (I5 Q) (fun J5 => xJ7_fill_53178_5 r n J5 Q) (fun j5 => kJ7_fill_53178_5 C hr j5 hq) (v5 Q)
  exact kJ7_fill_53178_0 C hr hl hq
