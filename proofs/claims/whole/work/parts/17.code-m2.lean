/-! ToOneCrumbModel.laysTable()V -/
theorem dX12_laysTable_0 : decode cX12_laysTable 0 = .ok (.iconst 0, 1) := by decide +kernel
theorem dX12_laysTable_1 : decode cX12_laysTable 1 = .ok (.istore_n 1, 1) := by decide +kernel
theorem dX12_laysTable_2 : decode cX12_laysTable 2 = .ok (.iload_n 1, 1) := by decide +kernel
theorem dX12_laysTable_3 : decode cX12_laysTable 3 = .ok (.aload_n 0, 1) := by decide +kernel
theorem dX12_laysTable_4 : decode cX12_laysTable 4 = .ok (.getfield 165, 3) := by decide +kernel
theorem dX12_laysTable_7 : decode cX12_laysTable 7 = .ok (.if_icmp .ge 69, 3) := by decide +kernel
theorem dX12_laysTable_10 : decode cX12_laysTable 10 = .ok (.aload_n 0, 1) := by decide +kernel
theorem dX12_laysTable_11 : decode cX12_laysTable 11 = .ok (.getfield 66, 3) := by decide +kernel
theorem dX12_laysTable_14 : decode cX12_laysTable 14 = .ok (.iload_n 1, 1) := by decide +kernel
theorem dX12_laysTable_15 : decode cX12_laysTable 15 = .ok (.iconst 0, 1) := by decide +kernel
theorem dX12_laysTable_16 : decode cX12_laysTable 16 = .ok (.iastore, 1) := by decide +kernel
theorem dX12_laysTable_17 : decode cX12_laysTable 17 = .ok (.iconst 0, 1) := by decide +kernel
theorem dX12_laysTable_18 : decode cX12_laysTable 18 = .ok (.istore_n 2, 1) := by decide +kernel
theorem dX12_laysTable_19 : decode cX12_laysTable 19 = .ok (.iload_n 2, 1) := by decide +kernel
theorem dX12_laysTable_20 : decode cX12_laysTable 20 = .ok (.aload_n 0, 1) := by decide +kernel
theorem dX12_laysTable_21 : decode cX12_laysTable 21 = .ok (.getfield 158, 3) := by decide +kernel
theorem dX12_laysTable_24 : decode cX12_laysTable 24 = .ok (.if_icmp .ge 46, 3) := by decide +kernel
theorem dX12_laysTable_27 : decode cX12_laysTable 27 = .ok (.aload_n 0, 1) := by decide +kernel
theorem dX12_laysTable_28 : decode cX12_laysTable 28 = .ok (.getfield 63, 3) := by decide +kernel
theorem dX12_laysTable_31 : decode cX12_laysTable 31 = .ok (.bipush 16, 2) := by decide +kernel
theorem dX12_laysTable_33 : decode cX12_laysTable 33 = .ok (.iload_n 1, 1) := by decide +kernel
theorem dX12_laysTable_34 : decode cX12_laysTable 34 = .ok (.imul, 1) := by decide +kernel
theorem dX12_laysTable_35 : decode cX12_laysTable 35 = .ok (.iload_n 2, 1) := by decide +kernel
theorem dX12_laysTable_36 : decode cX12_laysTable 36 = .ok (.iadd, 1) := by decide +kernel
theorem dX12_laysTable_37 : decode cX12_laysTable 37 = .ok (.aload_n 0, 1) := by decide +kernel
theorem dX12_laysTable_38 : decode cX12_laysTable 38 = .ok (.iload_n 1, 1) := by decide +kernel
theorem dX12_laysTable_39 : decode cX12_laysTable 39 = .ok (.iload_n 2, 1) := by decide +kernel
theorem dX12_laysTable_40 : decode cX12_laysTable 40 = .ok (.invokevirtual 303, 3) := by decide +kernel
theorem dX12_laysTable_43 : decode cX12_laysTable 43 = .ok (.iastore, 1) := by decide +kernel
theorem dX12_laysTable_44 : decode cX12_laysTable 44 = .ok (.aload_n 0, 1) := by decide +kernel
theorem dX12_laysTable_45 : decode cX12_laysTable 45 = .ok (.getfield 66, 3) := by decide +kernel
theorem dX12_laysTable_48 : decode cX12_laysTable 48 = .ok (.iload_n 1, 1) := by decide +kernel
theorem dX12_laysTable_49 : decode cX12_laysTable 49 = .ok (.dup2, 1) := by decide +kernel
theorem dX12_laysTable_50 : decode cX12_laysTable 50 = .ok (.iaload, 1) := by decide +kernel
theorem dX12_laysTable_51 : decode cX12_laysTable 51 = .ok (.aload_n 0, 1) := by decide +kernel
theorem dX12_laysTable_52 : decode cX12_laysTable 52 = .ok (.getfield 63, 3) := by decide +kernel
theorem dX12_laysTable_55 : decode cX12_laysTable 55 = .ok (.bipush 16, 2) := by decide +kernel
theorem dX12_laysTable_57 : decode cX12_laysTable 57 = .ok (.iload_n 1, 1) := by decide +kernel
theorem dX12_laysTable_58 : decode cX12_laysTable 58 = .ok (.imul, 1) := by decide +kernel
theorem dX12_laysTable_59 : decode cX12_laysTable 59 = .ok (.iload_n 2, 1) := by decide +kernel
theorem dX12_laysTable_60 : decode cX12_laysTable 60 = .ok (.iadd, 1) := by decide +kernel
theorem dX12_laysTable_61 : decode cX12_laysTable 61 = .ok (.iaload, 1) := by decide +kernel
theorem dX12_laysTable_62 : decode cX12_laysTable 62 = .ok (.iadd, 1) := by decide +kernel
theorem dX12_laysTable_63 : decode cX12_laysTable 63 = .ok (.iastore, 1) := by decide +kernel
theorem dX12_laysTable_64 : decode cX12_laysTable 64 = .ok (.iinc 2 1, 3) := by decide +kernel
theorem dX12_laysTable_67 : decode cX12_laysTable 67 = .ok (.goto (-48), 3) := by decide +kernel
theorem dX12_laysTable_70 : decode cX12_laysTable 70 = .ok (.iinc 1 1, 3) := by decide +kernel
theorem dX12_laysTable_73 : decode cX12_laysTable 73 = .ok (.goto (-71), 3) := by decide +kernel
theorem dX12_laysTable_76 : decode cX12_laysTable 76 = .ok (.return_, 1) := by decide +kernel
def xX12_laysTable_76 (s_X12_worthOf : zq_Sp) (J2 : zq_P) (J19 : zq_P) (Q : zq_Q) (ls : zq_L) (st : List Value) (h : zq_H) : Prop := (zi_vret Q) ls st h
theorem kX12_laysTable_76 {X : zq_X} {d : Nat} (C : zq_C X cX12_laysTable 3 RX12 d) {d_X12_worthOf : Nat} {s_X12_worthOf : zq_Sp} (h_X12_worthOf : zq_M yX12_worthOf cX12_worthOf 3 (some .int) 1 d_X12_worthOf s_X12_worthOf) (g_X12_worthOf : d_X12_worthOf + 1 ≤ d) {J2 : zq_P} (j2 : zq_ok X 3 2 J2) {J19 : zq_P} (j19 : zq_ok X 3 19 J19) {Q : zq_Q} (hq : zq_R X none 0 Q) : zq_ok X 3 76 (xX12_laysTable_76 s_X12_worthOf J2 J19 Q) := by
  exact zs_vret C hq dX12_laysTable_76
def xX12_laysTable_70 (s_X12_worthOf : zq_Sp) (J2 : zq_P) (J19 : zq_P) (Q : zq_Q) (ls : zq_L) (st : List Value) (h : zq_H) : Prop := (zi_iinc 1 1 (J2)) ls st h
theorem kX12_laysTable_70 {X : zq_X} {d : Nat} (C : zq_C X cX12_laysTable 3 RX12 d) {d_X12_worthOf : Nat} {s_X12_worthOf : zq_Sp} (h_X12_worthOf : zq_M yX12_worthOf cX12_worthOf 3 (some .int) 1 d_X12_worthOf s_X12_worthOf) (g_X12_worthOf : d_X12_worthOf + 1 ≤ d) {J2 : zq_P} (j2 : zq_ok X 3 2 J2) {J19 : zq_P} (j19 : zq_ok X 3 19 J19) {Q : zq_Q} (hq : zq_R X none 0 Q) : zq_ok X 3 70 (xX12_laysTable_70 s_X12_worthOf J2 J19 Q) := by
  refine zs_iinc C dX12_laysTable_70 (by decide) (by decide) ?_
  exact zs_goto C dX12_laysTable_73 (by decide) (j2)
def xX12_laysTable_27 (s_X12_worthOf : zq_Sp) (J2 : zq_P) (J19 : zq_P) (Q : zq_Q) (ls : zq_L) (st : List Value) (h : zq_H) : Prop := (zi_aload 0 (zi_getR 56 74 (zi_push (.int 16) (zi_iload 1 (zi_i2 (fun x y => x * y) (zi_iload 2 (zi_i2 (fun x y => x + y) (zi_aload 0 (zi_iload 1 (zi_iload 2 (zi_callV 2 56 s_X12_worthOf (zi_astI 74 96 (zi_aload 0 (zi_getR 56 75 (zi_iload 1 (zi_dup2 (zi_aldI 75 6 (zi_aload 0 (zi_getR 56 74 (zi_push (.int 16) (zi_iload 1 (zi_i2 (fun x y => x * y) (zi_iload 2 (zi_i2 (fun x y => x + y) (zi_aldI 74 96 (zi_i2 (fun x y => x + y) (zi_astI 75 6 (zi_iinc 2 1 (J19))))))))))))))))))))))))))))) ls st h
theorem kX12_laysTable_27 {X : zq_X} {d : Nat} (C : zq_C X cX12_laysTable 3 RX12 d) {d_X12_worthOf : Nat} {s_X12_worthOf : zq_Sp} (h_X12_worthOf : zq_M yX12_worthOf cX12_worthOf 3 (some .int) 1 d_X12_worthOf s_X12_worthOf) (g_X12_worthOf : d_X12_worthOf + 1 ≤ d) {J2 : zq_P} (j2 : zq_ok X 3 2 J2) {J19 : zq_P} (j19 : zq_ok X 3 19 J19) {Q : zq_Q} (hq : zq_R X none 0 Q) : zq_ok X 3 27 (xX12_laysTable_27 s_X12_worthOf J2 J19 Q) := by
  refine zs_aload_n C dX12_laysTable_27 rfl ?_
  refine zs_getR C zp_56 zF12 (j := 29) ⟨by decide, rfl⟩ zw_1125 dX12_laysTable_28 ?_
  refine zs_bipush C dX12_laysTable_31 (by decide) ?_
  refine zs_iload_n C dX12_laysTable_33 rfl ?_
  refine zs_imul C dX12_laysTable_34 ?_
  refine zs_iload_n C dX12_laysTable_35 rfl ?_
  refine zs_iadd C dX12_laysTable_36 ?_
  refine zs_aload_n C dX12_laysTable_37 rfl ?_
  refine zs_iload_n C dX12_laysTable_38 rfl ?_
  refine zs_iload_n C dX12_laysTable_39 rfl ?_
  refine zs_callV C h_X12_worthOf g_X12_worthOf zy_X12_worthOf zp_56 (show vwCl[12]? = some (RX12, TX12, 67) from rfl) zw_1475 zw_1477 zs9_X12_worthOf dX12_laysTable_40 ?_
  refine zs_iastore C zp_74 dX12_laysTable_43 ?_
  refine zs_aload_n C dX12_laysTable_44 rfl ?_
  refine zs_getR C zp_56 zF12 (j := 30) ⟨by decide, rfl⟩ zw_1126 dX12_laysTable_45 ?_
  refine zs_iload_n C dX12_laysTable_48 rfl ?_
  refine zs_dup2 C dX12_laysTable_49 ?_
  refine zs_iaload C zp_75 dX12_laysTable_50 ?_
  refine zs_aload_n C dX12_laysTable_51 rfl ?_
  refine zs_getR C zp_56 zF12 (j := 29) ⟨by decide, rfl⟩ zw_1125 dX12_laysTable_52 ?_
  refine zs_bipush C dX12_laysTable_55 (by decide) ?_
  refine zs_iload_n C dX12_laysTable_57 rfl ?_
  refine zs_imul C dX12_laysTable_58 ?_
  refine zs_iload_n C dX12_laysTable_59 rfl ?_
  refine zs_iadd C dX12_laysTable_60 ?_
  refine zs_iaload C zp_74 dX12_laysTable_61 ?_
  refine zs_iadd C dX12_laysTable_62 ?_
  refine zs_iastore C zp_75 dX12_laysTable_63 ?_
  refine zs_iinc C dX12_laysTable_64 (by decide) (by decide) ?_
  exact zs_goto C dX12_laysTable_67 (by decide) (j19)
def xX12_laysTable_19 (s_X12_worthOf : zq_Sp) (J2 : zq_P) (J19 : zq_P) (Q : zq_Q) (ls : zq_L) (st : List Value) (h : zq_H) : Prop := (zi_iload 2 (zi_aload 0 (zi_getI 56 3 (zi_if2 (fun x y => y ≤ x) (xX12_laysTable_70 s_X12_worthOf J2 J19 Q) (xX12_laysTable_27 s_X12_worthOf J2 J19 Q))))) ls st h
theorem kX12_laysTable_19 {X : zq_X} {d : Nat} (C : zq_C X cX12_laysTable 3 RX12 d) {d_X12_worthOf : Nat} {s_X12_worthOf : zq_Sp} (h_X12_worthOf : zq_M yX12_worthOf cX12_worthOf 3 (some .int) 1 d_X12_worthOf s_X12_worthOf) (g_X12_worthOf : d_X12_worthOf + 1 ≤ d) {J2 : zq_P} (j2 : zq_ok X 3 2 J2) {J19 : zq_P} (j19 : zq_ok X 3 19 J19) {Q : zq_Q} (hq : zq_R X none 0 Q) : zq_ok X 3 19 (xX12_laysTable_19 s_X12_worthOf J2 J19 Q) := by
  refine zs_iload_n C dX12_laysTable_19 rfl ?_
  refine zs_aload_n C dX12_laysTable_20 rfl ?_
  refine zs_getI C zp_56 zF12 (j := 3) ⟨by decide, rfl⟩ zw_1099 dX12_laysTable_21 ?_
  exact zs_icmp_ge C dX12_laysTable_24 (by decide) (kX12_laysTable_70 C h_X12_worthOf g_X12_worthOf j2 j19 hq) (kX12_laysTable_27 C h_X12_worthOf g_X12_worthOf j2 j19 hq)
def xX12_laysTable_10 (s_X12_worthOf : zq_Sp) (J2 : zq_P) (J19 : zq_P) (Q : zq_Q) (ls : zq_L) (st : List Value) (h : zq_H) : Prop := (zi_aload 0 (zi_getR 56 75 (zi_iload 1 (zi_push (.int 0) (zi_astI 75 6 (zi_push (.int 0) (zi_istore 2 (J19)))))))) ls st h
theorem kX12_laysTable_10 {X : zq_X} {d : Nat} (C : zq_C X cX12_laysTable 3 RX12 d) {d_X12_worthOf : Nat} {s_X12_worthOf : zq_Sp} (h_X12_worthOf : zq_M yX12_worthOf cX12_worthOf 3 (some .int) 1 d_X12_worthOf s_X12_worthOf) (g_X12_worthOf : d_X12_worthOf + 1 ≤ d) {J2 : zq_P} (j2 : zq_ok X 3 2 J2) {J19 : zq_P} (j19 : zq_ok X 3 19 J19) {Q : zq_Q} (hq : zq_R X none 0 Q) : zq_ok X 3 10 (xX12_laysTable_10 s_X12_worthOf J2 J19 Q) := by
  refine zs_aload_n C dX12_laysTable_10 rfl ?_
  refine zs_getR C zp_56 zF12 (j := 30) ⟨by decide, rfl⟩ zw_1126 dX12_laysTable_11 ?_
  refine zs_iload_n C dX12_laysTable_14 rfl ?_
  refine zs_iconst C dX12_laysTable_15 (by decide) ?_
  refine zs_iastore C zp_75 dX12_laysTable_16 ?_
  refine zs_iconst C dX12_laysTable_17 (by decide) ?_
  refine zs_istore_n C dX12_laysTable_18 rfl (by decide) ?_
  exact j19
def xX12_laysTable_2 (s_X12_worthOf : zq_Sp) (J2 : zq_P) (J19 : zq_P) (Q : zq_Q) (ls : zq_L) (st : List Value) (h : zq_H) : Prop := (zi_iload 1 (zi_aload 0 (zi_getI 56 4 (zi_if2 (fun x y => y ≤ x) (xX12_laysTable_76 s_X12_worthOf J2 J19 Q) (xX12_laysTable_10 s_X12_worthOf J2 J19 Q))))) ls st h
theorem kX12_laysTable_2 {X : zq_X} {d : Nat} (C : zq_C X cX12_laysTable 3 RX12 d) {d_X12_worthOf : Nat} {s_X12_worthOf : zq_Sp} (h_X12_worthOf : zq_M yX12_worthOf cX12_worthOf 3 (some .int) 1 d_X12_worthOf s_X12_worthOf) (g_X12_worthOf : d_X12_worthOf + 1 ≤ d) {J2 : zq_P} (j2 : zq_ok X 3 2 J2) {J19 : zq_P} (j19 : zq_ok X 3 19 J19) {Q : zq_Q} (hq : zq_R X none 0 Q) : zq_ok X 3 2 (xX12_laysTable_2 s_X12_worthOf J2 J19 Q) := by
  refine zs_iload_n C dX12_laysTable_2 rfl ?_
  refine zs_aload_n C dX12_laysTable_3 rfl ?_
  refine zs_getI C zp_56 zF12 (j := 4) ⟨by decide, rfl⟩ zw_1100 dX12_laysTable_4 ?_
  exact zs_icmp_ge C dX12_laysTable_7 (by decide) (kX12_laysTable_76 C h_X12_worthOf g_X12_worthOf j2 j19 hq) (kX12_laysTable_10 C h_X12_worthOf g_X12_worthOf j2 j19 hq)
def xX12_laysTable_0 (s_X12_worthOf : zq_Sp) (J2 : zq_P) (J19 : zq_P) (Q : zq_Q) (ls : zq_L) (st : List Value) (h : zq_H) : Prop := (zi_push (.int 0) (zi_istore 1 (J2))) ls st h
theorem kX12_laysTable_0 {X : zq_X} {d : Nat} (C : zq_C X cX12_laysTable 3 RX12 d) {d_X12_worthOf : Nat} {s_X12_worthOf : zq_Sp} (h_X12_worthOf : zq_M yX12_worthOf cX12_worthOf 3 (some .int) 1 d_X12_worthOf s_X12_worthOf) (g_X12_worthOf : d_X12_worthOf + 1 ≤ d) {J2 : zq_P} (j2 : zq_ok X 3 2 J2) {J19 : zq_P} (j19 : zq_ok X 3 19 J19) {Q : zq_Q} (hq : zq_R X none 0 Q) : zq_ok X 3 0 (xX12_laysTable_0 s_X12_worthOf J2 J19 Q) := by
  refine zs_iconst C dX12_laysTable_0 (by decide) ?_
  refine zs_istore_n C dX12_laysTable_1 rfl (by decide) ?_
  exact j2
theorem mX12_laysTable {d : Nat} {spec : zq_Sp} {σ2 : Type} {σ19 : Type} {d_X12_worthOf : Nat} {s_X12_worthOf : zq_Sp} (h_X12_worthOf : zq_M yX12_worthOf cX12_worthOf 3 (some .int) 1 d_X12_worthOf s_X12_worthOf) (g_X12_worthOf : d_X12_worthOf + 1 ≤ d) (μ2 : σ2 → Nat) (I2 : zq_Q → σ2 → zq_P) (μ19 : σ19 → Nat) (I19 : zq_Q → σ19 → zq_P) (v : ∀ args h Q, spec args h Q → (zq_a args).length ≤ 3 ∧ xX12_laysTable_0 s_X12_worthOf (fun ls st h => ∃ b, I2 Q b ls st h) (fun ls st h => ∃ b, I19 Q b ls st h) Q (zq_l0 3 args) [] h) (v2 : ∀ Q a ls st h, I2 Q a ls st h → xX12_laysTable_2 s_X12_worthOf (fun ls st h => ∃ b, μ2 b < μ2 a ∧ I2 Q b ls st h) (fun ls st h => ∃ b, μ19 b < μ2 a ∧ I19 Q b ls st h) Q ls st h) (v19 : ∀ Q a ls st h, I19 Q a ls st h → xX12_laysTable_19 s_X12_worthOf (fun ls st h => ∃ b, μ2 b < μ19 a ∧ I2 Q b ls st h) (fun ls st h => ∃ b, μ19 b < μ19 a ∧ I19 Q b ls st h) Q ls st h) : zq_M yX12_laysTable cX12_laysTable 3 none 0 d spec := by
  refine zq_met (by decide +kernel) (by decide) (fun X Q args h C hq hs => ⟨(v args h Q hs).1, _, ?_, (v args h Q hs).2⟩)
  have hl := zq_loop2 (X := X) (nL := 3) (pc1 := 2) (pc2 := 19) μ2 μ19 (I2 Q) (I19 Q) (fun J2 J19 => xX12_laysTable_2 s_X12_worthOf J2 J19 Q) (fun J2 J19 => xX12_laysTable_19 s_X12_worthOf J2 J19 Q) (fun j2 j19 => kX12_laysTable_2 C h_X12_worthOf g_X12_worthOf j2 j19 hq) (fun j2 j19 => kX12_laysTable_19 C h_X12_worthOf g_X12_worthOf j2 j19 hq) (v2 Q) (v19 Q)
  exact kX12_laysTable_0 C h_X12_worthOf g_X12_worthOf hl.1 hl.2 hq
/-! ToOneCrumbModel.held(II)I -/
theorem dX12_held_0 : decode cX12_held 0 = .ok (.iconst 0, 1) := by decide +kernel
theorem dX12_held_1 : decode cX12_held 1 = .ok (.istore_n 3, 1) := by decide +kernel
theorem dX12_held_2 : decode cX12_held 2 = .ok (.iconst 0, 1) := by decide +kernel
theorem dX12_held_3 : decode cX12_held 3 = .ok (.istore 4, 2) := by decide +kernel
theorem dX12_held_5 : decode cX12_held 5 = .ok (.iload 4, 2) := by decide +kernel
theorem dX12_held_7 : decode cX12_held 7 = .ok (.aload_n 0, 1) := by decide +kernel
theorem dX12_held_8 : decode cX12_held 8 = .ok (.getfield 158, 3) := by decide +kernel
theorem dX12_held_11 : decode cX12_held 11 = .ok (.if_icmp .ge 39, 3) := by decide +kernel
theorem dX12_held_14 : decode cX12_held 14 = .ok (.iload_n 3, 1) := by decide +kernel
theorem dX12_held_15 : decode cX12_held 15 = .ok (.aload_n 0, 1) := by decide +kernel
theorem dX12_held_16 : decode cX12_held 16 = .ok (.getfield 30, 3) := by decide +kernel
theorem dX12_held_19 : decode cX12_held 19 = .ok (.iload 4, 2) := by decide +kernel
theorem dX12_held_21 : decode cX12_held 21 = .ok (.iaload, 1) := by decide +kernel
theorem dX12_held_22 : decode cX12_held 22 = .ok (.iload_n 2, 1) := by decide +kernel
theorem dX12_held_23 : decode cX12_held 23 = .ok (.if_icmp .ne 18, 3) := by decide +kernel
theorem dX12_held_26 : decode cX12_held 26 = .ok (.aload_n 0, 1) := by decide +kernel
theorem dX12_held_27 : decode cX12_held 27 = .ok (.getfield 63, 3) := by decide +kernel
theorem dX12_held_30 : decode cX12_held 30 = .ok (.bipush 16, 2) := by decide +kernel
theorem dX12_held_32 : decode cX12_held 32 = .ok (.iload_n 1, 1) := by decide +kernel
theorem dX12_held_33 : decode cX12_held 33 = .ok (.imul, 1) := by decide +kernel
theorem dX12_held_34 : decode cX12_held 34 = .ok (.iload 4, 2) := by decide +kernel
theorem dX12_held_36 : decode cX12_held 36 = .ok (.iadd, 1) := by decide +kernel
theorem dX12_held_37 : decode cX12_held 37 = .ok (.iaload, 1) := by decide +kernel
theorem dX12_held_38 : decode cX12_held 38 = .ok (.goto 4, 3) := by decide +kernel
theorem dX12_held_41 : decode cX12_held 41 = .ok (.iconst 0, 1) := by decide +kernel
theorem dX12_held_42 : decode cX12_held 42 = .ok (.iadd, 1) := by decide +kernel
theorem dX12_held_43 : decode cX12_held 43 = .ok (.istore_n 3, 1) := by decide +kernel
theorem dX12_held_44 : decode cX12_held 44 = .ok (.iinc 4 1, 3) := by decide +kernel
theorem dX12_held_47 : decode cX12_held 47 = .ok (.goto (-42), 3) := by decide +kernel
theorem dX12_held_50 : decode cX12_held 50 = .ok (.iload_n 3, 1) := by decide +kernel
theorem dX12_held_51 : decode cX12_held 51 = .ok (.ireturn, 1) := by decide +kernel
def xX12_held_50 (J5 : zq_P) (Q : zq_Q) (ls : zq_L) (st : List Value) (h : zq_H) : Prop := (zi_iload 3 (zi_iret Q)) ls st h
theorem kX12_held_50 {X : zq_X} {d : Nat} (C : zq_C X cX12_held 5 RX12 d) {J5 : zq_P} (j5 : zq_ok X 5 5 J5) {Q : zq_Q} (hq : zq_R X (some .int) 1 Q) : zq_ok X 5 50 (xX12_held_50 J5 Q) := by
  refine zs_iload_n C dX12_held_50 rfl ?_
  exact zs_iret C hq dX12_held_51
def xX12_held_42 (J5 : zq_P) (Q : zq_Q) (ls : zq_L) (st : List Value) (h : zq_H) : Prop := (zi_i2 (fun x y => x + y) (zi_istore 3 (zi_iinc 4 1 (J5)))) ls st h
theorem kX12_held_42 {X : zq_X} {d : Nat} (C : zq_C X cX12_held 5 RX12 d) {J5 : zq_P} (j5 : zq_ok X 5 5 J5) {Q : zq_Q} (hq : zq_R X (some .int) 1 Q) : zq_ok X 5 42 (xX12_held_42 J5 Q) := by
  refine zs_iadd C dX12_held_42 ?_
  refine zs_istore_n C dX12_held_43 rfl (by decide) ?_
  refine zs_iinc C dX12_held_44 (by decide) (by decide) ?_
  exact zs_goto C dX12_held_47 (by decide) (j5)
def xX12_held_41 (J5 : zq_P) (Q : zq_Q) (ls : zq_L) (st : List Value) (h : zq_H) : Prop := (zi_push (.int 0) ((xX12_held_42 J5 Q))) ls st h
theorem kX12_held_41 {X : zq_X} {d : Nat} (C : zq_C X cX12_held 5 RX12 d) {J5 : zq_P} (j5 : zq_ok X 5 5 J5) {Q : zq_Q} (hq : zq_R X (some .int) 1 Q) : zq_ok X 5 41 (xX12_held_41 J5 Q) := by
  refine zs_iconst C dX12_held_41 (by decide) ?_
  exact kX12_held_42 C j5 hq
def xX12_held_26 (J5 : zq_P) (Q : zq_Q) (ls : zq_L) (st : List Value) (h : zq_H) : Prop := (zi_aload 0 (zi_getR 56 74 (zi_push (.int 16) (zi_iload 1 (zi_i2 (fun x y => x * y) (zi_iload 4 (zi_i2 (fun x y => x + y) (zi_aldI 74 96 ((xX12_held_42 J5 Q)))))))))) ls st h
theorem kX12_held_26 {X : zq_X} {d : Nat} (C : zq_C X cX12_held 5 RX12 d) {J5 : zq_P} (j5 : zq_ok X 5 5 J5) {Q : zq_Q} (hq : zq_R X (some .int) 1 Q) : zq_ok X 5 26 (xX12_held_26 J5 Q) := by
  refine zs_aload_n C dX12_held_26 rfl ?_
  refine zs_getR C zp_56 zF12 (j := 29) ⟨by decide, rfl⟩ zw_1125 dX12_held_27 ?_
  refine zs_bipush C dX12_held_30 (by decide) ?_
  refine zs_iload_n C dX12_held_32 rfl ?_
  refine zs_imul C dX12_held_33 ?_
  refine zs_iload C dX12_held_34 ?_
  refine zs_iadd C dX12_held_36 ?_
  refine zs_iaload C zp_74 dX12_held_37 ?_
  exact zs_goto C dX12_held_38 (by decide) (kX12_held_42 C j5 hq)
def xX12_held_14 (J5 : zq_P) (Q : zq_Q) (ls : zq_L) (st : List Value) (h : zq_H) : Prop := (zi_iload 3 (zi_aload 0 (zi_getR 56 63 (zi_iload 4 (zi_aldI 63 16 (zi_iload 2 (zi_if2 (fun x y => x = y) (xX12_held_26 J5 Q) (xX12_held_41 J5 Q)))))))) ls st h
theorem kX12_held_14 {X : zq_X} {d : Nat} (C : zq_C X cX12_held 5 RX12 d) {J5 : zq_P} (j5 : zq_ok X 5 5 J5) {Q : zq_Q} (hq : zq_R X (some .int) 1 Q) : zq_ok X 5 14 (xX12_held_14 J5 Q) := by
  refine zs_iload_n C dX12_held_14 rfl ?_
  refine zs_aload_n C dX12_held_15 rfl ?_
  refine zs_getR C zp_56 zF12 (j := 11) ⟨by decide, rfl⟩ zw_1107 dX12_held_16 ?_
  refine zs_iload C dX12_held_19 ?_
  refine zs_iaload C zp_63 dX12_held_21 ?_
  refine zs_iload_n C dX12_held_22 rfl ?_
  exact zs_icmp_ne C dX12_held_23 (by decide) (kX12_held_41 C j5 hq) (kX12_held_26 C j5 hq)
def xX12_held_5 (J5 : zq_P) (Q : zq_Q) (ls : zq_L) (st : List Value) (h : zq_H) : Prop := (zi_iload 4 (zi_aload 0 (zi_getI 56 3 (zi_if2 (fun x y => y ≤ x) (xX12_held_50 J5 Q) (xX12_held_14 J5 Q))))) ls st h
theorem kX12_held_5 {X : zq_X} {d : Nat} (C : zq_C X cX12_held 5 RX12 d) {J5 : zq_P} (j5 : zq_ok X 5 5 J5) {Q : zq_Q} (hq : zq_R X (some .int) 1 Q) : zq_ok X 5 5 (xX12_held_5 J5 Q) := by
  refine zs_iload C dX12_held_5 ?_
  refine zs_aload_n C dX12_held_7 rfl ?_
  refine zs_getI C zp_56 zF12 (j := 3) ⟨by decide, rfl⟩ zw_1099 dX12_held_8 ?_
  exact zs_icmp_ge C dX12_held_11 (by decide) (kX12_held_50 C j5 hq) (kX12_held_14 C j5 hq)
def xX12_held_0 (J5 : zq_P) (Q : zq_Q) (ls : zq_L) (st : List Value) (h : zq_H) : Prop := (zi_push (.int 0) (zi_istore 3 (zi_push (.int 0) (zi_istore 4 (J5))))) ls st h
theorem kX12_held_0 {X : zq_X} {d : Nat} (C : zq_C X cX12_held 5 RX12 d) {J5 : zq_P} (j5 : zq_ok X 5 5 J5) {Q : zq_Q} (hq : zq_R X (some .int) 1 Q) : zq_ok X 5 0 (xX12_held_0 J5 Q) := by
  refine zs_iconst C dX12_held_0 (by decide) ?_
  refine zs_istore_n C dX12_held_1 rfl (by decide) ?_
  refine zs_iconst C dX12_held_2 (by decide) ?_
  refine zs_istore C dX12_held_3 (by decide) ?_
  exact j5
theorem mX12_held {d : Nat} {spec : zq_Sp} {σ5 : Type} (μ5 : σ5 → Nat) (I5 : zq_Q → σ5 → zq_P) (v : ∀ args h Q, spec args h Q → (zq_a args).length ≤ 5 ∧ xX12_held_0 (fun ls st h => ∃ b, I5 Q b ls st h) Q (zq_l0 5 args) [] h) (v5 : ∀ Q a ls st h, I5 Q a ls st h → xX12_held_5 (fun ls st h => ∃ b, μ5 b < μ5 a ∧ I5 Q b ls st h) Q ls st h) : zq_M yX12_held cX12_held 5 (some .int) 1 d spec := by
  refine zq_met (by decide +kernel) (by decide) (fun X Q args h C hq hs => ⟨(v args h Q hs).1, _, ?_, (v args h Q hs).2⟩)
  have hl := zq_loop1 (X := X) (nL := 5) (pc1 := 5) μ5 (I5 Q) (fun J5 => xX12_held_5 J5 Q) (fun j5 => kX12_held_5 C j5 hq) (v5 Q)
  exact kX12_held_0 C hl hq
/-! ToOneCrumbModel.isDue(IJI)Z -/
theorem dX12_isDue_0 : decode cX12_isDue 0 = .ok (.lload_n 2, 1) := by decide +kernel
theorem dX12_isDue_1 : decode cX12_isDue 1 = .ok (.aload_n 0, 1) := by decide +kernel
theorem dX12_isDue_2 : decode cX12_isDue 2 = .ok (.invokevirtual 265, 3) := by decide +kernel
theorem dX12_isDue_5 : decode cX12_isDue 5 = .ok (.i2l, 1) := by decide +kernel
theorem dX12_isDue_6 : decode cX12_isDue 6 = .ok (.lmul, 1) := by decide +kernel
theorem dX12_isDue_7 : decode cX12_isDue 7 = .ok (.ldc2_w 306, 3) := by decide +kernel
theorem dX12_isDue_10 : decode cX12_isDue 10 = .ok (.lmul, 1) := by decide +kernel
theorem dX12_isDue_11 : decode cX12_isDue 11 = .ok (.aload_n 0, 1) := by decide +kernel
theorem dX12_isDue_12 : decode cX12_isDue 12 = .ok (.getfield 27, 3) := by decide +kernel
theorem dX12_isDue_15 : decode cX12_isDue 15 = .ok (.iload_n 1, 1) := by decide +kernel
theorem dX12_isDue_16 : decode cX12_isDue 16 = .ok (.iaload, 1) := by decide +kernel
theorem dX12_isDue_17 : decode cX12_isDue 17 = .ok (.i2l, 1) := by decide +kernel
theorem dX12_isDue_18 : decode cX12_isDue 18 = .ok (.aload_n 0, 1) := by decide +kernel
theorem dX12_isDue_19 : decode cX12_isDue 19 = .ok (.getfield 66, 3) := by decide +kernel
theorem dX12_isDue_22 : decode cX12_isDue 22 = .ok (.iload_n 1, 1) := by decide +kernel
theorem dX12_isDue_23 : decode cX12_isDue 23 = .ok (.iaload, 1) := by decide +kernel
theorem dX12_isDue_24 : decode cX12_isDue 24 = .ok (.i2l, 1) := by decide +kernel
theorem dX12_isDue_25 : decode cX12_isDue 25 = .ok (.lmul, 1) := by decide +kernel
theorem dX12_isDue_26 : decode cX12_isDue 26 = .ok (.iload 4, 2) := by decide +kernel
theorem dX12_isDue_28 : decode cX12_isDue 28 = .ok (.i2l, 1) := by decide +kernel
theorem dX12_isDue_29 : decode cX12_isDue 29 = .ok (.lmul, 1) := by decide +kernel
theorem dX12_isDue_30 : decode cX12_isDue 30 = .ok (.lcmp, 1) := by decide +kernel
theorem dX12_isDue_31 : decode cX12_isDue 31 = .ok (.ifCond .lt 7, 3) := by decide +kernel
theorem dX12_isDue_34 : decode cX12_isDue 34 = .ok (.iconst 1, 1) := by decide +kernel
theorem dX12_isDue_35 : decode cX12_isDue 35 = .ok (.goto 4, 3) := by decide +kernel
theorem dX12_isDue_38 : decode cX12_isDue 38 = .ok (.iconst 0, 1) := by decide +kernel
theorem dX12_isDue_39 : decode cX12_isDue 39 = .ok (.ireturn, 1) := by decide +kernel
def xX12_isDue_39 (s_X12_allDeserts : zq_Sp) (Q : zq_Q) (ls : zq_L) (st : List Value) (h : zq_H) : Prop := (zi_zret Q) ls st h
theorem kX12_isDue_39 {X : zq_X} {d : Nat} (C : zq_C X cX12_isDue 5 RX12 d) {d_X12_allDeserts : Nat} {s_X12_allDeserts : zq_Sp} (h_X12_allDeserts : zq_M yX12_allDeserts cX12_allDeserts 3 (some .int) 1 d_X12_allDeserts s_X12_allDeserts) (g_X12_allDeserts : d_X12_allDeserts + 1 ≤ d) {Q : zq_Q} (hq : zq_R X (some .boolean) 1 Q) : zq_ok X 5 39 (xX12_isDue_39 s_X12_allDeserts Q) := by
  exact zs_zret C hq dX12_isDue_39
def xX12_isDue_38 (s_X12_allDeserts : zq_Sp) (Q : zq_Q) (ls : zq_L) (st : List Value) (h : zq_H) : Prop := (zi_push (.int 0) ((xX12_isDue_39 s_X12_allDeserts Q))) ls st h
theorem kX12_isDue_38 {X : zq_X} {d : Nat} (C : zq_C X cX12_isDue 5 RX12 d) {d_X12_allDeserts : Nat} {s_X12_allDeserts : zq_Sp} (h_X12_allDeserts : zq_M yX12_allDeserts cX12_allDeserts 3 (some .int) 1 d_X12_allDeserts s_X12_allDeserts) (g_X12_allDeserts : d_X12_allDeserts + 1 ≤ d) {Q : zq_Q} (hq : zq_R X (some .boolean) 1 Q) : zq_ok X 5 38 (xX12_isDue_38 s_X12_allDeserts Q) := by
  refine zs_iconst C dX12_isDue_38 (by decide) ?_
  exact kX12_isDue_39 C h_X12_allDeserts g_X12_allDeserts hq
def xX12_isDue_34 (s_X12_allDeserts : zq_Sp) (Q : zq_Q) (ls : zq_L) (st : List Value) (h : zq_H) : Prop := (zi_push (.int 1) ((xX12_isDue_39 s_X12_allDeserts Q))) ls st h
theorem kX12_isDue_34 {X : zq_X} {d : Nat} (C : zq_C X cX12_isDue 5 RX12 d) {d_X12_allDeserts : Nat} {s_X12_allDeserts : zq_Sp} (h_X12_allDeserts : zq_M yX12_allDeserts cX12_allDeserts 3 (some .int) 1 d_X12_allDeserts s_X12_allDeserts) (g_X12_allDeserts : d_X12_allDeserts + 1 ≤ d) {Q : zq_Q} (hq : zq_R X (some .boolean) 1 Q) : zq_ok X 5 34 (xX12_isDue_34 s_X12_allDeserts Q) := by
  refine zs_iconst C dX12_isDue_34 (by decide) ?_
  exact zs_goto C dX12_isDue_35 (by decide) (kX12_isDue_39 C h_X12_allDeserts g_X12_allDeserts hq)
def xX12_isDue_0 (s_X12_allDeserts : zq_Sp) (Q : zq_Q) (ls : zq_L) (st : List Value) (h : zq_H) : Prop := (zi_lload 2 (zi_aload 0 (zi_callV 0 56 s_X12_allDeserts (zi_i2l (zi_l2 (fun x y => x * y) (zi_push (.long 100) (zi_l2 (fun x y => x * y) (zi_aload 0 (zi_getR 56 62 (zi_iload 1 (zi_aldI 62 6 (zi_i2l (zi_aload 0 (zi_getR 56 75 (zi_iload 1 (zi_aldI 75 6 (zi_i2l (zi_l2 (fun x y => x * y) (zi_iload 4 (zi_i2l (zi_l2 (fun x y => x * y) (zi_lcmp (zi_if1 (fun x => x < 0) (xX12_isDue_38 s_X12_allDeserts Q) (xX12_isDue_34 s_X12_allDeserts Q)))))))))))))))))))))))) ls st h
theorem kX12_isDue_0 {X : zq_X} {d : Nat} (C : zq_C X cX12_isDue 5 RX12 d) {d_X12_allDeserts : Nat} {s_X12_allDeserts : zq_Sp} (h_X12_allDeserts : zq_M yX12_allDeserts cX12_allDeserts 3 (some .int) 1 d_X12_allDeserts s_X12_allDeserts) (g_X12_allDeserts : d_X12_allDeserts + 1 ≤ d) {Q : zq_Q} (hq : zq_R X (some .boolean) 1 Q) : zq_ok X 5 0 (xX12_isDue_0 s_X12_allDeserts Q) := by
  refine zs_lload_n C dX12_isDue_0 rfl ?_
  refine zs_aload_n C dX12_isDue_1 rfl ?_
  refine zs_callV C h_X12_allDeserts g_X12_allDeserts zy_X12_allDeserts zp_56 (show vwCl[12]? = some (RX12, TX12, 67) from rfl) zw_1425 zw_1427 zs9_X12_allDeserts dX12_isDue_2 ?_
  refine zs_i2l C dX12_isDue_5 ?_
  refine zs_lmul C dX12_isDue_6 ?_
  refine zs_ldc2 C dX12_isDue_7 zw_1502 ?_
  refine zs_lmul C dX12_isDue_10 ?_
  refine zs_aload_n C dX12_isDue_11 rfl ?_
  refine zs_getR C zp_56 zF12 (j := 10) ⟨by decide, rfl⟩ zw_1106 dX12_isDue_12 ?_
  refine zs_iload_n C dX12_isDue_15 rfl ?_
  refine zs_iaload C zp_62 dX12_isDue_16 ?_
  refine zs_i2l C dX12_isDue_17 ?_
  refine zs_aload_n C dX12_isDue_18 rfl ?_
  refine zs_getR C zp_56 zF12 (j := 30) ⟨by decide, rfl⟩ zw_1126 dX12_isDue_19 ?_
  refine zs_iload_n C dX12_isDue_22 rfl ?_
  refine zs_iaload C zp_75 dX12_isDue_23 ?_
  refine zs_i2l C dX12_isDue_24 ?_
  refine zs_lmul C dX12_isDue_25 ?_
  refine zs_iload C dX12_isDue_26 ?_
  refine zs_i2l C dX12_isDue_28 ?_
  refine zs_lmul C dX12_isDue_29 ?_
  refine zs_lcmp C dX12_isDue_30 ?_
  exact zs_if_lt C dX12_isDue_31 (by decide) (kX12_isDue_38 C h_X12_allDeserts g_X12_allDeserts hq) (kX12_isDue_34 C h_X12_allDeserts g_X12_allDeserts hq)
theorem mX12_isDue {d : Nat} {spec : zq_Sp} {d_X12_allDeserts : Nat} {s_X12_allDeserts : zq_Sp} (h_X12_allDeserts : zq_M yX12_allDeserts cX12_allDeserts 3 (some .int) 1 d_X12_allDeserts s_X12_allDeserts) (g_X12_allDeserts : d_X12_allDeserts + 1 ≤ d) (v : ∀ args h Q, spec args h Q → (zq_a args).length ≤ 5 ∧ xX12_isDue_0 s_X12_allDeserts Q (zq_l0 5 args) [] h) : zq_M yX12_isDue cX12_isDue 5 (some .boolean) 1 d spec := by
  refine zq_met (by decide +kernel) (by decide) (fun X Q args h C hq hs => ⟨(v args h Q hs).1, _, ?_, (v args h Q hs).2⟩)
  exact kX12_isDue_0 C h_X12_allDeserts g_X12_allDeserts hq
/-! ToOneCrumbModel.holds(I)I -/
theorem dX12_holds_0 : decode cX12_holds 0 = .ok (.iconst 0, 1) := by decide +kernel
theorem dX12_holds_1 : decode cX12_holds 1 = .ok (.istore_n 2, 1) := by decide +kernel
theorem dX12_holds_2 : decode cX12_holds 2 = .ok (.iconst 0, 1) := by decide +kernel
theorem dX12_holds_3 : decode cX12_holds 3 = .ok (.istore_n 3, 1) := by decide +kernel
theorem dX12_holds_4 : decode cX12_holds 4 = .ok (.iload_n 3, 1) := by decide +kernel
theorem dX12_holds_5 : decode cX12_holds 5 = .ok (.aload_n 0, 1) := by decide +kernel
theorem dX12_holds_6 : decode cX12_holds 6 = .ok (.getfield 158, 3) := by decide +kernel
theorem dX12_holds_9 : decode cX12_holds 9 = .ok (.if_icmp .ge 30, 3) := by decide +kernel
theorem dX12_holds_12 : decode cX12_holds 12 = .ok (.iload_n 2, 1) := by decide +kernel
theorem dX12_holds_13 : decode cX12_holds 13 = .ok (.aload_n 0, 1) := by decide +kernel
theorem dX12_holds_14 : decode cX12_holds 14 = .ok (.getfield 30, 3) := by decide +kernel
theorem dX12_holds_17 : decode cX12_holds 17 = .ok (.iload_n 3, 1) := by decide +kernel
theorem dX12_holds_18 : decode cX12_holds 18 = .ok (.iaload, 1) := by decide +kernel
theorem dX12_holds_19 : decode cX12_holds 19 = .ok (.iload_n 1, 1) := by decide +kernel
theorem dX12_holds_20 : decode cX12_holds 20 = .ok (.if_icmp .ne 7, 3) := by decide +kernel
theorem dX12_holds_23 : decode cX12_holds 23 = .ok (.iconst 1, 1) := by decide +kernel
theorem dX12_holds_24 : decode cX12_holds 24 = .ok (.goto 4, 3) := by decide +kernel
theorem dX12_holds_27 : decode cX12_holds 27 = .ok (.iconst 0, 1) := by decide +kernel
theorem dX12_holds_28 : decode cX12_holds 28 = .ok (.invokestatic 190, 3) := by decide +kernel
theorem dX12_holds_31 : decode cX12_holds 31 = .ok (.iadd, 1) := by decide +kernel
theorem dX12_holds_32 : decode cX12_holds 32 = .ok (.istore_n 2, 1) := by decide +kernel
theorem dX12_holds_33 : decode cX12_holds 33 = .ok (.iinc 3 1, 3) := by decide +kernel
theorem dX12_holds_36 : decode cX12_holds 36 = .ok (.goto (-32), 3) := by decide +kernel
theorem dX12_holds_39 : decode cX12_holds 39 = .ok (.iload_n 2, 1) := by decide +kernel
theorem dX12_holds_40 : decode cX12_holds 40 = .ok (.ireturn, 1) := by decide +kernel
def xX12_holds_39 (s_X12_flag : zq_Sp) (J4 : zq_P) (Q : zq_Q) (ls : zq_L) (st : List Value) (h : zq_H) : Prop := (zi_iload 2 (zi_iret Q)) ls st h
theorem kX12_holds_39 {X : zq_X} {d : Nat} (C : zq_C X cX12_holds 4 RX12 d) {d_X12_flag : Nat} {s_X12_flag : zq_Sp} (h_X12_flag : zq_M yX12_flag cX12_flag 1 (some .int) 1 d_X12_flag s_X12_flag) (g_X12_flag : d_X12_flag + 1 ≤ d) {J4 : zq_P} (j4 : zq_ok X 4 4 J4) {Q : zq_Q} (hq : zq_R X (some .int) 1 Q) : zq_ok X 4 39 (xX12_holds_39 s_X12_flag J4 Q) := by
  refine zs_iload_n C dX12_holds_39 rfl ?_
  exact zs_iret C hq dX12_holds_40
def xX12_holds_28 (s_X12_flag : zq_Sp) (J4 : zq_P) (Q : zq_Q) (ls : zq_L) (st : List Value) (h : zq_H) : Prop := (zi_callS 1 s_X12_flag (zi_i2 (fun x y => x + y) (zi_istore 2 (zi_iinc 3 1 (J4))))) ls st h
theorem kX12_holds_28 {X : zq_X} {d : Nat} (C : zq_C X cX12_holds 4 RX12 d) {d_X12_flag : Nat} {s_X12_flag : zq_Sp} (h_X12_flag : zq_M yX12_flag cX12_flag 1 (some .int) 1 d_X12_flag s_X12_flag) (g_X12_flag : d_X12_flag + 1 ≤ d) {J4 : zq_P} (j4 : zq_ok X 4 4 J4) {Q : zq_Q} (hq : zq_R X (some .int) 1 Q) : zq_ok X 4 28 (xX12_holds_28 s_X12_flag J4 Q) := by
  refine zs_callS C h_X12_flag g_X12_flag zy_X12_flag zw_1380 zw_1381 dX12_holds_28 ?_
  refine zs_iadd C dX12_holds_31 ?_
  refine zs_istore_n C dX12_holds_32 rfl (by decide) ?_
  refine zs_iinc C dX12_holds_33 (by decide) (by decide) ?_
  exact zs_goto C dX12_holds_36 (by decide) (j4)
def xX12_holds_27 (s_X12_flag : zq_Sp) (J4 : zq_P) (Q : zq_Q) (ls : zq_L) (st : List Value) (h : zq_H) : Prop := (zi_push (.int 0) ((xX12_holds_28 s_X12_flag J4 Q))) ls st h
theorem kX12_holds_27 {X : zq_X} {d : Nat} (C : zq_C X cX12_holds 4 RX12 d) {d_X12_flag : Nat} {s_X12_flag : zq_Sp} (h_X12_flag : zq_M yX12_flag cX12_flag 1 (some .int) 1 d_X12_flag s_X12_flag) (g_X12_flag : d_X12_flag + 1 ≤ d) {J4 : zq_P} (j4 : zq_ok X 4 4 J4) {Q : zq_Q} (hq : zq_R X (some .int) 1 Q) : zq_ok X 4 27 (xX12_holds_27 s_X12_flag J4 Q) := by
  refine zs_iconst C dX12_holds_27 (by decide) ?_
  exact kX12_holds_28 C h_X12_flag g_X12_flag j4 hq
def xX12_holds_23 (s_X12_flag : zq_Sp) (J4 : zq_P) (Q : zq_Q) (ls : zq_L) (st : List Value) (h : zq_H) : Prop := (zi_push (.int 1) ((xX12_holds_28 s_X12_flag J4 Q))) ls st h
theorem kX12_holds_23 {X : zq_X} {d : Nat} (C : zq_C X cX12_holds 4 RX12 d) {d_X12_flag : Nat} {s_X12_flag : zq_Sp} (h_X12_flag : zq_M yX12_flag cX12_flag 1 (some .int) 1 d_X12_flag s_X12_flag) (g_X12_flag : d_X12_flag + 1 ≤ d) {J4 : zq_P} (j4 : zq_ok X 4 4 J4) {Q : zq_Q} (hq : zq_R X (some .int) 1 Q) : zq_ok X 4 23 (xX12_holds_23 s_X12_flag J4 Q) := by
  refine zs_iconst C dX12_holds_23 (by decide) ?_
  exact zs_goto C dX12_holds_24 (by decide) (kX12_holds_28 C h_X12_flag g_X12_flag j4 hq)
def xX12_holds_12 (s_X12_flag : zq_Sp) (J4 : zq_P) (Q : zq_Q) (ls : zq_L) (st : List Value) (h : zq_H) : Prop := (zi_iload 2 (zi_aload 0 (zi_getR 56 63 (zi_iload 3 (zi_aldI 63 16 (zi_iload 1 (zi_if2 (fun x y => x = y) (xX12_holds_23 s_X12_flag J4 Q) (xX12_holds_27 s_X12_flag J4 Q)))))))) ls st h
theorem kX12_holds_12 {X : zq_X} {d : Nat} (C : zq_C X cX12_holds 4 RX12 d) {d_X12_flag : Nat} {s_X12_flag : zq_Sp} (h_X12_flag : zq_M yX12_flag cX12_flag 1 (some .int) 1 d_X12_flag s_X12_flag) (g_X12_flag : d_X12_flag + 1 ≤ d) {J4 : zq_P} (j4 : zq_ok X 4 4 J4) {Q : zq_Q} (hq : zq_R X (some .int) 1 Q) : zq_ok X 4 12 (xX12_holds_12 s_X12_flag J4 Q) := by
  refine zs_iload_n C dX12_holds_12 rfl ?_
  refine zs_aload_n C dX12_holds_13 rfl ?_
  refine zs_getR C zp_56 zF12 (j := 11) ⟨by decide, rfl⟩ zw_1107 dX12_holds_14 ?_
  refine zs_iload_n C dX12_holds_17 rfl ?_
  refine zs_iaload C zp_63 dX12_holds_18 ?_
  refine zs_iload_n C dX12_holds_19 rfl ?_
  exact zs_icmp_ne C dX12_holds_20 (by decide) (kX12_holds_27 C h_X12_flag g_X12_flag j4 hq) (kX12_holds_23 C h_X12_flag g_X12_flag j4 hq)
def xX12_holds_4 (s_X12_flag : zq_Sp) (J4 : zq_P) (Q : zq_Q) (ls : zq_L) (st : List Value) (h : zq_H) : Prop := (zi_iload 3 (zi_aload 0 (zi_getI 56 3 (zi_if2 (fun x y => y ≤ x) (xX12_holds_39 s_X12_flag J4 Q) (xX12_holds_12 s_X12_flag J4 Q))))) ls st h
theorem kX12_holds_4 {X : zq_X} {d : Nat} (C : zq_C X cX12_holds 4 RX12 d) {d_X12_flag : Nat} {s_X12_flag : zq_Sp} (h_X12_flag : zq_M yX12_flag cX12_flag 1 (some .int) 1 d_X12_flag s_X12_flag) (g_X12_flag : d_X12_flag + 1 ≤ d) {J4 : zq_P} (j4 : zq_ok X 4 4 J4) {Q : zq_Q} (hq : zq_R X (some .int) 1 Q) : zq_ok X 4 4 (xX12_holds_4 s_X12_flag J4 Q) := by
  refine zs_iload_n C dX12_holds_4 rfl ?_
  refine zs_aload_n C dX12_holds_5 rfl ?_
  refine zs_getI C zp_56 zF12 (j := 3) ⟨by decide, rfl⟩ zw_1099 dX12_holds_6 ?_
  exact zs_icmp_ge C dX12_holds_9 (by decide) (kX12_holds_39 C h_X12_flag g_X12_flag j4 hq) (kX12_holds_12 C h_X12_flag g_X12_flag j4 hq)
def xX12_holds_0 (s_X12_flag : zq_Sp) (J4 : zq_P) (Q : zq_Q) (ls : zq_L) (st : List Value) (h : zq_H) : Prop := (zi_push (.int 0) (zi_istore 2 (zi_push (.int 0) (zi_istore 3 (J4))))) ls st h
theorem kX12_holds_0 {X : zq_X} {d : Nat} (C : zq_C X cX12_holds 4 RX12 d) {d_X12_flag : Nat} {s_X12_flag : zq_Sp} (h_X12_flag : zq_M yX12_flag cX12_flag 1 (some .int) 1 d_X12_flag s_X12_flag) (g_X12_flag : d_X12_flag + 1 ≤ d) {J4 : zq_P} (j4 : zq_ok X 4 4 J4) {Q : zq_Q} (hq : zq_R X (some .int) 1 Q) : zq_ok X 4 0 (xX12_holds_0 s_X12_flag J4 Q) := by
  refine zs_iconst C dX12_holds_0 (by decide) ?_
  refine zs_istore_n C dX12_holds_1 rfl (by decide) ?_
  refine zs_iconst C dX12_holds_2 (by decide) ?_
  refine zs_istore_n C dX12_holds_3 rfl (by decide) ?_
  exact j4
theorem mX12_holds {d : Nat} {spec : zq_Sp} {σ4 : Type} {d_X12_flag : Nat} {s_X12_flag : zq_Sp} (h_X12_flag : zq_M yX12_flag cX12_flag 1 (some .int) 1 d_X12_flag s_X12_flag) (g_X12_flag : d_X12_flag + 1 ≤ d) (μ4 : σ4 → Nat) (I4 : zq_Q → σ4 → zq_P) (v : ∀ args h Q, spec args h Q → (zq_a args).length ≤ 4 ∧ xX12_holds_0 s_X12_flag (fun ls st h => ∃ b, I4 Q b ls st h) Q (zq_l0 4 args) [] h) (v4 : ∀ Q a ls st h, I4 Q a ls st h → xX12_holds_4 s_X12_flag (fun ls st h => ∃ b, μ4 b < μ4 a ∧ I4 Q b ls st h) Q ls st h) : zq_M yX12_holds cX12_holds 4 (some .int) 1 d spec := by
  refine zq_met (by decide +kernel) (by decide) (fun X Q args h C hq hs => ⟨(v args h Q hs).1, _, ?_, (v args h Q hs).2⟩)
  have hl := zq_loop1 (X := X) (nL := 4) (pc1 := 4) μ4 (I4 Q) (fun J4 => xX12_holds_4 s_X12_flag J4 Q) (fun j4 => kX12_holds_4 C h_X12_flag g_X12_flag j4 hq) (v4 Q)
  exact kX12_holds_0 C h_X12_flag g_X12_flag hl hq
/-! ToOneCrumbModel.cell(II)I -/
theorem dX12_cell_0 : decode cX12_cell 0 = .ok (.aload_n 0, 1) := by decide +kernel
theorem dX12_cell_1 : decode cX12_cell 1 = .ok (.iconst 0, 1) := by decide +kernel
theorem dX12_cell_2 : decode cX12_cell 2 = .ok (.putfield 147, 3) := by decide +kernel
theorem dX12_cell_5 : decode cX12_cell 5 = .ok (.aload_n 0, 1) := by decide +kernel
theorem dX12_cell_6 : decode cX12_cell 6 = .ok (.iload_n 1, 1) := by decide +kernel
theorem dX12_cell_7 : decode cX12_cell 7 = .ok (.invokevirtual 168, 3) := by decide +kernel
theorem dX12_cell_10 : decode cX12_cell 10 = .ok (.ifCond .eq 15, 3) := by decide +kernel
theorem dX12_cell_13 : decode cX12_cell 13 = .ok (.iload_n 2, 1) := by decide +kernel
theorem dX12_cell_14 : decode cX12_cell 14 = .ok (.i2l, 1) := by decide +kernel
theorem dX12_cell_15 : decode cX12_cell 15 = .ok (.lconst 0, 1) := by decide +kernel
theorem dX12_cell_16 : decode cX12_cell 16 = .ok (.ldc2_w 308, 3) := by decide +kernel
theorem dX12_cell_19 : decode cX12_cell 19 = .ok (.invokestatic 161, 3) := by decide +kernel
theorem dX12_cell_22 : decode cX12_cell 22 = .ok (.ifCond .ne 8, 3) := by decide +kernel
theorem dX12_cell_25 : decode cX12_cell 25 = .ok (.aload_n 0, 1) := by decide +kernel
theorem dX12_cell_26 : decode cX12_cell 26 = .ok (.invokevirtual 310, 3) := by decide +kernel
theorem dX12_cell_29 : decode cX12_cell 29 = .ok (.ireturn, 1) := by decide +kernel
theorem dX12_cell_30 : decode cX12_cell 30 = .ok (.iload_n 2, 1) := by decide +kernel
theorem dX12_cell_31 : decode cX12_cell 31 = .ok (.ifCond .ne 12, 3) := by decide +kernel
theorem dX12_cell_34 : decode cX12_cell 34 = .ok (.aload_n 0, 1) := by decide +kernel
theorem dX12_cell_35 : decode cX12_cell 35 = .ok (.getfield 13, 3) := by decide +kernel
theorem dX12_cell_38 : decode cX12_cell 38 = .ok (.iload_n 1, 1) := by decide +kernel
theorem dX12_cell_39 : decode cX12_cell 39 = .ok (.iaload, 1) := by decide +kernel
theorem dX12_cell_40 : decode cX12_cell 40 = .ok (.goto 40, 3) := by decide +kernel
theorem dX12_cell_43 : decode cX12_cell 43 = .ok (.iload_n 2, 1) := by decide +kernel
theorem dX12_cell_44 : decode cX12_cell 44 = .ok (.iconst 1, 1) := by decide +kernel
theorem dX12_cell_45 : decode cX12_cell 45 = .ok (.if_icmp .ne 12, 3) := by decide +kernel
theorem dX12_cell_48 : decode cX12_cell 48 = .ok (.aload_n 0, 1) := by decide +kernel
theorem dX12_cell_49 : decode cX12_cell 49 = .ok (.getfield 17, 3) := by decide +kernel
theorem dX12_cell_52 : decode cX12_cell 52 = .ok (.iload_n 1, 1) := by decide +kernel
theorem dX12_cell_53 : decode cX12_cell 53 = .ok (.iaload, 1) := by decide +kernel
theorem dX12_cell_54 : decode cX12_cell 54 = .ok (.goto 26, 3) := by decide +kernel
theorem dX12_cell_57 : decode cX12_cell 57 = .ok (.iload_n 2, 1) := by decide +kernel
theorem dX12_cell_58 : decode cX12_cell 58 = .ok (.iconst 2, 1) := by decide +kernel
theorem dX12_cell_59 : decode cX12_cell 59 = .ok (.if_icmp .ne 15, 3) := by decide +kernel
theorem dX12_cell_62 : decode cX12_cell 62 = .ok (.aload_n 0, 1) := by decide +kernel
theorem dX12_cell_63 : decode cX12_cell 63 = .ok (.getfield 20, 3) := by decide +kernel
theorem dX12_cell_66 : decode cX12_cell 66 = .ok (.iload_n 1, 1) := by decide +kernel
theorem dX12_cell_67 : decode cX12_cell 67 = .ok (.baload, 1) := by decide +kernel
theorem dX12_cell_68 : decode cX12_cell 68 = .ok (.invokestatic 190, 3) := by decide +kernel
theorem dX12_cell_71 : decode cX12_cell 71 = .ok (.goto 9, 3) := by decide +kernel
theorem dX12_cell_74 : decode cX12_cell 74 = .ok (.aload_n 0, 1) := by decide +kernel
theorem dX12_cell_75 : decode cX12_cell 75 = .ok (.getfield 30, 3) := by decide +kernel
theorem dX12_cell_78 : decode cX12_cell 78 = .ok (.iload_n 1, 1) := by decide +kernel
theorem dX12_cell_79 : decode cX12_cell 79 = .ok (.iaload, 1) := by decide +kernel
theorem dX12_cell_80 : decode cX12_cell 80 = .ok (.ireturn, 1) := by decide +kernel
def xX12_cell_80 (s_X12_isCell : zq_Sp) (s_X12_in : zq_Sp) (s_X12_refuse : zq_Sp) (s_X12_flag : zq_Sp) (Q : zq_Q) (ls : zq_L) (st : List Value) (h : zq_H) : Prop := (zi_iret Q) ls st h
theorem kX12_cell_80 {X : zq_X} {d : Nat} (C : zq_C X cX12_cell 3 RX12 d) {d_X12_isCell : Nat} {s_X12_isCell : zq_Sp} (h_X12_isCell : zq_M yX12_isCell cX12_isCell 2 (some .boolean) 1 d_X12_isCell s_X12_isCell) (g_X12_isCell : d_X12_isCell + 1 ≤ d) {d_X12_in : Nat} {s_X12_in : zq_Sp} (h_X12_in : zq_M yX12_in cX12_in 6 (some .boolean) 1 d_X12_in s_X12_in) (g_X12_in : d_X12_in + 1 ≤ d) {d_X12_refuse : Nat} {s_X12_refuse : zq_Sp} (h_X12_refuse : zq_M yX12_refuse cX12_refuse 1 (some .int) 1 d_X12_refuse s_X12_refuse) (g_X12_refuse : d_X12_refuse + 1 ≤ d) {d_X12_flag : Nat} {s_X12_flag : zq_Sp} (h_X12_flag : zq_M yX12_flag cX12_flag 1 (some .int) 1 d_X12_flag s_X12_flag) (g_X12_flag : d_X12_flag + 1 ≤ d) {Q : zq_Q} (hq : zq_R X (some .int) 1 Q) : zq_ok X 3 80 (xX12_cell_80 s_X12_isCell s_X12_in s_X12_refuse s_X12_flag Q) := by
  exact zs_iret C hq dX12_cell_80
def xX12_cell_74 (s_X12_isCell : zq_Sp) (s_X12_in : zq_Sp) (s_X12_refuse : zq_Sp) (s_X12_flag : zq_Sp) (Q : zq_Q) (ls : zq_L) (st : List Value) (h : zq_H) : Prop := (zi_aload 0 (zi_getR 56 63 (zi_iload 1 (zi_aldI 63 16 ((xX12_cell_80 s_X12_isCell s_X12_in s_X12_refuse s_X12_flag Q)))))) ls st h
theorem kX12_cell_74 {X : zq_X} {d : Nat} (C : zq_C X cX12_cell 3 RX12 d) {d_X12_isCell : Nat} {s_X12_isCell : zq_Sp} (h_X12_isCell : zq_M yX12_isCell cX12_isCell 2 (some .boolean) 1 d_X12_isCell s_X12_isCell) (g_X12_isCell : d_X12_isCell + 1 ≤ d) {d_X12_in : Nat} {s_X12_in : zq_Sp} (h_X12_in : zq_M yX12_in cX12_in 6 (some .boolean) 1 d_X12_in s_X12_in) (g_X12_in : d_X12_in + 1 ≤ d) {d_X12_refuse : Nat} {s_X12_refuse : zq_Sp} (h_X12_refuse : zq_M yX12_refuse cX12_refuse 1 (some .int) 1 d_X12_refuse s_X12_refuse) (g_X12_refuse : d_X12_refuse + 1 ≤ d) {d_X12_flag : Nat} {s_X12_flag : zq_Sp} (h_X12_flag : zq_M yX12_flag cX12_flag 1 (some .int) 1 d_X12_flag s_X12_flag) (g_X12_flag : d_X12_flag + 1 ≤ d) {Q : zq_Q} (hq : zq_R X (some .int) 1 Q) : zq_ok X 3 74 (xX12_cell_74 s_X12_isCell s_X12_in s_X12_refuse s_X12_flag Q) := by
  refine zs_aload_n C dX12_cell_74 rfl ?_
  refine zs_getR C zp_56 zF12 (j := 11) ⟨by decide, rfl⟩ zw_1107 dX12_cell_75 ?_
  refine zs_iload_n C dX12_cell_78 rfl ?_
  refine zs_iaload C zp_63 dX12_cell_79 ?_
  exact kX12_cell_80 C h_X12_isCell g_X12_isCell h_X12_in g_X12_in h_X12_refuse g_X12_refuse h_X12_flag g_X12_flag hq
def xX12_cell_62 (s_X12_isCell : zq_Sp) (s_X12_in : zq_Sp) (s_X12_refuse : zq_Sp) (s_X12_flag : zq_Sp) (Q : zq_Q) (ls : zq_L) (st : List Value) (h : zq_H) : Prop := (zi_aload 0 (zi_getR 56 60 (zi_iload 1 (zi_aldI 60 16 (zi_callS 1 s_X12_flag ((xX12_cell_80 s_X12_isCell s_X12_in s_X12_refuse s_X12_flag Q))))))) ls st h
theorem kX12_cell_62 {X : zq_X} {d : Nat} (C : zq_C X cX12_cell 3 RX12 d) {d_X12_isCell : Nat} {s_X12_isCell : zq_Sp} (h_X12_isCell : zq_M yX12_isCell cX12_isCell 2 (some .boolean) 1 d_X12_isCell s_X12_isCell) (g_X12_isCell : d_X12_isCell + 1 ≤ d) {d_X12_in : Nat} {s_X12_in : zq_Sp} (h_X12_in : zq_M yX12_in cX12_in 6 (some .boolean) 1 d_X12_in s_X12_in) (g_X12_in : d_X12_in + 1 ≤ d) {d_X12_refuse : Nat} {s_X12_refuse : zq_Sp} (h_X12_refuse : zq_M yX12_refuse cX12_refuse 1 (some .int) 1 d_X12_refuse s_X12_refuse) (g_X12_refuse : d_X12_refuse + 1 ≤ d) {d_X12_flag : Nat} {s_X12_flag : zq_Sp} (h_X12_flag : zq_M yX12_flag cX12_flag 1 (some .int) 1 d_X12_flag s_X12_flag) (g_X12_flag : d_X12_flag + 1 ≤ d) {Q : zq_Q} (hq : zq_R X (some .int) 1 Q) : zq_ok X 3 62 (xX12_cell_62 s_X12_isCell s_X12_in s_X12_refuse s_X12_flag Q) := by
  refine zs_aload_n C dX12_cell_62 rfl ?_
  refine zs_getR C zp_56 zF12 (j := 8) ⟨by decide, rfl⟩ zw_1104 dX12_cell_63 ?_
  refine zs_iload_n C dX12_cell_66 rfl ?_
  refine zs_baload C zp_60 dX12_cell_67 ?_
  refine zs_callS C h_X12_flag g_X12_flag zy_X12_flag zw_1380 zw_1381 dX12_cell_68 ?_
  exact zs_goto C dX12_cell_71 (by decide) (kX12_cell_80 C h_X12_isCell g_X12_isCell h_X12_in g_X12_in h_X12_refuse g_X12_refuse h_X12_flag g_X12_flag hq)
def xX12_cell_57 (s_X12_isCell : zq_Sp) (s_X12_in : zq_Sp) (s_X12_refuse : zq_Sp) (s_X12_flag : zq_Sp) (Q : zq_Q) (ls : zq_L) (st : List Value) (h : zq_H) : Prop := (zi_iload 2 (zi_push (.int 2) (zi_if2 (fun x y => x = y) (xX12_cell_62 s_X12_isCell s_X12_in s_X12_refuse s_X12_flag Q) (xX12_cell_74 s_X12_isCell s_X12_in s_X12_refuse s_X12_flag Q)))) ls st h
theorem kX12_cell_57 {X : zq_X} {d : Nat} (C : zq_C X cX12_cell 3 RX12 d) {d_X12_isCell : Nat} {s_X12_isCell : zq_Sp} (h_X12_isCell : zq_M yX12_isCell cX12_isCell 2 (some .boolean) 1 d_X12_isCell s_X12_isCell) (g_X12_isCell : d_X12_isCell + 1 ≤ d) {d_X12_in : Nat} {s_X12_in : zq_Sp} (h_X12_in : zq_M yX12_in cX12_in 6 (some .boolean) 1 d_X12_in s_X12_in) (g_X12_in : d_X12_in + 1 ≤ d) {d_X12_refuse : Nat} {s_X12_refuse : zq_Sp} (h_X12_refuse : zq_M yX12_refuse cX12_refuse 1 (some .int) 1 d_X12_refuse s_X12_refuse) (g_X12_refuse : d_X12_refuse + 1 ≤ d) {d_X12_flag : Nat} {s_X12_flag : zq_Sp} (h_X12_flag : zq_M yX12_flag cX12_flag 1 (some .int) 1 d_X12_flag s_X12_flag) (g_X12_flag : d_X12_flag + 1 ≤ d) {Q : zq_Q} (hq : zq_R X (some .int) 1 Q) : zq_ok X 3 57 (xX12_cell_57 s_X12_isCell s_X12_in s_X12_refuse s_X12_flag Q) := by
  refine zs_iload_n C dX12_cell_57 rfl ?_
  refine zs_iconst C dX12_cell_58 (by decide) ?_
  exact zs_icmp_ne C dX12_cell_59 (by decide) (kX12_cell_74 C h_X12_isCell g_X12_isCell h_X12_in g_X12_in h_X12_refuse g_X12_refuse h_X12_flag g_X12_flag hq) (kX12_cell_62 C h_X12_isCell g_X12_isCell h_X12_in g_X12_in h_X12_refuse g_X12_refuse h_X12_flag g_X12_flag hq)
def xX12_cell_48 (s_X12_isCell : zq_Sp) (s_X12_in : zq_Sp) (s_X12_refuse : zq_Sp) (s_X12_flag : zq_Sp) (Q : zq_Q) (ls : zq_L) (st : List Value) (h : zq_H) : Prop := (zi_aload 0 (zi_getR 56 59 (zi_iload 1 (zi_aldI 59 16 ((xX12_cell_80 s_X12_isCell s_X12_in s_X12_refuse s_X12_flag Q)))))) ls st h
theorem kX12_cell_48 {X : zq_X} {d : Nat} (C : zq_C X cX12_cell 3 RX12 d) {d_X12_isCell : Nat} {s_X12_isCell : zq_Sp} (h_X12_isCell : zq_M yX12_isCell cX12_isCell 2 (some .boolean) 1 d_X12_isCell s_X12_isCell) (g_X12_isCell : d_X12_isCell + 1 ≤ d) {d_X12_in : Nat} {s_X12_in : zq_Sp} (h_X12_in : zq_M yX12_in cX12_in 6 (some .boolean) 1 d_X12_in s_X12_in) (g_X12_in : d_X12_in + 1 ≤ d) {d_X12_refuse : Nat} {s_X12_refuse : zq_Sp} (h_X12_refuse : zq_M yX12_refuse cX12_refuse 1 (some .int) 1 d_X12_refuse s_X12_refuse) (g_X12_refuse : d_X12_refuse + 1 ≤ d) {d_X12_flag : Nat} {s_X12_flag : zq_Sp} (h_X12_flag : zq_M yX12_flag cX12_flag 1 (some .int) 1 d_X12_flag s_X12_flag) (g_X12_flag : d_X12_flag + 1 ≤ d) {Q : zq_Q} (hq : zq_R X (some .int) 1 Q) : zq_ok X 3 48 (xX12_cell_48 s_X12_isCell s_X12_in s_X12_refuse s_X12_flag Q) := by
  refine zs_aload_n C dX12_cell_48 rfl ?_
  refine zs_getR C zp_56 zF12 (j := 7) ⟨by decide, rfl⟩ zw_1103 dX12_cell_49 ?_
  refine zs_iload_n C dX12_cell_52 rfl ?_
  refine zs_iaload C zp_59 dX12_cell_53 ?_
  exact zs_goto C dX12_cell_54 (by decide) (kX12_cell_80 C h_X12_isCell g_X12_isCell h_X12_in g_X12_in h_X12_refuse g_X12_refuse h_X12_flag g_X12_flag hq)
def xX12_cell_43 (s_X12_isCell : zq_Sp) (s_X12_in : zq_Sp) (s_X12_refuse : zq_Sp) (s_X12_flag : zq_Sp) (Q : zq_Q) (ls : zq_L) (st : List Value) (h : zq_H) : Prop := (zi_iload 2 (zi_push (.int 1) (zi_if2 (fun x y => x = y) (xX12_cell_48 s_X12_isCell s_X12_in s_X12_refuse s_X12_flag Q) (xX12_cell_57 s_X12_isCell s_X12_in s_X12_refuse s_X12_flag Q)))) ls st h
theorem kX12_cell_43 {X : zq_X} {d : Nat} (C : zq_C X cX12_cell 3 RX12 d) {d_X12_isCell : Nat} {s_X12_isCell : zq_Sp} (h_X12_isCell : zq_M yX12_isCell cX12_isCell 2 (some .boolean) 1 d_X12_isCell s_X12_isCell) (g_X12_isCell : d_X12_isCell + 1 ≤ d) {d_X12_in : Nat} {s_X12_in : zq_Sp} (h_X12_in : zq_M yX12_in cX12_in 6 (some .boolean) 1 d_X12_in s_X12_in) (g_X12_in : d_X12_in + 1 ≤ d) {d_X12_refuse : Nat} {s_X12_refuse : zq_Sp} (h_X12_refuse : zq_M yX12_refuse cX12_refuse 1 (some .int) 1 d_X12_refuse s_X12_refuse) (g_X12_refuse : d_X12_refuse + 1 ≤ d) {d_X12_flag : Nat} {s_X12_flag : zq_Sp} (h_X12_flag : zq_M yX12_flag cX12_flag 1 (some .int) 1 d_X12_flag s_X12_flag) (g_X12_flag : d_X12_flag + 1 ≤ d) {Q : zq_Q} (hq : zq_R X (some .int) 1 Q) : zq_ok X 3 43 (xX12_cell_43 s_X12_isCell s_X12_in s_X12_refuse s_X12_flag Q) := by
  refine zs_iload_n C dX12_cell_43 rfl ?_
  refine zs_iconst C dX12_cell_44 (by decide) ?_
  exact zs_icmp_ne C dX12_cell_45 (by decide) (kX12_cell_57 C h_X12_isCell g_X12_isCell h_X12_in g_X12_in h_X12_refuse g_X12_refuse h_X12_flag g_X12_flag hq) (kX12_cell_48 C h_X12_isCell g_X12_isCell h_X12_in g_X12_in h_X12_refuse g_X12_refuse h_X12_flag g_X12_flag hq)
def xX12_cell_34 (s_X12_isCell : zq_Sp) (s_X12_in : zq_Sp) (s_X12_refuse : zq_Sp) (s_X12_flag : zq_Sp) (Q : zq_Q) (ls : zq_L) (st : List Value) (h : zq_H) : Prop := (zi_aload 0 (zi_getR 56 58 (zi_iload 1 (zi_aldI 58 16 ((xX12_cell_80 s_X12_isCell s_X12_in s_X12_refuse s_X12_flag Q)))))) ls st h
theorem kX12_cell_34 {X : zq_X} {d : Nat} (C : zq_C X cX12_cell 3 RX12 d) {d_X12_isCell : Nat} {s_X12_isCell : zq_Sp} (h_X12_isCell : zq_M yX12_isCell cX12_isCell 2 (some .boolean) 1 d_X12_isCell s_X12_isCell) (g_X12_isCell : d_X12_isCell + 1 ≤ d) {d_X12_in : Nat} {s_X12_in : zq_Sp} (h_X12_in : zq_M yX12_in cX12_in 6 (some .boolean) 1 d_X12_in s_X12_in) (g_X12_in : d_X12_in + 1 ≤ d) {d_X12_refuse : Nat} {s_X12_refuse : zq_Sp} (h_X12_refuse : zq_M yX12_refuse cX12_refuse 1 (some .int) 1 d_X12_refuse s_X12_refuse) (g_X12_refuse : d_X12_refuse + 1 ≤ d) {d_X12_flag : Nat} {s_X12_flag : zq_Sp} (h_X12_flag : zq_M yX12_flag cX12_flag 1 (some .int) 1 d_X12_flag s_X12_flag) (g_X12_flag : d_X12_flag + 1 ≤ d) {Q : zq_Q} (hq : zq_R X (some .int) 1 Q) : zq_ok X 3 34 (xX12_cell_34 s_X12_isCell s_X12_in s_X12_refuse s_X12_flag Q) := by
  refine zs_aload_n C dX12_cell_34 rfl ?_
  refine zs_getR C zp_56 zF12 (j := 6) ⟨by decide, rfl⟩ zw_1102 dX12_cell_35 ?_
  refine zs_iload_n C dX12_cell_38 rfl ?_
  refine zs_iaload C zp_58 dX12_cell_39 ?_
  exact zs_goto C dX12_cell_40 (by decide) (kX12_cell_80 C h_X12_isCell g_X12_isCell h_X12_in g_X12_in h_X12_refuse g_X12_refuse h_X12_flag g_X12_flag hq)
def xX12_cell_30 (s_X12_isCell : zq_Sp) (s_X12_in : zq_Sp) (s_X12_refuse : zq_Sp) (s_X12_flag : zq_Sp) (Q : zq_Q) (ls : zq_L) (st : List Value) (h : zq_H) : Prop := (zi_iload 2 (zi_if1 (fun x => x = 0) (xX12_cell_34 s_X12_isCell s_X12_in s_X12_refuse s_X12_flag Q) (xX12_cell_43 s_X12_isCell s_X12_in s_X12_refuse s_X12_flag Q))) ls st h
theorem kX12_cell_30 {X : zq_X} {d : Nat} (C : zq_C X cX12_cell 3 RX12 d) {d_X12_isCell : Nat} {s_X12_isCell : zq_Sp} (h_X12_isCell : zq_M yX12_isCell cX12_isCell 2 (some .boolean) 1 d_X12_isCell s_X12_isCell) (g_X12_isCell : d_X12_isCell + 1 ≤ d) {d_X12_in : Nat} {s_X12_in : zq_Sp} (h_X12_in : zq_M yX12_in cX12_in 6 (some .boolean) 1 d_X12_in s_X12_in) (g_X12_in : d_X12_in + 1 ≤ d) {d_X12_refuse : Nat} {s_X12_refuse : zq_Sp} (h_X12_refuse : zq_M yX12_refuse cX12_refuse 1 (some .int) 1 d_X12_refuse s_X12_refuse) (g_X12_refuse : d_X12_refuse + 1 ≤ d) {d_X12_flag : Nat} {s_X12_flag : zq_Sp} (h_X12_flag : zq_M yX12_flag cX12_flag 1 (some .int) 1 d_X12_flag s_X12_flag) (g_X12_flag : d_X12_flag + 1 ≤ d) {Q : zq_Q} (hq : zq_R X (some .int) 1 Q) : zq_ok X 3 30 (xX12_cell_30 s_X12_isCell s_X12_in s_X12_refuse s_X12_flag Q) := by
  refine zs_iload_n C dX12_cell_30 rfl ?_
  exact zs_if_ne C dX12_cell_31 (by decide) (kX12_cell_43 C h_X12_isCell g_X12_isCell h_X12_in g_X12_in h_X12_refuse g_X12_refuse h_X12_flag g_X12_flag hq) (kX12_cell_34 C h_X12_isCell g_X12_isCell h_X12_in g_X12_in h_X12_refuse g_X12_refuse h_X12_flag g_X12_flag hq)
def xX12_cell_25 (s_X12_isCell : zq_Sp) (s_X12_in : zq_Sp) (s_X12_refuse : zq_Sp) (s_X12_flag : zq_Sp) (Q : zq_Q) (ls : zq_L) (st : List Value) (h : zq_H) : Prop := (zi_aload 0 (zi_callV 0 56 s_X12_refuse (zi_iret Q))) ls st h
theorem kX12_cell_25 {X : zq_X} {d : Nat} (C : zq_C X cX12_cell 3 RX12 d) {d_X12_isCell : Nat} {s_X12_isCell : zq_Sp} (h_X12_isCell : zq_M yX12_isCell cX12_isCell 2 (some .boolean) 1 d_X12_isCell s_X12_isCell) (g_X12_isCell : d_X12_isCell + 1 ≤ d) {d_X12_in : Nat} {s_X12_in : zq_Sp} (h_X12_in : zq_M yX12_in cX12_in 6 (some .boolean) 1 d_X12_in s_X12_in) (g_X12_in : d_X12_in + 1 ≤ d) {d_X12_refuse : Nat} {s_X12_refuse : zq_Sp} (h_X12_refuse : zq_M yX12_refuse cX12_refuse 1 (some .int) 1 d_X12_refuse s_X12_refuse) (g_X12_refuse : d_X12_refuse + 1 ≤ d) {d_X12_flag : Nat} {s_X12_flag : zq_Sp} (h_X12_flag : zq_M yX12_flag cX12_flag 1 (some .int) 1 d_X12_flag s_X12_flag) (g_X12_flag : d_X12_flag + 1 ≤ d) {Q : zq_Q} (hq : zq_R X (some .int) 1 Q) : zq_ok X 3 25 (xX12_cell_25 s_X12_isCell s_X12_in s_X12_refuse s_X12_flag Q) := by
  refine zs_aload_n C dX12_cell_25 rfl ?_
  refine zs_callV C h_X12_refuse g_X12_refuse zy_X12_refuse zp_56 (show vwCl[12]? = some (RX12, TX12, 67) from rfl) zw_1458 zw_1460 zs9_X12_refuse dX12_cell_26 ?_
  exact zs_iret C hq dX12_cell_29
def xX12_cell_13 (s_X12_isCell : zq_Sp) (s_X12_in : zq_Sp) (s_X12_refuse : zq_Sp) (s_X12_flag : zq_Sp) (Q : zq_Q) (ls : zq_L) (st : List Value) (h : zq_H) : Prop := (zi_iload 2 (zi_i2l (zi_push (.long 0) (zi_push (.long 3) (zi_callS 3 s_X12_in (zi_if1 (fun x => x = 0) (xX12_cell_25 s_X12_isCell s_X12_in s_X12_refuse s_X12_flag Q) (xX12_cell_30 s_X12_isCell s_X12_in s_X12_refuse s_X12_flag Q))))))) ls st h
theorem kX12_cell_13 {X : zq_X} {d : Nat} (C : zq_C X cX12_cell 3 RX12 d) {d_X12_isCell : Nat} {s_X12_isCell : zq_Sp} (h_X12_isCell : zq_M yX12_isCell cX12_isCell 2 (some .boolean) 1 d_X12_isCell s_X12_isCell) (g_X12_isCell : d_X12_isCell + 1 ≤ d) {d_X12_in : Nat} {s_X12_in : zq_Sp} (h_X12_in : zq_M yX12_in cX12_in 6 (some .boolean) 1 d_X12_in s_X12_in) (g_X12_in : d_X12_in + 1 ≤ d) {d_X12_refuse : Nat} {s_X12_refuse : zq_Sp} (h_X12_refuse : zq_M yX12_refuse cX12_refuse 1 (some .int) 1 d_X12_refuse s_X12_refuse) (g_X12_refuse : d_X12_refuse + 1 ≤ d) {d_X12_flag : Nat} {s_X12_flag : zq_Sp} (h_X12_flag : zq_M yX12_flag cX12_flag 1 (some .int) 1 d_X12_flag s_X12_flag) (g_X12_flag : d_X12_flag + 1 ≤ d) {Q : zq_Q} (hq : zq_R X (some .int) 1 Q) : zq_ok X 3 13 (xX12_cell_13 s_X12_isCell s_X12_in s_X12_refuse s_X12_flag Q) := by
  refine zs_iload_n C dX12_cell_13 rfl ?_
  refine zs_i2l C dX12_cell_14 ?_
  refine zs_lconst C dX12_cell_15 (by decide) ?_
  refine zs_ldc2 C dX12_cell_16 zw_1457 ?_
  refine zs_callS C h_X12_in g_X12_in zy_X12_in zw_1311 zw_1312 dX12_cell_19 ?_
  exact zs_if_ne C dX12_cell_22 (by decide) (kX12_cell_30 C h_X12_isCell g_X12_isCell h_X12_in g_X12_in h_X12_refuse g_X12_refuse h_X12_flag g_X12_flag hq) (kX12_cell_25 C h_X12_isCell g_X12_isCell h_X12_in g_X12_in h_X12_refuse g_X12_refuse h_X12_flag g_X12_flag hq)
def xX12_cell_0 (s_X12_isCell : zq_Sp) (s_X12_in : zq_Sp) (s_X12_refuse : zq_Sp) (s_X12_flag : zq_Sp) (Q : zq_Q) (ls : zq_L) (st : List Value) (h : zq_H) : Prop := (zi_aload 0 (zi_push (.int 0) (zi_putI 56 0 (zi_aload 0 (zi_iload 1 (zi_callV 1 56 s_X12_isCell (zi_if1 (fun x => x = 0) (xX12_cell_25 s_X12_isCell s_X12_in s_X12_refuse s_X12_flag Q) (xX12_cell_13 s_X12_isCell s_X12_in s_X12_refuse s_X12_flag Q)))))))) ls st h
theorem kX12_cell_0 {X : zq_X} {d : Nat} (C : zq_C X cX12_cell 3 RX12 d) {d_X12_isCell : Nat} {s_X12_isCell : zq_Sp} (h_X12_isCell : zq_M yX12_isCell cX12_isCell 2 (some .boolean) 1 d_X12_isCell s_X12_isCell) (g_X12_isCell : d_X12_isCell + 1 ≤ d) {d_X12_in : Nat} {s_X12_in : zq_Sp} (h_X12_in : zq_M yX12_in cX12_in 6 (some .boolean) 1 d_X12_in s_X12_in) (g_X12_in : d_X12_in + 1 ≤ d) {d_X12_refuse : Nat} {s_X12_refuse : zq_Sp} (h_X12_refuse : zq_M yX12_refuse cX12_refuse 1 (some .int) 1 d_X12_refuse s_X12_refuse) (g_X12_refuse : d_X12_refuse + 1 ≤ d) {d_X12_flag : Nat} {s_X12_flag : zq_Sp} (h_X12_flag : zq_M yX12_flag cX12_flag 1 (some .int) 1 d_X12_flag s_X12_flag) (g_X12_flag : d_X12_flag + 1 ≤ d) {Q : zq_Q} (hq : zq_R X (some .int) 1 Q) : zq_ok X 3 0 (xX12_cell_0 s_X12_isCell s_X12_in s_X12_refuse s_X12_flag Q) := by
  refine zs_aload_n C dX12_cell_0 rfl ?_
  refine zs_iconst C dX12_cell_1 (by decide) ?_
  refine zs_putI C zp_56 zF12 (j := 0) ⟨by decide, rfl⟩ ⟨rfl, by decide +kernel⟩ zw_1096 dX12_cell_2 ?_
  refine zs_aload_n C dX12_cell_5 rfl ?_
  refine zs_iload_n C dX12_cell_6 rfl ?_
  refine zs_callV C h_X12_isCell g_X12_isCell zy_X12_isCell zp_56 (show vwCl[12]? = some (RX12, TX12, 67) from rfl) zw_1453 zw_1455 zs9_X12_isCell dX12_cell_7 ?_
  exact zs_if_eq C dX12_cell_10 (by decide) (kX12_cell_25 C h_X12_isCell g_X12_isCell h_X12_in g_X12_in h_X12_refuse g_X12_refuse h_X12_flag g_X12_flag hq) (kX12_cell_13 C h_X12_isCell g_X12_isCell h_X12_in g_X12_in h_X12_refuse g_X12_refuse h_X12_flag g_X12_flag hq)
theorem mX12_cell {d : Nat} {spec : zq_Sp} {d_X12_isCell : Nat} {s_X12_isCell : zq_Sp} (h_X12_isCell : zq_M yX12_isCell cX12_isCell 2 (some .boolean) 1 d_X12_isCell s_X12_isCell) (g_X12_isCell : d_X12_isCell + 1 ≤ d) {d_X12_in : Nat} {s_X12_in : zq_Sp} (h_X12_in : zq_M yX12_in cX12_in 6 (some .boolean) 1 d_X12_in s_X12_in) (g_X12_in : d_X12_in + 1 ≤ d) {d_X12_refuse : Nat} {s_X12_refuse : zq_Sp} (h_X12_refuse : zq_M yX12_refuse cX12_refuse 1 (some .int) 1 d_X12_refuse s_X12_refuse) (g_X12_refuse : d_X12_refuse + 1 ≤ d) {d_X12_flag : Nat} {s_X12_flag : zq_Sp} (h_X12_flag : zq_M yX12_flag cX12_flag 1 (some .int) 1 d_X12_flag s_X12_flag) (g_X12_flag : d_X12_flag + 1 ≤ d) (v : ∀ args h Q, spec args h Q → (zq_a args).length ≤ 3 ∧ xX12_cell_0 s_X12_isCell s_X12_in s_X12_refuse s_X12_flag Q (zq_l0 3 args) [] h) : zq_M yX12_cell cX12_cell 3 (some .int) 1 d spec := by
  refine zq_met (by decide +kernel) (by decide) (fun X Q args h C hq hs => ⟨(v args h Q hs).1, _, ?_, (v args h Q hs).2⟩)
  exact kX12_cell_0 C h_X12_isCell g_X12_isCell h_X12_in g_X12_in h_X12_refuse g_X12_refuse h_X12_flag g_X12_flag hq
/-! ToOneCrumbModel.guest(II)I -/
theorem dX12_guest_0 : decode cX12_guest 0 = .ok (.aload_n 0, 1) := by decide +kernel
theorem dX12_guest_1 : decode cX12_guest 1 = .ok (.iconst 0, 1) := by decide +kernel
theorem dX12_guest_2 : decode cX12_guest 2 = .ok (.putfield 147, 3) := by decide +kernel
theorem dX12_guest_5 : decode cX12_guest 5 = .ok (.aload_n 0, 1) := by decide +kernel
theorem dX12_guest_6 : decode cX12_guest 6 = .ok (.iload_n 1, 1) := by decide +kernel
theorem dX12_guest_7 : decode cX12_guest 7 = .ok (.invokevirtual 313, 3) := by decide +kernel
theorem dX12_guest_10 : decode cX12_guest 10 = .ok (.ifCond .eq 15, 3) := by decide +kernel
theorem dX12_guest_13 : decode cX12_guest 13 = .ok (.iload_n 2, 1) := by decide +kernel
theorem dX12_guest_14 : decode cX12_guest 14 = .ok (.i2l, 1) := by decide +kernel
theorem dX12_guest_15 : decode cX12_guest 15 = .ok (.lconst 0, 1) := by decide +kernel
theorem dX12_guest_16 : decode cX12_guest 16 = .ok (.ldc2_w 316, 3) := by decide +kernel
theorem dX12_guest_19 : decode cX12_guest 19 = .ok (.invokestatic 161, 3) := by decide +kernel
theorem dX12_guest_22 : decode cX12_guest 22 = .ok (.ifCond .ne 8, 3) := by decide +kernel
theorem dX12_guest_25 : decode cX12_guest 25 = .ok (.aload_n 0, 1) := by decide +kernel
theorem dX12_guest_26 : decode cX12_guest 26 = .ok (.invokevirtual 310, 3) := by decide +kernel
theorem dX12_guest_29 : decode cX12_guest 29 = .ok (.ireturn, 1) := by decide +kernel
theorem dX12_guest_30 : decode cX12_guest 30 = .ok (.aload_n 0, 1) := by decide +kernel
theorem dX12_guest_31 : decode cX12_guest 31 = .ok (.invokevirtual 318, 3) := by decide +kernel
theorem dX12_guest_34 : decode cX12_guest 34 = .ok (.iload_n 2, 1) := by decide +kernel
theorem dX12_guest_35 : decode cX12_guest 35 = .ok (.tableswitch 78 3 7 #[33, 40, 46, 53, 60], 33) := by decide +kernel
theorem dX12_guest_68 : decode cX12_guest 68 = .ok (.aload_n 0, 1) := by decide +kernel
theorem dX12_guest_69 : decode cX12_guest 69 = .ok (.getfield 27, 3) := by decide +kernel
theorem dX12_guest_72 : decode cX12_guest 72 = .ok (.iload_n 1, 1) := by decide +kernel
theorem dX12_guest_73 : decode cX12_guest 73 = .ok (.iaload, 1) := by decide +kernel
theorem dX12_guest_74 : decode cX12_guest 74 = .ok (.ireturn, 1) := by decide +kernel
theorem dX12_guest_75 : decode cX12_guest 75 = .ok (.aload_n 0, 1) := by decide +kernel
theorem dX12_guest_76 : decode cX12_guest 76 = .ok (.iload_n 1, 1) := by decide +kernel
theorem dX12_guest_77 : decode cX12_guest 77 = .ok (.invokevirtual 321, 3) := by decide +kernel
theorem dX12_guest_80 : decode cX12_guest 80 = .ok (.ireturn, 1) := by decide +kernel
theorem dX12_guest_81 : decode cX12_guest 81 = .ok (.aload_n 0, 1) := by decide +kernel
theorem dX12_guest_82 : decode cX12_guest 82 = .ok (.iload_n 1, 1) := by decide +kernel
theorem dX12_guest_83 : decode cX12_guest 83 = .ok (.iload_n 1, 1) := by decide +kernel
theorem dX12_guest_84 : decode cX12_guest 84 = .ok (.invokevirtual 324, 3) := by decide +kernel
theorem dX12_guest_87 : decode cX12_guest 87 = .ok (.ireturn, 1) := by decide +kernel
theorem dX12_guest_88 : decode cX12_guest 88 = .ok (.aload_n 0, 1) := by decide +kernel
theorem dX12_guest_89 : decode cX12_guest 89 = .ok (.getfield 66, 3) := by decide +kernel
theorem dX12_guest_92 : decode cX12_guest 92 = .ok (.iload_n 1, 1) := by decide +kernel
theorem dX12_guest_93 : decode cX12_guest 93 = .ok (.iaload, 1) := by decide +kernel
theorem dX12_guest_94 : decode cX12_guest 94 = .ok (.ireturn, 1) := by decide +kernel
theorem dX12_guest_95 : decode cX12_guest 95 = .ok (.aload_n 0, 1) := by decide +kernel
theorem dX12_guest_96 : decode cX12_guest 96 = .ok (.iload_n 1, 1) := by decide +kernel
theorem dX12_guest_97 : decode cX12_guest 97 = .ok (.aload_n 0, 1) := by decide +kernel
theorem dX12_guest_98 : decode cX12_guest 98 = .ok (.iload_n 1, 1) := by decide +kernel
theorem dX12_guest_99 : decode cX12_guest 99 = .ok (.iload_n 1, 1) := by decide +kernel
theorem dX12_guest_100 : decode cX12_guest 100 = .ok (.invokevirtual 324, 3) := by decide +kernel
theorem dX12_guest_103 : decode cX12_guest 103 = .ok (.i2l, 1) := by decide +kernel
theorem dX12_guest_104 : decode cX12_guest 104 = .ok (.bipush 100, 2) := by decide +kernel
theorem dX12_guest_106 : decode cX12_guest 106 = .ok (.invokevirtual 327, 3) := by decide +kernel
theorem dX12_guest_109 : decode cX12_guest 109 = .ok (.invokestatic 190, 3) := by decide +kernel
theorem dX12_guest_112 : decode cX12_guest 112 = .ok (.ireturn, 1) := by decide +kernel
theorem dX12_guest_113 : decode cX12_guest 113 = .ok (.aload_n 0, 1) := by decide +kernel
theorem dX12_guest_114 : decode cX12_guest 114 = .ok (.getfield 24, 3) := by decide +kernel
theorem dX12_guest_117 : decode cX12_guest 117 = .ok (.iconst 3, 1) := by decide +kernel
theorem dX12_guest_118 : decode cX12_guest 118 = .ok (.iload_n 1, 1) := by decide +kernel
theorem dX12_guest_119 : decode cX12_guest 119 = .ok (.imul, 1) := by decide +kernel
theorem dX12_guest_120 : decode cX12_guest 120 = .ok (.iload_n 2, 1) := by decide +kernel
theorem dX12_guest_121 : decode cX12_guest 121 = .ok (.iadd, 1) := by decide +kernel
theorem dX12_guest_122 : decode cX12_guest 122 = .ok (.iaload, 1) := by decide +kernel
theorem dX12_guest_123 : decode cX12_guest 123 = .ok (.ireturn, 1) := by decide +kernel
def xX12_guest_113 (s_X12_isGuest : zq_Sp) (s_X12_in : zq_Sp) (s_X12_refuse : zq_Sp) (s_X12_laysTable : zq_Sp) (s_X12_held : zq_Sp) (s_X12_isDue : zq_Sp) (s_X12_flag : zq_Sp) (s_X12_holds : zq_Sp) (Q : zq_Q) (ls : zq_L) (st : List Value) (h : zq_H) : Prop := (zi_aload 0 (zi_getR 56 61 (zi_push (.int 3) (zi_iload 1 (zi_i2 (fun x y => x * y) (zi_iload 2 (zi_i2 (fun x y => x + y) (zi_aldI 61 18 (zi_iret Q))))))))) ls st h
theorem kX12_guest_113 {X : zq_X} {d : Nat} (C : zq_C X cX12_guest 3 RX12 d) {d_X12_isGuest : Nat} {s_X12_isGuest : zq_Sp} (h_X12_isGuest : zq_M yX12_isGuest cX12_isGuest 2 (some .boolean) 1 d_X12_isGuest s_X12_isGuest) (g_X12_isGuest : d_X12_isGuest + 1 ≤ d) {d_X12_in : Nat} {s_X12_in : zq_Sp} (h_X12_in : zq_M yX12_in cX12_in 6 (some .boolean) 1 d_X12_in s_X12_in) (g_X12_in : d_X12_in + 1 ≤ d) {d_X12_refuse : Nat} {s_X12_refuse : zq_Sp} (h_X12_refuse : zq_M yX12_refuse cX12_refuse 1 (some .int) 1 d_X12_refuse s_X12_refuse) (g_X12_refuse : d_X12_refuse + 1 ≤ d) {d_X12_laysTable : Nat} {s_X12_laysTable : zq_Sp} (h_X12_laysTable : zq_M yX12_laysTable cX12_laysTable 3 none 0 d_X12_laysTable s_X12_laysTable) (g_X12_laysTable : d_X12_laysTable + 1 ≤ d) {d_X12_held : Nat} {s_X12_held : zq_Sp} (h_X12_held : zq_M yX12_held cX12_held 5 (some .int) 1 d_X12_held s_X12_held) (g_X12_held : d_X12_held + 1 ≤ d) {d_X12_isDue : Nat} {s_X12_isDue : zq_Sp} (h_X12_isDue : zq_M yX12_isDue cX12_isDue 5 (some .boolean) 1 d_X12_isDue s_X12_isDue) (g_X12_isDue : d_X12_isDue + 1 ≤ d) {d_X12_flag : Nat} {s_X12_flag : zq_Sp} (h_X12_flag : zq_M yX12_flag cX12_flag 1 (some .int) 1 d_X12_flag s_X12_flag) (g_X12_flag : d_X12_flag + 1 ≤ d) {d_X12_holds : Nat} {s_X12_holds : zq_Sp} (h_X12_holds : zq_M yX12_holds cX12_holds 4 (some .int) 1 d_X12_holds s_X12_holds) (g_X12_holds : d_X12_holds + 1 ≤ d) {Q : zq_Q} (hq : zq_R X (some .int) 1 Q) : zq_ok X 3 113 (xX12_guest_113 s_X12_isGuest s_X12_in s_X12_refuse s_X12_laysTable s_X12_held s_X12_isDue s_X12_flag s_X12_holds Q) := by
  refine zs_aload_n C dX12_guest_113 rfl ?_
  refine zs_getR C zp_56 zF12 (j := 9) ⟨by decide, rfl⟩ zw_1105 dX12_guest_114 ?_
  refine zs_iconst C dX12_guest_117 (by decide) ?_
  refine zs_iload_n C dX12_guest_118 rfl ?_
  refine zs_imul C dX12_guest_119 ?_
  refine zs_iload_n C dX12_guest_120 rfl ?_
  refine zs_iadd C dX12_guest_121 ?_
  refine zs_iaload C zp_61 dX12_guest_122 ?_
  exact zs_iret C hq dX12_guest_123
def xX12_guest_95 (s_X12_isGuest : zq_Sp) (s_X12_in : zq_Sp) (s_X12_refuse : zq_Sp) (s_X12_laysTable : zq_Sp) (s_X12_held : zq_Sp) (s_X12_isDue : zq_Sp) (s_X12_flag : zq_Sp) (s_X12_holds : zq_Sp) (Q : zq_Q) (ls : zq_L) (st : List Value) (h : zq_H) : Prop := (zi_aload 0 (zi_iload 1 (zi_aload 0 (zi_iload 1 (zi_iload 1 (zi_callV 2 56 s_X12_held (zi_i2l (zi_push (.int 100) (zi_callV 3 56 s_X12_isDue (zi_callS 1 s_X12_flag (zi_iret Q))))))))))) ls st h
theorem kX12_guest_95 {X : zq_X} {d : Nat} (C : zq_C X cX12_guest 3 RX12 d) {d_X12_isGuest : Nat} {s_X12_isGuest : zq_Sp} (h_X12_isGuest : zq_M yX12_isGuest cX12_isGuest 2 (some .boolean) 1 d_X12_isGuest s_X12_isGuest) (g_X12_isGuest : d_X12_isGuest + 1 ≤ d) {d_X12_in : Nat} {s_X12_in : zq_Sp} (h_X12_in : zq_M yX12_in cX12_in 6 (some .boolean) 1 d_X12_in s_X12_in) (g_X12_in : d_X12_in + 1 ≤ d) {d_X12_refuse : Nat} {s_X12_refuse : zq_Sp} (h_X12_refuse : zq_M yX12_refuse cX12_refuse 1 (some .int) 1 d_X12_refuse s_X12_refuse) (g_X12_refuse : d_X12_refuse + 1 ≤ d) {d_X12_laysTable : Nat} {s_X12_laysTable : zq_Sp} (h_X12_laysTable : zq_M yX12_laysTable cX12_laysTable 3 none 0 d_X12_laysTable s_X12_laysTable) (g_X12_laysTable : d_X12_laysTable + 1 ≤ d) {d_X12_held : Nat} {s_X12_held : zq_Sp} (h_X12_held : zq_M yX12_held cX12_held 5 (some .int) 1 d_X12_held s_X12_held) (g_X12_held : d_X12_held + 1 ≤ d) {d_X12_isDue : Nat} {s_X12_isDue : zq_Sp} (h_X12_isDue : zq_M yX12_isDue cX12_isDue 5 (some .boolean) 1 d_X12_isDue s_X12_isDue) (g_X12_isDue : d_X12_isDue + 1 ≤ d) {d_X12_flag : Nat} {s_X12_flag : zq_Sp} (h_X12_flag : zq_M yX12_flag cX12_flag 1 (some .int) 1 d_X12_flag s_X12_flag) (g_X12_flag : d_X12_flag + 1 ≤ d) {d_X12_holds : Nat} {s_X12_holds : zq_Sp} (h_X12_holds : zq_M yX12_holds cX12_holds 4 (some .int) 1 d_X12_holds s_X12_holds) (g_X12_holds : d_X12_holds + 1 ≤ d) {Q : zq_Q} (hq : zq_R X (some .int) 1 Q) : zq_ok X 3 95 (xX12_guest_95 s_X12_isGuest s_X12_in s_X12_refuse s_X12_laysTable s_X12_held s_X12_isDue s_X12_flag s_X12_holds Q) := by
  refine zs_aload_n C dX12_guest_95 rfl ?_
  refine zs_iload_n C dX12_guest_96 rfl ?_
  refine zs_aload_n C dX12_guest_97 rfl ?_
  refine zs_iload_n C dX12_guest_98 rfl ?_
  refine zs_iload_n C dX12_guest_99 rfl ?_
  refine zs_callV C h_X12_held g_X12_held zy_X12_held zp_56 (show vwCl[12]? = some (RX12, TX12, 67) from rfl) zw_1494 zw_1496 zs9_X12_held dX12_guest_100 ?_
  refine zs_i2l C dX12_guest_103 ?_
  refine zs_bipush C dX12_guest_104 (by decide) ?_
  refine zs_callV C h_X12_isDue g_X12_isDue zy_X12_isDue zp_56 (show vwCl[12]? = some (RX12, TX12, 67) from rfl) zw_1498 zw_1500 zs9_X12_isDue dX12_guest_106 ?_
  refine zs_callS C h_X12_flag g_X12_flag zy_X12_flag zw_1380 zw_1381 dX12_guest_109 ?_
  exact zs_iret C hq dX12_guest_112
def xX12_guest_88 (s_X12_isGuest : zq_Sp) (s_X12_in : zq_Sp) (s_X12_refuse : zq_Sp) (s_X12_laysTable : zq_Sp) (s_X12_held : zq_Sp) (s_X12_isDue : zq_Sp) (s_X12_flag : zq_Sp) (s_X12_holds : zq_Sp) (Q : zq_Q) (ls : zq_L) (st : List Value) (h : zq_H) : Prop := (zi_aload 0 (zi_getR 56 75 (zi_iload 1 (zi_aldI 75 6 (zi_iret Q))))) ls st h
theorem kX12_guest_88 {X : zq_X} {d : Nat} (C : zq_C X cX12_guest 3 RX12 d) {d_X12_isGuest : Nat} {s_X12_isGuest : zq_Sp} (h_X12_isGuest : zq_M yX12_isGuest cX12_isGuest 2 (some .boolean) 1 d_X12_isGuest s_X12_isGuest) (g_X12_isGuest : d_X12_isGuest + 1 ≤ d) {d_X12_in : Nat} {s_X12_in : zq_Sp} (h_X12_in : zq_M yX12_in cX12_in 6 (some .boolean) 1 d_X12_in s_X12_in) (g_X12_in : d_X12_in + 1 ≤ d) {d_X12_refuse : Nat} {s_X12_refuse : zq_Sp} (h_X12_refuse : zq_M yX12_refuse cX12_refuse 1 (some .int) 1 d_X12_refuse s_X12_refuse) (g_X12_refuse : d_X12_refuse + 1 ≤ d) {d_X12_laysTable : Nat} {s_X12_laysTable : zq_Sp} (h_X12_laysTable : zq_M yX12_laysTable cX12_laysTable 3 none 0 d_X12_laysTable s_X12_laysTable) (g_X12_laysTable : d_X12_laysTable + 1 ≤ d) {d_X12_held : Nat} {s_X12_held : zq_Sp} (h_X12_held : zq_M yX12_held cX12_held 5 (some .int) 1 d_X12_held s_X12_held) (g_X12_held : d_X12_held + 1 ≤ d) {d_X12_isDue : Nat} {s_X12_isDue : zq_Sp} (h_X12_isDue : zq_M yX12_isDue cX12_isDue 5 (some .boolean) 1 d_X12_isDue s_X12_isDue) (g_X12_isDue : d_X12_isDue + 1 ≤ d) {d_X12_flag : Nat} {s_X12_flag : zq_Sp} (h_X12_flag : zq_M yX12_flag cX12_flag 1 (some .int) 1 d_X12_flag s_X12_flag) (g_X12_flag : d_X12_flag + 1 ≤ d) {d_X12_holds : Nat} {s_X12_holds : zq_Sp} (h_X12_holds : zq_M yX12_holds cX12_holds 4 (some .int) 1 d_X12_holds s_X12_holds) (g_X12_holds : d_X12_holds + 1 ≤ d) {Q : zq_Q} (hq : zq_R X (some .int) 1 Q) : zq_ok X 3 88 (xX12_guest_88 s_X12_isGuest s_X12_in s_X12_refuse s_X12_laysTable s_X12_held s_X12_isDue s_X12_flag s_X12_holds Q) := by
  refine zs_aload_n C dX12_guest_88 rfl ?_
  refine zs_getR C zp_56 zF12 (j := 30) ⟨by decide, rfl⟩ zw_1126 dX12_guest_89 ?_
  refine zs_iload_n C dX12_guest_92 rfl ?_
  refine zs_iaload C zp_75 dX12_guest_93 ?_
  exact zs_iret C hq dX12_guest_94
def xX12_guest_81 (s_X12_isGuest : zq_Sp) (s_X12_in : zq_Sp) (s_X12_refuse : zq_Sp) (s_X12_laysTable : zq_Sp) (s_X12_held : zq_Sp) (s_X12_isDue : zq_Sp) (s_X12_flag : zq_Sp) (s_X12_holds : zq_Sp) (Q : zq_Q) (ls : zq_L) (st : List Value) (h : zq_H) : Prop := (zi_aload 0 (zi_iload 1 (zi_iload 1 (zi_callV 2 56 s_X12_held (zi_iret Q))))) ls st h
theorem kX12_guest_81 {X : zq_X} {d : Nat} (C : zq_C X cX12_guest 3 RX12 d) {d_X12_isGuest : Nat} {s_X12_isGuest : zq_Sp} (h_X12_isGuest : zq_M yX12_isGuest cX12_isGuest 2 (some .boolean) 1 d_X12_isGuest s_X12_isGuest) (g_X12_isGuest : d_X12_isGuest + 1 ≤ d) {d_X12_in : Nat} {s_X12_in : zq_Sp} (h_X12_in : zq_M yX12_in cX12_in 6 (some .boolean) 1 d_X12_in s_X12_in) (g_X12_in : d_X12_in + 1 ≤ d) {d_X12_refuse : Nat} {s_X12_refuse : zq_Sp} (h_X12_refuse : zq_M yX12_refuse cX12_refuse 1 (some .int) 1 d_X12_refuse s_X12_refuse) (g_X12_refuse : d_X12_refuse + 1 ≤ d) {d_X12_laysTable : Nat} {s_X12_laysTable : zq_Sp} (h_X12_laysTable : zq_M yX12_laysTable cX12_laysTable 3 none 0 d_X12_laysTable s_X12_laysTable) (g_X12_laysTable : d_X12_laysTable + 1 ≤ d) {d_X12_held : Nat} {s_X12_held : zq_Sp} (h_X12_held : zq_M yX12_held cX12_held 5 (some .int) 1 d_X12_held s_X12_held) (g_X12_held : d_X12_held + 1 ≤ d) {d_X12_isDue : Nat} {s_X12_isDue : zq_Sp} (h_X12_isDue : zq_M yX12_isDue cX12_isDue 5 (some .boolean) 1 d_X12_isDue s_X12_isDue) (g_X12_isDue : d_X12_isDue + 1 ≤ d) {d_X12_flag : Nat} {s_X12_flag : zq_Sp} (h_X12_flag : zq_M yX12_flag cX12_flag 1 (some .int) 1 d_X12_flag s_X12_flag) (g_X12_flag : d_X12_flag + 1 ≤ d) {d_X12_holds : Nat} {s_X12_holds : zq_Sp} (h_X12_holds : zq_M yX12_holds cX12_holds 4 (some .int) 1 d_X12_holds s_X12_holds) (g_X12_holds : d_X12_holds + 1 ≤ d) {Q : zq_Q} (hq : zq_R X (some .int) 1 Q) : zq_ok X 3 81 (xX12_guest_81 s_X12_isGuest s_X12_in s_X12_refuse s_X12_laysTable s_X12_held s_X12_isDue s_X12_flag s_X12_holds Q) := by
  refine zs_aload_n C dX12_guest_81 rfl ?_
  refine zs_iload_n C dX12_guest_82 rfl ?_
  refine zs_iload_n C dX12_guest_83 rfl ?_
  refine zs_callV C h_X12_held g_X12_held zy_X12_held zp_56 (show vwCl[12]? = some (RX12, TX12, 67) from rfl) zw_1494 zw_1496 zs9_X12_held dX12_guest_84 ?_
  exact zs_iret C hq dX12_guest_87
def xX12_guest_75 (s_X12_isGuest : zq_Sp) (s_X12_in : zq_Sp) (s_X12_refuse : zq_Sp) (s_X12_laysTable : zq_Sp) (s_X12_held : zq_Sp) (s_X12_isDue : zq_Sp) (s_X12_flag : zq_Sp) (s_X12_holds : zq_Sp) (Q : zq_Q) (ls : zq_L) (st : List Value) (h : zq_H) : Prop := (zi_aload 0 (zi_iload 1 (zi_callV 1 56 s_X12_holds (zi_iret Q)))) ls st h
theorem kX12_guest_75 {X : zq_X} {d : Nat} (C : zq_C X cX12_guest 3 RX12 d) {d_X12_isGuest : Nat} {s_X12_isGuest : zq_Sp} (h_X12_isGuest : zq_M yX12_isGuest cX12_isGuest 2 (some .boolean) 1 d_X12_isGuest s_X12_isGuest) (g_X12_isGuest : d_X12_isGuest + 1 ≤ d) {d_X12_in : Nat} {s_X12_in : zq_Sp} (h_X12_in : zq_M yX12_in cX12_in 6 (some .boolean) 1 d_X12_in s_X12_in) (g_X12_in : d_X12_in + 1 ≤ d) {d_X12_refuse : Nat} {s_X12_refuse : zq_Sp} (h_X12_refuse : zq_M yX12_refuse cX12_refuse 1 (some .int) 1 d_X12_refuse s_X12_refuse) (g_X12_refuse : d_X12_refuse + 1 ≤ d) {d_X12_laysTable : Nat} {s_X12_laysTable : zq_Sp} (h_X12_laysTable : zq_M yX12_laysTable cX12_laysTable 3 none 0 d_X12_laysTable s_X12_laysTable) (g_X12_laysTable : d_X12_laysTable + 1 ≤ d) {d_X12_held : Nat} {s_X12_held : zq_Sp} (h_X12_held : zq_M yX12_held cX12_held 5 (some .int) 1 d_X12_held s_X12_held) (g_X12_held : d_X12_held + 1 ≤ d) {d_X12_isDue : Nat} {s_X12_isDue : zq_Sp} (h_X12_isDue : zq_M yX12_isDue cX12_isDue 5 (some .boolean) 1 d_X12_isDue s_X12_isDue) (g_X12_isDue : d_X12_isDue + 1 ≤ d) {d_X12_flag : Nat} {s_X12_flag : zq_Sp} (h_X12_flag : zq_M yX12_flag cX12_flag 1 (some .int) 1 d_X12_flag s_X12_flag) (g_X12_flag : d_X12_flag + 1 ≤ d) {d_X12_holds : Nat} {s_X12_holds : zq_Sp} (h_X12_holds : zq_M yX12_holds cX12_holds 4 (some .int) 1 d_X12_holds s_X12_holds) (g_X12_holds : d_X12_holds + 1 ≤ d) {Q : zq_Q} (hq : zq_R X (some .int) 1 Q) : zq_ok X 3 75 (xX12_guest_75 s_X12_isGuest s_X12_in s_X12_refuse s_X12_laysTable s_X12_held s_X12_isDue s_X12_flag s_X12_holds Q) := by
  refine zs_aload_n C dX12_guest_75 rfl ?_
  refine zs_iload_n C dX12_guest_76 rfl ?_
  refine zs_callV C h_X12_holds g_X12_holds zy_X12_holds zp_56 (show vwCl[12]? = some (RX12, TX12, 67) from rfl) zw_1490 zw_1492 zs9_X12_holds dX12_guest_77 ?_
  exact zs_iret C hq dX12_guest_80
def xX12_guest_68 (s_X12_isGuest : zq_Sp) (s_X12_in : zq_Sp) (s_X12_refuse : zq_Sp) (s_X12_laysTable : zq_Sp) (s_X12_held : zq_Sp) (s_X12_isDue : zq_Sp) (s_X12_flag : zq_Sp) (s_X12_holds : zq_Sp) (Q : zq_Q) (ls : zq_L) (st : List Value) (h : zq_H) : Prop := (zi_aload 0 (zi_getR 56 62 (zi_iload 1 (zi_aldI 62 6 (zi_iret Q))))) ls st h
theorem kX12_guest_68 {X : zq_X} {d : Nat} (C : zq_C X cX12_guest 3 RX12 d) {d_X12_isGuest : Nat} {s_X12_isGuest : zq_Sp} (h_X12_isGuest : zq_M yX12_isGuest cX12_isGuest 2 (some .boolean) 1 d_X12_isGuest s_X12_isGuest) (g_X12_isGuest : d_X12_isGuest + 1 ≤ d) {d_X12_in : Nat} {s_X12_in : zq_Sp} (h_X12_in : zq_M yX12_in cX12_in 6 (some .boolean) 1 d_X12_in s_X12_in) (g_X12_in : d_X12_in + 1 ≤ d) {d_X12_refuse : Nat} {s_X12_refuse : zq_Sp} (h_X12_refuse : zq_M yX12_refuse cX12_refuse 1 (some .int) 1 d_X12_refuse s_X12_refuse) (g_X12_refuse : d_X12_refuse + 1 ≤ d) {d_X12_laysTable : Nat} {s_X12_laysTable : zq_Sp} (h_X12_laysTable : zq_M yX12_laysTable cX12_laysTable 3 none 0 d_X12_laysTable s_X12_laysTable) (g_X12_laysTable : d_X12_laysTable + 1 ≤ d) {d_X12_held : Nat} {s_X12_held : zq_Sp} (h_X12_held : zq_M yX12_held cX12_held 5 (some .int) 1 d_X12_held s_X12_held) (g_X12_held : d_X12_held + 1 ≤ d) {d_X12_isDue : Nat} {s_X12_isDue : zq_Sp} (h_X12_isDue : zq_M yX12_isDue cX12_isDue 5 (some .boolean) 1 d_X12_isDue s_X12_isDue) (g_X12_isDue : d_X12_isDue + 1 ≤ d) {d_X12_flag : Nat} {s_X12_flag : zq_Sp} (h_X12_flag : zq_M yX12_flag cX12_flag 1 (some .int) 1 d_X12_flag s_X12_flag) (g_X12_flag : d_X12_flag + 1 ≤ d) {d_X12_holds : Nat} {s_X12_holds : zq_Sp} (h_X12_holds : zq_M yX12_holds cX12_holds 4 (some .int) 1 d_X12_holds s_X12_holds) (g_X12_holds : d_X12_holds + 1 ≤ d) {Q : zq_Q} (hq : zq_R X (some .int) 1 Q) : zq_ok X 3 68 (xX12_guest_68 s_X12_isGuest s_X12_in s_X12_refuse s_X12_laysTable s_X12_held s_X12_isDue s_X12_flag s_X12_holds Q) := by
  refine zs_aload_n C dX12_guest_68 rfl ?_
  refine zs_getR C zp_56 zF12 (j := 10) ⟨by decide, rfl⟩ zw_1106 dX12_guest_69 ?_
  refine zs_iload_n C dX12_guest_72 rfl ?_
  refine zs_iaload C zp_62 dX12_guest_73 ?_
  exact zs_iret C hq dX12_guest_74
def xX12_guest_30 (s_X12_isGuest : zq_Sp) (s_X12_in : zq_Sp) (s_X12_refuse : zq_Sp) (s_X12_laysTable : zq_Sp) (s_X12_held : zq_Sp) (s_X12_isDue : zq_Sp) (s_X12_flag : zq_Sp) (s_X12_holds : zq_Sp) (Q : zq_Q) (ls : zq_L) (st : List Value) (h : zq_H) : Prop := (zi_aload 0 (zi_callV 0 56 s_X12_laysTable (zi_iload 2 (zi_sw [(3, (xX12_guest_68 s_X12_isGuest s_X12_in s_X12_refuse s_X12_laysTable s_X12_held s_X12_isDue s_X12_flag s_X12_holds Q)), (4, (xX12_guest_75 s_X12_isGuest s_X12_in s_X12_refuse s_X12_laysTable s_X12_held s_X12_isDue s_X12_flag s_X12_holds Q)), (5, (xX12_guest_81 s_X12_isGuest s_X12_in s_X12_refuse s_X12_laysTable s_X12_held s_X12_isDue s_X12_flag s_X12_holds Q)), (6, (xX12_guest_88 s_X12_isGuest s_X12_in s_X12_refuse s_X12_laysTable s_X12_held s_X12_isDue s_X12_flag s_X12_holds Q)), (7, (xX12_guest_95 s_X12_isGuest s_X12_in s_X12_refuse s_X12_laysTable s_X12_held s_X12_isDue s_X12_flag s_X12_holds Q))] (xX12_guest_113 s_X12_isGuest s_X12_in s_X12_refuse s_X12_laysTable s_X12_held s_X12_isDue s_X12_flag s_X12_holds Q))))) ls st h
theorem kX12_guest_30 {X : zq_X} {d : Nat} (C : zq_C X cX12_guest 3 RX12 d) {d_X12_isGuest : Nat} {s_X12_isGuest : zq_Sp} (h_X12_isGuest : zq_M yX12_isGuest cX12_isGuest 2 (some .boolean) 1 d_X12_isGuest s_X12_isGuest) (g_X12_isGuest : d_X12_isGuest + 1 ≤ d) {d_X12_in : Nat} {s_X12_in : zq_Sp} (h_X12_in : zq_M yX12_in cX12_in 6 (some .boolean) 1 d_X12_in s_X12_in) (g_X12_in : d_X12_in + 1 ≤ d) {d_X12_refuse : Nat} {s_X12_refuse : zq_Sp} (h_X12_refuse : zq_M yX12_refuse cX12_refuse 1 (some .int) 1 d_X12_refuse s_X12_refuse) (g_X12_refuse : d_X12_refuse + 1 ≤ d) {d_X12_laysTable : Nat} {s_X12_laysTable : zq_Sp} (h_X12_laysTable : zq_M yX12_laysTable cX12_laysTable 3 none 0 d_X12_laysTable s_X12_laysTable) (g_X12_laysTable : d_X12_laysTable + 1 ≤ d) {d_X12_held : Nat} {s_X12_held : zq_Sp} (h_X12_held : zq_M yX12_held cX12_held 5 (some .int) 1 d_X12_held s_X12_held) (g_X12_held : d_X12_held + 1 ≤ d) {d_X12_isDue : Nat} {s_X12_isDue : zq_Sp} (h_X12_isDue : zq_M yX12_isDue cX12_isDue 5 (some .boolean) 1 d_X12_isDue s_X12_isDue) (g_X12_isDue : d_X12_isDue + 1 ≤ d) {d_X12_flag : Nat} {s_X12_flag : zq_Sp} (h_X12_flag : zq_M yX12_flag cX12_flag 1 (some .int) 1 d_X12_flag s_X12_flag) (g_X12_flag : d_X12_flag + 1 ≤ d) {d_X12_holds : Nat} {s_X12_holds : zq_Sp} (h_X12_holds : zq_M yX12_holds cX12_holds 4 (some .int) 1 d_X12_holds s_X12_holds) (g_X12_holds : d_X12_holds + 1 ≤ d) {Q : zq_Q} (hq : zq_R X (some .int) 1 Q) : zq_ok X 3 30 (xX12_guest_30 s_X12_isGuest s_X12_in s_X12_refuse s_X12_laysTable s_X12_held s_X12_isDue s_X12_flag s_X12_holds Q) := by
  refine zs_aload_n C dX12_guest_30 rfl ?_
  refine zs_callV C h_X12_laysTable g_X12_laysTable zy_X12_laysTable zp_56 (show vwCl[12]? = some (RX12, TX12, 67) from rfl) zw_1471 zw_1473 zs9_X12_laysTable dX12_guest_31 ?_
  refine zs_iload_n C dX12_guest_34 rfl ?_
  exact zs_tsw C dX12_guest_35 (by rfl) ⟨⟨by decide, _, _, rfl, by decide, kX12_guest_68 C h_X12_isGuest g_X12_isGuest h_X12_in g_X12_in h_X12_refuse g_X12_refuse h_X12_laysTable g_X12_laysTable h_X12_held g_X12_held h_X12_isDue g_X12_isDue h_X12_flag g_X12_flag h_X12_holds g_X12_holds hq⟩, ⟨by decide, _, _, rfl, by decide, kX12_guest_75 C h_X12_isGuest g_X12_isGuest h_X12_in g_X12_in h_X12_refuse g_X12_refuse h_X12_laysTable g_X12_laysTable h_X12_held g_X12_held h_X12_isDue g_X12_isDue h_X12_flag g_X12_flag h_X12_holds g_X12_holds hq⟩, ⟨by decide, _, _, rfl, by decide, kX12_guest_81 C h_X12_isGuest g_X12_isGuest h_X12_in g_X12_in h_X12_refuse g_X12_refuse h_X12_laysTable g_X12_laysTable h_X12_held g_X12_held h_X12_isDue g_X12_isDue h_X12_flag g_X12_flag h_X12_holds g_X12_holds hq⟩, ⟨by decide, _, _, rfl, by decide, kX12_guest_88 C h_X12_isGuest g_X12_isGuest h_X12_in g_X12_in h_X12_refuse g_X12_refuse h_X12_laysTable g_X12_laysTable h_X12_held g_X12_held h_X12_isDue g_X12_isDue h_X12_flag g_X12_flag h_X12_holds g_X12_holds hq⟩, ⟨by decide, _, _, rfl, by decide, kX12_guest_95 C h_X12_isGuest g_X12_isGuest h_X12_in g_X12_in h_X12_refuse g_X12_refuse h_X12_laysTable g_X12_laysTable h_X12_held g_X12_held h_X12_isDue g_X12_isDue h_X12_flag g_X12_flag h_X12_holds g_X12_holds hq⟩, trivial⟩ (by decide) (kX12_guest_113 C h_X12_isGuest g_X12_isGuest h_X12_in g_X12_in h_X12_refuse g_X12_refuse h_X12_laysTable g_X12_laysTable h_X12_held g_X12_held h_X12_isDue g_X12_isDue h_X12_flag g_X12_flag h_X12_holds g_X12_holds hq)
def xX12_guest_25 (s_X12_isGuest : zq_Sp) (s_X12_in : zq_Sp) (s_X12_refuse : zq_Sp) (s_X12_laysTable : zq_Sp) (s_X12_held : zq_Sp) (s_X12_isDue : zq_Sp) (s_X12_flag : zq_Sp) (s_X12_holds : zq_Sp) (Q : zq_Q) (ls : zq_L) (st : List Value) (h : zq_H) : Prop := (zi_aload 0 (zi_callV 0 56 s_X12_refuse (zi_iret Q))) ls st h
theorem kX12_guest_25 {X : zq_X} {d : Nat} (C : zq_C X cX12_guest 3 RX12 d) {d_X12_isGuest : Nat} {s_X12_isGuest : zq_Sp} (h_X12_isGuest : zq_M yX12_isGuest cX12_isGuest 2 (some .boolean) 1 d_X12_isGuest s_X12_isGuest) (g_X12_isGuest : d_X12_isGuest + 1 ≤ d) {d_X12_in : Nat} {s_X12_in : zq_Sp} (h_X12_in : zq_M yX12_in cX12_in 6 (some .boolean) 1 d_X12_in s_X12_in) (g_X12_in : d_X12_in + 1 ≤ d) {d_X12_refuse : Nat} {s_X12_refuse : zq_Sp} (h_X12_refuse : zq_M yX12_refuse cX12_refuse 1 (some .int) 1 d_X12_refuse s_X12_refuse) (g_X12_refuse : d_X12_refuse + 1 ≤ d) {d_X12_laysTable : Nat} {s_X12_laysTable : zq_Sp} (h_X12_laysTable : zq_M yX12_laysTable cX12_laysTable 3 none 0 d_X12_laysTable s_X12_laysTable) (g_X12_laysTable : d_X12_laysTable + 1 ≤ d) {d_X12_held : Nat} {s_X12_held : zq_Sp} (h_X12_held : zq_M yX12_held cX12_held 5 (some .int) 1 d_X12_held s_X12_held) (g_X12_held : d_X12_held + 1 ≤ d) {d_X12_isDue : Nat} {s_X12_isDue : zq_Sp} (h_X12_isDue : zq_M yX12_isDue cX12_isDue 5 (some .boolean) 1 d_X12_isDue s_X12_isDue) (g_X12_isDue : d_X12_isDue + 1 ≤ d) {d_X12_flag : Nat} {s_X12_flag : zq_Sp} (h_X12_flag : zq_M yX12_flag cX12_flag 1 (some .int) 1 d_X12_flag s_X12_flag) (g_X12_flag : d_X12_flag + 1 ≤ d) {d_X12_holds : Nat} {s_X12_holds : zq_Sp} (h_X12_holds : zq_M yX12_holds cX12_holds 4 (some .int) 1 d_X12_holds s_X12_holds) (g_X12_holds : d_X12_holds + 1 ≤ d) {Q : zq_Q} (hq : zq_R X (some .int) 1 Q) : zq_ok X 3 25 (xX12_guest_25 s_X12_isGuest s_X12_in s_X12_refuse s_X12_laysTable s_X12_held s_X12_isDue s_X12_flag s_X12_holds Q) := by
  refine zs_aload_n C dX12_guest_25 rfl ?_
  refine zs_callV C h_X12_refuse g_X12_refuse zy_X12_refuse zp_56 (show vwCl[12]? = some (RX12, TX12, 67) from rfl) zw_1458 zw_1460 zs9_X12_refuse dX12_guest_26 ?_
  exact zs_iret C hq dX12_guest_29
def xX12_guest_13 (s_X12_isGuest : zq_Sp) (s_X12_in : zq_Sp) (s_X12_refuse : zq_Sp) (s_X12_laysTable : zq_Sp) (s_X12_held : zq_Sp) (s_X12_isDue : zq_Sp) (s_X12_flag : zq_Sp) (s_X12_holds : zq_Sp) (Q : zq_Q) (ls : zq_L) (st : List Value) (h : zq_H) : Prop := (zi_iload 2 (zi_i2l (zi_push (.long 0) (zi_push (.long 7) (zi_callS 3 s_X12_in (zi_if1 (fun x => x = 0) (xX12_guest_25 s_X12_isGuest s_X12_in s_X12_refuse s_X12_laysTable s_X12_held s_X12_isDue s_X12_flag s_X12_holds Q) (xX12_guest_30 s_X12_isGuest s_X12_in s_X12_refuse s_X12_laysTable s_X12_held s_X12_isDue s_X12_flag s_X12_holds Q))))))) ls st h
theorem kX12_guest_13 {X : zq_X} {d : Nat} (C : zq_C X cX12_guest 3 RX12 d) {d_X12_isGuest : Nat} {s_X12_isGuest : zq_Sp} (h_X12_isGuest : zq_M yX12_isGuest cX12_isGuest 2 (some .boolean) 1 d_X12_isGuest s_X12_isGuest) (g_X12_isGuest : d_X12_isGuest + 1 ≤ d) {d_X12_in : Nat} {s_X12_in : zq_Sp} (h_X12_in : zq_M yX12_in cX12_in 6 (some .boolean) 1 d_X12_in s_X12_in) (g_X12_in : d_X12_in + 1 ≤ d) {d_X12_refuse : Nat} {s_X12_refuse : zq_Sp} (h_X12_refuse : zq_M yX12_refuse cX12_refuse 1 (some .int) 1 d_X12_refuse s_X12_refuse) (g_X12_refuse : d_X12_refuse + 1 ≤ d) {d_X12_laysTable : Nat} {s_X12_laysTable : zq_Sp} (h_X12_laysTable : zq_M yX12_laysTable cX12_laysTable 3 none 0 d_X12_laysTable s_X12_laysTable) (g_X12_laysTable : d_X12_laysTable + 1 ≤ d) {d_X12_held : Nat} {s_X12_held : zq_Sp} (h_X12_held : zq_M yX12_held cX12_held 5 (some .int) 1 d_X12_held s_X12_held) (g_X12_held : d_X12_held + 1 ≤ d) {d_X12_isDue : Nat} {s_X12_isDue : zq_Sp} (h_X12_isDue : zq_M yX12_isDue cX12_isDue 5 (some .boolean) 1 d_X12_isDue s_X12_isDue) (g_X12_isDue : d_X12_isDue + 1 ≤ d) {d_X12_flag : Nat} {s_X12_flag : zq_Sp} (h_X12_flag : zq_M yX12_flag cX12_flag 1 (some .int) 1 d_X12_flag s_X12_flag) (g_X12_flag : d_X12_flag + 1 ≤ d) {d_X12_holds : Nat} {s_X12_holds : zq_Sp} (h_X12_holds : zq_M yX12_holds cX12_holds 4 (some .int) 1 d_X12_holds s_X12_holds) (g_X12_holds : d_X12_holds + 1 ≤ d) {Q : zq_Q} (hq : zq_R X (some .int) 1 Q) : zq_ok X 3 13 (xX12_guest_13 s_X12_isGuest s_X12_in s_X12_refuse s_X12_laysTable s_X12_held s_X12_isDue s_X12_flag s_X12_holds Q) := by
  refine zs_iload_n C dX12_guest_13 rfl ?_
  refine zs_i2l C dX12_guest_14 ?_
  refine zs_lconst C dX12_guest_15 (by decide) ?_
  refine zs_ldc2 C dX12_guest_16 zw_1470 ?_
  refine zs_callS C h_X12_in g_X12_in zy_X12_in zw_1311 zw_1312 dX12_guest_19 ?_
  exact zs_if_ne C dX12_guest_22 (by decide) (kX12_guest_30 C h_X12_isGuest g_X12_isGuest h_X12_in g_X12_in h_X12_refuse g_X12_refuse h_X12_laysTable g_X12_laysTable h_X12_held g_X12_held h_X12_isDue g_X12_isDue h_X12_flag g_X12_flag h_X12_holds g_X12_holds hq) (kX12_guest_25 C h_X12_isGuest g_X12_isGuest h_X12_in g_X12_in h_X12_refuse g_X12_refuse h_X12_laysTable g_X12_laysTable h_X12_held g_X12_held h_X12_isDue g_X12_isDue h_X12_flag g_X12_flag h_X12_holds g_X12_holds hq)
def xX12_guest_0 (s_X12_isGuest : zq_Sp) (s_X12_in : zq_Sp) (s_X12_refuse : zq_Sp) (s_X12_laysTable : zq_Sp) (s_X12_held : zq_Sp) (s_X12_isDue : zq_Sp) (s_X12_flag : zq_Sp) (s_X12_holds : zq_Sp) (Q : zq_Q) (ls : zq_L) (st : List Value) (h : zq_H) : Prop := (zi_aload 0 (zi_push (.int 0) (zi_putI 56 0 (zi_aload 0 (zi_iload 1 (zi_callV 1 56 s_X12_isGuest (zi_if1 (fun x => x = 0) (xX12_guest_25 s_X12_isGuest s_X12_in s_X12_refuse s_X12_laysTable s_X12_held s_X12_isDue s_X12_flag s_X12_holds Q) (xX12_guest_13 s_X12_isGuest s_X12_in s_X12_refuse s_X12_laysTable s_X12_held s_X12_isDue s_X12_flag s_X12_holds Q)))))))) ls st h
theorem kX12_guest_0 {X : zq_X} {d : Nat} (C : zq_C X cX12_guest 3 RX12 d) {d_X12_isGuest : Nat} {s_X12_isGuest : zq_Sp} (h_X12_isGuest : zq_M yX12_isGuest cX12_isGuest 2 (some .boolean) 1 d_X12_isGuest s_X12_isGuest) (g_X12_isGuest : d_X12_isGuest + 1 ≤ d) {d_X12_in : Nat} {s_X12_in : zq_Sp} (h_X12_in : zq_M yX12_in cX12_in 6 (some .boolean) 1 d_X12_in s_X12_in) (g_X12_in : d_X12_in + 1 ≤ d) {d_X12_refuse : Nat} {s_X12_refuse : zq_Sp} (h_X12_refuse : zq_M yX12_refuse cX12_refuse 1 (some .int) 1 d_X12_refuse s_X12_refuse) (g_X12_refuse : d_X12_refuse + 1 ≤ d) {d_X12_laysTable : Nat} {s_X12_laysTable : zq_Sp} (h_X12_laysTable : zq_M yX12_laysTable cX12_laysTable 3 none 0 d_X12_laysTable s_X12_laysTable) (g_X12_laysTable : d_X12_laysTable + 1 ≤ d) {d_X12_held : Nat} {s_X12_held : zq_Sp} (h_X12_held : zq_M yX12_held cX12_held 5 (some .int) 1 d_X12_held s_X12_held) (g_X12_held : d_X12_held + 1 ≤ d) {d_X12_isDue : Nat} {s_X12_isDue : zq_Sp} (h_X12_isDue : zq_M yX12_isDue cX12_isDue 5 (some .boolean) 1 d_X12_isDue s_X12_isDue) (g_X12_isDue : d_X12_isDue + 1 ≤ d) {d_X12_flag : Nat} {s_X12_flag : zq_Sp} (h_X12_flag : zq_M yX12_flag cX12_flag 1 (some .int) 1 d_X12_flag s_X12_flag) (g_X12_flag : d_X12_flag + 1 ≤ d) {d_X12_holds : Nat} {s_X12_holds : zq_Sp} (h_X12_holds : zq_M yX12_holds cX12_holds 4 (some .int) 1 d_X12_holds s_X12_holds) (g_X12_holds : d_X12_holds + 1 ≤ d) {Q : zq_Q} (hq : zq_R X (some .int) 1 Q) : zq_ok X 3 0 (xX12_guest_0 s_X12_isGuest s_X12_in s_X12_refuse s_X12_laysTable s_X12_held s_X12_isDue s_X12_flag s_X12_holds Q) := by
  refine zs_aload_n C dX12_guest_0 rfl ?_
  refine zs_iconst C dX12_guest_1 (by decide) ?_
  refine zs_putI C zp_56 zF12 (j := 0) ⟨by decide, rfl⟩ ⟨rfl, by decide +kernel⟩ zw_1096 dX12_guest_2 ?_
  refine zs_aload_n C dX12_guest_5 rfl ?_
  refine zs_iload_n C dX12_guest_6 rfl ?_
  refine zs_callV C h_X12_isGuest g_X12_isGuest zy_X12_isGuest zp_56 (show vwCl[12]? = some (RX12, TX12, 67) from rfl) zw_1466 zw_1468 zs9_X12_isGuest dX12_guest_7 ?_
  exact zs_if_eq C dX12_guest_10 (by decide) (kX12_guest_25 C h_X12_isGuest g_X12_isGuest h_X12_in g_X12_in h_X12_refuse g_X12_refuse h_X12_laysTable g_X12_laysTable h_X12_held g_X12_held h_X12_isDue g_X12_isDue h_X12_flag g_X12_flag h_X12_holds g_X12_holds hq) (kX12_guest_13 C h_X12_isGuest g_X12_isGuest h_X12_in g_X12_in h_X12_refuse g_X12_refuse h_X12_laysTable g_X12_laysTable h_X12_held g_X12_held h_X12_isDue g_X12_isDue h_X12_flag g_X12_flag h_X12_holds g_X12_holds hq)
theorem mX12_guest {d : Nat} {spec : zq_Sp} {d_X12_isGuest : Nat} {s_X12_isGuest : zq_Sp} (h_X12_isGuest : zq_M yX12_isGuest cX12_isGuest 2 (some .boolean) 1 d_X12_isGuest s_X12_isGuest) (g_X12_isGuest : d_X12_isGuest + 1 ≤ d) {d_X12_in : Nat} {s_X12_in : zq_Sp} (h_X12_in : zq_M yX12_in cX12_in 6 (some .boolean) 1 d_X12_in s_X12_in) (g_X12_in : d_X12_in + 1 ≤ d) {d_X12_refuse : Nat} {s_X12_refuse : zq_Sp} (h_X12_refuse : zq_M yX12_refuse cX12_refuse 1 (some .int) 1 d_X12_refuse s_X12_refuse) (g_X12_refuse : d_X12_refuse + 1 ≤ d) {d_X12_laysTable : Nat} {s_X12_laysTable : zq_Sp} (h_X12_laysTable : zq_M yX12_laysTable cX12_laysTable 3 none 0 d_X12_laysTable s_X12_laysTable) (g_X12_laysTable : d_X12_laysTable + 1 ≤ d) {d_X12_held : Nat} {s_X12_held : zq_Sp} (h_X12_held : zq_M yX12_held cX12_held 5 (some .int) 1 d_X12_held s_X12_held) (g_X12_held : d_X12_held + 1 ≤ d) {d_X12_isDue : Nat} {s_X12_isDue : zq_Sp} (h_X12_isDue : zq_M yX12_isDue cX12_isDue 5 (some .boolean) 1 d_X12_isDue s_X12_isDue) (g_X12_isDue : d_X12_isDue + 1 ≤ d) {d_X12_flag : Nat} {s_X12_flag : zq_Sp} (h_X12_flag : zq_M yX12_flag cX12_flag 1 (some .int) 1 d_X12_flag s_X12_flag) (g_X12_flag : d_X12_flag + 1 ≤ d) {d_X12_holds : Nat} {s_X12_holds : zq_Sp} (h_X12_holds : zq_M yX12_holds cX12_holds 4 (some .int) 1 d_X12_holds s_X12_holds) (g_X12_holds : d_X12_holds + 1 ≤ d) (v : ∀ args h Q, spec args h Q → (zq_a args).length ≤ 3 ∧ xX12_guest_0 s_X12_isGuest s_X12_in s_X12_refuse s_X12_laysTable s_X12_held s_X12_isDue s_X12_flag s_X12_holds Q (zq_l0 3 args) [] h) : zq_M yX12_guest cX12_guest 3 (some .int) 1 d spec := by
  refine zq_met (by decide +kernel) (by decide) (fun X Q args h C hq hs => ⟨(v args h Q hs).1, _, ?_, (v args h Q hs).2⟩)
  exact kX12_guest_0 C h_X12_isGuest g_X12_isGuest h_X12_in g_X12_in h_X12_refuse g_X12_refuse h_X12_laysTable g_X12_laysTable h_X12_held g_X12_held h_X12_isDue g_X12_isDue h_X12_flag g_X12_flag h_X12_holds g_X12_holds hq
/-! ToOneCrumbModel.worth(II)I -/
theorem dX12_worth_0 : decode cX12_worth 0 = .ok (.aload_n 0, 1) := by decide +kernel
theorem dX12_worth_1 : decode cX12_worth 1 = .ok (.iconst 0, 1) := by decide +kernel
theorem dX12_worth_2 : decode cX12_worth 2 = .ok (.putfield 147, 3) := by decide +kernel
theorem dX12_worth_5 : decode cX12_worth 5 = .ok (.aload_n 0, 1) := by decide +kernel
theorem dX12_worth_6 : decode cX12_worth 6 = .ok (.iload_n 1, 1) := by decide +kernel
theorem dX12_worth_7 : decode cX12_worth 7 = .ok (.invokevirtual 313, 3) := by decide +kernel
theorem dX12_worth_10 : decode cX12_worth 10 = .ok (.ifCond .eq 20, 3) := by decide +kernel
theorem dX12_worth_13 : decode cX12_worth 13 = .ok (.aload_n 0, 1) := by decide +kernel
theorem dX12_worth_14 : decode cX12_worth 14 = .ok (.iload_n 2, 1) := by decide +kernel
theorem dX12_worth_15 : decode cX12_worth 15 = .ok (.invokevirtual 168, 3) := by decide +kernel
theorem dX12_worth_18 : decode cX12_worth 18 = .ok (.ifCond .eq 12, 3) := by decide +kernel
theorem dX12_worth_21 : decode cX12_worth 21 = .ok (.aload_n 0, 1) := by decide +kernel
theorem dX12_worth_22 : decode cX12_worth 22 = .ok (.iload_n 1, 1) := by decide +kernel
theorem dX12_worth_23 : decode cX12_worth 23 = .ok (.iload_n 2, 1) := by decide +kernel
theorem dX12_worth_24 : decode cX12_worth 24 = .ok (.invokevirtual 303, 3) := by decide +kernel
theorem dX12_worth_27 : decode cX12_worth 27 = .ok (.goto 4, 3) := by decide +kernel
theorem dX12_worth_30 : decode cX12_worth 30 = .ok (.iconst (-1), 1) := by decide +kernel
theorem dX12_worth_31 : decode cX12_worth 31 = .ok (.ireturn, 1) := by decide +kernel
def xX12_worth_31 (s_X12_isGuest : zq_Sp) (s_X12_isCell : zq_Sp) (s_X12_worthOf : zq_Sp) (Q : zq_Q) (ls : zq_L) (st : List Value) (h : zq_H) : Prop := (zi_iret Q) ls st h
theorem kX12_worth_31 {X : zq_X} {d : Nat} (C : zq_C X cX12_worth 3 RX12 d) {d_X12_isGuest : Nat} {s_X12_isGuest : zq_Sp} (h_X12_isGuest : zq_M yX12_isGuest cX12_isGuest 2 (some .boolean) 1 d_X12_isGuest s_X12_isGuest) (g_X12_isGuest : d_X12_isGuest + 1 ≤ d) {d_X12_isCell : Nat} {s_X12_isCell : zq_Sp} (h_X12_isCell : zq_M yX12_isCell cX12_isCell 2 (some .boolean) 1 d_X12_isCell s_X12_isCell) (g_X12_isCell : d_X12_isCell + 1 ≤ d) {d_X12_worthOf : Nat} {s_X12_worthOf : zq_Sp} (h_X12_worthOf : zq_M yX12_worthOf cX12_worthOf 3 (some .int) 1 d_X12_worthOf s_X12_worthOf) (g_X12_worthOf : d_X12_worthOf + 1 ≤ d) {Q : zq_Q} (hq : zq_R X (some .int) 1 Q) : zq_ok X 3 31 (xX12_worth_31 s_X12_isGuest s_X12_isCell s_X12_worthOf Q) := by
  exact zs_iret C hq dX12_worth_31
def xX12_worth_30 (s_X12_isGuest : zq_Sp) (s_X12_isCell : zq_Sp) (s_X12_worthOf : zq_Sp) (Q : zq_Q) (ls : zq_L) (st : List Value) (h : zq_H) : Prop := (zi_push (.int (-1)) ((xX12_worth_31 s_X12_isGuest s_X12_isCell s_X12_worthOf Q))) ls st h
theorem kX12_worth_30 {X : zq_X} {d : Nat} (C : zq_C X cX12_worth 3 RX12 d) {d_X12_isGuest : Nat} {s_X12_isGuest : zq_Sp} (h_X12_isGuest : zq_M yX12_isGuest cX12_isGuest 2 (some .boolean) 1 d_X12_isGuest s_X12_isGuest) (g_X12_isGuest : d_X12_isGuest + 1 ≤ d) {d_X12_isCell : Nat} {s_X12_isCell : zq_Sp} (h_X12_isCell : zq_M yX12_isCell cX12_isCell 2 (some .boolean) 1 d_X12_isCell s_X12_isCell) (g_X12_isCell : d_X12_isCell + 1 ≤ d) {d_X12_worthOf : Nat} {s_X12_worthOf : zq_Sp} (h_X12_worthOf : zq_M yX12_worthOf cX12_worthOf 3 (some .int) 1 d_X12_worthOf s_X12_worthOf) (g_X12_worthOf : d_X12_worthOf + 1 ≤ d) {Q : zq_Q} (hq : zq_R X (some .int) 1 Q) : zq_ok X 3 30 (xX12_worth_30 s_X12_isGuest s_X12_isCell s_X12_worthOf Q) := by
  refine zs_iconst C dX12_worth_30 (by decide) ?_
  exact kX12_worth_31 C h_X12_isGuest g_X12_isGuest h_X12_isCell g_X12_isCell h_X12_worthOf g_X12_worthOf hq
def xX12_worth_21 (s_X12_isGuest : zq_Sp) (s_X12_isCell : zq_Sp) (s_X12_worthOf : zq_Sp) (Q : zq_Q) (ls : zq_L) (st : List Value) (h : zq_H) : Prop := (zi_aload 0 (zi_iload 1 (zi_iload 2 (zi_callV 2 56 s_X12_worthOf ((xX12_worth_31 s_X12_isGuest s_X12_isCell s_X12_worthOf Q)))))) ls st h
theorem kX12_worth_21 {X : zq_X} {d : Nat} (C : zq_C X cX12_worth 3 RX12 d) {d_X12_isGuest : Nat} {s_X12_isGuest : zq_Sp} (h_X12_isGuest : zq_M yX12_isGuest cX12_isGuest 2 (some .boolean) 1 d_X12_isGuest s_X12_isGuest) (g_X12_isGuest : d_X12_isGuest + 1 ≤ d) {d_X12_isCell : Nat} {s_X12_isCell : zq_Sp} (h_X12_isCell : zq_M yX12_isCell cX12_isCell 2 (some .boolean) 1 d_X12_isCell s_X12_isCell) (g_X12_isCell : d_X12_isCell + 1 ≤ d) {d_X12_worthOf : Nat} {s_X12_worthOf : zq_Sp} (h_X12_worthOf : zq_M yX12_worthOf cX12_worthOf 3 (some .int) 1 d_X12_worthOf s_X12_worthOf) (g_X12_worthOf : d_X12_worthOf + 1 ≤ d) {Q : zq_Q} (hq : zq_R X (some .int) 1 Q) : zq_ok X 3 21 (xX12_worth_21 s_X12_isGuest s_X12_isCell s_X12_worthOf Q) := by
  refine zs_aload_n C dX12_worth_21 rfl ?_
  refine zs_iload_n C dX12_worth_22 rfl ?_
  refine zs_iload_n C dX12_worth_23 rfl ?_
  refine zs_callV C h_X12_worthOf g_X12_worthOf zy_X12_worthOf zp_56 (show vwCl[12]? = some (RX12, TX12, 67) from rfl) zw_1475 zw_1477 zs9_X12_worthOf dX12_worth_24 ?_
  exact zs_goto C dX12_worth_27 (by decide) (kX12_worth_31 C h_X12_isGuest g_X12_isGuest h_X12_isCell g_X12_isCell h_X12_worthOf g_X12_worthOf hq)
def xX12_worth_13 (s_X12_isGuest : zq_Sp) (s_X12_isCell : zq_Sp) (s_X12_worthOf : zq_Sp) (Q : zq_Q) (ls : zq_L) (st : List Value) (h : zq_H) : Prop := (zi_aload 0 (zi_iload 2 (zi_callV 1 56 s_X12_isCell (zi_if1 (fun x => x = 0) (xX12_worth_30 s_X12_isGuest s_X12_isCell s_X12_worthOf Q) (xX12_worth_21 s_X12_isGuest s_X12_isCell s_X12_worthOf Q))))) ls st h
theorem kX12_worth_13 {X : zq_X} {d : Nat} (C : zq_C X cX12_worth 3 RX12 d) {d_X12_isGuest : Nat} {s_X12_isGuest : zq_Sp} (h_X12_isGuest : zq_M yX12_isGuest cX12_isGuest 2 (some .boolean) 1 d_X12_isGuest s_X12_isGuest) (g_X12_isGuest : d_X12_isGuest + 1 ≤ d) {d_X12_isCell : Nat} {s_X12_isCell : zq_Sp} (h_X12_isCell : zq_M yX12_isCell cX12_isCell 2 (some .boolean) 1 d_X12_isCell s_X12_isCell) (g_X12_isCell : d_X12_isCell + 1 ≤ d) {d_X12_worthOf : Nat} {s_X12_worthOf : zq_Sp} (h_X12_worthOf : zq_M yX12_worthOf cX12_worthOf 3 (some .int) 1 d_X12_worthOf s_X12_worthOf) (g_X12_worthOf : d_X12_worthOf + 1 ≤ d) {Q : zq_Q} (hq : zq_R X (some .int) 1 Q) : zq_ok X 3 13 (xX12_worth_13 s_X12_isGuest s_X12_isCell s_X12_worthOf Q) := by
  refine zs_aload_n C dX12_worth_13 rfl ?_
  refine zs_iload_n C dX12_worth_14 rfl ?_
  refine zs_callV C h_X12_isCell g_X12_isCell zy_X12_isCell zp_56 (show vwCl[12]? = some (RX12, TX12, 67) from rfl) zw_1453 zw_1455 zs9_X12_isCell dX12_worth_15 ?_
  exact zs_if_eq C dX12_worth_18 (by decide) (kX12_worth_30 C h_X12_isGuest g_X12_isGuest h_X12_isCell g_X12_isCell h_X12_worthOf g_X12_worthOf hq) (kX12_worth_21 C h_X12_isGuest g_X12_isGuest h_X12_isCell g_X12_isCell h_X12_worthOf g_X12_worthOf hq)
def xX12_worth_0 (s_X12_isGuest : zq_Sp) (s_X12_isCell : zq_Sp) (s_X12_worthOf : zq_Sp) (Q : zq_Q) (ls : zq_L) (st : List Value) (h : zq_H) : Prop := (zi_aload 0 (zi_push (.int 0) (zi_putI 56 0 (zi_aload 0 (zi_iload 1 (zi_callV 1 56 s_X12_isGuest (zi_if1 (fun x => x = 0) (xX12_worth_30 s_X12_isGuest s_X12_isCell s_X12_worthOf Q) (xX12_worth_13 s_X12_isGuest s_X12_isCell s_X12_worthOf Q)))))))) ls st h
theorem kX12_worth_0 {X : zq_X} {d : Nat} (C : zq_C X cX12_worth 3 RX12 d) {d_X12_isGuest : Nat} {s_X12_isGuest : zq_Sp} (h_X12_isGuest : zq_M yX12_isGuest cX12_isGuest 2 (some .boolean) 1 d_X12_isGuest s_X12_isGuest) (g_X12_isGuest : d_X12_isGuest + 1 ≤ d) {d_X12_isCell : Nat} {s_X12_isCell : zq_Sp} (h_X12_isCell : zq_M yX12_isCell cX12_isCell 2 (some .boolean) 1 d_X12_isCell s_X12_isCell) (g_X12_isCell : d_X12_isCell + 1 ≤ d) {d_X12_worthOf : Nat} {s_X12_worthOf : zq_Sp} (h_X12_worthOf : zq_M yX12_worthOf cX12_worthOf 3 (some .int) 1 d_X12_worthOf s_X12_worthOf) (g_X12_worthOf : d_X12_worthOf + 1 ≤ d) {Q : zq_Q} (hq : zq_R X (some .int) 1 Q) : zq_ok X 3 0 (xX12_worth_0 s_X12_isGuest s_X12_isCell s_X12_worthOf Q) := by
  refine zs_aload_n C dX12_worth_0 rfl ?_
  refine zs_iconst C dX12_worth_1 (by decide) ?_
  refine zs_putI C zp_56 zF12 (j := 0) ⟨by decide, rfl⟩ ⟨rfl, by decide +kernel⟩ zw_1096 dX12_worth_2 ?_
  refine zs_aload_n C dX12_worth_5 rfl ?_
  refine zs_iload_n C dX12_worth_6 rfl ?_
  refine zs_callV C h_X12_isGuest g_X12_isGuest zy_X12_isGuest zp_56 (show vwCl[12]? = some (RX12, TX12, 67) from rfl) zw_1466 zw_1468 zs9_X12_isGuest dX12_worth_7 ?_
  exact zs_if_eq C dX12_worth_10 (by decide) (kX12_worth_30 C h_X12_isGuest g_X12_isGuest h_X12_isCell g_X12_isCell h_X12_worthOf g_X12_worthOf hq) (kX12_worth_13 C h_X12_isGuest g_X12_isGuest h_X12_isCell g_X12_isCell h_X12_worthOf g_X12_worthOf hq)
theorem mX12_worth {d : Nat} {spec : zq_Sp} {d_X12_isGuest : Nat} {s_X12_isGuest : zq_Sp} (h_X12_isGuest : zq_M yX12_isGuest cX12_isGuest 2 (some .boolean) 1 d_X12_isGuest s_X12_isGuest) (g_X12_isGuest : d_X12_isGuest + 1 ≤ d) {d_X12_isCell : Nat} {s_X12_isCell : zq_Sp} (h_X12_isCell : zq_M yX12_isCell cX12_isCell 2 (some .boolean) 1 d_X12_isCell s_X12_isCell) (g_X12_isCell : d_X12_isCell + 1 ≤ d) {d_X12_worthOf : Nat} {s_X12_worthOf : zq_Sp} (h_X12_worthOf : zq_M yX12_worthOf cX12_worthOf 3 (some .int) 1 d_X12_worthOf s_X12_worthOf) (g_X12_worthOf : d_X12_worthOf + 1 ≤ d) (v : ∀ args h Q, spec args h Q → (zq_a args).length ≤ 3 ∧ xX12_worth_0 s_X12_isGuest s_X12_isCell s_X12_worthOf Q (zq_l0 3 args) [] h) : zq_M yX12_worth cX12_worth 3 (some .int) 1 d spec := by
  refine zq_met (by decide +kernel) (by decide) (fun X Q args h C hq hs => ⟨(v args h Q hs).1, _, ?_, (v args h Q hs).2⟩)
  exact kX12_worth_0 C h_X12_isGuest g_X12_isGuest h_X12_isCell g_X12_isCell h_X12_worthOf g_X12_worthOf hq
/-! ToOneCrumbModel.taste(III)I -/
theorem dX12_taste_0 : decode cX12_taste 0 = .ok (.aload_n 0, 1) := by decide +kernel
theorem dX12_taste_1 : decode cX12_taste 1 = .ok (.iconst 0, 1) := by decide +kernel
theorem dX12_taste_2 : decode cX12_taste 2 = .ok (.putfield 147, 3) := by decide +kernel
theorem dX12_taste_5 : decode cX12_taste 5 = .ok (.aload_n 0, 1) := by decide +kernel
theorem dX12_taste_6 : decode cX12_taste 6 = .ok (.iload_n 1, 1) := by decide +kernel
theorem dX12_taste_7 : decode cX12_taste 7 = .ok (.invokevirtual 313, 3) := by decide +kernel
theorem dX12_taste_10 : decode cX12_taste 10 = .ok (.ifCond .eq 27, 3) := by decide +kernel
theorem dX12_taste_13 : decode cX12_taste 13 = .ok (.iload_n 2, 1) := by decide +kernel
theorem dX12_taste_14 : decode cX12_taste 14 = .ok (.i2l, 1) := by decide +kernel
theorem dX12_taste_15 : decode cX12_taste 15 = .ok (.lconst 0, 1) := by decide +kernel
theorem dX12_taste_16 : decode cX12_taste 16 = .ok (.ldc2_w 331, 3) := by decide +kernel
theorem dX12_taste_19 : decode cX12_taste 19 = .ok (.invokestatic 161, 3) := by decide +kernel
theorem dX12_taste_22 : decode cX12_taste 22 = .ok (.ifCond .eq 15, 3) := by decide +kernel
theorem dX12_taste_25 : decode cX12_taste 25 = .ok (.iload_n 3, 1) := by decide +kernel
theorem dX12_taste_26 : decode cX12_taste 26 = .ok (.i2l, 1) := by decide +kernel
theorem dX12_taste_27 : decode cX12_taste 27 = .ok (.lconst 0, 1) := by decide +kernel
theorem dX12_taste_28 : decode cX12_taste 28 = .ok (.ldc2_w 333, 3) := by decide +kernel
theorem dX12_taste_31 : decode cX12_taste 31 = .ok (.invokestatic 161, 3) := by decide +kernel
theorem dX12_taste_34 : decode cX12_taste 34 = .ok (.ifCond .ne 5, 3) := by decide +kernel
theorem dX12_taste_37 : decode cX12_taste 37 = .ok (.iconst (-1), 1) := by decide +kernel
theorem dX12_taste_38 : decode cX12_taste 38 = .ok (.ireturn, 1) := by decide +kernel
theorem dX12_taste_39 : decode cX12_taste 39 = .ok (.aload_n 0, 1) := by decide +kernel
theorem dX12_taste_40 : decode cX12_taste 40 = .ok (.getfield 24, 3) := by decide +kernel
theorem dX12_taste_43 : decode cX12_taste 43 = .ok (.iconst 3, 1) := by decide +kernel
theorem dX12_taste_44 : decode cX12_taste 44 = .ok (.iload_n 1, 1) := by decide +kernel
theorem dX12_taste_45 : decode cX12_taste 45 = .ok (.imul, 1) := by decide +kernel
theorem dX12_taste_46 : decode cX12_taste 46 = .ok (.iload_n 2, 1) := by decide +kernel
theorem dX12_taste_47 : decode cX12_taste 47 = .ok (.iadd, 1) := by decide +kernel
theorem dX12_taste_48 : decode cX12_taste 48 = .ok (.iaload, 1) := by decide +kernel
theorem dX12_taste_49 : decode cX12_taste 49 = .ok (.istore 4, 2) := by decide +kernel
theorem dX12_taste_51 : decode cX12_taste 51 = .ok (.aload_n 0, 1) := by decide +kernel
theorem dX12_taste_52 : decode cX12_taste 52 = .ok (.getfield 24, 3) := by decide +kernel
theorem dX12_taste_55 : decode cX12_taste 55 = .ok (.iconst 3, 1) := by decide +kernel
theorem dX12_taste_56 : decode cX12_taste 56 = .ok (.iload_n 1, 1) := by decide +kernel
theorem dX12_taste_57 : decode cX12_taste 57 = .ok (.imul, 1) := by decide +kernel
theorem dX12_taste_58 : decode cX12_taste 58 = .ok (.iload_n 2, 1) := by decide +kernel
theorem dX12_taste_59 : decode cX12_taste 59 = .ok (.iadd, 1) := by decide +kernel
theorem dX12_taste_60 : decode cX12_taste 60 = .ok (.iload_n 3, 1) := by decide +kernel
theorem dX12_taste_61 : decode cX12_taste 61 = .ok (.iastore, 1) := by decide +kernel
theorem dX12_taste_62 : decode cX12_taste 62 = .ok (.iload 4, 2) := by decide +kernel
theorem dX12_taste_64 : decode cX12_taste 64 = .ok (.ireturn, 1) := by decide +kernel
def xX12_taste_39 (s_X12_isGuest : zq_Sp) (s_X12_in : zq_Sp) (Q : zq_Q) (ls : zq_L) (st : List Value) (h : zq_H) : Prop := (zi_aload 0 (zi_getR 56 61 (zi_push (.int 3) (zi_iload 1 (zi_i2 (fun x y => x * y) (zi_iload 2 (zi_i2 (fun x y => x + y) (zi_aldI 61 18 (zi_istore 4 (zi_aload 0 (zi_getR 56 61 (zi_push (.int 3) (zi_iload 1 (zi_i2 (fun x y => x * y) (zi_iload 2 (zi_i2 (fun x y => x + y) (zi_iload 3 (zi_astI 61 18 (zi_iload 4 (zi_iret Q)))))))))))))))))))) ls st h
theorem kX12_taste_39 {X : zq_X} {d : Nat} (C : zq_C X cX12_taste 5 RX12 d) {d_X12_isGuest : Nat} {s_X12_isGuest : zq_Sp} (h_X12_isGuest : zq_M yX12_isGuest cX12_isGuest 2 (some .boolean) 1 d_X12_isGuest s_X12_isGuest) (g_X12_isGuest : d_X12_isGuest + 1 ≤ d) {d_X12_in : Nat} {s_X12_in : zq_Sp} (h_X12_in : zq_M yX12_in cX12_in 6 (some .boolean) 1 d_X12_in s_X12_in) (g_X12_in : d_X12_in + 1 ≤ d) {Q : zq_Q} (hq : zq_R X (some .int) 1 Q) : zq_ok X 5 39 (xX12_taste_39 s_X12_isGuest s_X12_in Q) := by
  refine zs_aload_n C dX12_taste_39 rfl ?_
  refine zs_getR C zp_56 zF12 (j := 9) ⟨by decide, rfl⟩ zw_1105 dX12_taste_40 ?_
  refine zs_iconst C dX12_taste_43 (by decide) ?_
  refine zs_iload_n C dX12_taste_44 rfl ?_
  refine zs_imul C dX12_taste_45 ?_
  refine zs_iload_n C dX12_taste_46 rfl ?_
  refine zs_iadd C dX12_taste_47 ?_
  refine zs_iaload C zp_61 dX12_taste_48 ?_
  refine zs_istore C dX12_taste_49 (by decide) ?_
  refine zs_aload_n C dX12_taste_51 rfl ?_
  refine zs_getR C zp_56 zF12 (j := 9) ⟨by decide, rfl⟩ zw_1105 dX12_taste_52 ?_
  refine zs_iconst C dX12_taste_55 (by decide) ?_
  refine zs_iload_n C dX12_taste_56 rfl ?_
  refine zs_imul C dX12_taste_57 ?_
  refine zs_iload_n C dX12_taste_58 rfl ?_
  refine zs_iadd C dX12_taste_59 ?_
  refine zs_iload_n C dX12_taste_60 rfl ?_
  refine zs_iastore C zp_61 dX12_taste_61 ?_
  refine zs_iload C dX12_taste_62 ?_
  exact zs_iret C hq dX12_taste_64
def xX12_taste_37 (s_X12_isGuest : zq_Sp) (s_X12_in : zq_Sp) (Q : zq_Q) (ls : zq_L) (st : List Value) (h : zq_H) : Prop := (zi_push (.int (-1)) (zi_iret Q)) ls st h
theorem kX12_taste_37 {X : zq_X} {d : Nat} (C : zq_C X cX12_taste 5 RX12 d) {d_X12_isGuest : Nat} {s_X12_isGuest : zq_Sp} (h_X12_isGuest : zq_M yX12_isGuest cX12_isGuest 2 (some .boolean) 1 d_X12_isGuest s_X12_isGuest) (g_X12_isGuest : d_X12_isGuest + 1 ≤ d) {d_X12_in : Nat} {s_X12_in : zq_Sp} (h_X12_in : zq_M yX12_in cX12_in 6 (some .boolean) 1 d_X12_in s_X12_in) (g_X12_in : d_X12_in + 1 ≤ d) {Q : zq_Q} (hq : zq_R X (some .int) 1 Q) : zq_ok X 5 37 (xX12_taste_37 s_X12_isGuest s_X12_in Q) := by
  refine zs_iconst C dX12_taste_37 (by decide) ?_
  exact zs_iret C hq dX12_taste_38
def xX12_taste_25 (s_X12_isGuest : zq_Sp) (s_X12_in : zq_Sp) (Q : zq_Q) (ls : zq_L) (st : List Value) (h : zq_H) : Prop := (zi_iload 3 (zi_i2l (zi_push (.long 0) (zi_push (.long 9) (zi_callS 3 s_X12_in (zi_if1 (fun x => x = 0) (xX12_taste_37 s_X12_isGuest s_X12_in Q) (xX12_taste_39 s_X12_isGuest s_X12_in Q))))))) ls st h
theorem kX12_taste_25 {X : zq_X} {d : Nat} (C : zq_C X cX12_taste 5 RX12 d) {d_X12_isGuest : Nat} {s_X12_isGuest : zq_Sp} (h_X12_isGuest : zq_M yX12_isGuest cX12_isGuest 2 (some .boolean) 1 d_X12_isGuest s_X12_isGuest) (g_X12_isGuest : d_X12_isGuest + 1 ≤ d) {d_X12_in : Nat} {s_X12_in : zq_Sp} (h_X12_in : zq_M yX12_in cX12_in 6 (some .boolean) 1 d_X12_in s_X12_in) (g_X12_in : d_X12_in + 1 ≤ d) {Q : zq_Q} (hq : zq_R X (some .int) 1 Q) : zq_ok X 5 25 (xX12_taste_25 s_X12_isGuest s_X12_in Q) := by
  refine zs_iload_n C dX12_taste_25 rfl ?_
  refine zs_i2l C dX12_taste_26 ?_
  refine zs_lconst C dX12_taste_27 (by decide) ?_
  refine zs_ldc2 C dX12_taste_28 zw_1512 ?_
  refine zs_callS C h_X12_in g_X12_in zy_X12_in zw_1311 zw_1312 dX12_taste_31 ?_
  exact zs_if_ne C dX12_taste_34 (by decide) (kX12_taste_39 C h_X12_isGuest g_X12_isGuest h_X12_in g_X12_in hq) (kX12_taste_37 C h_X12_isGuest g_X12_isGuest h_X12_in g_X12_in hq)
def xX12_taste_13 (s_X12_isGuest : zq_Sp) (s_X12_in : zq_Sp) (Q : zq_Q) (ls : zq_L) (st : List Value) (h : zq_H) : Prop := (zi_iload 2 (zi_i2l (zi_push (.long 0) (zi_push (.long 2) (zi_callS 3 s_X12_in (zi_if1 (fun x => x = 0) (xX12_taste_37 s_X12_isGuest s_X12_in Q) (xX12_taste_25 s_X12_isGuest s_X12_in Q))))))) ls st h
theorem kX12_taste_13 {X : zq_X} {d : Nat} (C : zq_C X cX12_taste 5 RX12 d) {d_X12_isGuest : Nat} {s_X12_isGuest : zq_Sp} (h_X12_isGuest : zq_M yX12_isGuest cX12_isGuest 2 (some .boolean) 1 d_X12_isGuest s_X12_isGuest) (g_X12_isGuest : d_X12_isGuest + 1 ≤ d) {d_X12_in : Nat} {s_X12_in : zq_Sp} (h_X12_in : zq_M yX12_in cX12_in 6 (some .boolean) 1 d_X12_in s_X12_in) (g_X12_in : d_X12_in + 1 ≤ d) {Q : zq_Q} (hq : zq_R X (some .int) 1 Q) : zq_ok X 5 13 (xX12_taste_13 s_X12_isGuest s_X12_in Q) := by
  refine zs_iload_n C dX12_taste_13 rfl ?_
  refine zs_i2l C dX12_taste_14 ?_
  refine zs_lconst C dX12_taste_15 (by decide) ?_
  refine zs_ldc2 C dX12_taste_16 zw_1511 ?_
  refine zs_callS C h_X12_in g_X12_in zy_X12_in zw_1311 zw_1312 dX12_taste_19 ?_
  exact zs_if_eq C dX12_taste_22 (by decide) (kX12_taste_37 C h_X12_isGuest g_X12_isGuest h_X12_in g_X12_in hq) (kX12_taste_25 C h_X12_isGuest g_X12_isGuest h_X12_in g_X12_in hq)
def xX12_taste_0 (s_X12_isGuest : zq_Sp) (s_X12_in : zq_Sp) (Q : zq_Q) (ls : zq_L) (st : List Value) (h : zq_H) : Prop := (zi_aload 0 (zi_push (.int 0) (zi_putI 56 0 (zi_aload 0 (zi_iload 1 (zi_callV 1 56 s_X12_isGuest (zi_if1 (fun x => x = 0) (xX12_taste_37 s_X12_isGuest s_X12_in Q) (xX12_taste_13 s_X12_isGuest s_X12_in Q)))))))) ls st h
theorem kX12_taste_0 {X : zq_X} {d : Nat} (C : zq_C X cX12_taste 5 RX12 d) {d_X12_isGuest : Nat} {s_X12_isGuest : zq_Sp} (h_X12_isGuest : zq_M yX12_isGuest cX12_isGuest 2 (some .boolean) 1 d_X12_isGuest s_X12_isGuest) (g_X12_isGuest : d_X12_isGuest + 1 ≤ d) {d_X12_in : Nat} {s_X12_in : zq_Sp} (h_X12_in : zq_M yX12_in cX12_in 6 (some .boolean) 1 d_X12_in s_X12_in) (g_X12_in : d_X12_in + 1 ≤ d) {Q : zq_Q} (hq : zq_R X (some .int) 1 Q) : zq_ok X 5 0 (xX12_taste_0 s_X12_isGuest s_X12_in Q) := by
  refine zs_aload_n C dX12_taste_0 rfl ?_
  refine zs_iconst C dX12_taste_1 (by decide) ?_
  refine zs_putI C zp_56 zF12 (j := 0) ⟨by decide, rfl⟩ ⟨rfl, by decide +kernel⟩ zw_1096 dX12_taste_2 ?_
  refine zs_aload_n C dX12_taste_5 rfl ?_
  refine zs_iload_n C dX12_taste_6 rfl ?_
  refine zs_callV C h_X12_isGuest g_X12_isGuest zy_X12_isGuest zp_56 (show vwCl[12]? = some (RX12, TX12, 67) from rfl) zw_1466 zw_1468 zs9_X12_isGuest dX12_taste_7 ?_
  exact zs_if_eq C dX12_taste_10 (by decide) (kX12_taste_37 C h_X12_isGuest g_X12_isGuest h_X12_in g_X12_in hq) (kX12_taste_13 C h_X12_isGuest g_X12_isGuest h_X12_in g_X12_in hq)
theorem mX12_taste {d : Nat} {spec : zq_Sp} {d_X12_isGuest : Nat} {s_X12_isGuest : zq_Sp} (h_X12_isGuest : zq_M yX12_isGuest cX12_isGuest 2 (some .boolean) 1 d_X12_isGuest s_X12_isGuest) (g_X12_isGuest : d_X12_isGuest + 1 ≤ d) {d_X12_in : Nat} {s_X12_in : zq_Sp} (h_X12_in : zq_M yX12_in cX12_in 6 (some .boolean) 1 d_X12_in s_X12_in) (g_X12_in : d_X12_in + 1 ≤ d) (v : ∀ args h Q, spec args h Q → (zq_a args).length ≤ 5 ∧ xX12_taste_0 s_X12_isGuest s_X12_in Q (zq_l0 5 args) [] h) : zq_M yX12_taste cX12_taste 5 (some .int) 1 d spec := by
  refine zq_met (by decide +kernel) (by decide) (fun X Q args h C hq hs => ⟨(v args h Q hs).1, _, ?_, (v args h Q hs).2⟩)
  exact kX12_taste_0 C h_X12_isGuest g_X12_isGuest h_X12_in g_X12_in hq
/-! ToOneCrumbModel.sheet(IIII)I -/
theorem dX12_sheet_0 : decode cX12_sheet 0 = .ok (.aload_n 0, 1) := by decide +kernel
theorem dX12_sheet_1 : decode cX12_sheet 1 = .ok (.iconst 0, 1) := by decide +kernel
theorem dX12_sheet_2 : decode cX12_sheet 2 = .ok (.putfield 147, 3) := by decide +kernel
theorem dX12_sheet_5 : decode cX12_sheet 5 = .ok (.iload_n 1, 1) := by decide +kernel
theorem dX12_sheet_6 : decode cX12_sheet 6 = .ok (.i2l, 1) := by decide +kernel
theorem dX12_sheet_7 : decode cX12_sheet 7 = .ok (.lconst 0, 1) := by decide +kernel
theorem dX12_sheet_8 : decode cX12_sheet 8 = .ok (.ldc2_w 308, 3) := by decide +kernel
theorem dX12_sheet_11 : decode cX12_sheet 11 = .ok (.invokestatic 161, 3) := by decide +kernel
theorem dX12_sheet_14 : decode cX12_sheet 14 = .ok (.ifCond .eq 9, 3) := by decide +kernel
theorem dX12_sheet_17 : decode cX12_sheet 17 = .ok (.iload_n 2, 1) := by decide +kernel
theorem dX12_sheet_18 : decode cX12_sheet 18 = .ok (.bipush 16, 2) := by decide +kernel
theorem dX12_sheet_20 : decode cX12_sheet 20 = .ok (.if_icmp .le 5, 3) := by decide +kernel
theorem dX12_sheet_23 : decode cX12_sheet 23 = .ok (.iconst (-1), 1) := by decide +kernel
theorem dX12_sheet_24 : decode cX12_sheet 24 = .ok (.ireturn, 1) := by decide +kernel
theorem dX12_sheet_25 : decode cX12_sheet 25 = .ok (.iload_n 1, 1) := by decide +kernel
theorem dX12_sheet_26 : decode cX12_sheet 26 = .ok (.iconst 3, 1) := by decide +kernel
theorem dX12_sheet_27 : decode cX12_sheet 27 = .ok (.if_icmp .eq 10, 3) := by decide +kernel
theorem dX12_sheet_30 : decode cX12_sheet 30 = .ok (.iload_n 2, 1) := by decide +kernel
theorem dX12_sheet_31 : decode cX12_sheet 31 = .ok (.ifCond .ge 6, 3) := by decide +kernel
theorem dX12_sheet_34 : decode cX12_sheet 34 = .ok (.bipush (-2), 2) := by decide +kernel
theorem dX12_sheet_36 : decode cX12_sheet 36 = .ok (.ireturn, 1) := by decide +kernel
theorem dX12_sheet_37 : decode cX12_sheet 37 = .ok (.iconst 0, 1) := by decide +kernel
theorem dX12_sheet_38 : decode cX12_sheet 38 = .ok (.istore 5, 2) := by decide +kernel
theorem dX12_sheet_40 : decode cX12_sheet 40 = .ok (.iload_n 3, 1) := by decide +kernel
theorem dX12_sheet_41 : decode cX12_sheet 41 = .ok (.istore 6, 2) := by decide +kernel
theorem dX12_sheet_43 : decode cX12_sheet 43 = .ok (.iconst 0, 1) := by decide +kernel
theorem dX12_sheet_44 : decode cX12_sheet 44 = .ok (.istore 7, 2) := by decide +kernel
theorem dX12_sheet_46 : decode cX12_sheet 46 = .ok (.iload 7, 2) := by decide +kernel
theorem dX12_sheet_48 : decode cX12_sheet 48 = .ok (.aload_n 0, 1) := by decide +kernel
theorem dX12_sheet_49 : decode cX12_sheet 49 = .ok (.getfield 158, 3) := by decide +kernel
theorem dX12_sheet_52 : decode cX12_sheet 52 = .ok (.if_icmp .ge 86, 3) := by decide +kernel
theorem dX12_sheet_55 : decode cX12_sheet 55 = .ok (.iload_n 1, 1) := by decide +kernel
theorem dX12_sheet_56 : decode cX12_sheet 56 = .ok (.ifCond .ne 9, 3) := by decide +kernel
theorem dX12_sheet_59 : decode cX12_sheet 59 = .ok (.iload 6, 2) := by decide +kernel
theorem dX12_sheet_61 : decode cX12_sheet 61 = .ok (.i2b, 1) := by decide +kernel
theorem dX12_sheet_62 : decode cX12_sheet 62 = .ok (.goto 16, 3) := by decide +kernel
theorem dX12_sheet_65 : decode cX12_sheet 65 = .ok (.iload_n 1, 1) := by decide +kernel
theorem dX12_sheet_66 : decode cX12_sheet 66 = .ok (.iconst 1, 1) := by decide +kernel
theorem dX12_sheet_67 : decode cX12_sheet 67 = .ok (.if_icmp .ne 9, 3) := by decide +kernel
theorem dX12_sheet_70 : decode cX12_sheet 70 = .ok (.iload 6, 2) := by decide +kernel
theorem dX12_sheet_72 : decode cX12_sheet 72 = .ok (.i2s, 1) := by decide +kernel
theorem dX12_sheet_73 : decode cX12_sheet 73 = .ok (.goto 5, 3) := by decide +kernel
theorem dX12_sheet_76 : decode cX12_sheet 76 = .ok (.iload 6, 2) := by decide +kernel
theorem dX12_sheet_78 : decode cX12_sheet 78 = .ok (.istore 8, 2) := by decide +kernel
theorem dX12_sheet_80 : decode cX12_sheet 80 = .ok (.aload_n 0, 1) := by decide +kernel
theorem dX12_sheet_81 : decode cX12_sheet 81 = .ok (.getfield 17, 3) := by decide +kernel
theorem dX12_sheet_84 : decode cX12_sheet 84 = .ok (.iload 7, 2) := by decide +kernel
theorem dX12_sheet_86 : decode cX12_sheet 86 = .ok (.iload_n 1, 1) := by decide +kernel
theorem dX12_sheet_87 : decode cX12_sheet 87 = .ok (.iconst 3, 1) := by decide +kernel
theorem dX12_sheet_88 : decode cX12_sheet 88 = .ok (.if_icmp .eq 9, 3) := by decide +kernel
theorem dX12_sheet_91 : decode cX12_sheet 91 = .ok (.iload 7, 2) := by decide +kernel
theorem dX12_sheet_93 : decode cX12_sheet 93 = .ok (.iload_n 2, 1) := by decide +kernel
theorem dX12_sheet_94 : decode cX12_sheet 94 = .ok (.if_icmp .lt 7, 3) := by decide +kernel
theorem dX12_sheet_97 : decode cX12_sheet 97 = .ok (.iconst 0, 1) := by decide +kernel
theorem dX12_sheet_98 : decode cX12_sheet 98 = .ok (.goto 14, 3) := by decide +kernel
theorem dX12_sheet_101 : decode cX12_sheet 101 = .ok (.iconst 0, 1) := by decide +kernel
theorem dX12_sheet_102 : decode cX12_sheet 102 = .ok (.bipush 9, 2) := by decide +kernel
theorem dX12_sheet_104 : decode cX12_sheet 104 = .ok (.iload 8, 2) := by decide +kernel
theorem dX12_sheet_106 : decode cX12_sheet 106 = .ok (.invokestatic 181, 3) := by decide +kernel
theorem dX12_sheet_109 : decode cX12_sheet 109 = .ok (.invokestatic 262, 3) := by decide +kernel
theorem dX12_sheet_112 : decode cX12_sheet 112 = .ok (.iastore, 1) := by decide +kernel
theorem dX12_sheet_113 : decode cX12_sheet 113 = .ok (.iload 5, 2) := by decide +kernel
theorem dX12_sheet_115 : decode cX12_sheet 115 = .ok (.aload_n 0, 1) := by decide +kernel
theorem dX12_sheet_116 : decode cX12_sheet 116 = .ok (.getfield 17, 3) := by decide +kernel
theorem dX12_sheet_119 : decode cX12_sheet 119 = .ok (.iload 7, 2) := by decide +kernel
theorem dX12_sheet_121 : decode cX12_sheet 121 = .ok (.iaload, 1) := by decide +kernel
theorem dX12_sheet_122 : decode cX12_sheet 122 = .ok (.iadd, 1) := by decide +kernel
theorem dX12_sheet_123 : decode cX12_sheet 123 = .ok (.istore 5, 2) := by decide +kernel
theorem dX12_sheet_125 : decode cX12_sheet 125 = .ok (.iload 6, 2) := by decide +kernel
theorem dX12_sheet_127 : decode cX12_sheet 127 = .ok (.iload 4, 2) := by decide +kernel
theorem dX12_sheet_129 : decode cX12_sheet 129 = .ok (.iadd, 1) := by decide +kernel
theorem dX12_sheet_130 : decode cX12_sheet 130 = .ok (.istore 6, 2) := by decide +kernel
theorem dX12_sheet_132 : decode cX12_sheet 132 = .ok (.iinc 7 1, 3) := by decide +kernel
theorem dX12_sheet_135 : decode cX12_sheet 135 = .ok (.goto (-89), 3) := by decide +kernel
theorem dX12_sheet_138 : decode cX12_sheet 138 = .ok (.iload_n 1, 1) := by decide +kernel
theorem dX12_sheet_139 : decode cX12_sheet 139 = .ok (.iconst 3, 1) := by decide +kernel
theorem dX12_sheet_140 : decode cX12_sheet 140 = .ok (.if_icmp .ne 8, 3) := by decide +kernel
theorem dX12_sheet_143 : decode cX12_sheet 143 = .ok (.bipush (-3), 2) := by decide +kernel
theorem dX12_sheet_145 : decode cX12_sheet 145 = .ok (.goto 5, 3) := by decide +kernel
theorem dX12_sheet_148 : decode cX12_sheet 148 = .ok (.iload 5, 2) := by decide +kernel
theorem dX12_sheet_150 : decode cX12_sheet 150 = .ok (.ireturn, 1) := by decide +kernel
def xX12_sheet_150 (s_X12_in : zq_Sp) (J46 : zq_P) (Q : zq_Q) (ls : zq_L) (st : List Value) (h : zq_H) : Prop := (zi_iret Q) ls st h
theorem kX12_sheet_150 {X : zq_X} {d : Nat} (C : zq_C X cX12_sheet 9 RX12 d) (hd1 : 1 ≤ d) {d_X12_in : Nat} {s_X12_in : zq_Sp} (h_X12_in : zq_M yX12_in cX12_in 6 (some .boolean) 1 d_X12_in s_X12_in) (g_X12_in : d_X12_in + 1 ≤ d) {J46 : zq_P} (j46 : zq_ok X 9 46 J46) {Q : zq_Q} (hq : zq_R X (some .int) 1 Q) : zq_ok X 9 150 (xX12_sheet_150 s_X12_in J46 Q) := by
  exact zs_iret C hq dX12_sheet_150
def xX12_sheet_148 (s_X12_in : zq_Sp) (J46 : zq_P) (Q : zq_Q) (ls : zq_L) (st : List Value) (h : zq_H) : Prop := (zi_iload 5 ((xX12_sheet_150 s_X12_in J46 Q))) ls st h
theorem kX12_sheet_148 {X : zq_X} {d : Nat} (C : zq_C X cX12_sheet 9 RX12 d) (hd1 : 1 ≤ d) {d_X12_in : Nat} {s_X12_in : zq_Sp} (h_X12_in : zq_M yX12_in cX12_in 6 (some .boolean) 1 d_X12_in s_X12_in) (g_X12_in : d_X12_in + 1 ≤ d) {J46 : zq_P} (j46 : zq_ok X 9 46 J46) {Q : zq_Q} (hq : zq_R X (some .int) 1 Q) : zq_ok X 9 148 (xX12_sheet_148 s_X12_in J46 Q) := by
  refine zs_iload C dX12_sheet_148 ?_
  exact kX12_sheet_150 C hd1 h_X12_in g_X12_in j46 hq
def xX12_sheet_143 (s_X12_in : zq_Sp) (J46 : zq_P) (Q : zq_Q) (ls : zq_L) (st : List Value) (h : zq_H) : Prop := (zi_push (.int (-3)) ((xX12_sheet_150 s_X12_in J46 Q))) ls st h
theorem kX12_sheet_143 {X : zq_X} {d : Nat} (C : zq_C X cX12_sheet 9 RX12 d) (hd1 : 1 ≤ d) {d_X12_in : Nat} {s_X12_in : zq_Sp} (h_X12_in : zq_M yX12_in cX12_in 6 (some .boolean) 1 d_X12_in s_X12_in) (g_X12_in : d_X12_in + 1 ≤ d) {J46 : zq_P} (j46 : zq_ok X 9 46 J46) {Q : zq_Q} (hq : zq_R X (some .int) 1 Q) : zq_ok X 9 143 (xX12_sheet_143 s_X12_in J46 Q) := by
  refine zs_bipush C dX12_sheet_143 (by decide) ?_
  exact zs_goto C dX12_sheet_145 (by decide) (kX12_sheet_150 C hd1 h_X12_in g_X12_in j46 hq)
def xX12_sheet_138 (s_X12_in : zq_Sp) (J46 : zq_P) (Q : zq_Q) (ls : zq_L) (st : List Value) (h : zq_H) : Prop := (zi_iload 1 (zi_push (.int 3) (zi_if2 (fun x y => x = y) (xX12_sheet_143 s_X12_in J46 Q) (xX12_sheet_148 s_X12_in J46 Q)))) ls st h
theorem kX12_sheet_138 {X : zq_X} {d : Nat} (C : zq_C X cX12_sheet 9 RX12 d) (hd1 : 1 ≤ d) {d_X12_in : Nat} {s_X12_in : zq_Sp} (h_X12_in : zq_M yX12_in cX12_in 6 (some .boolean) 1 d_X12_in s_X12_in) (g_X12_in : d_X12_in + 1 ≤ d) {J46 : zq_P} (j46 : zq_ok X 9 46 J46) {Q : zq_Q} (hq : zq_R X (some .int) 1 Q) : zq_ok X 9 138 (xX12_sheet_138 s_X12_in J46 Q) := by
  refine zs_iload_n C dX12_sheet_138 rfl ?_
  refine zs_iconst C dX12_sheet_139 (by decide) ?_
  exact zs_icmp_ne C dX12_sheet_140 (by decide) (kX12_sheet_148 C hd1 h_X12_in g_X12_in j46 hq) (kX12_sheet_143 C hd1 h_X12_in g_X12_in j46 hq)
def xX12_sheet_112 (s_X12_in : zq_Sp) (J46 : zq_P) (Q : zq_Q) (ls : zq_L) (st : List Value) (h : zq_H) : Prop := (zi_astI 59 16 (zi_iload 5 (zi_aload 0 (zi_getR 56 59 (zi_iload 7 (zi_aldI 59 16 (zi_i2 (fun x y => x + y) (zi_istore 5 (zi_iload 6 (zi_iload 4 (zi_i2 (fun x y => x + y) (zi_istore 6 (zi_iinc 7 1 (J46)))))))))))))) ls st h
theorem kX12_sheet_112 {X : zq_X} {d : Nat} (C : zq_C X cX12_sheet 9 RX12 d) (hd1 : 1 ≤ d) {d_X12_in : Nat} {s_X12_in : zq_Sp} (h_X12_in : zq_M yX12_in cX12_in 6 (some .boolean) 1 d_X12_in s_X12_in) (g_X12_in : d_X12_in + 1 ≤ d) {J46 : zq_P} (j46 : zq_ok X 9 46 J46) {Q : zq_Q} (hq : zq_R X (some .int) 1 Q) : zq_ok X 9 112 (xX12_sheet_112 s_X12_in J46 Q) := by
  refine zs_iastore C zp_59 dX12_sheet_112 ?_
  refine zs_iload C dX12_sheet_113 ?_
  refine zs_aload_n C dX12_sheet_115 rfl ?_
  refine zs_getR C zp_56 zF12 (j := 7) ⟨by decide, rfl⟩ zw_1103 dX12_sheet_116 ?_
  refine zs_iload C dX12_sheet_119 ?_
  refine zs_iaload C zp_59 dX12_sheet_121 ?_
  refine zs_iadd C dX12_sheet_122 ?_
  refine zs_istore C dX12_sheet_123 (by decide) ?_
  refine zs_iload C dX12_sheet_125 ?_
  refine zs_iload C dX12_sheet_127 ?_
  refine zs_iadd C dX12_sheet_129 ?_
  refine zs_istore C dX12_sheet_130 (by decide) ?_
  refine zs_iinc C dX12_sheet_132 (by decide) (by decide) ?_
  exact zs_goto C dX12_sheet_135 (by decide) (j46)
def xX12_sheet_101 (s_X12_in : zq_Sp) (J46 : zq_P) (Q : zq_Q) (ls : zq_L) (st : List Value) (h : zq_H) : Prop := (zi_push (.int 0) (zi_push (.int 9) (zi_iload 8 (zi_m2 zf_min (zi_m2 zf_max ((xX12_sheet_112 s_X12_in J46 Q))))))) ls st h
theorem kX12_sheet_101 {X : zq_X} {d : Nat} (C : zq_C X cX12_sheet 9 RX12 d) (hd1 : 1 ≤ d) {d_X12_in : Nat} {s_X12_in : zq_Sp} (h_X12_in : zq_M yX12_in cX12_in 6 (some .boolean) 1 d_X12_in s_X12_in) (g_X12_in : d_X12_in + 1 ≤ d) {J46 : zq_P} (j46 : zq_ok X 9 46 J46) {Q : zq_Q} (hq : zq_R X (some .int) 1 Q) : zq_ok X 9 101 (xX12_sheet_101 s_X12_in J46 Q) := by
  refine zs_iconst C dX12_sheet_101 (by decide) ?_
  refine zs_bipush C dX12_sheet_102 (by decide) ?_
  refine zs_iload C dX12_sheet_104 ?_
  refine zs_mmin C hd1 zw_1322 zw_393 zw_14 zw_394 dX12_sheet_106 ?_
  refine zs_mmax C hd1 zw_1424 zw_454 zw_14 zw_455 dX12_sheet_109 ?_
  exact kX12_sheet_112 C hd1 h_X12_in g_X12_in j46 hq
def xX12_sheet_97 (s_X12_in : zq_Sp) (J46 : zq_P) (Q : zq_Q) (ls : zq_L) (st : List Value) (h : zq_H) : Prop := (zi_push (.int 0) ((xX12_sheet_112 s_X12_in J46 Q))) ls st h
theorem kX12_sheet_97 {X : zq_X} {d : Nat} (C : zq_C X cX12_sheet 9 RX12 d) (hd1 : 1 ≤ d) {d_X12_in : Nat} {s_X12_in : zq_Sp} (h_X12_in : zq_M yX12_in cX12_in 6 (some .boolean) 1 d_X12_in s_X12_in) (g_X12_in : d_X12_in + 1 ≤ d) {J46 : zq_P} (j46 : zq_ok X 9 46 J46) {Q : zq_Q} (hq : zq_R X (some .int) 1 Q) : zq_ok X 9 97 (xX12_sheet_97 s_X12_in J46 Q) := by
  refine zs_iconst C dX12_sheet_97 (by decide) ?_
  exact zs_goto C dX12_sheet_98 (by decide) (kX12_sheet_112 C hd1 h_X12_in g_X12_in j46 hq)
def xX12_sheet_91 (s_X12_in : zq_Sp) (J46 : zq_P) (Q : zq_Q) (ls : zq_L) (st : List Value) (h : zq_H) : Prop := (zi_iload 7 (zi_iload 2 (zi_if2 (fun x y => x < y) (xX12_sheet_101 s_X12_in J46 Q) (xX12_sheet_97 s_X12_in J46 Q)))) ls st h
theorem kX12_sheet_91 {X : zq_X} {d : Nat} (C : zq_C X cX12_sheet 9 RX12 d) (hd1 : 1 ≤ d) {d_X12_in : Nat} {s_X12_in : zq_Sp} (h_X12_in : zq_M yX12_in cX12_in 6 (some .boolean) 1 d_X12_in s_X12_in) (g_X12_in : d_X12_in + 1 ≤ d) {J46 : zq_P} (j46 : zq_ok X 9 46 J46) {Q : zq_Q} (hq : zq_R X (some .int) 1 Q) : zq_ok X 9 91 (xX12_sheet_91 s_X12_in J46 Q) := by
  refine zs_iload C dX12_sheet_91 ?_
  refine zs_iload_n C dX12_sheet_93 rfl ?_
  exact zs_icmp_lt C dX12_sheet_94 (by decide) (kX12_sheet_101 C hd1 h_X12_in g_X12_in j46 hq) (kX12_sheet_97 C hd1 h_X12_in g_X12_in j46 hq)
def xX12_sheet_78 (s_X12_in : zq_Sp) (J46 : zq_P) (Q : zq_Q) (ls : zq_L) (st : List Value) (h : zq_H) : Prop := (zi_istore 8 (zi_aload 0 (zi_getR 56 59 (zi_iload 7 (zi_iload 1 (zi_push (.int 3) (zi_if2 (fun x y => x = y) (xX12_sheet_97 s_X12_in J46 Q) (xX12_sheet_91 s_X12_in J46 Q)))))))) ls st h
theorem kX12_sheet_78 {X : zq_X} {d : Nat} (C : zq_C X cX12_sheet 9 RX12 d) (hd1 : 1 ≤ d) {d_X12_in : Nat} {s_X12_in : zq_Sp} (h_X12_in : zq_M yX12_in cX12_in 6 (some .boolean) 1 d_X12_in s_X12_in) (g_X12_in : d_X12_in + 1 ≤ d) {J46 : zq_P} (j46 : zq_ok X 9 46 J46) {Q : zq_Q} (hq : zq_R X (some .int) 1 Q) : zq_ok X 9 78 (xX12_sheet_78 s_X12_in J46 Q) := by
  refine zs_istore C dX12_sheet_78 (by decide) ?_
  refine zs_aload_n C dX12_sheet_80 rfl ?_
  refine zs_getR C zp_56 zF12 (j := 7) ⟨by decide, rfl⟩ zw_1103 dX12_sheet_81 ?_
  refine zs_iload C dX12_sheet_84 ?_
  refine zs_iload_n C dX12_sheet_86 rfl ?_
  refine zs_iconst C dX12_sheet_87 (by decide) ?_
  exact zs_icmp_eq C dX12_sheet_88 (by decide) (kX12_sheet_97 C hd1 h_X12_in g_X12_in j46 hq) (kX12_sheet_91 C hd1 h_X12_in g_X12_in j46 hq)
def xX12_sheet_76 (s_X12_in : zq_Sp) (J46 : zq_P) (Q : zq_Q) (ls : zq_L) (st : List Value) (h : zq_H) : Prop := (zi_iload 6 ((xX12_sheet_78 s_X12_in J46 Q))) ls st h
theorem kX12_sheet_76 {X : zq_X} {d : Nat} (C : zq_C X cX12_sheet 9 RX12 d) (hd1 : 1 ≤ d) {d_X12_in : Nat} {s_X12_in : zq_Sp} (h_X12_in : zq_M yX12_in cX12_in 6 (some .boolean) 1 d_X12_in s_X12_in) (g_X12_in : d_X12_in + 1 ≤ d) {J46 : zq_P} (j46 : zq_ok X 9 46 J46) {Q : zq_Q} (hq : zq_R X (some .int) 1 Q) : zq_ok X 9 76 (xX12_sheet_76 s_X12_in J46 Q) := by
  refine zs_iload C dX12_sheet_76 ?_
  exact kX12_sheet_78 C hd1 h_X12_in g_X12_in j46 hq
def xX12_sheet_70 (s_X12_in : zq_Sp) (J46 : zq_P) (Q : zq_Q) (ls : zq_L) (st : List Value) (h : zq_H) : Prop := (zi_iload 6 (zi_i1 (fun x => x.toInt16.toInt32) ((xX12_sheet_78 s_X12_in J46 Q)))) ls st h
theorem kX12_sheet_70 {X : zq_X} {d : Nat} (C : zq_C X cX12_sheet 9 RX12 d) (hd1 : 1 ≤ d) {d_X12_in : Nat} {s_X12_in : zq_Sp} (h_X12_in : zq_M yX12_in cX12_in 6 (some .boolean) 1 d_X12_in s_X12_in) (g_X12_in : d_X12_in + 1 ≤ d) {J46 : zq_P} (j46 : zq_ok X 9 46 J46) {Q : zq_Q} (hq : zq_R X (some .int) 1 Q) : zq_ok X 9 70 (xX12_sheet_70 s_X12_in J46 Q) := by
  refine zs_iload C dX12_sheet_70 ?_
  refine zs_i2s C dX12_sheet_72 ?_
  exact zs_goto C dX12_sheet_73 (by decide) (kX12_sheet_78 C hd1 h_X12_in g_X12_in j46 hq)
def xX12_sheet_65 (s_X12_in : zq_Sp) (J46 : zq_P) (Q : zq_Q) (ls : zq_L) (st : List Value) (h : zq_H) : Prop := (zi_iload 1 (zi_push (.int 1) (zi_if2 (fun x y => x = y) (xX12_sheet_70 s_X12_in J46 Q) (xX12_sheet_76 s_X12_in J46 Q)))) ls st h
theorem kX12_sheet_65 {X : zq_X} {d : Nat} (C : zq_C X cX12_sheet 9 RX12 d) (hd1 : 1 ≤ d) {d_X12_in : Nat} {s_X12_in : zq_Sp} (h_X12_in : zq_M yX12_in cX12_in 6 (some .boolean) 1 d_X12_in s_X12_in) (g_X12_in : d_X12_in + 1 ≤ d) {J46 : zq_P} (j46 : zq_ok X 9 46 J46) {Q : zq_Q} (hq : zq_R X (some .int) 1 Q) : zq_ok X 9 65 (xX12_sheet_65 s_X12_in J46 Q) := by
  refine zs_iload_n C dX12_sheet_65 rfl ?_
  refine zs_iconst C dX12_sheet_66 (by decide) ?_
  exact zs_icmp_ne C dX12_sheet_67 (by decide) (kX12_sheet_76 C hd1 h_X12_in g_X12_in j46 hq) (kX12_sheet_70 C hd1 h_X12_in g_X12_in j46 hq)
def xX12_sheet_59 (s_X12_in : zq_Sp) (J46 : zq_P) (Q : zq_Q) (ls : zq_L) (st : List Value) (h : zq_H) : Prop := (zi_iload 6 (zi_i1 (fun x => x.toInt8.toInt32) ((xX12_sheet_78 s_X12_in J46 Q)))) ls st h
theorem kX12_sheet_59 {X : zq_X} {d : Nat} (C : zq_C X cX12_sheet 9 RX12 d) (hd1 : 1 ≤ d) {d_X12_in : Nat} {s_X12_in : zq_Sp} (h_X12_in : zq_M yX12_in cX12_in 6 (some .boolean) 1 d_X12_in s_X12_in) (g_X12_in : d_X12_in + 1 ≤ d) {J46 : zq_P} (j46 : zq_ok X 9 46 J46) {Q : zq_Q} (hq : zq_R X (some .int) 1 Q) : zq_ok X 9 59 (xX12_sheet_59 s_X12_in J46 Q) := by
  refine zs_iload C dX12_sheet_59 ?_
  refine zs_i2b C dX12_sheet_61 ?_
  exact zs_goto C dX12_sheet_62 (by decide) (kX12_sheet_78 C hd1 h_X12_in g_X12_in j46 hq)
def xX12_sheet_55 (s_X12_in : zq_Sp) (J46 : zq_P) (Q : zq_Q) (ls : zq_L) (st : List Value) (h : zq_H) : Prop := (zi_iload 1 (zi_if1 (fun x => x = 0) (xX12_sheet_59 s_X12_in J46 Q) (xX12_sheet_65 s_X12_in J46 Q))) ls st h
theorem kX12_sheet_55 {X : zq_X} {d : Nat} (C : zq_C X cX12_sheet 9 RX12 d) (hd1 : 1 ≤ d) {d_X12_in : Nat} {s_X12_in : zq_Sp} (h_X12_in : zq_M yX12_in cX12_in 6 (some .boolean) 1 d_X12_in s_X12_in) (g_X12_in : d_X12_in + 1 ≤ d) {J46 : zq_P} (j46 : zq_ok X 9 46 J46) {Q : zq_Q} (hq : zq_R X (some .int) 1 Q) : zq_ok X 9 55 (xX12_sheet_55 s_X12_in J46 Q) := by
  refine zs_iload_n C dX12_sheet_55 rfl ?_
  exact zs_if_ne C dX12_sheet_56 (by decide) (kX12_sheet_65 C hd1 h_X12_in g_X12_in j46 hq) (kX12_sheet_59 C hd1 h_X12_in g_X12_in j46 hq)
def xX12_sheet_46 (s_X12_in : zq_Sp) (J46 : zq_P) (Q : zq_Q) (ls : zq_L) (st : List Value) (h : zq_H) : Prop := (zi_iload 7 (zi_aload 0 (zi_getI 56 3 (zi_if2 (fun x y => y ≤ x) (xX12_sheet_138 s_X12_in J46 Q) (xX12_sheet_55 s_X12_in J46 Q))))) ls st h
theorem kX12_sheet_46 {X : zq_X} {d : Nat} (C : zq_C X cX12_sheet 9 RX12 d) (hd1 : 1 ≤ d) {d_X12_in : Nat} {s_X12_in : zq_Sp} (h_X12_in : zq_M yX12_in cX12_in 6 (some .boolean) 1 d_X12_in s_X12_in) (g_X12_in : d_X12_in + 1 ≤ d) {J46 : zq_P} (j46 : zq_ok X 9 46 J46) {Q : zq_Q} (hq : zq_R X (some .int) 1 Q) : zq_ok X 9 46 (xX12_sheet_46 s_X12_in J46 Q) := by
  refine zs_iload C dX12_sheet_46 ?_
  refine zs_aload_n C dX12_sheet_48 rfl ?_
  refine zs_getI C zp_56 zF12 (j := 3) ⟨by decide, rfl⟩ zw_1099 dX12_sheet_49 ?_
  exact zs_icmp_ge C dX12_sheet_52 (by decide) (kX12_sheet_138 C hd1 h_X12_in g_X12_in j46 hq) (kX12_sheet_55 C hd1 h_X12_in g_X12_in j46 hq)
def xX12_sheet_37 (s_X12_in : zq_Sp) (J46 : zq_P) (Q : zq_Q) (ls : zq_L) (st : List Value) (h : zq_H) : Prop := (zi_push (.int 0) (zi_istore 5 (zi_iload 3 (zi_istore 6 (zi_push (.int 0) (zi_istore 7 (J46))))))) ls st h
theorem kX12_sheet_37 {X : zq_X} {d : Nat} (C : zq_C X cX12_sheet 9 RX12 d) (hd1 : 1 ≤ d) {d_X12_in : Nat} {s_X12_in : zq_Sp} (h_X12_in : zq_M yX12_in cX12_in 6 (some .boolean) 1 d_X12_in s_X12_in) (g_X12_in : d_X12_in + 1 ≤ d) {J46 : zq_P} (j46 : zq_ok X 9 46 J46) {Q : zq_Q} (hq : zq_R X (some .int) 1 Q) : zq_ok X 9 37 (xX12_sheet_37 s_X12_in J46 Q) := by
  refine zs_iconst C dX12_sheet_37 (by decide) ?_
  refine zs_istore C dX12_sheet_38 (by decide) ?_
  refine zs_iload_n C dX12_sheet_40 rfl ?_
  refine zs_istore C dX12_sheet_41 (by decide) ?_
  refine zs_iconst C dX12_sheet_43 (by decide) ?_
  refine zs_istore C dX12_sheet_44 (by decide) ?_
  exact j46
def xX12_sheet_34 (s_X12_in : zq_Sp) (J46 : zq_P) (Q : zq_Q) (ls : zq_L) (st : List Value) (h : zq_H) : Prop := (zi_push (.int (-2)) (zi_iret Q)) ls st h
theorem kX12_sheet_34 {X : zq_X} {d : Nat} (C : zq_C X cX12_sheet 9 RX12 d) (hd1 : 1 ≤ d) {d_X12_in : Nat} {s_X12_in : zq_Sp} (h_X12_in : zq_M yX12_in cX12_in 6 (some .boolean) 1 d_X12_in s_X12_in) (g_X12_in : d_X12_in + 1 ≤ d) {J46 : zq_P} (j46 : zq_ok X 9 46 J46) {Q : zq_Q} (hq : zq_R X (some .int) 1 Q) : zq_ok X 9 34 (xX12_sheet_34 s_X12_in J46 Q) := by
  refine zs_bipush C dX12_sheet_34 (by decide) ?_
  exact zs_iret C hq dX12_sheet_36
def xX12_sheet_30 (s_X12_in : zq_Sp) (J46 : zq_P) (Q : zq_Q) (ls : zq_L) (st : List Value) (h : zq_H) : Prop := (zi_iload 2 (zi_if1 (fun x => 0 ≤ x) (xX12_sheet_37 s_X12_in J46 Q) (xX12_sheet_34 s_X12_in J46 Q))) ls st h
theorem kX12_sheet_30 {X : zq_X} {d : Nat} (C : zq_C X cX12_sheet 9 RX12 d) (hd1 : 1 ≤ d) {d_X12_in : Nat} {s_X12_in : zq_Sp} (h_X12_in : zq_M yX12_in cX12_in 6 (some .boolean) 1 d_X12_in s_X12_in) (g_X12_in : d_X12_in + 1 ≤ d) {J46 : zq_P} (j46 : zq_ok X 9 46 J46) {Q : zq_Q} (hq : zq_R X (some .int) 1 Q) : zq_ok X 9 30 (xX12_sheet_30 s_X12_in J46 Q) := by
  refine zs_iload_n C dX12_sheet_30 rfl ?_
  exact zs_if_ge C dX12_sheet_31 (by decide) (kX12_sheet_37 C hd1 h_X12_in g_X12_in j46 hq) (kX12_sheet_34 C hd1 h_X12_in g_X12_in j46 hq)
def xX12_sheet_25 (s_X12_in : zq_Sp) (J46 : zq_P) (Q : zq_Q) (ls : zq_L) (st : List Value) (h : zq_H) : Prop := (zi_iload 1 (zi_push (.int 3) (zi_if2 (fun x y => x = y) (xX12_sheet_37 s_X12_in J46 Q) (xX12_sheet_30 s_X12_in J46 Q)))) ls st h
theorem kX12_sheet_25 {X : zq_X} {d : Nat} (C : zq_C X cX12_sheet 9 RX12 d) (hd1 : 1 ≤ d) {d_X12_in : Nat} {s_X12_in : zq_Sp} (h_X12_in : zq_M yX12_in cX12_in 6 (some .boolean) 1 d_X12_in s_X12_in) (g_X12_in : d_X12_in + 1 ≤ d) {J46 : zq_P} (j46 : zq_ok X 9 46 J46) {Q : zq_Q} (hq : zq_R X (some .int) 1 Q) : zq_ok X 9 25 (xX12_sheet_25 s_X12_in J46 Q) := by
  refine zs_iload_n C dX12_sheet_25 rfl ?_
  refine zs_iconst C dX12_sheet_26 (by decide) ?_
  exact zs_icmp_eq C dX12_sheet_27 (by decide) (kX12_sheet_37 C hd1 h_X12_in g_X12_in j46 hq) (kX12_sheet_30 C hd1 h_X12_in g_X12_in j46 hq)
def xX12_sheet_23 (s_X12_in : zq_Sp) (J46 : zq_P) (Q : zq_Q) (ls : zq_L) (st : List Value) (h : zq_H) : Prop := (zi_push (.int (-1)) (zi_iret Q)) ls st h
theorem kX12_sheet_23 {X : zq_X} {d : Nat} (C : zq_C X cX12_sheet 9 RX12 d) (hd1 : 1 ≤ d) {d_X12_in : Nat} {s_X12_in : zq_Sp} (h_X12_in : zq_M yX12_in cX12_in 6 (some .boolean) 1 d_X12_in s_X12_in) (g_X12_in : d_X12_in + 1 ≤ d) {J46 : zq_P} (j46 : zq_ok X 9 46 J46) {Q : zq_Q} (hq : zq_R X (some .int) 1 Q) : zq_ok X 9 23 (xX12_sheet_23 s_X12_in J46 Q) := by
  refine zs_iconst C dX12_sheet_23 (by decide) ?_
  exact zs_iret C hq dX12_sheet_24
def xX12_sheet_17 (s_X12_in : zq_Sp) (J46 : zq_P) (Q : zq_Q) (ls : zq_L) (st : List Value) (h : zq_H) : Prop := (zi_iload 2 (zi_push (.int 16) (zi_if2 (fun x y => x ≤ y) (xX12_sheet_25 s_X12_in J46 Q) (xX12_sheet_23 s_X12_in J46 Q)))) ls st h
theorem kX12_sheet_17 {X : zq_X} {d : Nat} (C : zq_C X cX12_sheet 9 RX12 d) (hd1 : 1 ≤ d) {d_X12_in : Nat} {s_X12_in : zq_Sp} (h_X12_in : zq_M yX12_in cX12_in 6 (some .boolean) 1 d_X12_in s_X12_in) (g_X12_in : d_X12_in + 1 ≤ d) {J46 : zq_P} (j46 : zq_ok X 9 46 J46) {Q : zq_Q} (hq : zq_R X (some .int) 1 Q) : zq_ok X 9 17 (xX12_sheet_17 s_X12_in J46 Q) := by
  refine zs_iload_n C dX12_sheet_17 rfl ?_
  refine zs_bipush C dX12_sheet_18 (by decide) ?_
  exact zs_icmp_le C dX12_sheet_20 (by decide) (kX12_sheet_25 C hd1 h_X12_in g_X12_in j46 hq) (kX12_sheet_23 C hd1 h_X12_in g_X12_in j46 hq)
def xX12_sheet_0 (s_X12_in : zq_Sp) (J46 : zq_P) (Q : zq_Q) (ls : zq_L) (st : List Value) (h : zq_H) : Prop := (zi_aload 0 (zi_push (.int 0) (zi_putI 56 0 (zi_iload 1 (zi_i2l (zi_push (.long 0) (zi_push (.long 3) (zi_callS 3 s_X12_in (zi_if1 (fun x => x = 0) (xX12_sheet_23 s_X12_in J46 Q) (xX12_sheet_17 s_X12_in J46 Q)))))))))) ls st h
theorem kX12_sheet_0 {X : zq_X} {d : Nat} (C : zq_C X cX12_sheet 9 RX12 d) (hd1 : 1 ≤ d) {d_X12_in : Nat} {s_X12_in : zq_Sp} (h_X12_in : zq_M yX12_in cX12_in 6 (some .boolean) 1 d_X12_in s_X12_in) (g_X12_in : d_X12_in + 1 ≤ d) {J46 : zq_P} (j46 : zq_ok X 9 46 J46) {Q : zq_Q} (hq : zq_R X (some .int) 1 Q) : zq_ok X 9 0 (xX12_sheet_0 s_X12_in J46 Q) := by
  refine zs_aload_n C dX12_sheet_0 rfl ?_
  refine zs_iconst C dX12_sheet_1 (by decide) ?_
  refine zs_putI C zp_56 zF12 (j := 0) ⟨by decide, rfl⟩ ⟨rfl, by decide +kernel⟩ zw_1096 dX12_sheet_2 ?_
  refine zs_iload_n C dX12_sheet_5 rfl ?_
  refine zs_i2l C dX12_sheet_6 ?_
  refine zs_lconst C dX12_sheet_7 (by decide) ?_
  refine zs_ldc2 C dX12_sheet_8 zw_1457 ?_
  refine zs_callS C h_X12_in g_X12_in zy_X12_in zw_1311 zw_1312 dX12_sheet_11 ?_
  exact zs_if_eq C dX12_sheet_14 (by decide) (kX12_sheet_23 C hd1 h_X12_in g_X12_in j46 hq) (kX12_sheet_17 C hd1 h_X12_in g_X12_in j46 hq)
theorem mX12_sheet {d : Nat} {spec : zq_Sp} {σ46 : Type} {d_X12_in : Nat} {s_X12_in : zq_Sp} (h_X12_in : zq_M yX12_in cX12_in 6 (some .boolean) 1 d_X12_in s_X12_in) (g_X12_in : d_X12_in + 1 ≤ d) (hd1 : 1 ≤ d) (μ46 : σ46 → Nat) (I46 : zq_Q → σ46 → zq_P) (v : ∀ args h Q, spec args h Q → (zq_a args).length ≤ 9 ∧ xX12_sheet_0 s_X12_in (fun ls st h => ∃ b, I46 Q b ls st h) Q (zq_l0 9 args) [] h) (v46 : ∀ Q a ls st h, I46 Q a ls st h → xX12_sheet_46 s_X12_in (fun ls st h => ∃ b, μ46 b < μ46 a ∧ I46 Q b ls st h) Q ls st h) : zq_M yX12_sheet cX12_sheet 9 (some .int) 1 d spec := by
  refine zq_met (by decide +kernel) (by decide) (fun X Q args h C hq hs => ⟨(v args h Q hs).1, _, ?_, (v args h Q hs).2⟩)
  have hl := zq_loop1 (X := X) (nL := 9) (pc1 := 46) μ46 (I46 Q) (fun J46 => xX12_sheet_46 s_X12_in J46 Q) (fun j46 => kX12_sheet_46 C hd1 h_X12_in g_X12_in j46 hq) (v46 Q)
  exact kX12_sheet_0 C hd1 h_X12_in g_X12_in hl hq
/-! ToOneCrumbModel.putsBy()V -/
theorem dX12_putsBy_0 : decode cX12_putsBy 0 = .ok (.iconst 0, 1) := by decide +kernel
theorem dX12_putsBy_1 : decode cX12_putsBy 1 = .ok (.istore_n 1, 1) := by decide +kernel
theorem dX12_putsBy_2 : decode cX12_putsBy 2 = .ok (.iload_n 1, 1) := by decide +kernel
theorem dX12_putsBy_3 : decode cX12_putsBy 3 = .ok (.bipush 16, 2) := by decide +kernel
theorem dX12_putsBy_5 : decode cX12_putsBy 5 = .ok (.if_icmp .ge 29, 3) := by decide +kernel
theorem dX12_putsBy_8 : decode cX12_putsBy 8 = .ok (.aload_n 0, 1) := by decide +kernel
theorem dX12_putsBy_9 : decode cX12_putsBy 9 = .ok (.getfield 69, 3) := by decide +kernel
theorem dX12_putsBy_12 : decode cX12_putsBy 12 = .ok (.bipush 16, 2) := by decide +kernel
theorem dX12_putsBy_14 : decode cX12_putsBy 14 = .ok (.aload_n 0, 1) := by decide +kernel
theorem dX12_putsBy_15 : decode cX12_putsBy 15 = .ok (.getfield 236, 3) := by decide +kernel
theorem dX12_putsBy_18 : decode cX12_putsBy 18 = .ok (.imul, 1) := by decide +kernel
theorem dX12_putsBy_19 : decode cX12_putsBy 19 = .ok (.iload_n 1, 1) := by decide +kernel
theorem dX12_putsBy_20 : decode cX12_putsBy 20 = .ok (.iadd, 1) := by decide +kernel
theorem dX12_putsBy_21 : decode cX12_putsBy 21 = .ok (.aload_n 0, 1) := by decide +kernel
theorem dX12_putsBy_22 : decode cX12_putsBy 22 = .ok (.getfield 30, 3) := by decide +kernel
theorem dX12_putsBy_25 : decode cX12_putsBy 25 = .ok (.iload_n 1, 1) := by decide +kernel
theorem dX12_putsBy_26 : decode cX12_putsBy 26 = .ok (.iaload, 1) := by decide +kernel
theorem dX12_putsBy_27 : decode cX12_putsBy 27 = .ok (.iastore, 1) := by decide +kernel
theorem dX12_putsBy_28 : decode cX12_putsBy 28 = .ok (.iinc 1 1, 3) := by decide +kernel
theorem dX12_putsBy_31 : decode cX12_putsBy 31 = .ok (.goto (-29), 3) := by decide +kernel
theorem dX12_putsBy_34 : decode cX12_putsBy 34 = .ok (.return_, 1) := by decide +kernel
def xX12_putsBy_34 (J2 : zq_P) (Q : zq_Q) (ls : zq_L) (st : List Value) (h : zq_H) : Prop := (zi_vret Q) ls st h
theorem kX12_putsBy_34 {X : zq_X} {d : Nat} (C : zq_C X cX12_putsBy 2 RX12 d) {J2 : zq_P} (j2 : zq_ok X 2 2 J2) {Q : zq_Q} (hq : zq_R X none 0 Q) : zq_ok X 2 34 (xX12_putsBy_34 J2 Q) := by
  exact zs_vret C hq dX12_putsBy_34
def xX12_putsBy_8 (J2 : zq_P) (Q : zq_Q) (ls : zq_L) (st : List Value) (h : zq_H) : Prop := (zi_aload 0 (zi_getR 56 76 (zi_push (.int 16) (zi_aload 0 (zi_getI 56 31 (zi_i2 (fun x y => x * y) (zi_iload 1 (zi_i2 (fun x y => x + y) (zi_aload 0 (zi_getR 56 63 (zi_iload 1 (zi_aldI 63 16 (zi_astI 76 256 (zi_iinc 1 1 (J2))))))))))))))) ls st h
theorem kX12_putsBy_8 {X : zq_X} {d : Nat} (C : zq_C X cX12_putsBy 2 RX12 d) {J2 : zq_P} (j2 : zq_ok X 2 2 J2) {Q : zq_Q} (hq : zq_R X none 0 Q) : zq_ok X 2 8 (xX12_putsBy_8 J2 Q) := by
  refine zs_aload_n C dX12_putsBy_8 rfl ?_
  refine zs_getR C zp_56 zF12 (j := 32) ⟨by decide, rfl⟩ zw_1128 dX12_putsBy_9 ?_
  refine zs_bipush C dX12_putsBy_12 (by decide) ?_
  refine zs_aload_n C dX12_putsBy_14 rfl ?_
  refine zs_getI C zp_56 zF12 (j := 31) ⟨by decide, rfl⟩ zw_1127 dX12_putsBy_15 ?_
  refine zs_imul C dX12_putsBy_18 ?_
  refine zs_iload_n C dX12_putsBy_19 rfl ?_
  refine zs_iadd C dX12_putsBy_20 ?_
  refine zs_aload_n C dX12_putsBy_21 rfl ?_
  refine zs_getR C zp_56 zF12 (j := 11) ⟨by decide, rfl⟩ zw_1107 dX12_putsBy_22 ?_
  refine zs_iload_n C dX12_putsBy_25 rfl ?_
  refine zs_iaload C zp_63 dX12_putsBy_26 ?_
  refine zs_iastore C zp_76 dX12_putsBy_27 ?_
  refine zs_iinc C dX12_putsBy_28 (by decide) (by decide) ?_
  exact zs_goto C dX12_putsBy_31 (by decide) (j2)
def xX12_putsBy_2 (J2 : zq_P) (Q : zq_Q) (ls : zq_L) (st : List Value) (h : zq_H) : Prop := (zi_iload 1 (zi_push (.int 16) (zi_if2 (fun x y => y ≤ x) (xX12_putsBy_34 J2 Q) (xX12_putsBy_8 J2 Q)))) ls st h
theorem kX12_putsBy_2 {X : zq_X} {d : Nat} (C : zq_C X cX12_putsBy 2 RX12 d) {J2 : zq_P} (j2 : zq_ok X 2 2 J2) {Q : zq_Q} (hq : zq_R X none 0 Q) : zq_ok X 2 2 (xX12_putsBy_2 J2 Q) := by
  refine zs_iload_n C dX12_putsBy_2 rfl ?_
  refine zs_bipush C dX12_putsBy_3 (by decide) ?_
  exact zs_icmp_ge C dX12_putsBy_5 (by decide) (kX12_putsBy_34 C j2 hq) (kX12_putsBy_8 C j2 hq)
def xX12_putsBy_0 (J2 : zq_P) (Q : zq_Q) (ls : zq_L) (st : List Value) (h : zq_H) : Prop := (zi_push (.int 0) (zi_istore 1 (J2))) ls st h
theorem kX12_putsBy_0 {X : zq_X} {d : Nat} (C : zq_C X cX12_putsBy 2 RX12 d) {J2 : zq_P} (j2 : zq_ok X 2 2 J2) {Q : zq_Q} (hq : zq_R X none 0 Q) : zq_ok X 2 0 (xX12_putsBy_0 J2 Q) := by
  refine zs_iconst C dX12_putsBy_0 (by decide) ?_
  refine zs_istore_n C dX12_putsBy_1 rfl (by decide) ?_
  exact j2
theorem mX12_putsBy {d : Nat} {spec : zq_Sp} {σ2 : Type} (μ2 : σ2 → Nat) (I2 : zq_Q → σ2 → zq_P) (v : ∀ args h Q, spec args h Q → (zq_a args).length ≤ 2 ∧ xX12_putsBy_0 (fun ls st h => ∃ b, I2 Q b ls st h) Q (zq_l0 2 args) [] h) (v2 : ∀ Q a ls st h, I2 Q a ls st h → xX12_putsBy_2 (fun ls st h => ∃ b, μ2 b < μ2 a ∧ I2 Q b ls st h) Q ls st h) : zq_M yX12_putsBy cX12_putsBy 2 none 0 d spec := by
  refine zq_met (by decide +kernel) (by decide) (fun X Q args h C hq hs => ⟨(v args h Q hs).1, _, ?_, (v args h Q hs).2⟩)
  have hl := zq_loop1 (X := X) (nL := 2) (pc1 := 2) μ2 (I2 Q) (fun J2 => xX12_putsBy_2 J2 Q) (fun j2 => kX12_putsBy_2 C j2 hq) (v2 Q)
  exact kX12_putsBy_0 C hl hq
/-! ToOneCrumbModel.adds(I)I -/
theorem dX12_adds_0 : decode cX12_adds 0 = .ok (.aload_n 0, 1) := by decide +kernel
theorem dX12_adds_1 : decode cX12_adds 1 = .ok (.dup, 1) := by decide +kernel
theorem dX12_adds_2 : decode cX12_adds 2 = .ok (.getfield 236, 3) := by decide +kernel
theorem dX12_adds_5 : decode cX12_adds 5 = .ok (.iconst 1, 1) := by decide +kernel
theorem dX12_adds_6 : decode cX12_adds 6 = .ok (.iadd, 1) := by decide +kernel
theorem dX12_adds_7 : decode cX12_adds 7 = .ok (.putfield 236, 3) := by decide +kernel
theorem dX12_adds_10 : decode cX12_adds 10 = .ok (.aload_n 0, 1) := by decide +kernel
theorem dX12_adds_11 : decode cX12_adds 11 = .ok (.getfield 236, 3) := by decide +kernel
theorem dX12_adds_14 : decode cX12_adds 14 = .ok (.bipush 15, 2) := by decide +kernel
theorem dX12_adds_16 : decode cX12_adds 16 = .ok (.if_icmp .le 43, 3) := by decide +kernel
theorem dX12_adds_19 : decode cX12_adds 19 = .ok (.iconst 0, 1) := by decide +kernel
theorem dX12_adds_20 : decode cX12_adds 20 = .ok (.istore_n 2, 1) := by decide +kernel
theorem dX12_adds_21 : decode cX12_adds 21 = .ok (.iload_n 2, 1) := by decide +kernel
theorem dX12_adds_22 : decode cX12_adds 22 = .ok (.sipush 240, 3) := by decide +kernel
theorem dX12_adds_25 : decode cX12_adds 25 = .ok (.if_icmp .ge 24, 3) := by decide +kernel
theorem dX12_adds_28 : decode cX12_adds 28 = .ok (.aload_n 0, 1) := by decide +kernel
theorem dX12_adds_29 : decode cX12_adds 29 = .ok (.getfield 69, 3) := by decide +kernel
theorem dX12_adds_32 : decode cX12_adds 32 = .ok (.iload_n 2, 1) := by decide +kernel
theorem dX12_adds_33 : decode cX12_adds 33 = .ok (.aload_n 0, 1) := by decide +kernel
theorem dX12_adds_34 : decode cX12_adds 34 = .ok (.getfield 69, 3) := by decide +kernel
theorem dX12_adds_37 : decode cX12_adds 37 = .ok (.iload_n 2, 1) := by decide +kernel
theorem dX12_adds_38 : decode cX12_adds 38 = .ok (.bipush 16, 2) := by decide +kernel
theorem dX12_adds_40 : decode cX12_adds 40 = .ok (.iadd, 1) := by decide +kernel
theorem dX12_adds_41 : decode cX12_adds 41 = .ok (.iaload, 1) := by decide +kernel
theorem dX12_adds_42 : decode cX12_adds 42 = .ok (.iastore, 1) := by decide +kernel
theorem dX12_adds_43 : decode cX12_adds 43 = .ok (.iinc 2 1, 3) := by decide +kernel
theorem dX12_adds_46 : decode cX12_adds 46 = .ok (.goto (-25), 3) := by decide +kernel
theorem dX12_adds_49 : decode cX12_adds 49 = .ok (.aload_n 0, 1) := by decide +kernel
theorem dX12_adds_50 : decode cX12_adds 50 = .ok (.dup, 1) := by decide +kernel
theorem dX12_adds_51 : decode cX12_adds 51 = .ok (.getfield 236, 3) := by decide +kernel
theorem dX12_adds_54 : decode cX12_adds 54 = .ok (.iconst 1, 1) := by decide +kernel
theorem dX12_adds_55 : decode cX12_adds 55 = .ok (.isub, 1) := by decide +kernel
theorem dX12_adds_56 : decode cX12_adds 56 = .ok (.putfield 236, 3) := by decide +kernel
theorem dX12_adds_59 : decode cX12_adds 59 = .ok (.iload_n 1, 1) := by decide +kernel
theorem dX12_adds_60 : decode cX12_adds 60 = .ok (.ireturn, 1) := by decide +kernel
def xX12_adds_59 (J21 : zq_P) (Q : zq_Q) (ls : zq_L) (st : List Value) (h : zq_H) : Prop := (zi_iload 1 (zi_iret Q)) ls st h
theorem kX12_adds_59 {X : zq_X} {d : Nat} (C : zq_C X cX12_adds 3 RX12 d) {J21 : zq_P} (j21 : zq_ok X 3 21 J21) {Q : zq_Q} (hq : zq_R X (some .int) 1 Q) : zq_ok X 3 59 (xX12_adds_59 J21 Q) := by
  refine zs_iload_n C dX12_adds_59 rfl ?_
  exact zs_iret C hq dX12_adds_60
def xX12_adds_49 (J21 : zq_P) (Q : zq_Q) (ls : zq_L) (st : List Value) (h : zq_H) : Prop := (zi_aload 0 (zi_dup (zi_getI 56 31 (zi_push (.int 1) (zi_i2 (fun x y => x - y) (zi_putI 56 31 ((xX12_adds_59 J21 Q)))))))) ls st h
theorem kX12_adds_49 {X : zq_X} {d : Nat} (C : zq_C X cX12_adds 3 RX12 d) {J21 : zq_P} (j21 : zq_ok X 3 21 J21) {Q : zq_Q} (hq : zq_R X (some .int) 1 Q) : zq_ok X 3 49 (xX12_adds_49 J21 Q) := by
  refine zs_aload_n C dX12_adds_49 rfl ?_
  refine zs_dup C dX12_adds_50 ?_
  refine zs_getI C zp_56 zF12 (j := 31) ⟨by decide, rfl⟩ zw_1127 dX12_adds_51 ?_
  refine zs_iconst C dX12_adds_54 (by decide) ?_
  refine zs_isub C dX12_adds_55 ?_
  refine zs_putI C zp_56 zF12 (j := 31) ⟨by decide, rfl⟩ ⟨rfl, by decide +kernel⟩ zw_1127 dX12_adds_56 ?_
  exact kX12_adds_59 C j21 hq
def xX12_adds_28 (J21 : zq_P) (Q : zq_Q) (ls : zq_L) (st : List Value) (h : zq_H) : Prop := (zi_aload 0 (zi_getR 56 76 (zi_iload 2 (zi_aload 0 (zi_getR 56 76 (zi_iload 2 (zi_push (.int 16) (zi_i2 (fun x y => x + y) (zi_aldI 76 256 (zi_astI 76 256 (zi_iinc 2 1 (J21)))))))))))) ls st h
theorem kX12_adds_28 {X : zq_X} {d : Nat} (C : zq_C X cX12_adds 3 RX12 d) {J21 : zq_P} (j21 : zq_ok X 3 21 J21) {Q : zq_Q} (hq : zq_R X (some .int) 1 Q) : zq_ok X 3 28 (xX12_adds_28 J21 Q) := by
  refine zs_aload_n C dX12_adds_28 rfl ?_
  refine zs_getR C zp_56 zF12 (j := 32) ⟨by decide, rfl⟩ zw_1128 dX12_adds_29 ?_
  refine zs_iload_n C dX12_adds_32 rfl ?_
  refine zs_aload_n C dX12_adds_33 rfl ?_
  refine zs_getR C zp_56 zF12 (j := 32) ⟨by decide, rfl⟩ zw_1128 dX12_adds_34 ?_
  refine zs_iload_n C dX12_adds_37 rfl ?_
  refine zs_bipush C dX12_adds_38 (by decide) ?_
  refine zs_iadd C dX12_adds_40 ?_
  refine zs_iaload C zp_76 dX12_adds_41 ?_
  refine zs_iastore C zp_76 dX12_adds_42 ?_
  refine zs_iinc C dX12_adds_43 (by decide) (by decide) ?_
  exact zs_goto C dX12_adds_46 (by decide) (j21)
def xX12_adds_21 (J21 : zq_P) (Q : zq_Q) (ls : zq_L) (st : List Value) (h : zq_H) : Prop := (zi_iload 2 (zi_push (.int 240) (zi_if2 (fun x y => y ≤ x) (xX12_adds_49 J21 Q) (xX12_adds_28 J21 Q)))) ls st h
theorem kX12_adds_21 {X : zq_X} {d : Nat} (C : zq_C X cX12_adds 3 RX12 d) {J21 : zq_P} (j21 : zq_ok X 3 21 J21) {Q : zq_Q} (hq : zq_R X (some .int) 1 Q) : zq_ok X 3 21 (xX12_adds_21 J21 Q) := by
  refine zs_iload_n C dX12_adds_21 rfl ?_
  refine zs_sipush C dX12_adds_22 (by decide) ?_
  exact zs_icmp_ge C dX12_adds_25 (by decide) (kX12_adds_49 C j21 hq) (kX12_adds_28 C j21 hq)
def xX12_adds_19 (J21 : zq_P) (Q : zq_Q) (ls : zq_L) (st : List Value) (h : zq_H) : Prop := (zi_push (.int 0) (zi_istore 2 (J21))) ls st h
theorem kX12_adds_19 {X : zq_X} {d : Nat} (C : zq_C X cX12_adds 3 RX12 d) {J21 : zq_P} (j21 : zq_ok X 3 21 J21) {Q : zq_Q} (hq : zq_R X (some .int) 1 Q) : zq_ok X 3 19 (xX12_adds_19 J21 Q) := by
  refine zs_iconst C dX12_adds_19 (by decide) ?_
  refine zs_istore_n C dX12_adds_20 rfl (by decide) ?_
  exact j21
def xX12_adds_0 (J21 : zq_P) (Q : zq_Q) (ls : zq_L) (st : List Value) (h : zq_H) : Prop := (zi_aload 0 (zi_dup (zi_getI 56 31 (zi_push (.int 1) (zi_i2 (fun x y => x + y) (zi_putI 56 31 (zi_aload 0 (zi_getI 56 31 (zi_push (.int 15) (zi_if2 (fun x y => x ≤ y) (xX12_adds_59 J21 Q) (xX12_adds_19 J21 Q))))))))))) ls st h
theorem kX12_adds_0 {X : zq_X} {d : Nat} (C : zq_C X cX12_adds 3 RX12 d) {J21 : zq_P} (j21 : zq_ok X 3 21 J21) {Q : zq_Q} (hq : zq_R X (some .int) 1 Q) : zq_ok X 3 0 (xX12_adds_0 J21 Q) := by
  refine zs_aload_n C dX12_adds_0 rfl ?_
  refine zs_dup C dX12_adds_1 ?_
  refine zs_getI C zp_56 zF12 (j := 31) ⟨by decide, rfl⟩ zw_1127 dX12_adds_2 ?_
  refine zs_iconst C dX12_adds_5 (by decide) ?_
  refine zs_iadd C dX12_adds_6 ?_
  refine zs_putI C zp_56 zF12 (j := 31) ⟨by decide, rfl⟩ ⟨rfl, by decide +kernel⟩ zw_1127 dX12_adds_7 ?_
  refine zs_aload_n C dX12_adds_10 rfl ?_
  refine zs_getI C zp_56 zF12 (j := 31) ⟨by decide, rfl⟩ zw_1127 dX12_adds_11 ?_
  refine zs_bipush C dX12_adds_14 (by decide) ?_
  exact zs_icmp_le C dX12_adds_16 (by decide) (kX12_adds_59 C j21 hq) (kX12_adds_19 C j21 hq)
theorem mX12_adds {d : Nat} {spec : zq_Sp} {σ21 : Type} (μ21 : σ21 → Nat) (I21 : zq_Q → σ21 → zq_P) (v : ∀ args h Q, spec args h Q → (zq_a args).length ≤ 3 ∧ xX12_adds_0 (fun ls st h => ∃ b, I21 Q b ls st h) Q (zq_l0 3 args) [] h) (v21 : ∀ Q a ls st h, I21 Q a ls st h → xX12_adds_21 (fun ls st h => ∃ b, μ21 b < μ21 a ∧ I21 Q b ls st h) Q ls st h) : zq_M yX12_adds cX12_adds 3 (some .int) 1 d spec := by
  refine zq_met (by decide +kernel) (by decide) (fun X Q args h C hq hs => ⟨(v args h Q hs).1, _, ?_, (v args h Q hs).2⟩)
  have hl := zq_loop1 (X := X) (nL := 3) (pc1 := 21) μ21 (I21 Q) (fun J21 => xX12_adds_21 J21 Q) (fun j21 => kX12_adds_21 C j21 hq) (v21 Q)
  exact kX12_adds_0 C hl hq
/-! ToOneCrumbModel.counts(I)I -/
theorem dX12_counts_0 : decode cX12_counts 0 = .ok (.iload_n 1, 1) := by decide +kernel
theorem dX12_counts_1 : decode cX12_counts 1 = .ok (.ifCond .ge 7, 3) := by decide +kernel
theorem dX12_counts_4 : decode cX12_counts 4 = .ok (.iload_n 1, 1) := by decide +kernel
theorem dX12_counts_5 : decode cX12_counts 5 = .ok (.goto 8, 3) := by decide +kernel
theorem dX12_counts_8 : decode cX12_counts 8 = .ok (.aload_n 0, 1) := by decide +kernel
theorem dX12_counts_9 : decode cX12_counts 9 = .ok (.iload_n 1, 1) := by decide +kernel
theorem dX12_counts_10 : decode cX12_counts 10 = .ok (.invokevirtual 335, 3) := by decide +kernel
theorem dX12_counts_13 : decode cX12_counts 13 = .ok (.ireturn, 1) := by decide +kernel
def xX12_counts_13 (s_X12_adds : zq_Sp) (Q : zq_Q) (ls : zq_L) (st : List Value) (h : zq_H) : Prop := (zi_iret Q) ls st h
theorem kX12_counts_13 {X : zq_X} {d : Nat} (C : zq_C X cX12_counts 2 RX12 d) {d_X12_adds : Nat} {s_X12_adds : zq_Sp} (h_X12_adds : zq_M yX12_adds cX12_adds 3 (some .int) 1 d_X12_adds s_X12_adds) (g_X12_adds : d_X12_adds + 1 ≤ d) {Q : zq_Q} (hq : zq_R X (some .int) 1 Q) : zq_ok X 2 13 (xX12_counts_13 s_X12_adds Q) := by
  exact zs_iret C hq dX12_counts_13
def xX12_counts_8 (s_X12_adds : zq_Sp) (Q : zq_Q) (ls : zq_L) (st : List Value) (h : zq_H) : Prop := (zi_aload 0 (zi_iload 1 (zi_callV 1 56 s_X12_adds ((xX12_counts_13 s_X12_adds Q))))) ls st h
theorem kX12_counts_8 {X : zq_X} {d : Nat} (C : zq_C X cX12_counts 2 RX12 d) {d_X12_adds : Nat} {s_X12_adds : zq_Sp} (h_X12_adds : zq_M yX12_adds cX12_adds 3 (some .int) 1 d_X12_adds s_X12_adds) (g_X12_adds : d_X12_adds + 1 ≤ d) {Q : zq_Q} (hq : zq_R X (some .int) 1 Q) : zq_ok X 2 8 (xX12_counts_8 s_X12_adds Q) := by
  refine zs_aload_n C dX12_counts_8 rfl ?_
  refine zs_iload_n C dX12_counts_9 rfl ?_
  refine zs_callV C h_X12_adds g_X12_adds zy_X12_adds zp_56 (show vwCl[12]? = some (RX12, TX12, 67) from rfl) zw_1541 zw_1543 zs9_X12_adds dX12_counts_10 ?_
  exact kX12_counts_13 C h_X12_adds g_X12_adds hq
def xX12_counts_4 (s_X12_adds : zq_Sp) (Q : zq_Q) (ls : zq_L) (st : List Value) (h : zq_H) : Prop := (zi_iload 1 ((xX12_counts_13 s_X12_adds Q))) ls st h
theorem kX12_counts_4 {X : zq_X} {d : Nat} (C : zq_C X cX12_counts 2 RX12 d) {d_X12_adds : Nat} {s_X12_adds : zq_Sp} (h_X12_adds : zq_M yX12_adds cX12_adds 3 (some .int) 1 d_X12_adds s_X12_adds) (g_X12_adds : d_X12_adds + 1 ≤ d) {Q : zq_Q} (hq : zq_R X (some .int) 1 Q) : zq_ok X 2 4 (xX12_counts_4 s_X12_adds Q) := by
  refine zs_iload_n C dX12_counts_4 rfl ?_
  exact zs_goto C dX12_counts_5 (by decide) (kX12_counts_13 C h_X12_adds g_X12_adds hq)
def xX12_counts_0 (s_X12_adds : zq_Sp) (Q : zq_Q) (ls : zq_L) (st : List Value) (h : zq_H) : Prop := (zi_iload 1 (zi_if1 (fun x => 0 ≤ x) (xX12_counts_8 s_X12_adds Q) (xX12_counts_4 s_X12_adds Q))) ls st h
theorem kX12_counts_0 {X : zq_X} {d : Nat} (C : zq_C X cX12_counts 2 RX12 d) {d_X12_adds : Nat} {s_X12_adds : zq_Sp} (h_X12_adds : zq_M yX12_adds cX12_adds 3 (some .int) 1 d_X12_adds s_X12_adds) (g_X12_adds : d_X12_adds + 1 ≤ d) {Q : zq_Q} (hq : zq_R X (some .int) 1 Q) : zq_ok X 2 0 (xX12_counts_0 s_X12_adds Q) := by
  refine zs_iload_n C dX12_counts_0 rfl ?_
  exact zs_if_ge C dX12_counts_1 (by decide) (kX12_counts_8 C h_X12_adds g_X12_adds hq) (kX12_counts_4 C h_X12_adds g_X12_adds hq)
theorem mX12_counts {d : Nat} {spec : zq_Sp} {d_X12_adds : Nat} {s_X12_adds : zq_Sp} (h_X12_adds : zq_M yX12_adds cX12_adds 3 (some .int) 1 d_X12_adds s_X12_adds) (g_X12_adds : d_X12_adds + 1 ≤ d) (v : ∀ args h Q, spec args h Q → (zq_a args).length ≤ 2 ∧ xX12_counts_0 s_X12_adds Q (zq_l0 2 args) [] h) : zq_M yX12_counts cX12_counts 2 (some .int) 1 d spec := by
  refine zq_met (by decide +kernel) (by decide) (fun X Q args h C hq hs => ⟨(v args h Q hs).1, _, ?_, (v args h Q hs).2⟩)
  exact kX12_counts_0 C h_X12_adds g_X12_adds hq
/-! ToOneCrumbModel.undo()I -/
theorem dX12_undo_0 : decode cX12_undo 0 = .ok (.aload_n 0, 1) := by decide +kernel
theorem dX12_undo_1 : decode cX12_undo 1 = .ok (.iconst 0, 1) := by decide +kernel
theorem dX12_undo_2 : decode cX12_undo 2 = .ok (.putfield 147, 3) := by decide +kernel
theorem dX12_undo_5 : decode cX12_undo 5 = .ok (.aload_n 0, 1) := by decide +kernel
theorem dX12_undo_6 : decode cX12_undo 6 = .ok (.getfield 236, 3) := by decide +kernel
theorem dX12_undo_9 : decode cX12_undo 9 = .ok (.ifCond .ne 5, 3) := by decide +kernel
theorem dX12_undo_12 : decode cX12_undo 12 = .ok (.iconst (-1), 1) := by decide +kernel
theorem dX12_undo_13 : decode cX12_undo 13 = .ok (.ireturn, 1) := by decide +kernel
theorem dX12_undo_14 : decode cX12_undo 14 = .ok (.aload_n 0, 1) := by decide +kernel
theorem dX12_undo_15 : decode cX12_undo 15 = .ok (.dup, 1) := by decide +kernel
theorem dX12_undo_16 : decode cX12_undo 16 = .ok (.getfield 236, 3) := by decide +kernel
theorem dX12_undo_19 : decode cX12_undo 19 = .ok (.iconst 1, 1) := by decide +kernel
theorem dX12_undo_20 : decode cX12_undo 20 = .ok (.isub, 1) := by decide +kernel
theorem dX12_undo_21 : decode cX12_undo 21 = .ok (.putfield 236, 3) := by decide +kernel
theorem dX12_undo_24 : decode cX12_undo 24 = .ok (.iconst 0, 1) := by decide +kernel
theorem dX12_undo_25 : decode cX12_undo 25 = .ok (.istore_n 1, 1) := by decide +kernel
theorem dX12_undo_26 : decode cX12_undo 26 = .ok (.iload_n 1, 1) := by decide +kernel
theorem dX12_undo_27 : decode cX12_undo 27 = .ok (.bipush 16, 2) := by decide +kernel
theorem dX12_undo_29 : decode cX12_undo 29 = .ok (.if_icmp .ge 29, 3) := by decide +kernel
theorem dX12_undo_32 : decode cX12_undo 32 = .ok (.aload_n 0, 1) := by decide +kernel
theorem dX12_undo_33 : decode cX12_undo 33 = .ok (.getfield 30, 3) := by decide +kernel
theorem dX12_undo_36 : decode cX12_undo 36 = .ok (.iload_n 1, 1) := by decide +kernel
theorem dX12_undo_37 : decode cX12_undo 37 = .ok (.aload_n 0, 1) := by decide +kernel
theorem dX12_undo_38 : decode cX12_undo 38 = .ok (.getfield 69, 3) := by decide +kernel
theorem dX12_undo_41 : decode cX12_undo 41 = .ok (.bipush 16, 2) := by decide +kernel
theorem dX12_undo_43 : decode cX12_undo 43 = .ok (.aload_n 0, 1) := by decide +kernel
theorem dX12_undo_44 : decode cX12_undo 44 = .ok (.getfield 236, 3) := by decide +kernel
theorem dX12_undo_47 : decode cX12_undo 47 = .ok (.imul, 1) := by decide +kernel
theorem dX12_undo_48 : decode cX12_undo 48 = .ok (.iload_n 1, 1) := by decide +kernel
theorem dX12_undo_49 : decode cX12_undo 49 = .ok (.iadd, 1) := by decide +kernel
theorem dX12_undo_50 : decode cX12_undo 50 = .ok (.iaload, 1) := by decide +kernel
theorem dX12_undo_51 : decode cX12_undo 51 = .ok (.iastore, 1) := by decide +kernel
theorem dX12_undo_52 : decode cX12_undo 52 = .ok (.iinc 1 1, 3) := by decide +kernel
theorem dX12_undo_55 : decode cX12_undo 55 = .ok (.goto (-29), 3) := by decide +kernel
theorem dX12_undo_58 : decode cX12_undo 58 = .ok (.aload_n 0, 1) := by decide +kernel
theorem dX12_undo_59 : decode cX12_undo 59 = .ok (.getfield 236, 3) := by decide +kernel
theorem dX12_undo_62 : decode cX12_undo 62 = .ok (.ireturn, 1) := by decide +kernel
def xX12_undo_58 (J26 : zq_P) (Q : zq_Q) (ls : zq_L) (st : List Value) (h : zq_H) : Prop := (zi_aload 0 (zi_getI 56 31 (zi_iret Q))) ls st h
theorem kX12_undo_58 {X : zq_X} {d : Nat} (C : zq_C X cX12_undo 2 RX12 d) {J26 : zq_P} (j26 : zq_ok X 2 26 J26) {Q : zq_Q} (hq : zq_R X (some .int) 1 Q) : zq_ok X 2 58 (xX12_undo_58 J26 Q) := by
  refine zs_aload_n C dX12_undo_58 rfl ?_
  refine zs_getI C zp_56 zF12 (j := 31) ⟨by decide, rfl⟩ zw_1127 dX12_undo_59 ?_
  exact zs_iret C hq dX12_undo_62
def xX12_undo_32 (J26 : zq_P) (Q : zq_Q) (ls : zq_L) (st : List Value) (h : zq_H) : Prop := (zi_aload 0 (zi_getR 56 63 (zi_iload 1 (zi_aload 0 (zi_getR 56 76 (zi_push (.int 16) (zi_aload 0 (zi_getI 56 31 (zi_i2 (fun x y => x * y) (zi_iload 1 (zi_i2 (fun x y => x + y) (zi_aldI 76 256 (zi_astI 63 16 (zi_iinc 1 1 (J26))))))))))))))) ls st h
theorem kX12_undo_32 {X : zq_X} {d : Nat} (C : zq_C X cX12_undo 2 RX12 d) {J26 : zq_P} (j26 : zq_ok X 2 26 J26) {Q : zq_Q} (hq : zq_R X (some .int) 1 Q) : zq_ok X 2 32 (xX12_undo_32 J26 Q) := by
  refine zs_aload_n C dX12_undo_32 rfl ?_
  refine zs_getR C zp_56 zF12 (j := 11) ⟨by decide, rfl⟩ zw_1107 dX12_undo_33 ?_
  refine zs_iload_n C dX12_undo_36 rfl ?_
  refine zs_aload_n C dX12_undo_37 rfl ?_
  refine zs_getR C zp_56 zF12 (j := 32) ⟨by decide, rfl⟩ zw_1128 dX12_undo_38 ?_
  refine zs_bipush C dX12_undo_41 (by decide) ?_
  refine zs_aload_n C dX12_undo_43 rfl ?_
  refine zs_getI C zp_56 zF12 (j := 31) ⟨by decide, rfl⟩ zw_1127 dX12_undo_44 ?_
  refine zs_imul C dX12_undo_47 ?_
  refine zs_iload_n C dX12_undo_48 rfl ?_
  refine zs_iadd C dX12_undo_49 ?_
  refine zs_iaload C zp_76 dX12_undo_50 ?_
  refine zs_iastore C zp_63 dX12_undo_51 ?_
  refine zs_iinc C dX12_undo_52 (by decide) (by decide) ?_
  exact zs_goto C dX12_undo_55 (by decide) (j26)
def xX12_undo_26 (J26 : zq_P) (Q : zq_Q) (ls : zq_L) (st : List Value) (h : zq_H) : Prop := (zi_iload 1 (zi_push (.int 16) (zi_if2 (fun x y => y ≤ x) (xX12_undo_58 J26 Q) (xX12_undo_32 J26 Q)))) ls st h
theorem kX12_undo_26 {X : zq_X} {d : Nat} (C : zq_C X cX12_undo 2 RX12 d) {J26 : zq_P} (j26 : zq_ok X 2 26 J26) {Q : zq_Q} (hq : zq_R X (some .int) 1 Q) : zq_ok X 2 26 (xX12_undo_26 J26 Q) := by
  refine zs_iload_n C dX12_undo_26 rfl ?_
  refine zs_bipush C dX12_undo_27 (by decide) ?_
  exact zs_icmp_ge C dX12_undo_29 (by decide) (kX12_undo_58 C j26 hq) (kX12_undo_32 C j26 hq)
def xX12_undo_14 (J26 : zq_P) (Q : zq_Q) (ls : zq_L) (st : List Value) (h : zq_H) : Prop := (zi_aload 0 (zi_dup (zi_getI 56 31 (zi_push (.int 1) (zi_i2 (fun x y => x - y) (zi_putI 56 31 (zi_push (.int 0) (zi_istore 1 (J26))))))))) ls st h
theorem kX12_undo_14 {X : zq_X} {d : Nat} (C : zq_C X cX12_undo 2 RX12 d) {J26 : zq_P} (j26 : zq_ok X 2 26 J26) {Q : zq_Q} (hq : zq_R X (some .int) 1 Q) : zq_ok X 2 14 (xX12_undo_14 J26 Q) := by
  refine zs_aload_n C dX12_undo_14 rfl ?_
  refine zs_dup C dX12_undo_15 ?_
  refine zs_getI C zp_56 zF12 (j := 31) ⟨by decide, rfl⟩ zw_1127 dX12_undo_16 ?_
  refine zs_iconst C dX12_undo_19 (by decide) ?_
  refine zs_isub C dX12_undo_20 ?_
  refine zs_putI C zp_56 zF12 (j := 31) ⟨by decide, rfl⟩ ⟨rfl, by decide +kernel⟩ zw_1127 dX12_undo_21 ?_
  refine zs_iconst C dX12_undo_24 (by decide) ?_
  refine zs_istore_n C dX12_undo_25 rfl (by decide) ?_
  exact j26
def xX12_undo_12 (J26 : zq_P) (Q : zq_Q) (ls : zq_L) (st : List Value) (h : zq_H) : Prop := (zi_push (.int (-1)) (zi_iret Q)) ls st h
theorem kX12_undo_12 {X : zq_X} {d : Nat} (C : zq_C X cX12_undo 2 RX12 d) {J26 : zq_P} (j26 : zq_ok X 2 26 J26) {Q : zq_Q} (hq : zq_R X (some .int) 1 Q) : zq_ok X 2 12 (xX12_undo_12 J26 Q) := by
  refine zs_iconst C dX12_undo_12 (by decide) ?_
  exact zs_iret C hq dX12_undo_13
def xX12_undo_0 (J26 : zq_P) (Q : zq_Q) (ls : zq_L) (st : List Value) (h : zq_H) : Prop := (zi_aload 0 (zi_push (.int 0) (zi_putI 56 0 (zi_aload 0 (zi_getI 56 31 (zi_if1 (fun x => x = 0) (xX12_undo_12 J26 Q) (xX12_undo_14 J26 Q))))))) ls st h
theorem kX12_undo_0 {X : zq_X} {d : Nat} (C : zq_C X cX12_undo 2 RX12 d) {J26 : zq_P} (j26 : zq_ok X 2 26 J26) {Q : zq_Q} (hq : zq_R X (some .int) 1 Q) : zq_ok X 2 0 (xX12_undo_0 J26 Q) := by
  refine zs_aload_n C dX12_undo_0 rfl ?_
  refine zs_iconst C dX12_undo_1 (by decide) ?_
  refine zs_putI C zp_56 zF12 (j := 0) ⟨by decide, rfl⟩ ⟨rfl, by decide +kernel⟩ zw_1096 dX12_undo_2 ?_
  refine zs_aload_n C dX12_undo_5 rfl ?_
  refine zs_getI C zp_56 zF12 (j := 31) ⟨by decide, rfl⟩ zw_1127 dX12_undo_6 ?_
  exact zs_if_ne C dX12_undo_9 (by decide) (kX12_undo_14 C j26 hq) (kX12_undo_12 C j26 hq)
theorem mX12_undo {d : Nat} {spec : zq_Sp} {σ26 : Type} (μ26 : σ26 → Nat) (I26 : zq_Q → σ26 → zq_P) (v : ∀ args h Q, spec args h Q → (zq_a args).length ≤ 2 ∧ xX12_undo_0 (fun ls st h => ∃ b, I26 Q b ls st h) Q (zq_l0 2 args) [] h) (v26 : ∀ Q a ls st h, I26 Q a ls st h → xX12_undo_26 (fun ls st h => ∃ b, μ26 b < μ26 a ∧ I26 Q b ls st h) Q ls st h) : zq_M yX12_undo cX12_undo 2 (some .int) 1 d spec := by
  refine zq_met (by decide +kernel) (by decide) (fun X Q args h C hq hs => ⟨(v args h Q hs).1, _, ?_, (v args h Q hs).2⟩)
  have hl := zq_loop1 (X := X) (nL := 2) (pc1 := 26) μ26 (I26 Q) (fun J26 => xX12_undo_26 J26 Q) (fun j26 => kX12_undo_26 C j26 hq) (v26 Q)
  exact kX12_undo_0 C hl hq
/-! ToOneCrumbModel.gives(III)I -/
theorem dX12_gives_0 : decode cX12_gives 0 = .ok (.aload_n 0, 1) := by decide +kernel
theorem dX12_gives_1 : decode cX12_gives 1 = .ok (.iload_n 1, 1) := by decide +kernel
theorem dX12_gives_2 : decode cX12_gives 2 = .ok (.invokevirtual 313, 3) := by decide +kernel
theorem dX12_gives_5 : decode cX12_gives 5 = .ok (.ifCond .eq 12, 3) := by decide +kernel
theorem dX12_gives_8 : decode cX12_gives 8 = .ok (.aload_n 0, 1) := by decide +kernel
theorem dX12_gives_9 : decode cX12_gives 9 = .ok (.iload_n 2, 1) := by decide +kernel
theorem dX12_gives_10 : decode cX12_gives 10 = .ok (.iload_n 3, 1) := by decide +kernel
theorem dX12_gives_11 : decode cX12_gives 11 = .ok (.invokevirtual 338, 3) := by decide +kernel
theorem dX12_gives_14 : decode cX12_gives 14 = .ok (.ifCond .ne 5, 3) := by decide +kernel
theorem dX12_gives_17 : decode cX12_gives 17 = .ok (.iconst (-1), 1) := by decide +kernel
theorem dX12_gives_18 : decode cX12_gives 18 = .ok (.ireturn, 1) := by decide +kernel
theorem dX12_gives_19 : decode cX12_gives 19 = .ok (.iconst 0, 1) := by decide +kernel
theorem dX12_gives_20 : decode cX12_gives 20 = .ok (.istore 4, 2) := by decide +kernel
theorem dX12_gives_22 : decode cX12_gives 22 = .ok (.iload_n 2, 1) := by decide +kernel
theorem dX12_gives_23 : decode cX12_gives 23 = .ok (.istore 5, 2) := by decide +kernel
theorem dX12_gives_25 : decode cX12_gives 25 = .ok (.iload 5, 2) := by decide +kernel
theorem dX12_gives_27 : decode cX12_gives 27 = .ok (.iload_n 3, 1) := by decide +kernel
theorem dX12_gives_28 : decode cX12_gives 28 = .ok (.if_icmp .gt 35, 3) := by decide +kernel
theorem dX12_gives_31 : decode cX12_gives 31 = .ok (.aload_n 0, 1) := by decide +kernel
theorem dX12_gives_32 : decode cX12_gives 32 = .ok (.getfield 30, 3) := by decide +kernel
theorem dX12_gives_35 : decode cX12_gives 35 = .ok (.iload 5, 2) := by decide +kernel
theorem dX12_gives_37 : decode cX12_gives 37 = .ok (.iaload, 1) := by decide +kernel
theorem dX12_gives_38 : decode cX12_gives 38 = .ok (.iconst (-1), 1) := by decide +kernel
theorem dX12_gives_39 : decode cX12_gives 39 = .ok (.if_icmp .eq 6, 3) := by decide +kernel
theorem dX12_gives_42 : decode cX12_gives 42 = .ok (.bipush (-2), 2) := by decide +kernel
theorem dX12_gives_44 : decode cX12_gives 44 = .ok (.ireturn, 1) := by decide +kernel
theorem dX12_gives_45 : decode cX12_gives 45 = .ok (.iload 4, 2) := by decide +kernel
theorem dX12_gives_47 : decode cX12_gives 47 = .ok (.aload_n 0, 1) := by decide +kernel
theorem dX12_gives_48 : decode cX12_gives 48 = .ok (.iload_n 1, 1) := by decide +kernel
theorem dX12_gives_49 : decode cX12_gives 49 = .ok (.iload 5, 2) := by decide +kernel
theorem dX12_gives_51 : decode cX12_gives 51 = .ok (.invokevirtual 303, 3) := by decide +kernel
theorem dX12_gives_54 : decode cX12_gives 54 = .ok (.iadd, 1) := by decide +kernel
theorem dX12_gives_55 : decode cX12_gives 55 = .ok (.istore 4, 2) := by decide +kernel
theorem dX12_gives_57 : decode cX12_gives 57 = .ok (.iinc 5 1, 3) := by decide +kernel
theorem dX12_gives_60 : decode cX12_gives 60 = .ok (.goto (-35), 3) := by decide +kernel
theorem dX12_gives_63 : decode cX12_gives 63 = .ok (.iload_n 2, 1) := by decide +kernel
theorem dX12_gives_64 : decode cX12_gives 64 = .ok (.istore 5, 2) := by decide +kernel
theorem dX12_gives_66 : decode cX12_gives 66 = .ok (.iload 5, 2) := by decide +kernel
theorem dX12_gives_68 : decode cX12_gives 68 = .ok (.iload_n 3, 1) := by decide +kernel
theorem dX12_gives_69 : decode cX12_gives 69 = .ok (.if_icmp .gt 17, 3) := by decide +kernel
theorem dX12_gives_72 : decode cX12_gives 72 = .ok (.aload_n 0, 1) := by decide +kernel
theorem dX12_gives_73 : decode cX12_gives 73 = .ok (.getfield 30, 3) := by decide +kernel
theorem dX12_gives_76 : decode cX12_gives 76 = .ok (.iload 5, 2) := by decide +kernel
theorem dX12_gives_78 : decode cX12_gives 78 = .ok (.iload_n 1, 1) := by decide +kernel
theorem dX12_gives_79 : decode cX12_gives 79 = .ok (.iastore, 1) := by decide +kernel
theorem dX12_gives_80 : decode cX12_gives 80 = .ok (.iinc 5 1, 3) := by decide +kernel
theorem dX12_gives_83 : decode cX12_gives 83 = .ok (.goto (-17), 3) := by decide +kernel
theorem dX12_gives_86 : decode cX12_gives 86 = .ok (.iload 4, 2) := by decide +kernel
theorem dX12_gives_88 : decode cX12_gives 88 = .ok (.ireturn, 1) := by decide +kernel
def xX12_gives_86 (s_X12_isGuest : zq_Sp) (s_X12_isSlice : zq_Sp) (s_X12_worthOf : zq_Sp) (J25 : zq_P) (J66 : zq_P) (Q : zq_Q) (ls : zq_L) (st : List Value) (h : zq_H) : Prop := (zi_iload 4 (zi_iret Q)) ls st h
theorem kX12_gives_86 {X : zq_X} {d : Nat} (C : zq_C X cX12_gives 6 RX12 d) {d_X12_isGuest : Nat} {s_X12_isGuest : zq_Sp} (h_X12_isGuest : zq_M yX12_isGuest cX12_isGuest 2 (some .boolean) 1 d_X12_isGuest s_X12_isGuest) (g_X12_isGuest : d_X12_isGuest + 1 ≤ d) {d_X12_isSlice : Nat} {s_X12_isSlice : zq_Sp} (h_X12_isSlice : zq_M yX12_isSlice cX12_isSlice 3 (some .boolean) 1 d_X12_isSlice s_X12_isSlice) (g_X12_isSlice : d_X12_isSlice + 1 ≤ d) {d_X12_worthOf : Nat} {s_X12_worthOf : zq_Sp} (h_X12_worthOf : zq_M yX12_worthOf cX12_worthOf 3 (some .int) 1 d_X12_worthOf s_X12_worthOf) (g_X12_worthOf : d_X12_worthOf + 1 ≤ d) {J25 : zq_P} (j25 : zq_ok X 6 25 J25) {J66 : zq_P} (j66 : zq_ok X 6 66 J66) {Q : zq_Q} (hq : zq_R X (some .int) 1 Q) : zq_ok X 6 86 (xX12_gives_86 s_X12_isGuest s_X12_isSlice s_X12_worthOf J25 J66 Q) := by
  refine zs_iload C dX12_gives_86 ?_
  exact zs_iret C hq dX12_gives_88
def xX12_gives_72 (s_X12_isGuest : zq_Sp) (s_X12_isSlice : zq_Sp) (s_X12_worthOf : zq_Sp) (J25 : zq_P) (J66 : zq_P) (Q : zq_Q) (ls : zq_L) (st : List Value) (h : zq_H) : Prop := (zi_aload 0 (zi_getR 56 63 (zi_iload 5 (zi_iload 1 (zi_astI 63 16 (zi_iinc 5 1 (J66))))))) ls st h
theorem kX12_gives_72 {X : zq_X} {d : Nat} (C : zq_C X cX12_gives 6 RX12 d) {d_X12_isGuest : Nat} {s_X12_isGuest : zq_Sp} (h_X12_isGuest : zq_M yX12_isGuest cX12_isGuest 2 (some .boolean) 1 d_X12_isGuest s_X12_isGuest) (g_X12_isGuest : d_X12_isGuest + 1 ≤ d) {d_X12_isSlice : Nat} {s_X12_isSlice : zq_Sp} (h_X12_isSlice : zq_M yX12_isSlice cX12_isSlice 3 (some .boolean) 1 d_X12_isSlice s_X12_isSlice) (g_X12_isSlice : d_X12_isSlice + 1 ≤ d) {d_X12_worthOf : Nat} {s_X12_worthOf : zq_Sp} (h_X12_worthOf : zq_M yX12_worthOf cX12_worthOf 3 (some .int) 1 d_X12_worthOf s_X12_worthOf) (g_X12_worthOf : d_X12_worthOf + 1 ≤ d) {J25 : zq_P} (j25 : zq_ok X 6 25 J25) {J66 : zq_P} (j66 : zq_ok X 6 66 J66) {Q : zq_Q} (hq : zq_R X (some .int) 1 Q) : zq_ok X 6 72 (xX12_gives_72 s_X12_isGuest s_X12_isSlice s_X12_worthOf J25 J66 Q) := by
  refine zs_aload_n C dX12_gives_72 rfl ?_
  refine zs_getR C zp_56 zF12 (j := 11) ⟨by decide, rfl⟩ zw_1107 dX12_gives_73 ?_
  refine zs_iload C dX12_gives_76 ?_
  refine zs_iload_n C dX12_gives_78 rfl ?_
  refine zs_iastore C zp_63 dX12_gives_79 ?_
  refine zs_iinc C dX12_gives_80 (by decide) (by decide) ?_
  exact zs_goto C dX12_gives_83 (by decide) (j66)
def xX12_gives_66 (s_X12_isGuest : zq_Sp) (s_X12_isSlice : zq_Sp) (s_X12_worthOf : zq_Sp) (J25 : zq_P) (J66 : zq_P) (Q : zq_Q) (ls : zq_L) (st : List Value) (h : zq_H) : Prop := (zi_iload 5 (zi_iload 3 (zi_if2 (fun x y => y < x) (xX12_gives_86 s_X12_isGuest s_X12_isSlice s_X12_worthOf J25 J66 Q) (xX12_gives_72 s_X12_isGuest s_X12_isSlice s_X12_worthOf J25 J66 Q)))) ls st h
theorem kX12_gives_66 {X : zq_X} {d : Nat} (C : zq_C X cX12_gives 6 RX12 d) {d_X12_isGuest : Nat} {s_X12_isGuest : zq_Sp} (h_X12_isGuest : zq_M yX12_isGuest cX12_isGuest 2 (some .boolean) 1 d_X12_isGuest s_X12_isGuest) (g_X12_isGuest : d_X12_isGuest + 1 ≤ d) {d_X12_isSlice : Nat} {s_X12_isSlice : zq_Sp} (h_X12_isSlice : zq_M yX12_isSlice cX12_isSlice 3 (some .boolean) 1 d_X12_isSlice s_X12_isSlice) (g_X12_isSlice : d_X12_isSlice + 1 ≤ d) {d_X12_worthOf : Nat} {s_X12_worthOf : zq_Sp} (h_X12_worthOf : zq_M yX12_worthOf cX12_worthOf 3 (some .int) 1 d_X12_worthOf s_X12_worthOf) (g_X12_worthOf : d_X12_worthOf + 1 ≤ d) {J25 : zq_P} (j25 : zq_ok X 6 25 J25) {J66 : zq_P} (j66 : zq_ok X 6 66 J66) {Q : zq_Q} (hq : zq_R X (some .int) 1 Q) : zq_ok X 6 66 (xX12_gives_66 s_X12_isGuest s_X12_isSlice s_X12_worthOf J25 J66 Q) := by
  refine zs_iload C dX12_gives_66 ?_
  refine zs_iload_n C dX12_gives_68 rfl ?_
  exact zs_icmp_gt C dX12_gives_69 (by decide) (kX12_gives_86 C h_X12_isGuest g_X12_isGuest h_X12_isSlice g_X12_isSlice h_X12_worthOf g_X12_worthOf j25 j66 hq) (kX12_gives_72 C h_X12_isGuest g_X12_isGuest h_X12_isSlice g_X12_isSlice h_X12_worthOf g_X12_worthOf j25 j66 hq)
def xX12_gives_63 (s_X12_isGuest : zq_Sp) (s_X12_isSlice : zq_Sp) (s_X12_worthOf : zq_Sp) (J25 : zq_P) (J66 : zq_P) (Q : zq_Q) (ls : zq_L) (st : List Value) (h : zq_H) : Prop := (zi_iload 2 (zi_istore 5 (J66))) ls st h
theorem kX12_gives_63 {X : zq_X} {d : Nat} (C : zq_C X cX12_gives 6 RX12 d) {d_X12_isGuest : Nat} {s_X12_isGuest : zq_Sp} (h_X12_isGuest : zq_M yX12_isGuest cX12_isGuest 2 (some .boolean) 1 d_X12_isGuest s_X12_isGuest) (g_X12_isGuest : d_X12_isGuest + 1 ≤ d) {d_X12_isSlice : Nat} {s_X12_isSlice : zq_Sp} (h_X12_isSlice : zq_M yX12_isSlice cX12_isSlice 3 (some .boolean) 1 d_X12_isSlice s_X12_isSlice) (g_X12_isSlice : d_X12_isSlice + 1 ≤ d) {d_X12_worthOf : Nat} {s_X12_worthOf : zq_Sp} (h_X12_worthOf : zq_M yX12_worthOf cX12_worthOf 3 (some .int) 1 d_X12_worthOf s_X12_worthOf) (g_X12_worthOf : d_X12_worthOf + 1 ≤ d) {J25 : zq_P} (j25 : zq_ok X 6 25 J25) {J66 : zq_P} (j66 : zq_ok X 6 66 J66) {Q : zq_Q} (hq : zq_R X (some .int) 1 Q) : zq_ok X 6 63 (xX12_gives_63 s_X12_isGuest s_X12_isSlice s_X12_worthOf J25 J66 Q) := by
  refine zs_iload_n C dX12_gives_63 rfl ?_
  refine zs_istore C dX12_gives_64 (by decide) ?_
  exact j66
def xX12_gives_45 (s_X12_isGuest : zq_Sp) (s_X12_isSlice : zq_Sp) (s_X12_worthOf : zq_Sp) (J25 : zq_P) (J66 : zq_P) (Q : zq_Q) (ls : zq_L) (st : List Value) (h : zq_H) : Prop := (zi_iload 4 (zi_aload 0 (zi_iload 1 (zi_iload 5 (zi_callV 2 56 s_X12_worthOf (zi_i2 (fun x y => x + y) (zi_istore 4 (zi_iinc 5 1 (J25))))))))) ls st h
theorem kX12_gives_45 {X : zq_X} {d : Nat} (C : zq_C X cX12_gives 6 RX12 d) {d_X12_isGuest : Nat} {s_X12_isGuest : zq_Sp} (h_X12_isGuest : zq_M yX12_isGuest cX12_isGuest 2 (some .boolean) 1 d_X12_isGuest s_X12_isGuest) (g_X12_isGuest : d_X12_isGuest + 1 ≤ d) {d_X12_isSlice : Nat} {s_X12_isSlice : zq_Sp} (h_X12_isSlice : zq_M yX12_isSlice cX12_isSlice 3 (some .boolean) 1 d_X12_isSlice s_X12_isSlice) (g_X12_isSlice : d_X12_isSlice + 1 ≤ d) {d_X12_worthOf : Nat} {s_X12_worthOf : zq_Sp} (h_X12_worthOf : zq_M yX12_worthOf cX12_worthOf 3 (some .int) 1 d_X12_worthOf s_X12_worthOf) (g_X12_worthOf : d_X12_worthOf + 1 ≤ d) {J25 : zq_P} (j25 : zq_ok X 6 25 J25) {J66 : zq_P} (j66 : zq_ok X 6 66 J66) {Q : zq_Q} (hq : zq_R X (some .int) 1 Q) : zq_ok X 6 45 (xX12_gives_45 s_X12_isGuest s_X12_isSlice s_X12_worthOf J25 J66 Q) := by
  refine zs_iload C dX12_gives_45 ?_
  refine zs_aload_n C dX12_gives_47 rfl ?_
  refine zs_iload_n C dX12_gives_48 rfl ?_
  refine zs_iload C dX12_gives_49 ?_
  refine zs_callV C h_X12_worthOf g_X12_worthOf zy_X12_worthOf zp_56 (show vwCl[12]? = some (RX12, TX12, 67) from rfl) zw_1475 zw_1477 zs9_X12_worthOf dX12_gives_51 ?_
  refine zs_iadd C dX12_gives_54 ?_
  refine zs_istore C dX12_gives_55 (by decide) ?_
  refine zs_iinc C dX12_gives_57 (by decide) (by decide) ?_
  exact zs_goto C dX12_gives_60 (by decide) (j25)
def xX12_gives_42 (s_X12_isGuest : zq_Sp) (s_X12_isSlice : zq_Sp) (s_X12_worthOf : zq_Sp) (J25 : zq_P) (J66 : zq_P) (Q : zq_Q) (ls : zq_L) (st : List Value) (h : zq_H) : Prop := (zi_push (.int (-2)) (zi_iret Q)) ls st h
theorem kX12_gives_42 {X : zq_X} {d : Nat} (C : zq_C X cX12_gives 6 RX12 d) {d_X12_isGuest : Nat} {s_X12_isGuest : zq_Sp} (h_X12_isGuest : zq_M yX12_isGuest cX12_isGuest 2 (some .boolean) 1 d_X12_isGuest s_X12_isGuest) (g_X12_isGuest : d_X12_isGuest + 1 ≤ d) {d_X12_isSlice : Nat} {s_X12_isSlice : zq_Sp} (h_X12_isSlice : zq_M yX12_isSlice cX12_isSlice 3 (some .boolean) 1 d_X12_isSlice s_X12_isSlice) (g_X12_isSlice : d_X12_isSlice + 1 ≤ d) {d_X12_worthOf : Nat} {s_X12_worthOf : zq_Sp} (h_X12_worthOf : zq_M yX12_worthOf cX12_worthOf 3 (some .int) 1 d_X12_worthOf s_X12_worthOf) (g_X12_worthOf : d_X12_worthOf + 1 ≤ d) {J25 : zq_P} (j25 : zq_ok X 6 25 J25) {J66 : zq_P} (j66 : zq_ok X 6 66 J66) {Q : zq_Q} (hq : zq_R X (some .int) 1 Q) : zq_ok X 6 42 (xX12_gives_42 s_X12_isGuest s_X12_isSlice s_X12_worthOf J25 J66 Q) := by
  refine zs_bipush C dX12_gives_42 (by decide) ?_
  exact zs_iret C hq dX12_gives_44
def xX12_gives_31 (s_X12_isGuest : zq_Sp) (s_X12_isSlice : zq_Sp) (s_X12_worthOf : zq_Sp) (J25 : zq_P) (J66 : zq_P) (Q : zq_Q) (ls : zq_L) (st : List Value) (h : zq_H) : Prop := (zi_aload 0 (zi_getR 56 63 (zi_iload 5 (zi_aldI 63 16 (zi_push (.int (-1)) (zi_if2 (fun x y => x = y) (xX12_gives_45 s_X12_isGuest s_X12_isSlice s_X12_worthOf J25 J66 Q) (xX12_gives_42 s_X12_isGuest s_X12_isSlice s_X12_worthOf J25 J66 Q))))))) ls st h
theorem kX12_gives_31 {X : zq_X} {d : Nat} (C : zq_C X cX12_gives 6 RX12 d) {d_X12_isGuest : Nat} {s_X12_isGuest : zq_Sp} (h_X12_isGuest : zq_M yX12_isGuest cX12_isGuest 2 (some .boolean) 1 d_X12_isGuest s_X12_isGuest) (g_X12_isGuest : d_X12_isGuest + 1 ≤ d) {d_X12_isSlice : Nat} {s_X12_isSlice : zq_Sp} (h_X12_isSlice : zq_M yX12_isSlice cX12_isSlice 3 (some .boolean) 1 d_X12_isSlice s_X12_isSlice) (g_X12_isSlice : d_X12_isSlice + 1 ≤ d) {d_X12_worthOf : Nat} {s_X12_worthOf : zq_Sp} (h_X12_worthOf : zq_M yX12_worthOf cX12_worthOf 3 (some .int) 1 d_X12_worthOf s_X12_worthOf) (g_X12_worthOf : d_X12_worthOf + 1 ≤ d) {J25 : zq_P} (j25 : zq_ok X 6 25 J25) {J66 : zq_P} (j66 : zq_ok X 6 66 J66) {Q : zq_Q} (hq : zq_R X (some .int) 1 Q) : zq_ok X 6 31 (xX12_gives_31 s_X12_isGuest s_X12_isSlice s_X12_worthOf J25 J66 Q) := by
  refine zs_aload_n C dX12_gives_31 rfl ?_
  refine zs_getR C zp_56 zF12 (j := 11) ⟨by decide, rfl⟩ zw_1107 dX12_gives_32 ?_
  refine zs_iload C dX12_gives_35 ?_
  refine zs_iaload C zp_63 dX12_gives_37 ?_
  refine zs_iconst C dX12_gives_38 (by decide) ?_
  exact zs_icmp_eq C dX12_gives_39 (by decide) (kX12_gives_45 C h_X12_isGuest g_X12_isGuest h_X12_isSlice g_X12_isSlice h_X12_worthOf g_X12_worthOf j25 j66 hq) (kX12_gives_42 C h_X12_isGuest g_X12_isGuest h_X12_isSlice g_X12_isSlice h_X12_worthOf g_X12_worthOf j25 j66 hq)
def xX12_gives_25 (s_X12_isGuest : zq_Sp) (s_X12_isSlice : zq_Sp) (s_X12_worthOf : zq_Sp) (J25 : zq_P) (J66 : zq_P) (Q : zq_Q) (ls : zq_L) (st : List Value) (h : zq_H) : Prop := (zi_iload 5 (zi_iload 3 (zi_if2 (fun x y => y < x) (xX12_gives_63 s_X12_isGuest s_X12_isSlice s_X12_worthOf J25 J66 Q) (xX12_gives_31 s_X12_isGuest s_X12_isSlice s_X12_worthOf J25 J66 Q)))) ls st h
theorem kX12_gives_25 {X : zq_X} {d : Nat} (C : zq_C X cX12_gives 6 RX12 d) {d_X12_isGuest : Nat} {s_X12_isGuest : zq_Sp} (h_X12_isGuest : zq_M yX12_isGuest cX12_isGuest 2 (some .boolean) 1 d_X12_isGuest s_X12_isGuest) (g_X12_isGuest : d_X12_isGuest + 1 ≤ d) {d_X12_isSlice : Nat} {s_X12_isSlice : zq_Sp} (h_X12_isSlice : zq_M yX12_isSlice cX12_isSlice 3 (some .boolean) 1 d_X12_isSlice s_X12_isSlice) (g_X12_isSlice : d_X12_isSlice + 1 ≤ d) {d_X12_worthOf : Nat} {s_X12_worthOf : zq_Sp} (h_X12_worthOf : zq_M yX12_worthOf cX12_worthOf 3 (some .int) 1 d_X12_worthOf s_X12_worthOf) (g_X12_worthOf : d_X12_worthOf + 1 ≤ d) {J25 : zq_P} (j25 : zq_ok X 6 25 J25) {J66 : zq_P} (j66 : zq_ok X 6 66 J66) {Q : zq_Q} (hq : zq_R X (some .int) 1 Q) : zq_ok X 6 25 (xX12_gives_25 s_X12_isGuest s_X12_isSlice s_X12_worthOf J25 J66 Q) := by
  refine zs_iload C dX12_gives_25 ?_
  refine zs_iload_n C dX12_gives_27 rfl ?_
  exact zs_icmp_gt C dX12_gives_28 (by decide) (kX12_gives_63 C h_X12_isGuest g_X12_isGuest h_X12_isSlice g_X12_isSlice h_X12_worthOf g_X12_worthOf j25 j66 hq) (kX12_gives_31 C h_X12_isGuest g_X12_isGuest h_X12_isSlice g_X12_isSlice h_X12_worthOf g_X12_worthOf j25 j66 hq)
def xX12_gives_19 (s_X12_isGuest : zq_Sp) (s_X12_isSlice : zq_Sp) (s_X12_worthOf : zq_Sp) (J25 : zq_P) (J66 : zq_P) (Q : zq_Q) (ls : zq_L) (st : List Value) (h : zq_H) : Prop := (zi_push (.int 0) (zi_istore 4 (zi_iload 2 (zi_istore 5 (J25))))) ls st h
theorem kX12_gives_19 {X : zq_X} {d : Nat} (C : zq_C X cX12_gives 6 RX12 d) {d_X12_isGuest : Nat} {s_X12_isGuest : zq_Sp} (h_X12_isGuest : zq_M yX12_isGuest cX12_isGuest 2 (some .boolean) 1 d_X12_isGuest s_X12_isGuest) (g_X12_isGuest : d_X12_isGuest + 1 ≤ d) {d_X12_isSlice : Nat} {s_X12_isSlice : zq_Sp} (h_X12_isSlice : zq_M yX12_isSlice cX12_isSlice 3 (some .boolean) 1 d_X12_isSlice s_X12_isSlice) (g_X12_isSlice : d_X12_isSlice + 1 ≤ d) {d_X12_worthOf : Nat} {s_X12_worthOf : zq_Sp} (h_X12_worthOf : zq_M yX12_worthOf cX12_worthOf 3 (some .int) 1 d_X12_worthOf s_X12_worthOf) (g_X12_worthOf : d_X12_worthOf + 1 ≤ d) {J25 : zq_P} (j25 : zq_ok X 6 25 J25) {J66 : zq_P} (j66 : zq_ok X 6 66 J66) {Q : zq_Q} (hq : zq_R X (some .int) 1 Q) : zq_ok X 6 19 (xX12_gives_19 s_X12_isGuest s_X12_isSlice s_X12_worthOf J25 J66 Q) := by
  refine zs_iconst C dX12_gives_19 (by decide) ?_
  refine zs_istore C dX12_gives_20 (by decide) ?_
  refine zs_iload_n C dX12_gives_22 rfl ?_
  refine zs_istore C dX12_gives_23 (by decide) ?_
  exact j25
def xX12_gives_17 (s_X12_isGuest : zq_Sp) (s_X12_isSlice : zq_Sp) (s_X12_worthOf : zq_Sp) (J25 : zq_P) (J66 : zq_P) (Q : zq_Q) (ls : zq_L) (st : List Value) (h : zq_H) : Prop := (zi_push (.int (-1)) (zi_iret Q)) ls st h
theorem kX12_gives_17 {X : zq_X} {d : Nat} (C : zq_C X cX12_gives 6 RX12 d) {d_X12_isGuest : Nat} {s_X12_isGuest : zq_Sp} (h_X12_isGuest : zq_M yX12_isGuest cX12_isGuest 2 (some .boolean) 1 d_X12_isGuest s_X12_isGuest) (g_X12_isGuest : d_X12_isGuest + 1 ≤ d) {d_X12_isSlice : Nat} {s_X12_isSlice : zq_Sp} (h_X12_isSlice : zq_M yX12_isSlice cX12_isSlice 3 (some .boolean) 1 d_X12_isSlice s_X12_isSlice) (g_X12_isSlice : d_X12_isSlice + 1 ≤ d) {d_X12_worthOf : Nat} {s_X12_worthOf : zq_Sp} (h_X12_worthOf : zq_M yX12_worthOf cX12_worthOf 3 (some .int) 1 d_X12_worthOf s_X12_worthOf) (g_X12_worthOf : d_X12_worthOf + 1 ≤ d) {J25 : zq_P} (j25 : zq_ok X 6 25 J25) {J66 : zq_P} (j66 : zq_ok X 6 66 J66) {Q : zq_Q} (hq : zq_R X (some .int) 1 Q) : zq_ok X 6 17 (xX12_gives_17 s_X12_isGuest s_X12_isSlice s_X12_worthOf J25 J66 Q) := by
  refine zs_iconst C dX12_gives_17 (by decide) ?_
  exact zs_iret C hq dX12_gives_18
def xX12_gives_8 (s_X12_isGuest : zq_Sp) (s_X12_isSlice : zq_Sp) (s_X12_worthOf : zq_Sp) (J25 : zq_P) (J66 : zq_P) (Q : zq_Q) (ls : zq_L) (st : List Value) (h : zq_H) : Prop := (zi_aload 0 (zi_iload 2 (zi_iload 3 (zi_callV 2 56 s_X12_isSlice (zi_if1 (fun x => x = 0) (xX12_gives_17 s_X12_isGuest s_X12_isSlice s_X12_worthOf J25 J66 Q) (xX12_gives_19 s_X12_isGuest s_X12_isSlice s_X12_worthOf J25 J66 Q)))))) ls st h
theorem kX12_gives_8 {X : zq_X} {d : Nat} (C : zq_C X cX12_gives 6 RX12 d) {d_X12_isGuest : Nat} {s_X12_isGuest : zq_Sp} (h_X12_isGuest : zq_M yX12_isGuest cX12_isGuest 2 (some .boolean) 1 d_X12_isGuest s_X12_isGuest) (g_X12_isGuest : d_X12_isGuest + 1 ≤ d) {d_X12_isSlice : Nat} {s_X12_isSlice : zq_Sp} (h_X12_isSlice : zq_M yX12_isSlice cX12_isSlice 3 (some .boolean) 1 d_X12_isSlice s_X12_isSlice) (g_X12_isSlice : d_X12_isSlice + 1 ≤ d) {d_X12_worthOf : Nat} {s_X12_worthOf : zq_Sp} (h_X12_worthOf : zq_M yX12_worthOf cX12_worthOf 3 (some .int) 1 d_X12_worthOf s_X12_worthOf) (g_X12_worthOf : d_X12_worthOf + 1 ≤ d) {J25 : zq_P} (j25 : zq_ok X 6 25 J25) {J66 : zq_P} (j66 : zq_ok X 6 66 J66) {Q : zq_Q} (hq : zq_R X (some .int) 1 Q) : zq_ok X 6 8 (xX12_gives_8 s_X12_isGuest s_X12_isSlice s_X12_worthOf J25 J66 Q) := by
  refine zs_aload_n C dX12_gives_8 rfl ?_
  refine zs_iload_n C dX12_gives_9 rfl ?_
  refine zs_iload_n C dX12_gives_10 rfl ?_
  refine zs_callV C h_X12_isSlice g_X12_isSlice zy_X12_isSlice zp_56 (show vwCl[12]? = some (RX12, TX12, 67) from rfl) zw_1533 zw_1535 zs9_X12_isSlice dX12_gives_11 ?_
  exact zs_if_ne C dX12_gives_14 (by decide) (kX12_gives_19 C h_X12_isGuest g_X12_isGuest h_X12_isSlice g_X12_isSlice h_X12_worthOf g_X12_worthOf j25 j66 hq) (kX12_gives_17 C h_X12_isGuest g_X12_isGuest h_X12_isSlice g_X12_isSlice h_X12_worthOf g_X12_worthOf j25 j66 hq)
def xX12_gives_0 (s_X12_isGuest : zq_Sp) (s_X12_isSlice : zq_Sp) (s_X12_worthOf : zq_Sp) (J25 : zq_P) (J66 : zq_P) (Q : zq_Q) (ls : zq_L) (st : List Value) (h : zq_H) : Prop := (zi_aload 0 (zi_iload 1 (zi_callV 1 56 s_X12_isGuest (zi_if1 (fun x => x = 0) (xX12_gives_17 s_X12_isGuest s_X12_isSlice s_X12_worthOf J25 J66 Q) (xX12_gives_8 s_X12_isGuest s_X12_isSlice s_X12_worthOf J25 J66 Q))))) ls st h
theorem kX12_gives_0 {X : zq_X} {d : Nat} (C : zq_C X cX12_gives 6 RX12 d) {d_X12_isGuest : Nat} {s_X12_isGuest : zq_Sp} (h_X12_isGuest : zq_M yX12_isGuest cX12_isGuest 2 (some .boolean) 1 d_X12_isGuest s_X12_isGuest) (g_X12_isGuest : d_X12_isGuest + 1 ≤ d) {d_X12_isSlice : Nat} {s_X12_isSlice : zq_Sp} (h_X12_isSlice : zq_M yX12_isSlice cX12_isSlice 3 (some .boolean) 1 d_X12_isSlice s_X12_isSlice) (g_X12_isSlice : d_X12_isSlice + 1 ≤ d) {d_X12_worthOf : Nat} {s_X12_worthOf : zq_Sp} (h_X12_worthOf : zq_M yX12_worthOf cX12_worthOf 3 (some .int) 1 d_X12_worthOf s_X12_worthOf) (g_X12_worthOf : d_X12_worthOf + 1 ≤ d) {J25 : zq_P} (j25 : zq_ok X 6 25 J25) {J66 : zq_P} (j66 : zq_ok X 6 66 J66) {Q : zq_Q} (hq : zq_R X (some .int) 1 Q) : zq_ok X 6 0 (xX12_gives_0 s_X12_isGuest s_X12_isSlice s_X12_worthOf J25 J66 Q) := by
  refine zs_aload_n C dX12_gives_0 rfl ?_
  refine zs_iload_n C dX12_gives_1 rfl ?_
  refine zs_callV C h_X12_isGuest g_X12_isGuest zy_X12_isGuest zp_56 (show vwCl[12]? = some (RX12, TX12, 67) from rfl) zw_1466 zw_1468 zs9_X12_isGuest dX12_gives_2 ?_
  exact zs_if_eq C dX12_gives_5 (by decide) (kX12_gives_17 C h_X12_isGuest g_X12_isGuest h_X12_isSlice g_X12_isSlice h_X12_worthOf g_X12_worthOf j25 j66 hq) (kX12_gives_8 C h_X12_isGuest g_X12_isGuest h_X12_isSlice g_X12_isSlice h_X12_worthOf g_X12_worthOf j25 j66 hq)
theorem mX12_gives {d : Nat} {spec : zq_Sp} {σ25 : Type} {σ66 : Type} {d_X12_isGuest : Nat} {s_X12_isGuest : zq_Sp} (h_X12_isGuest : zq_M yX12_isGuest cX12_isGuest 2 (some .boolean) 1 d_X12_isGuest s_X12_isGuest) (g_X12_isGuest : d_X12_isGuest + 1 ≤ d) {d_X12_isSlice : Nat} {s_X12_isSlice : zq_Sp} (h_X12_isSlice : zq_M yX12_isSlice cX12_isSlice 3 (some .boolean) 1 d_X12_isSlice s_X12_isSlice) (g_X12_isSlice : d_X12_isSlice + 1 ≤ d) {d_X12_worthOf : Nat} {s_X12_worthOf : zq_Sp} (h_X12_worthOf : zq_M yX12_worthOf cX12_worthOf 3 (some .int) 1 d_X12_worthOf s_X12_worthOf) (g_X12_worthOf : d_X12_worthOf + 1 ≤ d) (μ25 : σ25 → Nat) (I25 : zq_Q → σ25 → zq_P) (μ66 : σ66 → Nat) (I66 : zq_Q → σ66 → zq_P) (v : ∀ args h Q, spec args h Q → (zq_a args).length ≤ 6 ∧ xX12_gives_0 s_X12_isGuest s_X12_isSlice s_X12_worthOf (fun ls st h => ∃ b, I25 Q b ls st h) (fun ls st h => ∃ b, I66 Q b ls st h) Q (zq_l0 6 args) [] h) (v25 : ∀ Q a ls st h, I25 Q a ls st h → xX12_gives_25 s_X12_isGuest s_X12_isSlice s_X12_worthOf (fun ls st h => ∃ b, μ25 b < μ25 a ∧ I25 Q b ls st h) (fun ls st h => ∃ b, μ66 b < μ25 a ∧ I66 Q b ls st h) Q ls st h) (v66 : ∀ Q a ls st h, I66 Q a ls st h → xX12_gives_66 s_X12_isGuest s_X12_isSlice s_X12_worthOf (fun ls st h => ∃ b, μ25 b < μ66 a ∧ I25 Q b ls st h) (fun ls st h => ∃ b, μ66 b < μ66 a ∧ I66 Q b ls st h) Q ls st h) : zq_M yX12_gives cX12_gives 6 (some .int) 1 d spec := by
  refine zq_met (by decide +kernel) (by decide) (fun X Q args h C hq hs => ⟨(v args h Q hs).1, _, ?_, (v args h Q hs).2⟩)
  have hl := zq_loop2 (X := X) (nL := 6) (pc1 := 25) (pc2 := 66) μ25 μ66 (I25 Q) (I66 Q) (fun J25 J66 => xX12_gives_25 s_X12_isGuest s_X12_isSlice s_X12_worthOf J25 J66 Q) (fun J25 J66 => xX12_gives_66 s_X12_isGuest s_X12_isSlice s_X12_worthOf J25 J66 Q) (fun j25 j66 => kX12_gives_25 C h_X12_isGuest g_X12_isGuest h_X12_isSlice g_X12_isSlice h_X12_worthOf g_X12_worthOf j25 j66 hq) (fun j25 j66 => kX12_gives_66 C h_X12_isGuest g_X12_isGuest h_X12_isSlice g_X12_isSlice h_X12_worthOf g_X12_worthOf j25 j66 hq) (v25 Q) (v66 Q)
  exact kX12_gives_0 C h_X12_isGuest g_X12_isGuest h_X12_isSlice g_X12_isSlice h_X12_worthOf g_X12_worthOf hl.1 hl.2 hq
/-! ToOneCrumbModel.backs(II)I -/
theorem dX12_backs_0 : decode cX12_backs 0 = .ok (.aload_n 0, 1) := by decide +kernel
theorem dX12_backs_1 : decode cX12_backs 1 = .ok (.iload_n 1, 1) := by decide +kernel
theorem dX12_backs_2 : decode cX12_backs 2 = .ok (.iload_n 2, 1) := by decide +kernel
theorem dX12_backs_3 : decode cX12_backs 3 = .ok (.invokevirtual 338, 3) := by decide +kernel
theorem dX12_backs_6 : decode cX12_backs 6 = .ok (.ifCond .ne 5, 3) := by decide +kernel
theorem dX12_backs_9 : decode cX12_backs 9 = .ok (.iconst (-1), 1) := by decide +kernel
theorem dX12_backs_10 : decode cX12_backs 10 = .ok (.ireturn, 1) := by decide +kernel
theorem dX12_backs_11 : decode cX12_backs 11 = .ok (.iconst 0, 1) := by decide +kernel
theorem dX12_backs_12 : decode cX12_backs 12 = .ok (.istore_n 3, 1) := by decide +kernel
theorem dX12_backs_13 : decode cX12_backs 13 = .ok (.iload_n 1, 1) := by decide +kernel
theorem dX12_backs_14 : decode cX12_backs 14 = .ok (.istore 4, 2) := by decide +kernel
theorem dX12_backs_16 : decode cX12_backs 16 = .ok (.iload 4, 2) := by decide +kernel
theorem dX12_backs_18 : decode cX12_backs 18 = .ok (.iload_n 2, 1) := by decide +kernel
theorem dX12_backs_19 : decode cX12_backs 19 = .ok (.if_icmp .gt 53, 3) := by decide +kernel
theorem dX12_backs_22 : decode cX12_backs 22 = .ok (.aload_n 0, 1) := by decide +kernel
theorem dX12_backs_23 : decode cX12_backs 23 = .ok (.aload_n 0, 1) := by decide +kernel
theorem dX12_backs_24 : decode cX12_backs 24 = .ok (.getfield 30, 3) := by decide +kernel
theorem dX12_backs_27 : decode cX12_backs 27 = .ok (.iload 4, 2) := by decide +kernel
theorem dX12_backs_29 : decode cX12_backs 29 = .ok (.iaload, 1) := by decide +kernel
theorem dX12_backs_30 : decode cX12_backs 30 = .ok (.invokevirtual 313, 3) := by decide +kernel
theorem dX12_backs_33 : decode cX12_backs 33 = .ok (.istore 5, 2) := by decide +kernel
theorem dX12_backs_35 : decode cX12_backs 35 = .ok (.iload_n 3, 1) := by decide +kernel
theorem dX12_backs_36 : decode cX12_backs 36 = .ok (.iload 5, 2) := by decide +kernel
theorem dX12_backs_38 : decode cX12_backs 38 = .ok (.invokestatic 190, 3) := by decide +kernel
theorem dX12_backs_41 : decode cX12_backs 41 = .ok (.iadd, 1) := by decide +kernel
theorem dX12_backs_42 : decode cX12_backs 42 = .ok (.istore_n 3, 1) := by decide +kernel
theorem dX12_backs_43 : decode cX12_backs 43 = .ok (.aload_n 0, 1) := by decide +kernel
theorem dX12_backs_44 : decode cX12_backs 44 = .ok (.getfield 30, 3) := by decide +kernel
theorem dX12_backs_47 : decode cX12_backs 47 = .ok (.iload 4, 2) := by decide +kernel
theorem dX12_backs_49 : decode cX12_backs 49 = .ok (.iload 5, 2) := by decide +kernel
theorem dX12_backs_51 : decode cX12_backs 51 = .ok (.ifCond .eq 7, 3) := by decide +kernel
theorem dX12_backs_54 : decode cX12_backs 54 = .ok (.iconst (-1), 1) := by decide +kernel
theorem dX12_backs_55 : decode cX12_backs 55 = .ok (.goto 10, 3) := by decide +kernel
theorem dX12_backs_58 : decode cX12_backs 58 = .ok (.aload_n 0, 1) := by decide +kernel
theorem dX12_backs_59 : decode cX12_backs 59 = .ok (.getfield 30, 3) := by decide +kernel
theorem dX12_backs_62 : decode cX12_backs 62 = .ok (.iload 4, 2) := by decide +kernel
theorem dX12_backs_64 : decode cX12_backs 64 = .ok (.iaload, 1) := by decide +kernel
theorem dX12_backs_65 : decode cX12_backs 65 = .ok (.iastore, 1) := by decide +kernel
theorem dX12_backs_66 : decode cX12_backs 66 = .ok (.iinc 4 1, 3) := by decide +kernel
theorem dX12_backs_69 : decode cX12_backs 69 = .ok (.goto (-53), 3) := by decide +kernel
theorem dX12_backs_72 : decode cX12_backs 72 = .ok (.iload_n 3, 1) := by decide +kernel
theorem dX12_backs_73 : decode cX12_backs 73 = .ok (.ireturn, 1) := by decide +kernel
def xX12_backs_72 (s_X12_isSlice : zq_Sp) (s_X12_isGuest : zq_Sp) (s_X12_flag : zq_Sp) (J16 : zq_P) (Q : zq_Q) (ls : zq_L) (st : List Value) (h : zq_H) : Prop := (zi_iload 3 (zi_iret Q)) ls st h
theorem kX12_backs_72 {X : zq_X} {d : Nat} (C : zq_C X cX12_backs 6 RX12 d) {d_X12_isSlice : Nat} {s_X12_isSlice : zq_Sp} (h_X12_isSlice : zq_M yX12_isSlice cX12_isSlice 3 (some .boolean) 1 d_X12_isSlice s_X12_isSlice) (g_X12_isSlice : d_X12_isSlice + 1 ≤ d) {d_X12_isGuest : Nat} {s_X12_isGuest : zq_Sp} (h_X12_isGuest : zq_M yX12_isGuest cX12_isGuest 2 (some .boolean) 1 d_X12_isGuest s_X12_isGuest) (g_X12_isGuest : d_X12_isGuest + 1 ≤ d) {d_X12_flag : Nat} {s_X12_flag : zq_Sp} (h_X12_flag : zq_M yX12_flag cX12_flag 1 (some .int) 1 d_X12_flag s_X12_flag) (g_X12_flag : d_X12_flag + 1 ≤ d) {J16 : zq_P} (j16 : zq_ok X 6 16 J16) {Q : zq_Q} (hq : zq_R X (some .int) 1 Q) : zq_ok X 6 72 (xX12_backs_72 s_X12_isSlice s_X12_isGuest s_X12_flag J16 Q) := by
  refine zs_iload_n C dX12_backs_72 rfl ?_
  exact zs_iret C hq dX12_backs_73
def xX12_backs_65 (s_X12_isSlice : zq_Sp) (s_X12_isGuest : zq_Sp) (s_X12_flag : zq_Sp) (J16 : zq_P) (Q : zq_Q) (ls : zq_L) (st : List Value) (h : zq_H) : Prop := (zi_astI 63 16 (zi_iinc 4 1 (J16))) ls st h
theorem kX12_backs_65 {X : zq_X} {d : Nat} (C : zq_C X cX12_backs 6 RX12 d) {d_X12_isSlice : Nat} {s_X12_isSlice : zq_Sp} (h_X12_isSlice : zq_M yX12_isSlice cX12_isSlice 3 (some .boolean) 1 d_X12_isSlice s_X12_isSlice) (g_X12_isSlice : d_X12_isSlice + 1 ≤ d) {d_X12_isGuest : Nat} {s_X12_isGuest : zq_Sp} (h_X12_isGuest : zq_M yX12_isGuest cX12_isGuest 2 (some .boolean) 1 d_X12_isGuest s_X12_isGuest) (g_X12_isGuest : d_X12_isGuest + 1 ≤ d) {d_X12_flag : Nat} {s_X12_flag : zq_Sp} (h_X12_flag : zq_M yX12_flag cX12_flag 1 (some .int) 1 d_X12_flag s_X12_flag) (g_X12_flag : d_X12_flag + 1 ≤ d) {J16 : zq_P} (j16 : zq_ok X 6 16 J16) {Q : zq_Q} (hq : zq_R X (some .int) 1 Q) : zq_ok X 6 65 (xX12_backs_65 s_X12_isSlice s_X12_isGuest s_X12_flag J16 Q) := by
  refine zs_iastore C zp_63 dX12_backs_65 ?_
  refine zs_iinc C dX12_backs_66 (by decide) (by decide) ?_
  exact zs_goto C dX12_backs_69 (by decide) (j16)
def xX12_backs_58 (s_X12_isSlice : zq_Sp) (s_X12_isGuest : zq_Sp) (s_X12_flag : zq_Sp) (J16 : zq_P) (Q : zq_Q) (ls : zq_L) (st : List Value) (h : zq_H) : Prop := (zi_aload 0 (zi_getR 56 63 (zi_iload 4 (zi_aldI 63 16 ((xX12_backs_65 s_X12_isSlice s_X12_isGuest s_X12_flag J16 Q)))))) ls st h
theorem kX12_backs_58 {X : zq_X} {d : Nat} (C : zq_C X cX12_backs 6 RX12 d) {d_X12_isSlice : Nat} {s_X12_isSlice : zq_Sp} (h_X12_isSlice : zq_M yX12_isSlice cX12_isSlice 3 (some .boolean) 1 d_X12_isSlice s_X12_isSlice) (g_X12_isSlice : d_X12_isSlice + 1 ≤ d) {d_X12_isGuest : Nat} {s_X12_isGuest : zq_Sp} (h_X12_isGuest : zq_M yX12_isGuest cX12_isGuest 2 (some .boolean) 1 d_X12_isGuest s_X12_isGuest) (g_X12_isGuest : d_X12_isGuest + 1 ≤ d) {d_X12_flag : Nat} {s_X12_flag : zq_Sp} (h_X12_flag : zq_M yX12_flag cX12_flag 1 (some .int) 1 d_X12_flag s_X12_flag) (g_X12_flag : d_X12_flag + 1 ≤ d) {J16 : zq_P} (j16 : zq_ok X 6 16 J16) {Q : zq_Q} (hq : zq_R X (some .int) 1 Q) : zq_ok X 6 58 (xX12_backs_58 s_X12_isSlice s_X12_isGuest s_X12_flag J16 Q) := by
  refine zs_aload_n C dX12_backs_58 rfl ?_
  refine zs_getR C zp_56 zF12 (j := 11) ⟨by decide, rfl⟩ zw_1107 dX12_backs_59 ?_
  refine zs_iload C dX12_backs_62 ?_
  refine zs_iaload C zp_63 dX12_backs_64 ?_
  exact kX12_backs_65 C h_X12_isSlice g_X12_isSlice h_X12_isGuest g_X12_isGuest h_X12_flag g_X12_flag j16 hq
def xX12_backs_54 (s_X12_isSlice : zq_Sp) (s_X12_isGuest : zq_Sp) (s_X12_flag : zq_Sp) (J16 : zq_P) (Q : zq_Q) (ls : zq_L) (st : List Value) (h : zq_H) : Prop := (zi_push (.int (-1)) ((xX12_backs_65 s_X12_isSlice s_X12_isGuest s_X12_flag J16 Q))) ls st h
theorem kX12_backs_54 {X : zq_X} {d : Nat} (C : zq_C X cX12_backs 6 RX12 d) {d_X12_isSlice : Nat} {s_X12_isSlice : zq_Sp} (h_X12_isSlice : zq_M yX12_isSlice cX12_isSlice 3 (some .boolean) 1 d_X12_isSlice s_X12_isSlice) (g_X12_isSlice : d_X12_isSlice + 1 ≤ d) {d_X12_isGuest : Nat} {s_X12_isGuest : zq_Sp} (h_X12_isGuest : zq_M yX12_isGuest cX12_isGuest 2 (some .boolean) 1 d_X12_isGuest s_X12_isGuest) (g_X12_isGuest : d_X12_isGuest + 1 ≤ d) {d_X12_flag : Nat} {s_X12_flag : zq_Sp} (h_X12_flag : zq_M yX12_flag cX12_flag 1 (some .int) 1 d_X12_flag s_X12_flag) (g_X12_flag : d_X12_flag + 1 ≤ d) {J16 : zq_P} (j16 : zq_ok X 6 16 J16) {Q : zq_Q} (hq : zq_R X (some .int) 1 Q) : zq_ok X 6 54 (xX12_backs_54 s_X12_isSlice s_X12_isGuest s_X12_flag J16 Q) := by
  refine zs_iconst C dX12_backs_54 (by decide) ?_
  exact zs_goto C dX12_backs_55 (by decide) (kX12_backs_65 C h_X12_isSlice g_X12_isSlice h_X12_isGuest g_X12_isGuest h_X12_flag g_X12_flag j16 hq)
def xX12_backs_22 (s_X12_isSlice : zq_Sp) (s_X12_isGuest : zq_Sp) (s_X12_flag : zq_Sp) (J16 : zq_P) (Q : zq_Q) (ls : zq_L) (st : List Value) (h : zq_H) : Prop := (zi_aload 0 (zi_aload 0 (zi_getR 56 63 (zi_iload 4 (zi_aldI 63 16 (zi_callV 1 56 s_X12_isGuest (zi_istore 5 (zi_iload 3 (zi_iload 5 (zi_callS 1 s_X12_flag (zi_i2 (fun x y => x + y) (zi_istore 3 (zi_aload 0 (zi_getR 56 63 (zi_iload 4 (zi_iload 5 (zi_if1 (fun x => x = 0) (xX12_backs_58 s_X12_isSlice s_X12_isGuest s_X12_flag J16 Q) (xX12_backs_54 s_X12_isSlice s_X12_isGuest s_X12_flag J16 Q)))))))))))))))))) ls st h
theorem kX12_backs_22 {X : zq_X} {d : Nat} (C : zq_C X cX12_backs 6 RX12 d) {d_X12_isSlice : Nat} {s_X12_isSlice : zq_Sp} (h_X12_isSlice : zq_M yX12_isSlice cX12_isSlice 3 (some .boolean) 1 d_X12_isSlice s_X12_isSlice) (g_X12_isSlice : d_X12_isSlice + 1 ≤ d) {d_X12_isGuest : Nat} {s_X12_isGuest : zq_Sp} (h_X12_isGuest : zq_M yX12_isGuest cX12_isGuest 2 (some .boolean) 1 d_X12_isGuest s_X12_isGuest) (g_X12_isGuest : d_X12_isGuest + 1 ≤ d) {d_X12_flag : Nat} {s_X12_flag : zq_Sp} (h_X12_flag : zq_M yX12_flag cX12_flag 1 (some .int) 1 d_X12_flag s_X12_flag) (g_X12_flag : d_X12_flag + 1 ≤ d) {J16 : zq_P} (j16 : zq_ok X 6 16 J16) {Q : zq_Q} (hq : zq_R X (some .int) 1 Q) : zq_ok X 6 22 (xX12_backs_22 s_X12_isSlice s_X12_isGuest s_X12_flag J16 Q) := by
  refine zs_aload_n C dX12_backs_22 rfl ?_
  refine zs_aload_n C dX12_backs_23 rfl ?_
  refine zs_getR C zp_56 zF12 (j := 11) ⟨by decide, rfl⟩ zw_1107 dX12_backs_24 ?_
  refine zs_iload C dX12_backs_27 ?_
  refine zs_iaload C zp_63 dX12_backs_29 ?_
  refine zs_callV C h_X12_isGuest g_X12_isGuest zy_X12_isGuest zp_56 (show vwCl[12]? = some (RX12, TX12, 67) from rfl) zw_1466 zw_1468 zs9_X12_isGuest dX12_backs_30 ?_
  refine zs_istore C dX12_backs_33 (by decide) ?_
  refine zs_iload_n C dX12_backs_35 rfl ?_
  refine zs_iload C dX12_backs_36 ?_
  refine zs_callS C h_X12_flag g_X12_flag zy_X12_flag zw_1380 zw_1381 dX12_backs_38 ?_
  refine zs_iadd C dX12_backs_41 ?_
  refine zs_istore_n C dX12_backs_42 rfl (by decide) ?_
  refine zs_aload_n C dX12_backs_43 rfl ?_
  refine zs_getR C zp_56 zF12 (j := 11) ⟨by decide, rfl⟩ zw_1107 dX12_backs_44 ?_
  refine zs_iload C dX12_backs_47 ?_
  refine zs_iload C dX12_backs_49 ?_
  exact zs_if_eq C dX12_backs_51 (by decide) (kX12_backs_58 C h_X12_isSlice g_X12_isSlice h_X12_isGuest g_X12_isGuest h_X12_flag g_X12_flag j16 hq) (kX12_backs_54 C h_X12_isSlice g_X12_isSlice h_X12_isGuest g_X12_isGuest h_X12_flag g_X12_flag j16 hq)
def xX12_backs_16 (s_X12_isSlice : zq_Sp) (s_X12_isGuest : zq_Sp) (s_X12_flag : zq_Sp) (J16 : zq_P) (Q : zq_Q) (ls : zq_L) (st : List Value) (h : zq_H) : Prop := (zi_iload 4 (zi_iload 2 (zi_if2 (fun x y => y < x) (xX12_backs_72 s_X12_isSlice s_X12_isGuest s_X12_flag J16 Q) (xX12_backs_22 s_X12_isSlice s_X12_isGuest s_X12_flag J16 Q)))) ls st h
theorem kX12_backs_16 {X : zq_X} {d : Nat} (C : zq_C X cX12_backs 6 RX12 d) {d_X12_isSlice : Nat} {s_X12_isSlice : zq_Sp} (h_X12_isSlice : zq_M yX12_isSlice cX12_isSlice 3 (some .boolean) 1 d_X12_isSlice s_X12_isSlice) (g_X12_isSlice : d_X12_isSlice + 1 ≤ d) {d_X12_isGuest : Nat} {s_X12_isGuest : zq_Sp} (h_X12_isGuest : zq_M yX12_isGuest cX12_isGuest 2 (some .boolean) 1 d_X12_isGuest s_X12_isGuest) (g_X12_isGuest : d_X12_isGuest + 1 ≤ d) {d_X12_flag : Nat} {s_X12_flag : zq_Sp} (h_X12_flag : zq_M yX12_flag cX12_flag 1 (some .int) 1 d_X12_flag s_X12_flag) (g_X12_flag : d_X12_flag + 1 ≤ d) {J16 : zq_P} (j16 : zq_ok X 6 16 J16) {Q : zq_Q} (hq : zq_R X (some .int) 1 Q) : zq_ok X 6 16 (xX12_backs_16 s_X12_isSlice s_X12_isGuest s_X12_flag J16 Q) := by
  refine zs_iload C dX12_backs_16 ?_
  refine zs_iload_n C dX12_backs_18 rfl ?_
  exact zs_icmp_gt C dX12_backs_19 (by decide) (kX12_backs_72 C h_X12_isSlice g_X12_isSlice h_X12_isGuest g_X12_isGuest h_X12_flag g_X12_flag j16 hq) (kX12_backs_22 C h_X12_isSlice g_X12_isSlice h_X12_isGuest g_X12_isGuest h_X12_flag g_X12_flag j16 hq)
def xX12_backs_11 (s_X12_isSlice : zq_Sp) (s_X12_isGuest : zq_Sp) (s_X12_flag : zq_Sp) (J16 : zq_P) (Q : zq_Q) (ls : zq_L) (st : List Value) (h : zq_H) : Prop := (zi_push (.int 0) (zi_istore 3 (zi_iload 1 (zi_istore 4 (J16))))) ls st h
theorem kX12_backs_11 {X : zq_X} {d : Nat} (C : zq_C X cX12_backs 6 RX12 d) {d_X12_isSlice : Nat} {s_X12_isSlice : zq_Sp} (h_X12_isSlice : zq_M yX12_isSlice cX12_isSlice 3 (some .boolean) 1 d_X12_isSlice s_X12_isSlice) (g_X12_isSlice : d_X12_isSlice + 1 ≤ d) {d_X12_isGuest : Nat} {s_X12_isGuest : zq_Sp} (h_X12_isGuest : zq_M yX12_isGuest cX12_isGuest 2 (some .boolean) 1 d_X12_isGuest s_X12_isGuest) (g_X12_isGuest : d_X12_isGuest + 1 ≤ d) {d_X12_flag : Nat} {s_X12_flag : zq_Sp} (h_X12_flag : zq_M yX12_flag cX12_flag 1 (some .int) 1 d_X12_flag s_X12_flag) (g_X12_flag : d_X12_flag + 1 ≤ d) {J16 : zq_P} (j16 : zq_ok X 6 16 J16) {Q : zq_Q} (hq : zq_R X (some .int) 1 Q) : zq_ok X 6 11 (xX12_backs_11 s_X12_isSlice s_X12_isGuest s_X12_flag J16 Q) := by
  refine zs_iconst C dX12_backs_11 (by decide) ?_
  refine zs_istore_n C dX12_backs_12 rfl (by decide) ?_
  refine zs_iload_n C dX12_backs_13 rfl ?_
  refine zs_istore C dX12_backs_14 (by decide) ?_
  exact j16
def xX12_backs_9 (s_X12_isSlice : zq_Sp) (s_X12_isGuest : zq_Sp) (s_X12_flag : zq_Sp) (J16 : zq_P) (Q : zq_Q) (ls : zq_L) (st : List Value) (h : zq_H) : Prop := (zi_push (.int (-1)) (zi_iret Q)) ls st h
theorem kX12_backs_9 {X : zq_X} {d : Nat} (C : zq_C X cX12_backs 6 RX12 d) {d_X12_isSlice : Nat} {s_X12_isSlice : zq_Sp} (h_X12_isSlice : zq_M yX12_isSlice cX12_isSlice 3 (some .boolean) 1 d_X12_isSlice s_X12_isSlice) (g_X12_isSlice : d_X12_isSlice + 1 ≤ d) {d_X12_isGuest : Nat} {s_X12_isGuest : zq_Sp} (h_X12_isGuest : zq_M yX12_isGuest cX12_isGuest 2 (some .boolean) 1 d_X12_isGuest s_X12_isGuest) (g_X12_isGuest : d_X12_isGuest + 1 ≤ d) {d_X12_flag : Nat} {s_X12_flag : zq_Sp} (h_X12_flag : zq_M yX12_flag cX12_flag 1 (some .int) 1 d_X12_flag s_X12_flag) (g_X12_flag : d_X12_flag + 1 ≤ d) {J16 : zq_P} (j16 : zq_ok X 6 16 J16) {Q : zq_Q} (hq : zq_R X (some .int) 1 Q) : zq_ok X 6 9 (xX12_backs_9 s_X12_isSlice s_X12_isGuest s_X12_flag J16 Q) := by
  refine zs_iconst C dX12_backs_9 (by decide) ?_
  exact zs_iret C hq dX12_backs_10
def xX12_backs_0 (s_X12_isSlice : zq_Sp) (s_X12_isGuest : zq_Sp) (s_X12_flag : zq_Sp) (J16 : zq_P) (Q : zq_Q) (ls : zq_L) (st : List Value) (h : zq_H) : Prop := (zi_aload 0 (zi_iload 1 (zi_iload 2 (zi_callV 2 56 s_X12_isSlice (zi_if1 (fun x => x = 0) (xX12_backs_9 s_X12_isSlice s_X12_isGuest s_X12_flag J16 Q) (xX12_backs_11 s_X12_isSlice s_X12_isGuest s_X12_flag J16 Q)))))) ls st h
theorem kX12_backs_0 {X : zq_X} {d : Nat} (C : zq_C X cX12_backs 6 RX12 d) {d_X12_isSlice : Nat} {s_X12_isSlice : zq_Sp} (h_X12_isSlice : zq_M yX12_isSlice cX12_isSlice 3 (some .boolean) 1 d_X12_isSlice s_X12_isSlice) (g_X12_isSlice : d_X12_isSlice + 1 ≤ d) {d_X12_isGuest : Nat} {s_X12_isGuest : zq_Sp} (h_X12_isGuest : zq_M yX12_isGuest cX12_isGuest 2 (some .boolean) 1 d_X12_isGuest s_X12_isGuest) (g_X12_isGuest : d_X12_isGuest + 1 ≤ d) {d_X12_flag : Nat} {s_X12_flag : zq_Sp} (h_X12_flag : zq_M yX12_flag cX12_flag 1 (some .int) 1 d_X12_flag s_X12_flag) (g_X12_flag : d_X12_flag + 1 ≤ d) {J16 : zq_P} (j16 : zq_ok X 6 16 J16) {Q : zq_Q} (hq : zq_R X (some .int) 1 Q) : zq_ok X 6 0 (xX12_backs_0 s_X12_isSlice s_X12_isGuest s_X12_flag J16 Q) := by
  refine zs_aload_n C dX12_backs_0 rfl ?_
  refine zs_iload_n C dX12_backs_1 rfl ?_
  refine zs_iload_n C dX12_backs_2 rfl ?_
  refine zs_callV C h_X12_isSlice g_X12_isSlice zy_X12_isSlice zp_56 (show vwCl[12]? = some (RX12, TX12, 67) from rfl) zw_1533 zw_1535 zs9_X12_isSlice dX12_backs_3 ?_
  exact zs_if_ne C dX12_backs_6 (by decide) (kX12_backs_11 C h_X12_isSlice g_X12_isSlice h_X12_isGuest g_X12_isGuest h_X12_flag g_X12_flag j16 hq) (kX12_backs_9 C h_X12_isSlice g_X12_isSlice h_X12_isGuest g_X12_isGuest h_X12_flag g_X12_flag j16 hq)
theorem mX12_backs {d : Nat} {spec : zq_Sp} {σ16 : Type} {d_X12_isSlice : Nat} {s_X12_isSlice : zq_Sp} (h_X12_isSlice : zq_M yX12_isSlice cX12_isSlice 3 (some .boolean) 1 d_X12_isSlice s_X12_isSlice) (g_X12_isSlice : d_X12_isSlice + 1 ≤ d) {d_X12_isGuest : Nat} {s_X12_isGuest : zq_Sp} (h_X12_isGuest : zq_M yX12_isGuest cX12_isGuest 2 (some .boolean) 1 d_X12_isGuest s_X12_isGuest) (g_X12_isGuest : d_X12_isGuest + 1 ≤ d) {d_X12_flag : Nat} {s_X12_flag : zq_Sp} (h_X12_flag : zq_M yX12_flag cX12_flag 1 (some .int) 1 d_X12_flag s_X12_flag) (g_X12_flag : d_X12_flag + 1 ≤ d) (μ16 : σ16 → Nat) (I16 : zq_Q → σ16 → zq_P) (v : ∀ args h Q, spec args h Q → (zq_a args).length ≤ 6 ∧ xX12_backs_0 s_X12_isSlice s_X12_isGuest s_X12_flag (fun ls st h => ∃ b, I16 Q b ls st h) Q (zq_l0 6 args) [] h) (v16 : ∀ Q a ls st h, I16 Q a ls st h → xX12_backs_16 s_X12_isSlice s_X12_isGuest s_X12_flag (fun ls st h => ∃ b, μ16 b < μ16 a ∧ I16 Q b ls st h) Q ls st h) : zq_M yX12_backs cX12_backs 6 (some .int) 1 d spec := by
  refine zq_met (by decide +kernel) (by decide) (fun X Q args h C hq hs => ⟨(v args h Q hs).1, _, ?_, (v args h Q hs).2⟩)
  have hl := zq_loop1 (X := X) (nL := 6) (pc1 := 16) μ16 (I16 Q) (fun J16 => xX12_backs_16 s_X12_isSlice s_X12_isGuest s_X12_flag J16 Q) (fun j16 => kX12_backs_16 C h_X12_isSlice g_X12_isSlice h_X12_isGuest g_X12_isGuest h_X12_flag g_X12_flag j16 hq) (v16 Q)
  exact kX12_backs_0 C h_X12_isSlice g_X12_isSlice h_X12_isGuest g_X12_isGuest h_X12_flag g_X12_flag hl hq
/-! ToOneCrumbModel.eats(I)I -/
theorem dX12_eats_0 : decode cX12_eats 0 = .ok (.aload_n 0, 1) := by decide +kernel
theorem dX12_eats_1 : decode cX12_eats 1 = .ok (.iload_n 1, 1) := by decide +kernel
theorem dX12_eats_2 : decode cX12_eats 2 = .ok (.invokevirtual 168, 3) := by decide +kernel
theorem dX12_eats_5 : decode cX12_eats 5 = .ok (.ifCond .ne 5, 3) := by decide +kernel
theorem dX12_eats_8 : decode cX12_eats 8 = .ok (.iconst (-1), 1) := by decide +kernel
theorem dX12_eats_9 : decode cX12_eats 9 = .ok (.ireturn, 1) := by decide +kernel
theorem dX12_eats_10 : decode cX12_eats 10 = .ok (.aload_n 0, 1) := by decide +kernel
theorem dX12_eats_11 : decode cX12_eats 11 = .ok (.getfield 30, 3) := by decide +kernel
theorem dX12_eats_14 : decode cX12_eats 14 = .ok (.iload_n 1, 1) := by decide +kernel
theorem dX12_eats_15 : decode cX12_eats 15 = .ok (.iaload, 1) := by decide +kernel
theorem dX12_eats_16 : decode cX12_eats 16 = .ok (.iconst (-1), 1) := by decide +kernel
theorem dX12_eats_17 : decode cX12_eats 17 = .ok (.if_icmp .eq 6, 3) := by decide +kernel
theorem dX12_eats_20 : decode cX12_eats 20 = .ok (.bipush (-2), 2) := by decide +kernel
theorem dX12_eats_22 : decode cX12_eats 22 = .ok (.ireturn, 1) := by decide +kernel
theorem dX12_eats_23 : decode cX12_eats 23 = .ok (.aload_n 0, 1) := by decide +kernel
theorem dX12_eats_24 : decode cX12_eats 24 = .ok (.getfield 30, 3) := by decide +kernel
theorem dX12_eats_27 : decode cX12_eats 27 = .ok (.iload_n 1, 1) := by decide +kernel
theorem dX12_eats_28 : decode cX12_eats 28 = .ok (.bipush 9, 2) := by decide +kernel
theorem dX12_eats_30 : decode cX12_eats 30 = .ok (.iastore, 1) := by decide +kernel
theorem dX12_eats_31 : decode cX12_eats 31 = .ok (.aload_n 0, 1) := by decide +kernel
theorem dX12_eats_32 : decode cX12_eats 32 = .ok (.getfield 13, 3) := by decide +kernel
theorem dX12_eats_35 : decode cX12_eats 35 = .ok (.iload_n 1, 1) := by decide +kernel
theorem dX12_eats_36 : decode cX12_eats 36 = .ok (.iaload, 1) := by decide +kernel
theorem dX12_eats_37 : decode cX12_eats 37 = .ok (.ireturn, 1) := by decide +kernel
def xX12_eats_23 (s_X12_isCell : zq_Sp) (Q : zq_Q) (ls : zq_L) (st : List Value) (h : zq_H) : Prop := (zi_aload 0 (zi_getR 56 63 (zi_iload 1 (zi_push (.int 9) (zi_astI 63 16 (zi_aload 0 (zi_getR 56 58 (zi_iload 1 (zi_aldI 58 16 (zi_iret Q)))))))))) ls st h
theorem kX12_eats_23 {X : zq_X} {d : Nat} (C : zq_C X cX12_eats 2 RX12 d) {d_X12_isCell : Nat} {s_X12_isCell : zq_Sp} (h_X12_isCell : zq_M yX12_isCell cX12_isCell 2 (some .boolean) 1 d_X12_isCell s_X12_isCell) (g_X12_isCell : d_X12_isCell + 1 ≤ d) {Q : zq_Q} (hq : zq_R X (some .int) 1 Q) : zq_ok X 2 23 (xX12_eats_23 s_X12_isCell Q) := by
  refine zs_aload_n C dX12_eats_23 rfl ?_
  refine zs_getR C zp_56 zF12 (j := 11) ⟨by decide, rfl⟩ zw_1107 dX12_eats_24 ?_
  refine zs_iload_n C dX12_eats_27 rfl ?_
  refine zs_bipush C dX12_eats_28 (by decide) ?_
  refine zs_iastore C zp_63 dX12_eats_30 ?_
  refine zs_aload_n C dX12_eats_31 rfl ?_
  refine zs_getR C zp_56 zF12 (j := 6) ⟨by decide, rfl⟩ zw_1102 dX12_eats_32 ?_
  refine zs_iload_n C dX12_eats_35 rfl ?_
  refine zs_iaload C zp_58 dX12_eats_36 ?_
  exact zs_iret C hq dX12_eats_37
def xX12_eats_20 (s_X12_isCell : zq_Sp) (Q : zq_Q) (ls : zq_L) (st : List Value) (h : zq_H) : Prop := (zi_push (.int (-2)) (zi_iret Q)) ls st h
theorem kX12_eats_20 {X : zq_X} {d : Nat} (C : zq_C X cX12_eats 2 RX12 d) {d_X12_isCell : Nat} {s_X12_isCell : zq_Sp} (h_X12_isCell : zq_M yX12_isCell cX12_isCell 2 (some .boolean) 1 d_X12_isCell s_X12_isCell) (g_X12_isCell : d_X12_isCell + 1 ≤ d) {Q : zq_Q} (hq : zq_R X (some .int) 1 Q) : zq_ok X 2 20 (xX12_eats_20 s_X12_isCell Q) := by
  refine zs_bipush C dX12_eats_20 (by decide) ?_
  exact zs_iret C hq dX12_eats_22
def xX12_eats_10 (s_X12_isCell : zq_Sp) (Q : zq_Q) (ls : zq_L) (st : List Value) (h : zq_H) : Prop := (zi_aload 0 (zi_getR 56 63 (zi_iload 1 (zi_aldI 63 16 (zi_push (.int (-1)) (zi_if2 (fun x y => x = y) (xX12_eats_23 s_X12_isCell Q) (xX12_eats_20 s_X12_isCell Q))))))) ls st h
theorem kX12_eats_10 {X : zq_X} {d : Nat} (C : zq_C X cX12_eats 2 RX12 d) {d_X12_isCell : Nat} {s_X12_isCell : zq_Sp} (h_X12_isCell : zq_M yX12_isCell cX12_isCell 2 (some .boolean) 1 d_X12_isCell s_X12_isCell) (g_X12_isCell : d_X12_isCell + 1 ≤ d) {Q : zq_Q} (hq : zq_R X (some .int) 1 Q) : zq_ok X 2 10 (xX12_eats_10 s_X12_isCell Q) := by
  refine zs_aload_n C dX12_eats_10 rfl ?_
  refine zs_getR C zp_56 zF12 (j := 11) ⟨by decide, rfl⟩ zw_1107 dX12_eats_11 ?_
  refine zs_iload_n C dX12_eats_14 rfl ?_
  refine zs_iaload C zp_63 dX12_eats_15 ?_
  refine zs_iconst C dX12_eats_16 (by decide) ?_
  exact zs_icmp_eq C dX12_eats_17 (by decide) (kX12_eats_23 C h_X12_isCell g_X12_isCell hq) (kX12_eats_20 C h_X12_isCell g_X12_isCell hq)
def xX12_eats_8 (s_X12_isCell : zq_Sp) (Q : zq_Q) (ls : zq_L) (st : List Value) (h : zq_H) : Prop := (zi_push (.int (-1)) (zi_iret Q)) ls st h
theorem kX12_eats_8 {X : zq_X} {d : Nat} (C : zq_C X cX12_eats 2 RX12 d) {d_X12_isCell : Nat} {s_X12_isCell : zq_Sp} (h_X12_isCell : zq_M yX12_isCell cX12_isCell 2 (some .boolean) 1 d_X12_isCell s_X12_isCell) (g_X12_isCell : d_X12_isCell + 1 ≤ d) {Q : zq_Q} (hq : zq_R X (some .int) 1 Q) : zq_ok X 2 8 (xX12_eats_8 s_X12_isCell Q) := by
  refine zs_iconst C dX12_eats_8 (by decide) ?_
  exact zs_iret C hq dX12_eats_9
def xX12_eats_0 (s_X12_isCell : zq_Sp) (Q : zq_Q) (ls : zq_L) (st : List Value) (h : zq_H) : Prop := (zi_aload 0 (zi_iload 1 (zi_callV 1 56 s_X12_isCell (zi_if1 (fun x => x = 0) (xX12_eats_8 s_X12_isCell Q) (xX12_eats_10 s_X12_isCell Q))))) ls st h
theorem kX12_eats_0 {X : zq_X} {d : Nat} (C : zq_C X cX12_eats 2 RX12 d) {d_X12_isCell : Nat} {s_X12_isCell : zq_Sp} (h_X12_isCell : zq_M yX12_isCell cX12_isCell 2 (some .boolean) 1 d_X12_isCell s_X12_isCell) (g_X12_isCell : d_X12_isCell + 1 ≤ d) {Q : zq_Q} (hq : zq_R X (some .int) 1 Q) : zq_ok X 2 0 (xX12_eats_0 s_X12_isCell Q) := by
  refine zs_aload_n C dX12_eats_0 rfl ?_
  refine zs_iload_n C dX12_eats_1 rfl ?_
  refine zs_callV C h_X12_isCell g_X12_isCell zy_X12_isCell zp_56 (show vwCl[12]? = some (RX12, TX12, 67) from rfl) zw_1453 zw_1455 zs9_X12_isCell dX12_eats_2 ?_
  exact zs_if_ne C dX12_eats_5 (by decide) (kX12_eats_10 C h_X12_isCell g_X12_isCell hq) (kX12_eats_8 C h_X12_isCell g_X12_isCell hq)
theorem mX12_eats {d : Nat} {spec : zq_Sp} {d_X12_isCell : Nat} {s_X12_isCell : zq_Sp} (h_X12_isCell : zq_M yX12_isCell cX12_isCell 2 (some .boolean) 1 d_X12_isCell s_X12_isCell) (g_X12_isCell : d_X12_isCell + 1 ≤ d) (v : ∀ args h Q, spec args h Q → (zq_a args).length ≤ 2 ∧ xX12_eats_0 s_X12_isCell Q (zq_l0 2 args) [] h) : zq_M yX12_eats cX12_eats 2 (some .int) 1 d spec := by
  refine zq_met (by decide +kernel) (by decide) (fun X Q args h C hq hs => ⟨(v args h Q hs).1, _, ?_, (v args h Q hs).2⟩)
  exact kX12_eats_0 C h_X12_isCell g_X12_isCell hq
/-! ToOneCrumbModel.give(III)I -/
theorem dX12_give_0 : decode cX12_give 0 = .ok (.aload_n 0, 1) := by decide +kernel
theorem dX12_give_1 : decode cX12_give 1 = .ok (.iconst 0, 1) := by decide +kernel
theorem dX12_give_2 : decode cX12_give 2 = .ok (.putfield 147, 3) := by decide +kernel
theorem dX12_give_5 : decode cX12_give 5 = .ok (.aload_n 0, 1) := by decide +kernel
theorem dX12_give_6 : decode cX12_give 6 = .ok (.invokevirtual 342, 3) := by decide +kernel
theorem dX12_give_9 : decode cX12_give 9 = .ok (.aload_n 0, 1) := by decide +kernel
theorem dX12_give_10 : decode cX12_give 10 = .ok (.aload_n 0, 1) := by decide +kernel
theorem dX12_give_11 : decode cX12_give 11 = .ok (.iload_n 1, 1) := by decide +kernel
theorem dX12_give_12 : decode cX12_give 12 = .ok (.iload_n 2, 1) := by decide +kernel
theorem dX12_give_13 : decode cX12_give 13 = .ok (.iload_n 3, 1) := by decide +kernel
theorem dX12_give_14 : decode cX12_give 14 = .ok (.invokevirtual 345, 3) := by decide +kernel
theorem dX12_give_17 : decode cX12_give 17 = .ok (.invokevirtual 348, 3) := by decide +kernel
theorem dX12_give_20 : decode cX12_give 20 = .ok (.ireturn, 1) := by decide +kernel
def xX12_give_0 (s_X12_putsBy : zq_Sp) (s_X12_gives : zq_Sp) (s_X12_counts : zq_Sp) (Q : zq_Q) (ls : zq_L) (st : List Value) (h : zq_H) : Prop := (zi_aload 0 (zi_push (.int 0) (zi_putI 56 0 (zi_aload 0 (zi_callV 0 56 s_X12_putsBy (zi_aload 0 (zi_aload 0 (zi_iload 1 (zi_iload 2 (zi_iload 3 (zi_callV 3 56 s_X12_gives (zi_callV 1 56 s_X12_counts (zi_iret Q))))))))))))) ls st h
theorem kX12_give_0 {X : zq_X} {d : Nat} (C : zq_C X cX12_give 4 RX12 d) {d_X12_putsBy : Nat} {s_X12_putsBy : zq_Sp} (h_X12_putsBy : zq_M yX12_putsBy cX12_putsBy 2 none 0 d_X12_putsBy s_X12_putsBy) (g_X12_putsBy : d_X12_putsBy + 1 ≤ d) {d_X12_gives : Nat} {s_X12_gives : zq_Sp} (h_X12_gives : zq_M yX12_gives cX12_gives 6 (some .int) 1 d_X12_gives s_X12_gives) (g_X12_gives : d_X12_gives + 1 ≤ d) {d_X12_counts : Nat} {s_X12_counts : zq_Sp} (h_X12_counts : zq_M yX12_counts cX12_counts 2 (some .int) 1 d_X12_counts s_X12_counts) (g_X12_counts : d_X12_counts + 1 ≤ d) {Q : zq_Q} (hq : zq_R X (some .int) 1 Q) : zq_ok X 4 0 (xX12_give_0 s_X12_putsBy s_X12_gives s_X12_counts Q) := by
  refine zs_aload_n C dX12_give_0 rfl ?_
  refine zs_iconst C dX12_give_1 (by decide) ?_
  refine zs_putI C zp_56 zF12 (j := 0) ⟨by decide, rfl⟩ ⟨rfl, by decide +kernel⟩ zw_1096 dX12_give_2 ?_
  refine zs_aload_n C dX12_give_5 rfl ?_
  refine zs_callV C h_X12_putsBy g_X12_putsBy zy_X12_putsBy zp_56 (show vwCl[12]? = some (RX12, TX12, 67) from rfl) zw_1525 zw_1527 zs9_X12_putsBy dX12_give_6 ?_
  refine zs_aload_n C dX12_give_9 rfl ?_
  refine zs_aload_n C dX12_give_10 rfl ?_
  refine zs_iload_n C dX12_give_11 rfl ?_
  refine zs_iload_n C dX12_give_12 rfl ?_
  refine zs_iload_n C dX12_give_13 rfl ?_
  refine zs_callV C h_X12_gives g_X12_gives zy_X12_gives zp_56 (show vwCl[12]? = some (RX12, TX12, 67) from rfl) zw_1529 zw_1531 zs9_X12_gives dX12_give_14 ?_
  refine zs_callV C h_X12_counts g_X12_counts zy_X12_counts zp_56 (show vwCl[12]? = some (RX12, TX12, 67) from rfl) zw_1537 zw_1539 zs9_X12_counts dX12_give_17 ?_
  exact zs_iret C hq dX12_give_20
theorem mX12_give {d : Nat} {spec : zq_Sp} {d_X12_putsBy : Nat} {s_X12_putsBy : zq_Sp} (h_X12_putsBy : zq_M yX12_putsBy cX12_putsBy 2 none 0 d_X12_putsBy s_X12_putsBy) (g_X12_putsBy : d_X12_putsBy + 1 ≤ d) {d_X12_gives : Nat} {s_X12_gives : zq_Sp} (h_X12_gives : zq_M yX12_gives cX12_gives 6 (some .int) 1 d_X12_gives s_X12_gives) (g_X12_gives : d_X12_gives + 1 ≤ d) {d_X12_counts : Nat} {s_X12_counts : zq_Sp} (h_X12_counts : zq_M yX12_counts cX12_counts 2 (some .int) 1 d_X12_counts s_X12_counts) (g_X12_counts : d_X12_counts + 1 ≤ d) (v : ∀ args h Q, spec args h Q → (zq_a args).length ≤ 4 ∧ xX12_give_0 s_X12_putsBy s_X12_gives s_X12_counts Q (zq_l0 4 args) [] h) : zq_M yX12_give cX12_give 4 (some .int) 1 d spec := by
  refine zq_met (by decide +kernel) (by decide) (fun X Q args h C hq hs => ⟨(v args h Q hs).1, _, ?_, (v args h Q hs).2⟩)
  exact kX12_give_0 C h_X12_putsBy g_X12_putsBy h_X12_gives g_X12_gives h_X12_counts g_X12_counts hq
/-! ToOneCrumbModel.back(II)I -/
theorem dX12_back_0 : decode cX12_back 0 = .ok (.aload_n 0, 1) := by decide +kernel
theorem dX12_back_1 : decode cX12_back 1 = .ok (.iconst 0, 1) := by decide +kernel
theorem dX12_back_2 : decode cX12_back 2 = .ok (.putfield 147, 3) := by decide +kernel
theorem dX12_back_5 : decode cX12_back 5 = .ok (.aload_n 0, 1) := by decide +kernel
theorem dX12_back_6 : decode cX12_back 6 = .ok (.invokevirtual 342, 3) := by decide +kernel
theorem dX12_back_9 : decode cX12_back 9 = .ok (.aload_n 0, 1) := by decide +kernel
theorem dX12_back_10 : decode cX12_back 10 = .ok (.aload_n 0, 1) := by decide +kernel
theorem dX12_back_11 : decode cX12_back 11 = .ok (.iload_n 1, 1) := by decide +kernel
theorem dX12_back_12 : decode cX12_back 12 = .ok (.iload_n 2, 1) := by decide +kernel
theorem dX12_back_13 : decode cX12_back 13 = .ok (.invokevirtual 351, 3) := by decide +kernel
theorem dX12_back_16 : decode cX12_back 16 = .ok (.invokevirtual 348, 3) := by decide +kernel
theorem dX12_back_19 : decode cX12_back 19 = .ok (.ireturn, 1) := by decide +kernel
def xX12_back_0 (s_X12_putsBy : zq_Sp) (s_X12_backs : zq_Sp) (s_X12_counts : zq_Sp) (Q : zq_Q) (ls : zq_L) (st : List Value) (h : zq_H) : Prop := (zi_aload 0 (zi_push (.int 0) (zi_putI 56 0 (zi_aload 0 (zi_callV 0 56 s_X12_putsBy (zi_aload 0 (zi_aload 0 (zi_iload 1 (zi_iload 2 (zi_callV 2 56 s_X12_backs (zi_callV 1 56 s_X12_counts (zi_iret Q)))))))))))) ls st h
theorem kX12_back_0 {X : zq_X} {d : Nat} (C : zq_C X cX12_back 3 RX12 d) {d_X12_putsBy : Nat} {s_X12_putsBy : zq_Sp} (h_X12_putsBy : zq_M yX12_putsBy cX12_putsBy 2 none 0 d_X12_putsBy s_X12_putsBy) (g_X12_putsBy : d_X12_putsBy + 1 ≤ d) {d_X12_backs : Nat} {s_X12_backs : zq_Sp} (h_X12_backs : zq_M yX12_backs cX12_backs 6 (some .int) 1 d_X12_backs s_X12_backs) (g_X12_backs : d_X12_backs + 1 ≤ d) {d_X12_counts : Nat} {s_X12_counts : zq_Sp} (h_X12_counts : zq_M yX12_counts cX12_counts 2 (some .int) 1 d_X12_counts s_X12_counts) (g_X12_counts : d_X12_counts + 1 ≤ d) {Q : zq_Q} (hq : zq_R X (some .int) 1 Q) : zq_ok X 3 0 (xX12_back_0 s_X12_putsBy s_X12_backs s_X12_counts Q) := by
  refine zs_aload_n C dX12_back_0 rfl ?_
  refine zs_iconst C dX12_back_1 (by decide) ?_
  refine zs_putI C zp_56 zF12 (j := 0) ⟨by decide, rfl⟩ ⟨rfl, by decide +kernel⟩ zw_1096 dX12_back_2 ?_
  refine zs_aload_n C dX12_back_5 rfl ?_
  refine zs_callV C h_X12_putsBy g_X12_putsBy zy_X12_putsBy zp_56 (show vwCl[12]? = some (RX12, TX12, 67) from rfl) zw_1525 zw_1527 zs9_X12_putsBy dX12_back_6 ?_
  refine zs_aload_n C dX12_back_9 rfl ?_
  refine zs_aload_n C dX12_back_10 rfl ?_
  refine zs_iload_n C dX12_back_11 rfl ?_
  refine zs_iload_n C dX12_back_12 rfl ?_
  refine zs_callV C h_X12_backs g_X12_backs zy_X12_backs zp_56 (show vwCl[12]? = some (RX12, TX12, 67) from rfl) zw_1549 zw_1551 zs9_X12_backs dX12_back_13 ?_
  refine zs_callV C h_X12_counts g_X12_counts zy_X12_counts zp_56 (show vwCl[12]? = some (RX12, TX12, 67) from rfl) zw_1537 zw_1539 zs9_X12_counts dX12_back_16 ?_
  exact zs_iret C hq dX12_back_19
theorem mX12_back {d : Nat} {spec : zq_Sp} {d_X12_putsBy : Nat} {s_X12_putsBy : zq_Sp} (h_X12_putsBy : zq_M yX12_putsBy cX12_putsBy 2 none 0 d_X12_putsBy s_X12_putsBy) (g_X12_putsBy : d_X12_putsBy + 1 ≤ d) {d_X12_backs : Nat} {s_X12_backs : zq_Sp} (h_X12_backs : zq_M yX12_backs cX12_backs 6 (some .int) 1 d_X12_backs s_X12_backs) (g_X12_backs : d_X12_backs + 1 ≤ d) {d_X12_counts : Nat} {s_X12_counts : zq_Sp} (h_X12_counts : zq_M yX12_counts cX12_counts 2 (some .int) 1 d_X12_counts s_X12_counts) (g_X12_counts : d_X12_counts + 1 ≤ d) (v : ∀ args h Q, spec args h Q → (zq_a args).length ≤ 3 ∧ xX12_back_0 s_X12_putsBy s_X12_backs s_X12_counts Q (zq_l0 3 args) [] h) : zq_M yX12_back cX12_back 3 (some .int) 1 d spec := by
  refine zq_met (by decide +kernel) (by decide) (fun X Q args h C hq hs => ⟨(v args h Q hs).1, _, ?_, (v args h Q hs).2⟩)
  exact kX12_back_0 C h_X12_putsBy g_X12_putsBy h_X12_backs g_X12_backs h_X12_counts g_X12_counts hq
/-! ToOneCrumbModel.mouse(I)I -/
theorem dX12_mouse_0 : decode cX12_mouse 0 = .ok (.aload_n 0, 1) := by decide +kernel
theorem dX12_mouse_1 : decode cX12_mouse 1 = .ok (.iconst 0, 1) := by decide +kernel
theorem dX12_mouse_2 : decode cX12_mouse 2 = .ok (.putfield 147, 3) := by decide +kernel
theorem dX12_mouse_5 : decode cX12_mouse 5 = .ok (.aload_n 0, 1) := by decide +kernel
theorem dX12_mouse_6 : decode cX12_mouse 6 = .ok (.invokevirtual 342, 3) := by decide +kernel
theorem dX12_mouse_9 : decode cX12_mouse 9 = .ok (.aload_n 0, 1) := by decide +kernel
theorem dX12_mouse_10 : decode cX12_mouse 10 = .ok (.aload_n 0, 1) := by decide +kernel
theorem dX12_mouse_11 : decode cX12_mouse 11 = .ok (.iload_n 1, 1) := by decide +kernel
theorem dX12_mouse_12 : decode cX12_mouse 12 = .ok (.invokevirtual 354, 3) := by decide +kernel
theorem dX12_mouse_15 : decode cX12_mouse 15 = .ok (.invokevirtual 348, 3) := by decide +kernel
theorem dX12_mouse_18 : decode cX12_mouse 18 = .ok (.ireturn, 1) := by decide +kernel
def xX12_mouse_0 (s_X12_putsBy : zq_Sp) (s_X12_eats : zq_Sp) (s_X12_counts : zq_Sp) (Q : zq_Q) (ls : zq_L) (st : List Value) (h : zq_H) : Prop := (zi_aload 0 (zi_push (.int 0) (zi_putI 56 0 (zi_aload 0 (zi_callV 0 56 s_X12_putsBy (zi_aload 0 (zi_aload 0 (zi_iload 1 (zi_callV 1 56 s_X12_eats (zi_callV 1 56 s_X12_counts (zi_iret Q))))))))))) ls st h
theorem kX12_mouse_0 {X : zq_X} {d : Nat} (C : zq_C X cX12_mouse 2 RX12 d) {d_X12_putsBy : Nat} {s_X12_putsBy : zq_Sp} (h_X12_putsBy : zq_M yX12_putsBy cX12_putsBy 2 none 0 d_X12_putsBy s_X12_putsBy) (g_X12_putsBy : d_X12_putsBy + 1 ≤ d) {d_X12_eats : Nat} {s_X12_eats : zq_Sp} (h_X12_eats : zq_M yX12_eats cX12_eats 2 (some .int) 1 d_X12_eats s_X12_eats) (g_X12_eats : d_X12_eats + 1 ≤ d) {d_X12_counts : Nat} {s_X12_counts : zq_Sp} (h_X12_counts : zq_M yX12_counts cX12_counts 2 (some .int) 1 d_X12_counts s_X12_counts) (g_X12_counts : d_X12_counts + 1 ≤ d) {Q : zq_Q} (hq : zq_R X (some .int) 1 Q) : zq_ok X 2 0 (xX12_mouse_0 s_X12_putsBy s_X12_eats s_X12_counts Q) := by
  refine zs_aload_n C dX12_mouse_0 rfl ?_
  refine zs_iconst C dX12_mouse_1 (by decide) ?_
  refine zs_putI C zp_56 zF12 (j := 0) ⟨by decide, rfl⟩ ⟨rfl, by decide +kernel⟩ zw_1096 dX12_mouse_2 ?_
  refine zs_aload_n C dX12_mouse_5 rfl ?_
  refine zs_callV C h_X12_putsBy g_X12_putsBy zy_X12_putsBy zp_56 (show vwCl[12]? = some (RX12, TX12, 67) from rfl) zw_1525 zw_1527 zs9_X12_putsBy dX12_mouse_6 ?_
  refine zs_aload_n C dX12_mouse_9 rfl ?_
  refine zs_aload_n C dX12_mouse_10 rfl ?_
  refine zs_iload_n C dX12_mouse_11 rfl ?_
  refine zs_callV C h_X12_eats g_X12_eats zy_X12_eats zp_56 (show vwCl[12]? = some (RX12, TX12, 67) from rfl) zw_1557 zw_1559 zs9_X12_eats dX12_mouse_12 ?_
  refine zs_callV C h_X12_counts g_X12_counts zy_X12_counts zp_56 (show vwCl[12]? = some (RX12, TX12, 67) from rfl) zw_1537 zw_1539 zs9_X12_counts dX12_mouse_15 ?_
  exact zs_iret C hq dX12_mouse_18
theorem mX12_mouse {d : Nat} {spec : zq_Sp} {d_X12_putsBy : Nat} {s_X12_putsBy : zq_Sp} (h_X12_putsBy : zq_M yX12_putsBy cX12_putsBy 2 none 0 d_X12_putsBy s_X12_putsBy) (g_X12_putsBy : d_X12_putsBy + 1 ≤ d) {d_X12_eats : Nat} {s_X12_eats : zq_Sp} (h_X12_eats : zq_M yX12_eats cX12_eats 2 (some .int) 1 d_X12_eats s_X12_eats) (g_X12_eats : d_X12_eats + 1 ≤ d) {d_X12_counts : Nat} {s_X12_counts : zq_Sp} (h_X12_counts : zq_M yX12_counts cX12_counts 2 (some .int) 1 d_X12_counts s_X12_counts) (g_X12_counts : d_X12_counts + 1 ≤ d) (v : ∀ args h Q, spec args h Q → (zq_a args).length ≤ 2 ∧ xX12_mouse_0 s_X12_putsBy s_X12_eats s_X12_counts Q (zq_l0 2 args) [] h) : zq_M yX12_mouse cX12_mouse 2 (some .int) 1 d spec := by
  refine zq_met (by decide +kernel) (by decide) (fun X Q args h C hq hs => ⟨(v args h Q hs).1, _, ?_, (v args h Q hs).2⟩)
  exact kX12_mouse_0 C h_X12_putsBy g_X12_putsBy h_X12_eats g_X12_eats h_X12_counts g_X12_counts hq
/-! ToOneCrumbModel.readsAct()Z -/
theorem dX12_readsAct_0 : decode cX12_readsAct 0 = .ok (.aload_n 0, 1) := by decide +kernel
theorem dX12_readsAct_1 : decode cX12_readsAct 1 = .ok (.getfield 357, 3) := by decide +kernel
theorem dX12_readsAct_4 : decode cX12_readsAct 4 = .ok (.istore_n 1, 1) := by decide +kernel
theorem dX12_readsAct_5 : decode cX12_readsAct 5 = .ok (.aload_n 0, 1) := by decide +kernel
theorem dX12_readsAct_6 : decode cX12_readsAct 6 = .ok (.getfield 72, 3) := by decide +kernel
theorem dX12_readsAct_9 : decode cX12_readsAct 9 = .ok (.iload_n 1, 1) := by decide +kernel
theorem dX12_readsAct_10 : decode cX12_readsAct 10 = .ok (.aload_n 0, 1) := by decide +kernel
theorem dX12_readsAct_11 : decode cX12_readsAct 11 = .ok (.ldc_w 360, 3) := by decide +kernel
theorem dX12_readsAct_14 : decode cX12_readsAct 14 = .ok (.invokevirtual 224, 3) := by decide +kernel
theorem dX12_readsAct_17 : decode cX12_readsAct 17 = .ok (.iastore, 1) := by decide +kernel
theorem dX12_readsAct_18 : decode cX12_readsAct 18 = .ok (.aload_n 0, 1) := by decide +kernel
theorem dX12_readsAct_19 : decode cX12_readsAct 19 = .ok (.dup, 1) := by decide +kernel
theorem dX12_readsAct_20 : decode cX12_readsAct 20 = .ok (.getfield 357, 3) := by decide +kernel
theorem dX12_readsAct_23 : decode cX12_readsAct 23 = .ok (.iconst 1, 1) := by decide +kernel
theorem dX12_readsAct_24 : decode cX12_readsAct 24 = .ok (.iadd, 1) := by decide +kernel
theorem dX12_readsAct_25 : decode cX12_readsAct 25 = .ok (.putfield 357, 3) := by decide +kernel
theorem dX12_readsAct_28 : decode cX12_readsAct 28 = .ok (.aload_n 0, 1) := by decide +kernel
theorem dX12_readsAct_29 : decode cX12_readsAct 29 = .ok (.getfield 72, 3) := by decide +kernel
theorem dX12_readsAct_32 : decode cX12_readsAct 32 = .ok (.iload_n 1, 1) := by decide +kernel
theorem dX12_readsAct_33 : decode cX12_readsAct 33 = .ok (.iaload, 1) := by decide +kernel
theorem dX12_readsAct_34 : decode cX12_readsAct 34 = .ok (.ifCond .ge 5, 3) := by decide +kernel
theorem dX12_readsAct_37 : decode cX12_readsAct 37 = .ok (.iconst 0, 1) := by decide +kernel
theorem dX12_readsAct_38 : decode cX12_readsAct 38 = .ok (.ireturn, 1) := by decide +kernel
theorem dX12_readsAct_39 : decode cX12_readsAct 39 = .ok (.aload_n 0, 1) := by decide +kernel
theorem dX12_readsAct_40 : decode cX12_readsAct 40 = .ok (.getfield 75, 3) := by decide +kernel
theorem dX12_readsAct_43 : decode cX12_readsAct 43 = .ok (.iload_n 1, 1) := by decide +kernel
theorem dX12_readsAct_44 : decode cX12_readsAct 44 = .ok (.aload_n 0, 1) := by decide +kernel
theorem dX12_readsAct_45 : decode cX12_readsAct 45 = .ok (.getfield 72, 3) := by decide +kernel
theorem dX12_readsAct_48 : decode cX12_readsAct 48 = .ok (.iload_n 1, 1) := by decide +kernel
theorem dX12_readsAct_49 : decode cX12_readsAct 49 = .ok (.iaload, 1) := by decide +kernel
theorem dX12_readsAct_50 : decode cX12_readsAct 50 = .ok (.ifCond .ne 12, 3) := by decide +kernel
theorem dX12_readsAct_53 : decode cX12_readsAct 53 = .ok (.aload_n 0, 1) := by decide +kernel
theorem dX12_readsAct_54 : decode cX12_readsAct 54 = .ok (.bipush 6, 2) := by decide +kernel
theorem dX12_readsAct_56 : decode cX12_readsAct 56 = .ok (.invokevirtual 256, 3) := by decide +kernel
theorem dX12_readsAct_59 : decode cX12_readsAct 59 = .ok (.goto 4, 3) := by decide +kernel
theorem dX12_readsAct_62 : decode cX12_readsAct 62 = .ok (.iconst 0, 1) := by decide +kernel
theorem dX12_readsAct_63 : decode cX12_readsAct 63 = .ok (.iastore, 1) := by decide +kernel
theorem dX12_readsAct_64 : decode cX12_readsAct 64 = .ok (.aload_n 0, 1) := by decide +kernel
theorem dX12_readsAct_65 : decode cX12_readsAct 65 = .ok (.getfield 75, 3) := by decide +kernel
theorem dX12_readsAct_68 : decode cX12_readsAct 68 = .ok (.iload_n 1, 1) := by decide +kernel
theorem dX12_readsAct_69 : decode cX12_readsAct 69 = .ok (.iaload, 1) := by decide +kernel
theorem dX12_readsAct_70 : decode cX12_readsAct 70 = .ok (.ifCond .ge 5, 3) := by decide +kernel
theorem dX12_readsAct_73 : decode cX12_readsAct 73 = .ok (.iconst 0, 1) := by decide +kernel
theorem dX12_readsAct_74 : decode cX12_readsAct 74 = .ok (.ireturn, 1) := by decide +kernel
theorem dX12_readsAct_75 : decode cX12_readsAct 75 = .ok (.aload_n 0, 1) := by decide +kernel
theorem dX12_readsAct_76 : decode cX12_readsAct 76 = .ok (.getfield 78, 3) := by decide +kernel
theorem dX12_readsAct_79 : decode cX12_readsAct 79 = .ok (.iload_n 1, 1) := by decide +kernel
theorem dX12_readsAct_80 : decode cX12_readsAct 80 = .ok (.aload_n 0, 1) := by decide +kernel
theorem dX12_readsAct_81 : decode cX12_readsAct 81 = .ok (.iconst 2, 1) := by decide +kernel
theorem dX12_readsAct_82 : decode cX12_readsAct 82 = .ok (.invokevirtual 248, 3) := by decide +kernel
theorem dX12_readsAct_85 : decode cX12_readsAct 85 = .ok (.iastore, 1) := by decide +kernel
theorem dX12_readsAct_86 : decode cX12_readsAct 86 = .ok (.aload_n 0, 1) := by decide +kernel
theorem dX12_readsAct_87 : decode cX12_readsAct 87 = .ok (.getfield 78, 3) := by decide +kernel
theorem dX12_readsAct_90 : decode cX12_readsAct 90 = .ok (.iload_n 1, 1) := by decide +kernel
theorem dX12_readsAct_91 : decode cX12_readsAct 91 = .ok (.iaload, 1) := by decide +kernel
theorem dX12_readsAct_92 : decode cX12_readsAct 92 = .ok (.ifCond .lt 13, 3) := by decide +kernel
theorem dX12_readsAct_95 : decode cX12_readsAct 95 = .ok (.aload_n 0, 1) := by decide +kernel
theorem dX12_readsAct_96 : decode cX12_readsAct 96 = .ok (.getfield 72, 3) := by decide +kernel
theorem dX12_readsAct_99 : decode cX12_readsAct 99 = .ok (.iload_n 1, 1) := by decide +kernel
theorem dX12_readsAct_100 : decode cX12_readsAct 100 = .ok (.iaload, 1) := by decide +kernel
theorem dX12_readsAct_101 : decode cX12_readsAct 101 = .ok (.iconst 2, 1) := by decide +kernel
theorem dX12_readsAct_102 : decode cX12_readsAct 102 = .ok (.if_icmp .ne 18, 3) := by decide +kernel
theorem dX12_readsAct_105 : decode cX12_readsAct 105 = .ok (.aload_n 0, 1) := by decide +kernel
theorem dX12_readsAct_106 : decode cX12_readsAct 106 = .ok (.getfield 78, 3) := by decide +kernel
theorem dX12_readsAct_109 : decode cX12_readsAct 109 = .ok (.iload_n 1, 1) := by decide +kernel
theorem dX12_readsAct_110 : decode cX12_readsAct 110 = .ok (.iaload, 1) := by decide +kernel
theorem dX12_readsAct_111 : decode cX12_readsAct 111 = .ok (.ifCond .lt 7, 3) := by decide +kernel
theorem dX12_readsAct_114 : decode cX12_readsAct 114 = .ok (.iconst 1, 1) := by decide +kernel
theorem dX12_readsAct_115 : decode cX12_readsAct 115 = .ok (.goto 4, 3) := by decide +kernel
theorem dX12_readsAct_118 : decode cX12_readsAct 118 = .ok (.iconst 0, 1) := by decide +kernel
theorem dX12_readsAct_119 : decode cX12_readsAct 119 = .ok (.ireturn, 1) := by decide +kernel
theorem dX12_readsAct_120 : decode cX12_readsAct 120 = .ok (.aload_n 0, 1) := by decide +kernel
theorem dX12_readsAct_121 : decode cX12_readsAct 121 = .ok (.bipush 45, 2) := by decide +kernel
theorem dX12_readsAct_123 : decode cX12_readsAct 123 = .ok (.invokevirtual 229, 3) := by decide +kernel
theorem dX12_readsAct_126 : decode cX12_readsAct 126 = .ok (.ifCond .ne 5, 3) := by decide +kernel
theorem dX12_readsAct_129 : decode cX12_readsAct 129 = .ok (.iconst 0, 1) := by decide +kernel
theorem dX12_readsAct_130 : decode cX12_readsAct 130 = .ok (.ireturn, 1) := by decide +kernel
theorem dX12_readsAct_131 : decode cX12_readsAct 131 = .ok (.aload_n 0, 1) := by decide +kernel
theorem dX12_readsAct_132 : decode cX12_readsAct 132 = .ok (.getfield 81, 3) := by decide +kernel
theorem dX12_readsAct_135 : decode cX12_readsAct 135 = .ok (.iload_n 1, 1) := by decide +kernel
theorem dX12_readsAct_136 : decode cX12_readsAct 136 = .ok (.aload_n 0, 1) := by decide +kernel
theorem dX12_readsAct_137 : decode cX12_readsAct 137 = .ok (.iconst 2, 1) := by decide +kernel
theorem dX12_readsAct_138 : decode cX12_readsAct 138 = .ok (.invokevirtual 248, 3) := by decide +kernel
theorem dX12_readsAct_141 : decode cX12_readsAct 141 = .ok (.iastore, 1) := by decide +kernel
theorem dX12_readsAct_142 : decode cX12_readsAct 142 = .ok (.aload_n 0, 1) := by decide +kernel
theorem dX12_readsAct_143 : decode cX12_readsAct 143 = .ok (.getfield 81, 3) := by decide +kernel
theorem dX12_readsAct_146 : decode cX12_readsAct 146 = .ok (.iload_n 1, 1) := by decide +kernel
theorem dX12_readsAct_147 : decode cX12_readsAct 147 = .ok (.iaload, 1) := by decide +kernel
theorem dX12_readsAct_148 : decode cX12_readsAct 148 = .ok (.ifCond .lt 7, 3) := by decide +kernel
theorem dX12_readsAct_151 : decode cX12_readsAct 151 = .ok (.iconst 1, 1) := by decide +kernel
theorem dX12_readsAct_152 : decode cX12_readsAct 152 = .ok (.goto 4, 3) := by decide +kernel
theorem dX12_readsAct_155 : decode cX12_readsAct 155 = .ok (.iconst 0, 1) := by decide +kernel
theorem dX12_readsAct_156 : decode cX12_readsAct 156 = .ok (.ireturn, 1) := by decide +kernel
def xX12_readsAct_156 (s_X12_takesOf : zq_Sp) (s_X12_letter : zq_Sp) (s_X12_number : zq_Sp) (s_X12_takes : zq_Sp) (Q : zq_Q) (ls : zq_L) (st : List Value) (h : zq_H) : Prop := (zi_zret Q) ls st h
theorem kX12_readsAct_156 {X : zq_X} {d : Nat} (C : zq_C X cX12_readsAct 2 RX12 d) {d_X12_takesOf : Nat} {s_X12_takesOf : zq_Sp} (h_X12_takesOf : zq_M yX12_takesOf cX12_takesOf 3 (some .int) 1 d_X12_takesOf s_X12_takesOf) (g_X12_takesOf : d_X12_takesOf + 1 ≤ d) {d_X12_letter : Nat} {s_X12_letter : zq_Sp} (h_X12_letter : zq_M yX12_letter cX12_letter 2 (some .int) 1 d_X12_letter s_X12_letter) (g_X12_letter : d_X12_letter + 1 ≤ d) {d_X12_number : Nat} {s_X12_number : zq_Sp} (h_X12_number : zq_M yX12_number cX12_number 4 (some .int) 1 d_X12_number s_X12_number) (g_X12_number : d_X12_number + 1 ≤ d) {d_X12_takes : Nat} {s_X12_takes : zq_Sp} (h_X12_takes : zq_M yX12_takes cX12_takes 3 (some .boolean) 1 d_X12_takes s_X12_takes) (g_X12_takes : d_X12_takes + 1 ≤ d) {Q : zq_Q} (hq : zq_R X (some .boolean) 1 Q) : zq_ok X 2 156 (xX12_readsAct_156 s_X12_takesOf s_X12_letter s_X12_number s_X12_takes Q) := by
  exact zs_zret C hq dX12_readsAct_156
def xX12_readsAct_155 (s_X12_takesOf : zq_Sp) (s_X12_letter : zq_Sp) (s_X12_number : zq_Sp) (s_X12_takes : zq_Sp) (Q : zq_Q) (ls : zq_L) (st : List Value) (h : zq_H) : Prop := (zi_push (.int 0) ((xX12_readsAct_156 s_X12_takesOf s_X12_letter s_X12_number s_X12_takes Q))) ls st h
theorem kX12_readsAct_155 {X : zq_X} {d : Nat} (C : zq_C X cX12_readsAct 2 RX12 d) {d_X12_takesOf : Nat} {s_X12_takesOf : zq_Sp} (h_X12_takesOf : zq_M yX12_takesOf cX12_takesOf 3 (some .int) 1 d_X12_takesOf s_X12_takesOf) (g_X12_takesOf : d_X12_takesOf + 1 ≤ d) {d_X12_letter : Nat} {s_X12_letter : zq_Sp} (h_X12_letter : zq_M yX12_letter cX12_letter 2 (some .int) 1 d_X12_letter s_X12_letter) (g_X12_letter : d_X12_letter + 1 ≤ d) {d_X12_number : Nat} {s_X12_number : zq_Sp} (h_X12_number : zq_M yX12_number cX12_number 4 (some .int) 1 d_X12_number s_X12_number) (g_X12_number : d_X12_number + 1 ≤ d) {d_X12_takes : Nat} {s_X12_takes : zq_Sp} (h_X12_takes : zq_M yX12_takes cX12_takes 3 (some .boolean) 1 d_X12_takes s_X12_takes) (g_X12_takes : d_X12_takes + 1 ≤ d) {Q : zq_Q} (hq : zq_R X (some .boolean) 1 Q) : zq_ok X 2 155 (xX12_readsAct_155 s_X12_takesOf s_X12_letter s_X12_number s_X12_takes Q) := by
  refine zs_iconst C dX12_readsAct_155 (by decide) ?_
  exact kX12_readsAct_156 C h_X12_takesOf g_X12_takesOf h_X12_letter g_X12_letter h_X12_number g_X12_number h_X12_takes g_X12_takes hq
def xX12_readsAct_151 (s_X12_takesOf : zq_Sp) (s_X12_letter : zq_Sp) (s_X12_number : zq_Sp) (s_X12_takes : zq_Sp) (Q : zq_Q) (ls : zq_L) (st : List Value) (h : zq_H) : Prop := (zi_push (.int 1) ((xX12_readsAct_156 s_X12_takesOf s_X12_letter s_X12_number s_X12_takes Q))) ls st h
theorem kX12_readsAct_151 {X : zq_X} {d : Nat} (C : zq_C X cX12_readsAct 2 RX12 d) {d_X12_takesOf : Nat} {s_X12_takesOf : zq_Sp} (h_X12_takesOf : zq_M yX12_takesOf cX12_takesOf 3 (some .int) 1 d_X12_takesOf s_X12_takesOf) (g_X12_takesOf : d_X12_takesOf + 1 ≤ d) {d_X12_letter : Nat} {s_X12_letter : zq_Sp} (h_X12_letter : zq_M yX12_letter cX12_letter 2 (some .int) 1 d_X12_letter s_X12_letter) (g_X12_letter : d_X12_letter + 1 ≤ d) {d_X12_number : Nat} {s_X12_number : zq_Sp} (h_X12_number : zq_M yX12_number cX12_number 4 (some .int) 1 d_X12_number s_X12_number) (g_X12_number : d_X12_number + 1 ≤ d) {d_X12_takes : Nat} {s_X12_takes : zq_Sp} (h_X12_takes : zq_M yX12_takes cX12_takes 3 (some .boolean) 1 d_X12_takes s_X12_takes) (g_X12_takes : d_X12_takes + 1 ≤ d) {Q : zq_Q} (hq : zq_R X (some .boolean) 1 Q) : zq_ok X 2 151 (xX12_readsAct_151 s_X12_takesOf s_X12_letter s_X12_number s_X12_takes Q) := by
  refine zs_iconst C dX12_readsAct_151 (by decide) ?_
  exact zs_goto C dX12_readsAct_152 (by decide) (kX12_readsAct_156 C h_X12_takesOf g_X12_takesOf h_X12_letter g_X12_letter h_X12_number g_X12_number h_X12_takes g_X12_takes hq)
def xX12_readsAct_131 (s_X12_takesOf : zq_Sp) (s_X12_letter : zq_Sp) (s_X12_number : zq_Sp) (s_X12_takes : zq_Sp) (Q : zq_Q) (ls : zq_L) (st : List Value) (h : zq_H) : Prop := (zi_aload 0 (zi_getR 56 80 (zi_iload 1 (zi_aload 0 (zi_push (.int 2) (zi_callV 1 56 s_X12_number (zi_astI 80 60 (zi_aload 0 (zi_getR 56 80 (zi_iload 1 (zi_aldI 80 60 (zi_if1 (fun x => x < 0) (xX12_readsAct_155 s_X12_takesOf s_X12_letter s_X12_number s_X12_takes Q) (xX12_readsAct_151 s_X12_takesOf s_X12_letter s_X12_number s_X12_takes Q))))))))))))) ls st h
theorem kX12_readsAct_131 {X : zq_X} {d : Nat} (C : zq_C X cX12_readsAct 2 RX12 d) {d_X12_takesOf : Nat} {s_X12_takesOf : zq_Sp} (h_X12_takesOf : zq_M yX12_takesOf cX12_takesOf 3 (some .int) 1 d_X12_takesOf s_X12_takesOf) (g_X12_takesOf : d_X12_takesOf + 1 ≤ d) {d_X12_letter : Nat} {s_X12_letter : zq_Sp} (h_X12_letter : zq_M yX12_letter cX12_letter 2 (some .int) 1 d_X12_letter s_X12_letter) (g_X12_letter : d_X12_letter + 1 ≤ d) {d_X12_number : Nat} {s_X12_number : zq_Sp} (h_X12_number : zq_M yX12_number cX12_number 4 (some .int) 1 d_X12_number s_X12_number) (g_X12_number : d_X12_number + 1 ≤ d) {d_X12_takes : Nat} {s_X12_takes : zq_Sp} (h_X12_takes : zq_M yX12_takes cX12_takes 3 (some .boolean) 1 d_X12_takes s_X12_takes) (g_X12_takes : d_X12_takes + 1 ≤ d) {Q : zq_Q} (hq : zq_R X (some .boolean) 1 Q) : zq_ok X 2 131 (xX12_readsAct_131 s_X12_takesOf s_X12_letter s_X12_number s_X12_takes Q) := by
  refine zs_aload_n C dX12_readsAct_131 rfl ?_
  refine zs_getR C zp_56 zF12 (j := 36) ⟨by decide, rfl⟩ zw_1132 dX12_readsAct_132 ?_
  refine zs_iload_n C dX12_readsAct_135 rfl ?_
  refine zs_aload_n C dX12_readsAct_136 rfl ?_
  refine zs_iconst C dX12_readsAct_137 (by decide) ?_
  refine zs_callV C h_X12_number g_X12_number zy_X12_number zp_56 (show vwCl[12]? = some (RX12, TX12, 67) from rfl) zw_1400 zw_1402 zs9_X12_number dX12_readsAct_138 ?_
  refine zs_iastore C zp_80 dX12_readsAct_141 ?_
  refine zs_aload_n C dX12_readsAct_142 rfl ?_
  refine zs_getR C zp_56 zF12 (j := 36) ⟨by decide, rfl⟩ zw_1132 dX12_readsAct_143 ?_
  refine zs_iload_n C dX12_readsAct_146 rfl ?_
  refine zs_iaload C zp_80 dX12_readsAct_147 ?_
  exact zs_if_lt C dX12_readsAct_148 (by decide) (kX12_readsAct_155 C h_X12_takesOf g_X12_takesOf h_X12_letter g_X12_letter h_X12_number g_X12_number h_X12_takes g_X12_takes hq) (kX12_readsAct_151 C h_X12_takesOf g_X12_takesOf h_X12_letter g_X12_letter h_X12_number g_X12_number h_X12_takes g_X12_takes hq)
def xX12_readsAct_129 (s_X12_takesOf : zq_Sp) (s_X12_letter : zq_Sp) (s_X12_number : zq_Sp) (s_X12_takes : zq_Sp) (Q : zq_Q) (ls : zq_L) (st : List Value) (h : zq_H) : Prop := (zi_push (.int 0) (zi_zret Q)) ls st h
theorem kX12_readsAct_129 {X : zq_X} {d : Nat} (C : zq_C X cX12_readsAct 2 RX12 d) {d_X12_takesOf : Nat} {s_X12_takesOf : zq_Sp} (h_X12_takesOf : zq_M yX12_takesOf cX12_takesOf 3 (some .int) 1 d_X12_takesOf s_X12_takesOf) (g_X12_takesOf : d_X12_takesOf + 1 ≤ d) {d_X12_letter : Nat} {s_X12_letter : zq_Sp} (h_X12_letter : zq_M yX12_letter cX12_letter 2 (some .int) 1 d_X12_letter s_X12_letter) (g_X12_letter : d_X12_letter + 1 ≤ d) {d_X12_number : Nat} {s_X12_number : zq_Sp} (h_X12_number : zq_M yX12_number cX12_number 4 (some .int) 1 d_X12_number s_X12_number) (g_X12_number : d_X12_number + 1 ≤ d) {d_X12_takes : Nat} {s_X12_takes : zq_Sp} (h_X12_takes : zq_M yX12_takes cX12_takes 3 (some .boolean) 1 d_X12_takes s_X12_takes) (g_X12_takes : d_X12_takes + 1 ≤ d) {Q : zq_Q} (hq : zq_R X (some .boolean) 1 Q) : zq_ok X 2 129 (xX12_readsAct_129 s_X12_takesOf s_X12_letter s_X12_number s_X12_takes Q) := by
  refine zs_iconst C dX12_readsAct_129 (by decide) ?_
  exact zs_zret C hq dX12_readsAct_130
def xX12_readsAct_120 (s_X12_takesOf : zq_Sp) (s_X12_letter : zq_Sp) (s_X12_number : zq_Sp) (s_X12_takes : zq_Sp) (Q : zq_Q) (ls : zq_L) (st : List Value) (h : zq_H) : Prop := (zi_aload 0 (zi_push (.int 45) (zi_callV 1 56 s_X12_takes (zi_if1 (fun x => x = 0) (xX12_readsAct_129 s_X12_takesOf s_X12_letter s_X12_number s_X12_takes Q) (xX12_readsAct_131 s_X12_takesOf s_X12_letter s_X12_number s_X12_takes Q))))) ls st h
theorem kX12_readsAct_120 {X : zq_X} {d : Nat} (C : zq_C X cX12_readsAct 2 RX12 d) {d_X12_takesOf : Nat} {s_X12_takesOf : zq_Sp} (h_X12_takesOf : zq_M yX12_takesOf cX12_takesOf 3 (some .int) 1 d_X12_takesOf s_X12_takesOf) (g_X12_takesOf : d_X12_takesOf + 1 ≤ d) {d_X12_letter : Nat} {s_X12_letter : zq_Sp} (h_X12_letter : zq_M yX12_letter cX12_letter 2 (some .int) 1 d_X12_letter s_X12_letter) (g_X12_letter : d_X12_letter + 1 ≤ d) {d_X12_number : Nat} {s_X12_number : zq_Sp} (h_X12_number : zq_M yX12_number cX12_number 4 (some .int) 1 d_X12_number s_X12_number) (g_X12_number : d_X12_number + 1 ≤ d) {d_X12_takes : Nat} {s_X12_takes : zq_Sp} (h_X12_takes : zq_M yX12_takes cX12_takes 3 (some .boolean) 1 d_X12_takes s_X12_takes) (g_X12_takes : d_X12_takes + 1 ≤ d) {Q : zq_Q} (hq : zq_R X (some .boolean) 1 Q) : zq_ok X 2 120 (xX12_readsAct_120 s_X12_takesOf s_X12_letter s_X12_number s_X12_takes Q) := by
  refine zs_aload_n C dX12_readsAct_120 rfl ?_
  refine zs_bipush C dX12_readsAct_121 (by decide) ?_
  refine zs_callV C h_X12_takes g_X12_takes zy_X12_takes zp_56 (show vwCl[12]? = some (RX12, TX12, 67) from rfl) zw_1384 zw_1386 zs9_X12_takes dX12_readsAct_123 ?_
  exact zs_if_ne C dX12_readsAct_126 (by decide) (kX12_readsAct_131 C h_X12_takesOf g_X12_takesOf h_X12_letter g_X12_letter h_X12_number g_X12_number h_X12_takes g_X12_takes hq) (kX12_readsAct_129 C h_X12_takesOf g_X12_takesOf h_X12_letter g_X12_letter h_X12_number g_X12_number h_X12_takes g_X12_takes hq)
def xX12_readsAct_119 (s_X12_takesOf : zq_Sp) (s_X12_letter : zq_Sp) (s_X12_number : zq_Sp) (s_X12_takes : zq_Sp) (Q : zq_Q) (ls : zq_L) (st : List Value) (h : zq_H) : Prop := (zi_zret Q) ls st h
theorem kX12_readsAct_119 {X : zq_X} {d : Nat} (C : zq_C X cX12_readsAct 2 RX12 d) {d_X12_takesOf : Nat} {s_X12_takesOf : zq_Sp} (h_X12_takesOf : zq_M yX12_takesOf cX12_takesOf 3 (some .int) 1 d_X12_takesOf s_X12_takesOf) (g_X12_takesOf : d_X12_takesOf + 1 ≤ d) {d_X12_letter : Nat} {s_X12_letter : zq_Sp} (h_X12_letter : zq_M yX12_letter cX12_letter 2 (some .int) 1 d_X12_letter s_X12_letter) (g_X12_letter : d_X12_letter + 1 ≤ d) {d_X12_number : Nat} {s_X12_number : zq_Sp} (h_X12_number : zq_M yX12_number cX12_number 4 (some .int) 1 d_X12_number s_X12_number) (g_X12_number : d_X12_number + 1 ≤ d) {d_X12_takes : Nat} {s_X12_takes : zq_Sp} (h_X12_takes : zq_M yX12_takes cX12_takes 3 (some .boolean) 1 d_X12_takes s_X12_takes) (g_X12_takes : d_X12_takes + 1 ≤ d) {Q : zq_Q} (hq : zq_R X (some .boolean) 1 Q) : zq_ok X 2 119 (xX12_readsAct_119 s_X12_takesOf s_X12_letter s_X12_number s_X12_takes Q) := by
  exact zs_zret C hq dX12_readsAct_119
def xX12_readsAct_118 (s_X12_takesOf : zq_Sp) (s_X12_letter : zq_Sp) (s_X12_number : zq_Sp) (s_X12_takes : zq_Sp) (Q : zq_Q) (ls : zq_L) (st : List Value) (h : zq_H) : Prop := (zi_push (.int 0) ((xX12_readsAct_119 s_X12_takesOf s_X12_letter s_X12_number s_X12_takes Q))) ls st h
theorem kX12_readsAct_118 {X : zq_X} {d : Nat} (C : zq_C X cX12_readsAct 2 RX12 d) {d_X12_takesOf : Nat} {s_X12_takesOf : zq_Sp} (h_X12_takesOf : zq_M yX12_takesOf cX12_takesOf 3 (some .int) 1 d_X12_takesOf s_X12_takesOf) (g_X12_takesOf : d_X12_takesOf + 1 ≤ d) {d_X12_letter : Nat} {s_X12_letter : zq_Sp} (h_X12_letter : zq_M yX12_letter cX12_letter 2 (some .int) 1 d_X12_letter s_X12_letter) (g_X12_letter : d_X12_letter + 1 ≤ d) {d_X12_number : Nat} {s_X12_number : zq_Sp} (h_X12_number : zq_M yX12_number cX12_number 4 (some .int) 1 d_X12_number s_X12_number) (g_X12_number : d_X12_number + 1 ≤ d) {d_X12_takes : Nat} {s_X12_takes : zq_Sp} (h_X12_takes : zq_M yX12_takes cX12_takes 3 (some .boolean) 1 d_X12_takes s_X12_takes) (g_X12_takes : d_X12_takes + 1 ≤ d) {Q : zq_Q} (hq : zq_R X (some .boolean) 1 Q) : zq_ok X 2 118 (xX12_readsAct_118 s_X12_takesOf s_X12_letter s_X12_number s_X12_takes Q) := by
  refine zs_iconst C dX12_readsAct_118 (by decide) ?_
  exact kX12_readsAct_119 C h_X12_takesOf g_X12_takesOf h_X12_letter g_X12_letter h_X12_number g_X12_number h_X12_takes g_X12_takes hq
def xX12_readsAct_114 (s_X12_takesOf : zq_Sp) (s_X12_letter : zq_Sp) (s_X12_number : zq_Sp) (s_X12_takes : zq_Sp) (Q : zq_Q) (ls : zq_L) (st : List Value) (h : zq_H) : Prop := (zi_push (.int 1) ((xX12_readsAct_119 s_X12_takesOf s_X12_letter s_X12_number s_X12_takes Q))) ls st h
theorem kX12_readsAct_114 {X : zq_X} {d : Nat} (C : zq_C X cX12_readsAct 2 RX12 d) {d_X12_takesOf : Nat} {s_X12_takesOf : zq_Sp} (h_X12_takesOf : zq_M yX12_takesOf cX12_takesOf 3 (some .int) 1 d_X12_takesOf s_X12_takesOf) (g_X12_takesOf : d_X12_takesOf + 1 ≤ d) {d_X12_letter : Nat} {s_X12_letter : zq_Sp} (h_X12_letter : zq_M yX12_letter cX12_letter 2 (some .int) 1 d_X12_letter s_X12_letter) (g_X12_letter : d_X12_letter + 1 ≤ d) {d_X12_number : Nat} {s_X12_number : zq_Sp} (h_X12_number : zq_M yX12_number cX12_number 4 (some .int) 1 d_X12_number s_X12_number) (g_X12_number : d_X12_number + 1 ≤ d) {d_X12_takes : Nat} {s_X12_takes : zq_Sp} (h_X12_takes : zq_M yX12_takes cX12_takes 3 (some .boolean) 1 d_X12_takes s_X12_takes) (g_X12_takes : d_X12_takes + 1 ≤ d) {Q : zq_Q} (hq : zq_R X (some .boolean) 1 Q) : zq_ok X 2 114 (xX12_readsAct_114 s_X12_takesOf s_X12_letter s_X12_number s_X12_takes Q) := by
  refine zs_iconst C dX12_readsAct_114 (by decide) ?_
  exact zs_goto C dX12_readsAct_115 (by decide) (kX12_readsAct_119 C h_X12_takesOf g_X12_takesOf h_X12_letter g_X12_letter h_X12_number g_X12_number h_X12_takes g_X12_takes hq)
def xX12_readsAct_105 (s_X12_takesOf : zq_Sp) (s_X12_letter : zq_Sp) (s_X12_number : zq_Sp) (s_X12_takes : zq_Sp) (Q : zq_Q) (ls : zq_L) (st : List Value) (h : zq_H) : Prop := (zi_aload 0 (zi_getR 56 79 (zi_iload 1 (zi_aldI 79 60 (zi_if1 (fun x => x < 0) (xX12_readsAct_118 s_X12_takesOf s_X12_letter s_X12_number s_X12_takes Q) (xX12_readsAct_114 s_X12_takesOf s_X12_letter s_X12_number s_X12_takes Q)))))) ls st h
theorem kX12_readsAct_105 {X : zq_X} {d : Nat} (C : zq_C X cX12_readsAct 2 RX12 d) {d_X12_takesOf : Nat} {s_X12_takesOf : zq_Sp} (h_X12_takesOf : zq_M yX12_takesOf cX12_takesOf 3 (some .int) 1 d_X12_takesOf s_X12_takesOf) (g_X12_takesOf : d_X12_takesOf + 1 ≤ d) {d_X12_letter : Nat} {s_X12_letter : zq_Sp} (h_X12_letter : zq_M yX12_letter cX12_letter 2 (some .int) 1 d_X12_letter s_X12_letter) (g_X12_letter : d_X12_letter + 1 ≤ d) {d_X12_number : Nat} {s_X12_number : zq_Sp} (h_X12_number : zq_M yX12_number cX12_number 4 (some .int) 1 d_X12_number s_X12_number) (g_X12_number : d_X12_number + 1 ≤ d) {d_X12_takes : Nat} {s_X12_takes : zq_Sp} (h_X12_takes : zq_M yX12_takes cX12_takes 3 (some .boolean) 1 d_X12_takes s_X12_takes) (g_X12_takes : d_X12_takes + 1 ≤ d) {Q : zq_Q} (hq : zq_R X (some .boolean) 1 Q) : zq_ok X 2 105 (xX12_readsAct_105 s_X12_takesOf s_X12_letter s_X12_number s_X12_takes Q) := by
  refine zs_aload_n C dX12_readsAct_105 rfl ?_
  refine zs_getR C zp_56 zF12 (j := 35) ⟨by decide, rfl⟩ zw_1131 dX12_readsAct_106 ?_
  refine zs_iload_n C dX12_readsAct_109 rfl ?_
  refine zs_iaload C zp_79 dX12_readsAct_110 ?_
  exact zs_if_lt C dX12_readsAct_111 (by decide) (kX12_readsAct_118 C h_X12_takesOf g_X12_takesOf h_X12_letter g_X12_letter h_X12_number g_X12_number h_X12_takes g_X12_takes hq) (kX12_readsAct_114 C h_X12_takesOf g_X12_takesOf h_X12_letter g_X12_letter h_X12_number g_X12_number h_X12_takes g_X12_takes hq)
def xX12_readsAct_95 (s_X12_takesOf : zq_Sp) (s_X12_letter : zq_Sp) (s_X12_number : zq_Sp) (s_X12_takes : zq_Sp) (Q : zq_Q) (ls : zq_L) (st : List Value) (h : zq_H) : Prop := (zi_aload 0 (zi_getR 56 77 (zi_iload 1 (zi_aldI 77 60 (zi_push (.int 2) (zi_if2 (fun x y => x = y) (xX12_readsAct_105 s_X12_takesOf s_X12_letter s_X12_number s_X12_takes Q) (xX12_readsAct_120 s_X12_takesOf s_X12_letter s_X12_number s_X12_takes Q))))))) ls st h
theorem kX12_readsAct_95 {X : zq_X} {d : Nat} (C : zq_C X cX12_readsAct 2 RX12 d) {d_X12_takesOf : Nat} {s_X12_takesOf : zq_Sp} (h_X12_takesOf : zq_M yX12_takesOf cX12_takesOf 3 (some .int) 1 d_X12_takesOf s_X12_takesOf) (g_X12_takesOf : d_X12_takesOf + 1 ≤ d) {d_X12_letter : Nat} {s_X12_letter : zq_Sp} (h_X12_letter : zq_M yX12_letter cX12_letter 2 (some .int) 1 d_X12_letter s_X12_letter) (g_X12_letter : d_X12_letter + 1 ≤ d) {d_X12_number : Nat} {s_X12_number : zq_Sp} (h_X12_number : zq_M yX12_number cX12_number 4 (some .int) 1 d_X12_number s_X12_number) (g_X12_number : d_X12_number + 1 ≤ d) {d_X12_takes : Nat} {s_X12_takes : zq_Sp} (h_X12_takes : zq_M yX12_takes cX12_takes 3 (some .boolean) 1 d_X12_takes s_X12_takes) (g_X12_takes : d_X12_takes + 1 ≤ d) {Q : zq_Q} (hq : zq_R X (some .boolean) 1 Q) : zq_ok X 2 95 (xX12_readsAct_95 s_X12_takesOf s_X12_letter s_X12_number s_X12_takes Q) := by
  refine zs_aload_n C dX12_readsAct_95 rfl ?_
  refine zs_getR C zp_56 zF12 (j := 33) ⟨by decide, rfl⟩ zw_1129 dX12_readsAct_96 ?_
  refine zs_iload_n C dX12_readsAct_99 rfl ?_
  refine zs_iaload C zp_77 dX12_readsAct_100 ?_
  refine zs_iconst C dX12_readsAct_101 (by decide) ?_
  exact zs_icmp_ne C dX12_readsAct_102 (by decide) (kX12_readsAct_120 C h_X12_takesOf g_X12_takesOf h_X12_letter g_X12_letter h_X12_number g_X12_number h_X12_takes g_X12_takes hq) (kX12_readsAct_105 C h_X12_takesOf g_X12_takesOf h_X12_letter g_X12_letter h_X12_number g_X12_number h_X12_takes g_X12_takes hq)
def xX12_readsAct_75 (s_X12_takesOf : zq_Sp) (s_X12_letter : zq_Sp) (s_X12_number : zq_Sp) (s_X12_takes : zq_Sp) (Q : zq_Q) (ls : zq_L) (st : List Value) (h : zq_H) : Prop := (zi_aload 0 (zi_getR 56 79 (zi_iload 1 (zi_aload 0 (zi_push (.int 2) (zi_callV 1 56 s_X12_number (zi_astI 79 60 (zi_aload 0 (zi_getR 56 79 (zi_iload 1 (zi_aldI 79 60 (zi_if1 (fun x => x < 0) (xX12_readsAct_105 s_X12_takesOf s_X12_letter s_X12_number s_X12_takes Q) (xX12_readsAct_95 s_X12_takesOf s_X12_letter s_X12_number s_X12_takes Q))))))))))))) ls st h
theorem kX12_readsAct_75 {X : zq_X} {d : Nat} (C : zq_C X cX12_readsAct 2 RX12 d) {d_X12_takesOf : Nat} {s_X12_takesOf : zq_Sp} (h_X12_takesOf : zq_M yX12_takesOf cX12_takesOf 3 (some .int) 1 d_X12_takesOf s_X12_takesOf) (g_X12_takesOf : d_X12_takesOf + 1 ≤ d) {d_X12_letter : Nat} {s_X12_letter : zq_Sp} (h_X12_letter : zq_M yX12_letter cX12_letter 2 (some .int) 1 d_X12_letter s_X12_letter) (g_X12_letter : d_X12_letter + 1 ≤ d) {d_X12_number : Nat} {s_X12_number : zq_Sp} (h_X12_number : zq_M yX12_number cX12_number 4 (some .int) 1 d_X12_number s_X12_number) (g_X12_number : d_X12_number + 1 ≤ d) {d_X12_takes : Nat} {s_X12_takes : zq_Sp} (h_X12_takes : zq_M yX12_takes cX12_takes 3 (some .boolean) 1 d_X12_takes s_X12_takes) (g_X12_takes : d_X12_takes + 1 ≤ d) {Q : zq_Q} (hq : zq_R X (some .boolean) 1 Q) : zq_ok X 2 75 (xX12_readsAct_75 s_X12_takesOf s_X12_letter s_X12_number s_X12_takes Q) := by
  refine zs_aload_n C dX12_readsAct_75 rfl ?_
  refine zs_getR C zp_56 zF12 (j := 35) ⟨by decide, rfl⟩ zw_1131 dX12_readsAct_76 ?_
  refine zs_iload_n C dX12_readsAct_79 rfl ?_
  refine zs_aload_n C dX12_readsAct_80 rfl ?_
  refine zs_iconst C dX12_readsAct_81 (by decide) ?_
  refine zs_callV C h_X12_number g_X12_number zy_X12_number zp_56 (show vwCl[12]? = some (RX12, TX12, 67) from rfl) zw_1400 zw_1402 zs9_X12_number dX12_readsAct_82 ?_
  refine zs_iastore C zp_79 dX12_readsAct_85 ?_
  refine zs_aload_n C dX12_readsAct_86 rfl ?_
  refine zs_getR C zp_56 zF12 (j := 35) ⟨by decide, rfl⟩ zw_1131 dX12_readsAct_87 ?_
  refine zs_iload_n C dX12_readsAct_90 rfl ?_
  refine zs_iaload C zp_79 dX12_readsAct_91 ?_
  exact zs_if_lt C dX12_readsAct_92 (by decide) (kX12_readsAct_105 C h_X12_takesOf g_X12_takesOf h_X12_letter g_X12_letter h_X12_number g_X12_number h_X12_takes g_X12_takes hq) (kX12_readsAct_95 C h_X12_takesOf g_X12_takesOf h_X12_letter g_X12_letter h_X12_number g_X12_number h_X12_takes g_X12_takes hq)
def xX12_readsAct_73 (s_X12_takesOf : zq_Sp) (s_X12_letter : zq_Sp) (s_X12_number : zq_Sp) (s_X12_takes : zq_Sp) (Q : zq_Q) (ls : zq_L) (st : List Value) (h : zq_H) : Prop := (zi_push (.int 0) (zi_zret Q)) ls st h
theorem kX12_readsAct_73 {X : zq_X} {d : Nat} (C : zq_C X cX12_readsAct 2 RX12 d) {d_X12_takesOf : Nat} {s_X12_takesOf : zq_Sp} (h_X12_takesOf : zq_M yX12_takesOf cX12_takesOf 3 (some .int) 1 d_X12_takesOf s_X12_takesOf) (g_X12_takesOf : d_X12_takesOf + 1 ≤ d) {d_X12_letter : Nat} {s_X12_letter : zq_Sp} (h_X12_letter : zq_M yX12_letter cX12_letter 2 (some .int) 1 d_X12_letter s_X12_letter) (g_X12_letter : d_X12_letter + 1 ≤ d) {d_X12_number : Nat} {s_X12_number : zq_Sp} (h_X12_number : zq_M yX12_number cX12_number 4 (some .int) 1 d_X12_number s_X12_number) (g_X12_number : d_X12_number + 1 ≤ d) {d_X12_takes : Nat} {s_X12_takes : zq_Sp} (h_X12_takes : zq_M yX12_takes cX12_takes 3 (some .boolean) 1 d_X12_takes s_X12_takes) (g_X12_takes : d_X12_takes + 1 ≤ d) {Q : zq_Q} (hq : zq_R X (some .boolean) 1 Q) : zq_ok X 2 73 (xX12_readsAct_73 s_X12_takesOf s_X12_letter s_X12_number s_X12_takes Q) := by
  refine zs_iconst C dX12_readsAct_73 (by decide) ?_
  exact zs_zret C hq dX12_readsAct_74
def xX12_readsAct_63 (s_X12_takesOf : zq_Sp) (s_X12_letter : zq_Sp) (s_X12_number : zq_Sp) (s_X12_takes : zq_Sp) (Q : zq_Q) (ls : zq_L) (st : List Value) (h : zq_H) : Prop := (zi_astI 78 60 (zi_aload 0 (zi_getR 56 78 (zi_iload 1 (zi_aldI 78 60 (zi_if1 (fun x => 0 ≤ x) (xX12_readsAct_75 s_X12_takesOf s_X12_letter s_X12_number s_X12_takes Q) (xX12_readsAct_73 s_X12_takesOf s_X12_letter s_X12_number s_X12_takes Q))))))) ls st h
theorem kX12_readsAct_63 {X : zq_X} {d : Nat} (C : zq_C X cX12_readsAct 2 RX12 d) {d_X12_takesOf : Nat} {s_X12_takesOf : zq_Sp} (h_X12_takesOf : zq_M yX12_takesOf cX12_takesOf 3 (some .int) 1 d_X12_takesOf s_X12_takesOf) (g_X12_takesOf : d_X12_takesOf + 1 ≤ d) {d_X12_letter : Nat} {s_X12_letter : zq_Sp} (h_X12_letter : zq_M yX12_letter cX12_letter 2 (some .int) 1 d_X12_letter s_X12_letter) (g_X12_letter : d_X12_letter + 1 ≤ d) {d_X12_number : Nat} {s_X12_number : zq_Sp} (h_X12_number : zq_M yX12_number cX12_number 4 (some .int) 1 d_X12_number s_X12_number) (g_X12_number : d_X12_number + 1 ≤ d) {d_X12_takes : Nat} {s_X12_takes : zq_Sp} (h_X12_takes : zq_M yX12_takes cX12_takes 3 (some .boolean) 1 d_X12_takes s_X12_takes) (g_X12_takes : d_X12_takes + 1 ≤ d) {Q : zq_Q} (hq : zq_R X (some .boolean) 1 Q) : zq_ok X 2 63 (xX12_readsAct_63 s_X12_takesOf s_X12_letter s_X12_number s_X12_takes Q) := by
  refine zs_iastore C zp_78 dX12_readsAct_63 ?_
  refine zs_aload_n C dX12_readsAct_64 rfl ?_
  refine zs_getR C zp_56 zF12 (j := 34) ⟨by decide, rfl⟩ zw_1130 dX12_readsAct_65 ?_
  refine zs_iload_n C dX12_readsAct_68 rfl ?_
  refine zs_iaload C zp_78 dX12_readsAct_69 ?_
  exact zs_if_ge C dX12_readsAct_70 (by decide) (kX12_readsAct_75 C h_X12_takesOf g_X12_takesOf h_X12_letter g_X12_letter h_X12_number g_X12_number h_X12_takes g_X12_takes hq) (kX12_readsAct_73 C h_X12_takesOf g_X12_takesOf h_X12_letter g_X12_letter h_X12_number g_X12_number h_X12_takes g_X12_takes hq)
def xX12_readsAct_62 (s_X12_takesOf : zq_Sp) (s_X12_letter : zq_Sp) (s_X12_number : zq_Sp) (s_X12_takes : zq_Sp) (Q : zq_Q) (ls : zq_L) (st : List Value) (h : zq_H) : Prop := (zi_push (.int 0) ((xX12_readsAct_63 s_X12_takesOf s_X12_letter s_X12_number s_X12_takes Q))) ls st h
theorem kX12_readsAct_62 {X : zq_X} {d : Nat} (C : zq_C X cX12_readsAct 2 RX12 d) {d_X12_takesOf : Nat} {s_X12_takesOf : zq_Sp} (h_X12_takesOf : zq_M yX12_takesOf cX12_takesOf 3 (some .int) 1 d_X12_takesOf s_X12_takesOf) (g_X12_takesOf : d_X12_takesOf + 1 ≤ d) {d_X12_letter : Nat} {s_X12_letter : zq_Sp} (h_X12_letter : zq_M yX12_letter cX12_letter 2 (some .int) 1 d_X12_letter s_X12_letter) (g_X12_letter : d_X12_letter + 1 ≤ d) {d_X12_number : Nat} {s_X12_number : zq_Sp} (h_X12_number : zq_M yX12_number cX12_number 4 (some .int) 1 d_X12_number s_X12_number) (g_X12_number : d_X12_number + 1 ≤ d) {d_X12_takes : Nat} {s_X12_takes : zq_Sp} (h_X12_takes : zq_M yX12_takes cX12_takes 3 (some .boolean) 1 d_X12_takes s_X12_takes) (g_X12_takes : d_X12_takes + 1 ≤ d) {Q : zq_Q} (hq : zq_R X (some .boolean) 1 Q) : zq_ok X 2 62 (xX12_readsAct_62 s_X12_takesOf s_X12_letter s_X12_number s_X12_takes Q) := by
  refine zs_iconst C dX12_readsAct_62 (by decide) ?_
  exact kX12_readsAct_63 C h_X12_takesOf g_X12_takesOf h_X12_letter g_X12_letter h_X12_number g_X12_number h_X12_takes g_X12_takes hq
def xX12_readsAct_53 (s_X12_takesOf : zq_Sp) (s_X12_letter : zq_Sp) (s_X12_number : zq_Sp) (s_X12_takes : zq_Sp) (Q : zq_Q) (ls : zq_L) (st : List Value) (h : zq_H) : Prop := (zi_aload 0 (zi_push (.int 6) (zi_callV 1 56 s_X12_letter ((xX12_readsAct_63 s_X12_takesOf s_X12_letter s_X12_number s_X12_takes Q))))) ls st h
theorem kX12_readsAct_53 {X : zq_X} {d : Nat} (C : zq_C X cX12_readsAct 2 RX12 d) {d_X12_takesOf : Nat} {s_X12_takesOf : zq_Sp} (h_X12_takesOf : zq_M yX12_takesOf cX12_takesOf 3 (some .int) 1 d_X12_takesOf s_X12_takesOf) (g_X12_takesOf : d_X12_takesOf + 1 ≤ d) {d_X12_letter : Nat} {s_X12_letter : zq_Sp} (h_X12_letter : zq_M yX12_letter cX12_letter 2 (some .int) 1 d_X12_letter s_X12_letter) (g_X12_letter : d_X12_letter + 1 ≤ d) {d_X12_number : Nat} {s_X12_number : zq_Sp} (h_X12_number : zq_M yX12_number cX12_number 4 (some .int) 1 d_X12_number s_X12_number) (g_X12_number : d_X12_number + 1 ≤ d) {d_X12_takes : Nat} {s_X12_takes : zq_Sp} (h_X12_takes : zq_M yX12_takes cX12_takes 3 (some .boolean) 1 d_X12_takes s_X12_takes) (g_X12_takes : d_X12_takes + 1 ≤ d) {Q : zq_Q} (hq : zq_R X (some .boolean) 1 Q) : zq_ok X 2 53 (xX12_readsAct_53 s_X12_takesOf s_X12_letter s_X12_number s_X12_takes Q) := by
  refine zs_aload_n C dX12_readsAct_53 rfl ?_
  refine zs_bipush C dX12_readsAct_54 (by decide) ?_
  refine zs_callV C h_X12_letter g_X12_letter zy_X12_letter zp_56 (show vwCl[12]? = some (RX12, TX12, 67) from rfl) zw_1419 zw_1421 zs9_X12_letter dX12_readsAct_56 ?_
  exact zs_goto C dX12_readsAct_59 (by decide) (kX12_readsAct_63 C h_X12_takesOf g_X12_takesOf h_X12_letter g_X12_letter h_X12_number g_X12_number h_X12_takes g_X12_takes hq)
def xX12_readsAct_39 (s_X12_takesOf : zq_Sp) (s_X12_letter : zq_Sp) (s_X12_number : zq_Sp) (s_X12_takes : zq_Sp) (Q : zq_Q) (ls : zq_L) (st : List Value) (h : zq_H) : Prop := (zi_aload 0 (zi_getR 56 78 (zi_iload 1 (zi_aload 0 (zi_getR 56 77 (zi_iload 1 (zi_aldI 77 60 (zi_if1 (fun x => x = 0) (xX12_readsAct_53 s_X12_takesOf s_X12_letter s_X12_number s_X12_takes Q) (xX12_readsAct_62 s_X12_takesOf s_X12_letter s_X12_number s_X12_takes Q))))))))) ls st h
theorem kX12_readsAct_39 {X : zq_X} {d : Nat} (C : zq_C X cX12_readsAct 2 RX12 d) {d_X12_takesOf : Nat} {s_X12_takesOf : zq_Sp} (h_X12_takesOf : zq_M yX12_takesOf cX12_takesOf 3 (some .int) 1 d_X12_takesOf s_X12_takesOf) (g_X12_takesOf : d_X12_takesOf + 1 ≤ d) {d_X12_letter : Nat} {s_X12_letter : zq_Sp} (h_X12_letter : zq_M yX12_letter cX12_letter 2 (some .int) 1 d_X12_letter s_X12_letter) (g_X12_letter : d_X12_letter + 1 ≤ d) {d_X12_number : Nat} {s_X12_number : zq_Sp} (h_X12_number : zq_M yX12_number cX12_number 4 (some .int) 1 d_X12_number s_X12_number) (g_X12_number : d_X12_number + 1 ≤ d) {d_X12_takes : Nat} {s_X12_takes : zq_Sp} (h_X12_takes : zq_M yX12_takes cX12_takes 3 (some .boolean) 1 d_X12_takes s_X12_takes) (g_X12_takes : d_X12_takes + 1 ≤ d) {Q : zq_Q} (hq : zq_R X (some .boolean) 1 Q) : zq_ok X 2 39 (xX12_readsAct_39 s_X12_takesOf s_X12_letter s_X12_number s_X12_takes Q) := by
  refine zs_aload_n C dX12_readsAct_39 rfl ?_
  refine zs_getR C zp_56 zF12 (j := 34) ⟨by decide, rfl⟩ zw_1130 dX12_readsAct_40 ?_
  refine zs_iload_n C dX12_readsAct_43 rfl ?_
  refine zs_aload_n C dX12_readsAct_44 rfl ?_
  refine zs_getR C zp_56 zF12 (j := 33) ⟨by decide, rfl⟩ zw_1129 dX12_readsAct_45 ?_
  refine zs_iload_n C dX12_readsAct_48 rfl ?_
  refine zs_iaload C zp_77 dX12_readsAct_49 ?_
  exact zs_if_ne C dX12_readsAct_50 (by decide) (kX12_readsAct_62 C h_X12_takesOf g_X12_takesOf h_X12_letter g_X12_letter h_X12_number g_X12_number h_X12_takes g_X12_takes hq) (kX12_readsAct_53 C h_X12_takesOf g_X12_takesOf h_X12_letter g_X12_letter h_X12_number g_X12_number h_X12_takes g_X12_takes hq)
def xX12_readsAct_37 (s_X12_takesOf : zq_Sp) (s_X12_letter : zq_Sp) (s_X12_number : zq_Sp) (s_X12_takes : zq_Sp) (Q : zq_Q) (ls : zq_L) (st : List Value) (h : zq_H) : Prop := (zi_push (.int 0) (zi_zret Q)) ls st h
theorem kX12_readsAct_37 {X : zq_X} {d : Nat} (C : zq_C X cX12_readsAct 2 RX12 d) {d_X12_takesOf : Nat} {s_X12_takesOf : zq_Sp} (h_X12_takesOf : zq_M yX12_takesOf cX12_takesOf 3 (some .int) 1 d_X12_takesOf s_X12_takesOf) (g_X12_takesOf : d_X12_takesOf + 1 ≤ d) {d_X12_letter : Nat} {s_X12_letter : zq_Sp} (h_X12_letter : zq_M yX12_letter cX12_letter 2 (some .int) 1 d_X12_letter s_X12_letter) (g_X12_letter : d_X12_letter + 1 ≤ d) {d_X12_number : Nat} {s_X12_number : zq_Sp} (h_X12_number : zq_M yX12_number cX12_number 4 (some .int) 1 d_X12_number s_X12_number) (g_X12_number : d_X12_number + 1 ≤ d) {d_X12_takes : Nat} {s_X12_takes : zq_Sp} (h_X12_takes : zq_M yX12_takes cX12_takes 3 (some .boolean) 1 d_X12_takes s_X12_takes) (g_X12_takes : d_X12_takes + 1 ≤ d) {Q : zq_Q} (hq : zq_R X (some .boolean) 1 Q) : zq_ok X 2 37 (xX12_readsAct_37 s_X12_takesOf s_X12_letter s_X12_number s_X12_takes Q) := by
  refine zs_iconst C dX12_readsAct_37 (by decide) ?_
  exact zs_zret C hq dX12_readsAct_38
def xX12_readsAct_0 (s_X12_takesOf : zq_Sp) (s_X12_letter : zq_Sp) (s_X12_number : zq_Sp) (s_X12_takes : zq_Sp) (Q : zq_Q) (ls : zq_L) (st : List Value) (h : zq_H) : Prop := (zi_aload 0 (zi_getI 56 37 (zi_istore 1 (zi_aload 0 (zi_getR 56 77 (zi_iload 1 (zi_aload 0 (zi_push (.ref 207) (zi_callV 1 56 s_X12_takesOf (zi_astI 77 60 (zi_aload 0 (zi_dup (zi_getI 56 37 (zi_push (.int 1) (zi_i2 (fun x y => x + y) (zi_putI 56 37 (zi_aload 0 (zi_getR 56 77 (zi_iload 1 (zi_aldI 77 60 (zi_if1 (fun x => 0 ≤ x) (xX12_readsAct_39 s_X12_takesOf s_X12_letter s_X12_number s_X12_takes Q) (xX12_readsAct_37 s_X12_takesOf s_X12_letter s_X12_number s_X12_takes Q)))))))))))))))))))))) ls st h
theorem kX12_readsAct_0 {X : zq_X} {d : Nat} (C : zq_C X cX12_readsAct 2 RX12 d) {d_X12_takesOf : Nat} {s_X12_takesOf : zq_Sp} (h_X12_takesOf : zq_M yX12_takesOf cX12_takesOf 3 (some .int) 1 d_X12_takesOf s_X12_takesOf) (g_X12_takesOf : d_X12_takesOf + 1 ≤ d) {d_X12_letter : Nat} {s_X12_letter : zq_Sp} (h_X12_letter : zq_M yX12_letter cX12_letter 2 (some .int) 1 d_X12_letter s_X12_letter) (g_X12_letter : d_X12_letter + 1 ≤ d) {d_X12_number : Nat} {s_X12_number : zq_Sp} (h_X12_number : zq_M yX12_number cX12_number 4 (some .int) 1 d_X12_number s_X12_number) (g_X12_number : d_X12_number + 1 ≤ d) {d_X12_takes : Nat} {s_X12_takes : zq_Sp} (h_X12_takes : zq_M yX12_takes cX12_takes 3 (some .boolean) 1 d_X12_takes s_X12_takes) (g_X12_takes : d_X12_takes + 1 ≤ d) {Q : zq_Q} (hq : zq_R X (some .boolean) 1 Q) : zq_ok X 2 0 (xX12_readsAct_0 s_X12_takesOf s_X12_letter s_X12_number s_X12_takes Q) := by
  refine zs_aload_n C dX12_readsAct_0 rfl ?_
  refine zs_getI C zp_56 zF12 (j := 37) ⟨by decide, rfl⟩ zw_1133 dX12_readsAct_1 ?_
  refine zs_istore_n C dX12_readsAct_4 rfl (by decide) ?_
  refine zs_aload_n C dX12_readsAct_5 rfl ?_
  refine zs_getR C zp_56 zF12 (j := 33) ⟨by decide, rfl⟩ zw_1129 dX12_readsAct_6 ?_
  refine zs_iload_n C dX12_readsAct_9 rfl ?_
  refine zs_aload_n C dX12_readsAct_10 rfl ?_
  refine zs_ldcwS C (i := 7) rfl rfl dX12_readsAct_11 ?_
  refine zs_callV C h_X12_takesOf g_X12_takesOf zy_X12_takesOf zp_56 (show vwCl[12]? = some (RX12, TX12, 67) from rfl) zw_1376 zw_1378 zs9_X12_takesOf dX12_readsAct_14 ?_
  refine zs_iastore C zp_77 dX12_readsAct_17 ?_
  refine zs_aload_n C dX12_readsAct_18 rfl ?_
  refine zs_dup C dX12_readsAct_19 ?_
  refine zs_getI C zp_56 zF12 (j := 37) ⟨by decide, rfl⟩ zw_1133 dX12_readsAct_20 ?_
  refine zs_iconst C dX12_readsAct_23 (by decide) ?_
  refine zs_iadd C dX12_readsAct_24 ?_
  refine zs_putI C zp_56 zF12 (j := 37) ⟨by decide, rfl⟩ ⟨rfl, by decide +kernel⟩ zw_1133 dX12_readsAct_25 ?_
  refine zs_aload_n C dX12_readsAct_28 rfl ?_
  refine zs_getR C zp_56 zF12 (j := 33) ⟨by decide, rfl⟩ zw_1129 dX12_readsAct_29 ?_
  refine zs_iload_n C dX12_readsAct_32 rfl ?_
  refine zs_iaload C zp_77 dX12_readsAct_33 ?_
  exact zs_if_ge C dX12_readsAct_34 (by decide) (kX12_readsAct_39 C h_X12_takesOf g_X12_takesOf h_X12_letter g_X12_letter h_X12_number g_X12_number h_X12_takes g_X12_takes hq) (kX12_readsAct_37 C h_X12_takesOf g_X12_takesOf h_X12_letter g_X12_letter h_X12_number g_X12_number h_X12_takes g_X12_takes hq)
theorem mX12_readsAct {d : Nat} {spec : zq_Sp} {d_X12_takesOf : Nat} {s_X12_takesOf : zq_Sp} (h_X12_takesOf : zq_M yX12_takesOf cX12_takesOf 3 (some .int) 1 d_X12_takesOf s_X12_takesOf) (g_X12_takesOf : d_X12_takesOf + 1 ≤ d) {d_X12_letter : Nat} {s_X12_letter : zq_Sp} (h_X12_letter : zq_M yX12_letter cX12_letter 2 (some .int) 1 d_X12_letter s_X12_letter) (g_X12_letter : d_X12_letter + 1 ≤ d) {d_X12_number : Nat} {s_X12_number : zq_Sp} (h_X12_number : zq_M yX12_number cX12_number 4 (some .int) 1 d_X12_number s_X12_number) (g_X12_number : d_X12_number + 1 ≤ d) {d_X12_takes : Nat} {s_X12_takes : zq_Sp} (h_X12_takes : zq_M yX12_takes cX12_takes 3 (some .boolean) 1 d_X12_takes s_X12_takes) (g_X12_takes : d_X12_takes + 1 ≤ d) (v : ∀ args h Q, spec args h Q → (zq_a args).length ≤ 2 ∧ xX12_readsAct_0 s_X12_takesOf s_X12_letter s_X12_number s_X12_takes Q (zq_l0 2 args) [] h) : zq_M yX12_readsAct cX12_readsAct 2 (some .boolean) 1 d spec := by
  refine zq_met (by decide +kernel) (by decide) (fun X Q args h C hq hs => ⟨(v args h Q hs).1, _, ?_, (v args h Q hs).2⟩)
  exact kX12_readsAct_0 C h_X12_takesOf g_X12_takesOf h_X12_letter g_X12_letter h_X12_number g_X12_number h_X12_takes g_X12_takes hq
/-! ToOneCrumbModel.does(I)Z -/
theorem dX12_does_0 : decode cX12_does 0 = .ok (.aload_n 0, 1) := by decide +kernel
theorem dX12_does_1 : decode cX12_does 1 = .ok (.getfield 72, 3) := by decide +kernel
theorem dX12_does_4 : decode cX12_does 4 = .ok (.iload_n 1, 1) := by decide +kernel
theorem dX12_does_5 : decode cX12_does 5 = .ok (.iaload, 1) := by decide +kernel
theorem dX12_does_6 : decode cX12_does 6 = .ok (.ifCond .ne 28, 3) := by decide +kernel
theorem dX12_does_9 : decode cX12_does 9 = .ok (.aload_n 0, 1) := by decide +kernel
theorem dX12_does_10 : decode cX12_does 10 = .ok (.aload_n 0, 1) := by decide +kernel
theorem dX12_does_11 : decode cX12_does 11 = .ok (.getfield 75, 3) := by decide +kernel
theorem dX12_does_14 : decode cX12_does 14 = .ok (.iload_n 1, 1) := by decide +kernel
theorem dX12_does_15 : decode cX12_does 15 = .ok (.iaload, 1) := by decide +kernel
theorem dX12_does_16 : decode cX12_does 16 = .ok (.aload_n 0, 1) := by decide +kernel
theorem dX12_does_17 : decode cX12_does 17 = .ok (.getfield 78, 3) := by decide +kernel
theorem dX12_does_20 : decode cX12_does 20 = .ok (.iload_n 1, 1) := by decide +kernel
theorem dX12_does_21 : decode cX12_does 21 = .ok (.iaload, 1) := by decide +kernel
theorem dX12_does_22 : decode cX12_does 22 = .ok (.aload_n 0, 1) := by decide +kernel
theorem dX12_does_23 : decode cX12_does 23 = .ok (.getfield 81, 3) := by decide +kernel
theorem dX12_does_26 : decode cX12_does 26 = .ok (.iload_n 1, 1) := by decide +kernel
theorem dX12_does_27 : decode cX12_does 27 = .ok (.iaload, 1) := by decide +kernel
theorem dX12_does_28 : decode cX12_does 28 = .ok (.invokevirtual 345, 3) := by decide +kernel
theorem dX12_does_31 : decode cX12_does 31 = .ok (.goto 42, 3) := by decide +kernel
theorem dX12_does_34 : decode cX12_does 34 = .ok (.aload_n 0, 1) := by decide +kernel
theorem dX12_does_35 : decode cX12_does 35 = .ok (.getfield 72, 3) := by decide +kernel
theorem dX12_does_38 : decode cX12_does 38 = .ok (.iload_n 1, 1) := by decide +kernel
theorem dX12_does_39 : decode cX12_does 39 = .ok (.iaload, 1) := by decide +kernel
theorem dX12_does_40 : decode cX12_does 40 = .ok (.iconst 1, 1) := by decide +kernel
theorem dX12_does_41 : decode cX12_does 41 = .ok (.if_icmp .ne 22, 3) := by decide +kernel
theorem dX12_does_44 : decode cX12_does 44 = .ok (.aload_n 0, 1) := by decide +kernel
theorem dX12_does_45 : decode cX12_does 45 = .ok (.aload_n 0, 1) := by decide +kernel
theorem dX12_does_46 : decode cX12_does 46 = .ok (.getfield 78, 3) := by decide +kernel
theorem dX12_does_49 : decode cX12_does 49 = .ok (.iload_n 1, 1) := by decide +kernel
theorem dX12_does_50 : decode cX12_does 50 = .ok (.iaload, 1) := by decide +kernel
theorem dX12_does_51 : decode cX12_does 51 = .ok (.aload_n 0, 1) := by decide +kernel
theorem dX12_does_52 : decode cX12_does 52 = .ok (.getfield 81, 3) := by decide +kernel
theorem dX12_does_55 : decode cX12_does 55 = .ok (.iload_n 1, 1) := by decide +kernel
theorem dX12_does_56 : decode cX12_does 56 = .ok (.iaload, 1) := by decide +kernel
theorem dX12_does_57 : decode cX12_does 57 = .ok (.invokevirtual 351, 3) := by decide +kernel
theorem dX12_does_60 : decode cX12_does 60 = .ok (.goto 13, 3) := by decide +kernel
theorem dX12_does_63 : decode cX12_does 63 = .ok (.aload_n 0, 1) := by decide +kernel
theorem dX12_does_64 : decode cX12_does 64 = .ok (.aload_n 0, 1) := by decide +kernel
theorem dX12_does_65 : decode cX12_does 65 = .ok (.getfield 78, 3) := by decide +kernel
theorem dX12_does_68 : decode cX12_does 68 = .ok (.iload_n 1, 1) := by decide +kernel
theorem dX12_does_69 : decode cX12_does 69 = .ok (.iaload, 1) := by decide +kernel
theorem dX12_does_70 : decode cX12_does 70 = .ok (.invokevirtual 354, 3) := by decide +kernel
theorem dX12_does_73 : decode cX12_does 73 = .ok (.istore_n 2, 1) := by decide +kernel
theorem dX12_does_74 : decode cX12_does 74 = .ok (.iload_n 2, 1) := by decide +kernel
theorem dX12_does_75 : decode cX12_does 75 = .ok (.ifCond .lt 7, 3) := by decide +kernel
theorem dX12_does_78 : decode cX12_does 78 = .ok (.iconst 1, 1) := by decide +kernel
theorem dX12_does_79 : decode cX12_does 79 = .ok (.goto 4, 3) := by decide +kernel
theorem dX12_does_82 : decode cX12_does 82 = .ok (.iconst 0, 1) := by decide +kernel
theorem dX12_does_83 : decode cX12_does 83 = .ok (.ireturn, 1) := by decide +kernel
def xX12_does_83 (s_X12_gives : zq_Sp) (s_X12_backs : zq_Sp) (s_X12_eats : zq_Sp) (Q : zq_Q) (ls : zq_L) (st : List Value) (h : zq_H) : Prop := (zi_zret Q) ls st h
theorem kX12_does_83 {X : zq_X} {d : Nat} (C : zq_C X cX12_does 3 RX12 d) {d_X12_gives : Nat} {s_X12_gives : zq_Sp} (h_X12_gives : zq_M yX12_gives cX12_gives 6 (some .int) 1 d_X12_gives s_X12_gives) (g_X12_gives : d_X12_gives + 1 ≤ d) {d_X12_backs : Nat} {s_X12_backs : zq_Sp} (h_X12_backs : zq_M yX12_backs cX12_backs 6 (some .int) 1 d_X12_backs s_X12_backs) (g_X12_backs : d_X12_backs + 1 ≤ d) {d_X12_eats : Nat} {s_X12_eats : zq_Sp} (h_X12_eats : zq_M yX12_eats cX12_eats 2 (some .int) 1 d_X12_eats s_X12_eats) (g_X12_eats : d_X12_eats + 1 ≤ d) {Q : zq_Q} (hq : zq_R X (some .boolean) 1 Q) : zq_ok X 3 83 (xX12_does_83 s_X12_gives s_X12_backs s_X12_eats Q) := by
  exact zs_zret C hq dX12_does_83
def xX12_does_82 (s_X12_gives : zq_Sp) (s_X12_backs : zq_Sp) (s_X12_eats : zq_Sp) (Q : zq_Q) (ls : zq_L) (st : List Value) (h : zq_H) : Prop := (zi_push (.int 0) ((xX12_does_83 s_X12_gives s_X12_backs s_X12_eats Q))) ls st h
theorem kX12_does_82 {X : zq_X} {d : Nat} (C : zq_C X cX12_does 3 RX12 d) {d_X12_gives : Nat} {s_X12_gives : zq_Sp} (h_X12_gives : zq_M yX12_gives cX12_gives 6 (some .int) 1 d_X12_gives s_X12_gives) (g_X12_gives : d_X12_gives + 1 ≤ d) {d_X12_backs : Nat} {s_X12_backs : zq_Sp} (h_X12_backs : zq_M yX12_backs cX12_backs 6 (some .int) 1 d_X12_backs s_X12_backs) (g_X12_backs : d_X12_backs + 1 ≤ d) {d_X12_eats : Nat} {s_X12_eats : zq_Sp} (h_X12_eats : zq_M yX12_eats cX12_eats 2 (some .int) 1 d_X12_eats s_X12_eats) (g_X12_eats : d_X12_eats + 1 ≤ d) {Q : zq_Q} (hq : zq_R X (some .boolean) 1 Q) : zq_ok X 3 82 (xX12_does_82 s_X12_gives s_X12_backs s_X12_eats Q) := by
  refine zs_iconst C dX12_does_82 (by decide) ?_
  exact kX12_does_83 C h_X12_gives g_X12_gives h_X12_backs g_X12_backs h_X12_eats g_X12_eats hq
def xX12_does_78 (s_X12_gives : zq_Sp) (s_X12_backs : zq_Sp) (s_X12_eats : zq_Sp) (Q : zq_Q) (ls : zq_L) (st : List Value) (h : zq_H) : Prop := (zi_push (.int 1) ((xX12_does_83 s_X12_gives s_X12_backs s_X12_eats Q))) ls st h
theorem kX12_does_78 {X : zq_X} {d : Nat} (C : zq_C X cX12_does 3 RX12 d) {d_X12_gives : Nat} {s_X12_gives : zq_Sp} (h_X12_gives : zq_M yX12_gives cX12_gives 6 (some .int) 1 d_X12_gives s_X12_gives) (g_X12_gives : d_X12_gives + 1 ≤ d) {d_X12_backs : Nat} {s_X12_backs : zq_Sp} (h_X12_backs : zq_M yX12_backs cX12_backs 6 (some .int) 1 d_X12_backs s_X12_backs) (g_X12_backs : d_X12_backs + 1 ≤ d) {d_X12_eats : Nat} {s_X12_eats : zq_Sp} (h_X12_eats : zq_M yX12_eats cX12_eats 2 (some .int) 1 d_X12_eats s_X12_eats) (g_X12_eats : d_X12_eats + 1 ≤ d) {Q : zq_Q} (hq : zq_R X (some .boolean) 1 Q) : zq_ok X 3 78 (xX12_does_78 s_X12_gives s_X12_backs s_X12_eats Q) := by
  refine zs_iconst C dX12_does_78 (by decide) ?_
  exact zs_goto C dX12_does_79 (by decide) (kX12_does_83 C h_X12_gives g_X12_gives h_X12_backs g_X12_backs h_X12_eats g_X12_eats hq)
def xX12_does_73 (s_X12_gives : zq_Sp) (s_X12_backs : zq_Sp) (s_X12_eats : zq_Sp) (Q : zq_Q) (ls : zq_L) (st : List Value) (h : zq_H) : Prop := (zi_istore 2 (zi_iload 2 (zi_if1 (fun x => x < 0) (xX12_does_82 s_X12_gives s_X12_backs s_X12_eats Q) (xX12_does_78 s_X12_gives s_X12_backs s_X12_eats Q)))) ls st h
theorem kX12_does_73 {X : zq_X} {d : Nat} (C : zq_C X cX12_does 3 RX12 d) {d_X12_gives : Nat} {s_X12_gives : zq_Sp} (h_X12_gives : zq_M yX12_gives cX12_gives 6 (some .int) 1 d_X12_gives s_X12_gives) (g_X12_gives : d_X12_gives + 1 ≤ d) {d_X12_backs : Nat} {s_X12_backs : zq_Sp} (h_X12_backs : zq_M yX12_backs cX12_backs 6 (some .int) 1 d_X12_backs s_X12_backs) (g_X12_backs : d_X12_backs + 1 ≤ d) {d_X12_eats : Nat} {s_X12_eats : zq_Sp} (h_X12_eats : zq_M yX12_eats cX12_eats 2 (some .int) 1 d_X12_eats s_X12_eats) (g_X12_eats : d_X12_eats + 1 ≤ d) {Q : zq_Q} (hq : zq_R X (some .boolean) 1 Q) : zq_ok X 3 73 (xX12_does_73 s_X12_gives s_X12_backs s_X12_eats Q) := by
  refine zs_istore_n C dX12_does_73 rfl (by decide) ?_
  refine zs_iload_n C dX12_does_74 rfl ?_
  exact zs_if_lt C dX12_does_75 (by decide) (kX12_does_82 C h_X12_gives g_X12_gives h_X12_backs g_X12_backs h_X12_eats g_X12_eats hq) (kX12_does_78 C h_X12_gives g_X12_gives h_X12_backs g_X12_backs h_X12_eats g_X12_eats hq)
def xX12_does_63 (s_X12_gives : zq_Sp) (s_X12_backs : zq_Sp) (s_X12_eats : zq_Sp) (Q : zq_Q) (ls : zq_L) (st : List Value) (h : zq_H) : Prop := (zi_aload 0 (zi_aload 0 (zi_getR 56 79 (zi_iload 1 (zi_aldI 79 60 (zi_callV 1 56 s_X12_eats ((xX12_does_73 s_X12_gives s_X12_backs s_X12_eats Q)))))))) ls st h
theorem kX12_does_63 {X : zq_X} {d : Nat} (C : zq_C X cX12_does 3 RX12 d) {d_X12_gives : Nat} {s_X12_gives : zq_Sp} (h_X12_gives : zq_M yX12_gives cX12_gives 6 (some .int) 1 d_X12_gives s_X12_gives) (g_X12_gives : d_X12_gives + 1 ≤ d) {d_X12_backs : Nat} {s_X12_backs : zq_Sp} (h_X12_backs : zq_M yX12_backs cX12_backs 6 (some .int) 1 d_X12_backs s_X12_backs) (g_X12_backs : d_X12_backs + 1 ≤ d) {d_X12_eats : Nat} {s_X12_eats : zq_Sp} (h_X12_eats : zq_M yX12_eats cX12_eats 2 (some .int) 1 d_X12_eats s_X12_eats) (g_X12_eats : d_X12_eats + 1 ≤ d) {Q : zq_Q} (hq : zq_R X (some .boolean) 1 Q) : zq_ok X 3 63 (xX12_does_63 s_X12_gives s_X12_backs s_X12_eats Q) := by
  refine zs_aload_n C dX12_does_63 rfl ?_
  refine zs_aload_n C dX12_does_64 rfl ?_
  refine zs_getR C zp_56 zF12 (j := 35) ⟨by decide, rfl⟩ zw_1131 dX12_does_65 ?_
  refine zs_iload_n C dX12_does_68 rfl ?_
  refine zs_iaload C zp_79 dX12_does_69 ?_
  refine zs_callV C h_X12_eats g_X12_eats zy_X12_eats zp_56 (show vwCl[12]? = some (RX12, TX12, 67) from rfl) zw_1557 zw_1559 zs9_X12_eats dX12_does_70 ?_
  exact kX12_does_73 C h_X12_gives g_X12_gives h_X12_backs g_X12_backs h_X12_eats g_X12_eats hq
def xX12_does_44 (s_X12_gives : zq_Sp) (s_X12_backs : zq_Sp) (s_X12_eats : zq_Sp) (Q : zq_Q) (ls : zq_L) (st : List Value) (h : zq_H) : Prop := (zi_aload 0 (zi_aload 0 (zi_getR 56 79 (zi_iload 1 (zi_aldI 79 60 (zi_aload 0 (zi_getR 56 80 (zi_iload 1 (zi_aldI 80 60 (zi_callV 2 56 s_X12_backs ((xX12_does_73 s_X12_gives s_X12_backs s_X12_eats Q)))))))))))) ls st h
theorem kX12_does_44 {X : zq_X} {d : Nat} (C : zq_C X cX12_does 3 RX12 d) {d_X12_gives : Nat} {s_X12_gives : zq_Sp} (h_X12_gives : zq_M yX12_gives cX12_gives 6 (some .int) 1 d_X12_gives s_X12_gives) (g_X12_gives : d_X12_gives + 1 ≤ d) {d_X12_backs : Nat} {s_X12_backs : zq_Sp} (h_X12_backs : zq_M yX12_backs cX12_backs 6 (some .int) 1 d_X12_backs s_X12_backs) (g_X12_backs : d_X12_backs + 1 ≤ d) {d_X12_eats : Nat} {s_X12_eats : zq_Sp} (h_X12_eats : zq_M yX12_eats cX12_eats 2 (some .int) 1 d_X12_eats s_X12_eats) (g_X12_eats : d_X12_eats + 1 ≤ d) {Q : zq_Q} (hq : zq_R X (some .boolean) 1 Q) : zq_ok X 3 44 (xX12_does_44 s_X12_gives s_X12_backs s_X12_eats Q) := by
  refine zs_aload_n C dX12_does_44 rfl ?_
  refine zs_aload_n C dX12_does_45 rfl ?_
  refine zs_getR C zp_56 zF12 (j := 35) ⟨by decide, rfl⟩ zw_1131 dX12_does_46 ?_
  refine zs_iload_n C dX12_does_49 rfl ?_
  refine zs_iaload C zp_79 dX12_does_50 ?_
  refine zs_aload_n C dX12_does_51 rfl ?_
  refine zs_getR C zp_56 zF12 (j := 36) ⟨by decide, rfl⟩ zw_1132 dX12_does_52 ?_
  refine zs_iload_n C dX12_does_55 rfl ?_
  refine zs_iaload C zp_80 dX12_does_56 ?_
  refine zs_callV C h_X12_backs g_X12_backs zy_X12_backs zp_56 (show vwCl[12]? = some (RX12, TX12, 67) from rfl) zw_1549 zw_1551 zs9_X12_backs dX12_does_57 ?_
  exact zs_goto C dX12_does_60 (by decide) (kX12_does_73 C h_X12_gives g_X12_gives h_X12_backs g_X12_backs h_X12_eats g_X12_eats hq)
def xX12_does_34 (s_X12_gives : zq_Sp) (s_X12_backs : zq_Sp) (s_X12_eats : zq_Sp) (Q : zq_Q) (ls : zq_L) (st : List Value) (h : zq_H) : Prop := (zi_aload 0 (zi_getR 56 77 (zi_iload 1 (zi_aldI 77 60 (zi_push (.int 1) (zi_if2 (fun x y => x = y) (xX12_does_44 s_X12_gives s_X12_backs s_X12_eats Q) (xX12_does_63 s_X12_gives s_X12_backs s_X12_eats Q))))))) ls st h
theorem kX12_does_34 {X : zq_X} {d : Nat} (C : zq_C X cX12_does 3 RX12 d) {d_X12_gives : Nat} {s_X12_gives : zq_Sp} (h_X12_gives : zq_M yX12_gives cX12_gives 6 (some .int) 1 d_X12_gives s_X12_gives) (g_X12_gives : d_X12_gives + 1 ≤ d) {d_X12_backs : Nat} {s_X12_backs : zq_Sp} (h_X12_backs : zq_M yX12_backs cX12_backs 6 (some .int) 1 d_X12_backs s_X12_backs) (g_X12_backs : d_X12_backs + 1 ≤ d) {d_X12_eats : Nat} {s_X12_eats : zq_Sp} (h_X12_eats : zq_M yX12_eats cX12_eats 2 (some .int) 1 d_X12_eats s_X12_eats) (g_X12_eats : d_X12_eats + 1 ≤ d) {Q : zq_Q} (hq : zq_R X (some .boolean) 1 Q) : zq_ok X 3 34 (xX12_does_34 s_X12_gives s_X12_backs s_X12_eats Q) := by
  refine zs_aload_n C dX12_does_34 rfl ?_
  refine zs_getR C zp_56 zF12 (j := 33) ⟨by decide, rfl⟩ zw_1129 dX12_does_35 ?_
  refine zs_iload_n C dX12_does_38 rfl ?_
  refine zs_iaload C zp_77 dX12_does_39 ?_
  refine zs_iconst C dX12_does_40 (by decide) ?_
  exact zs_icmp_ne C dX12_does_41 (by decide) (kX12_does_63 C h_X12_gives g_X12_gives h_X12_backs g_X12_backs h_X12_eats g_X12_eats hq) (kX12_does_44 C h_X12_gives g_X12_gives h_X12_backs g_X12_backs h_X12_eats g_X12_eats hq)
def xX12_does_9 (s_X12_gives : zq_Sp) (s_X12_backs : zq_Sp) (s_X12_eats : zq_Sp) (Q : zq_Q) (ls : zq_L) (st : List Value) (h : zq_H) : Prop := (zi_aload 0 (zi_aload 0 (zi_getR 56 78 (zi_iload 1 (zi_aldI 78 60 (zi_aload 0 (zi_getR 56 79 (zi_iload 1 (zi_aldI 79 60 (zi_aload 0 (zi_getR 56 80 (zi_iload 1 (zi_aldI 80 60 (zi_callV 3 56 s_X12_gives ((xX12_does_73 s_X12_gives s_X12_backs s_X12_eats Q)))))))))))))))) ls st h
theorem kX12_does_9 {X : zq_X} {d : Nat} (C : zq_C X cX12_does 3 RX12 d) {d_X12_gives : Nat} {s_X12_gives : zq_Sp} (h_X12_gives : zq_M yX12_gives cX12_gives 6 (some .int) 1 d_X12_gives s_X12_gives) (g_X12_gives : d_X12_gives + 1 ≤ d) {d_X12_backs : Nat} {s_X12_backs : zq_Sp} (h_X12_backs : zq_M yX12_backs cX12_backs 6 (some .int) 1 d_X12_backs s_X12_backs) (g_X12_backs : d_X12_backs + 1 ≤ d) {d_X12_eats : Nat} {s_X12_eats : zq_Sp} (h_X12_eats : zq_M yX12_eats cX12_eats 2 (some .int) 1 d_X12_eats s_X12_eats) (g_X12_eats : d_X12_eats + 1 ≤ d) {Q : zq_Q} (hq : zq_R X (some .boolean) 1 Q) : zq_ok X 3 9 (xX12_does_9 s_X12_gives s_X12_backs s_X12_eats Q) := by
  refine zs_aload_n C dX12_does_9 rfl ?_
  refine zs_aload_n C dX12_does_10 rfl ?_
  refine zs_getR C zp_56 zF12 (j := 34) ⟨by decide, rfl⟩ zw_1130 dX12_does_11 ?_
  refine zs_iload_n C dX12_does_14 rfl ?_
  refine zs_iaload C zp_78 dX12_does_15 ?_
  refine zs_aload_n C dX12_does_16 rfl ?_
  refine zs_getR C zp_56 zF12 (j := 35) ⟨by decide, rfl⟩ zw_1131 dX12_does_17 ?_
  refine zs_iload_n C dX12_does_20 rfl ?_
  refine zs_iaload C zp_79 dX12_does_21 ?_
  refine zs_aload_n C dX12_does_22 rfl ?_
  refine zs_getR C zp_56 zF12 (j := 36) ⟨by decide, rfl⟩ zw_1132 dX12_does_23 ?_
  refine zs_iload_n C dX12_does_26 rfl ?_
  refine zs_iaload C zp_80 dX12_does_27 ?_
  refine zs_callV C h_X12_gives g_X12_gives zy_X12_gives zp_56 (show vwCl[12]? = some (RX12, TX12, 67) from rfl) zw_1529 zw_1531 zs9_X12_gives dX12_does_28 ?_
  exact zs_goto C dX12_does_31 (by decide) (kX12_does_73 C h_X12_gives g_X12_gives h_X12_backs g_X12_backs h_X12_eats g_X12_eats hq)
def xX12_does_0 (s_X12_gives : zq_Sp) (s_X12_backs : zq_Sp) (s_X12_eats : zq_Sp) (Q : zq_Q) (ls : zq_L) (st : List Value) (h : zq_H) : Prop := (zi_aload 0 (zi_getR 56 77 (zi_iload 1 (zi_aldI 77 60 (zi_if1 (fun x => x = 0) (xX12_does_9 s_X12_gives s_X12_backs s_X12_eats Q) (xX12_does_34 s_X12_gives s_X12_backs s_X12_eats Q)))))) ls st h
theorem kX12_does_0 {X : zq_X} {d : Nat} (C : zq_C X cX12_does 3 RX12 d) {d_X12_gives : Nat} {s_X12_gives : zq_Sp} (h_X12_gives : zq_M yX12_gives cX12_gives 6 (some .int) 1 d_X12_gives s_X12_gives) (g_X12_gives : d_X12_gives + 1 ≤ d) {d_X12_backs : Nat} {s_X12_backs : zq_Sp} (h_X12_backs : zq_M yX12_backs cX12_backs 6 (some .int) 1 d_X12_backs s_X12_backs) (g_X12_backs : d_X12_backs + 1 ≤ d) {d_X12_eats : Nat} {s_X12_eats : zq_Sp} (h_X12_eats : zq_M yX12_eats cX12_eats 2 (some .int) 1 d_X12_eats s_X12_eats) (g_X12_eats : d_X12_eats + 1 ≤ d) {Q : zq_Q} (hq : zq_R X (some .boolean) 1 Q) : zq_ok X 3 0 (xX12_does_0 s_X12_gives s_X12_backs s_X12_eats Q) := by
  refine zs_aload_n C dX12_does_0 rfl ?_
  refine zs_getR C zp_56 zF12 (j := 33) ⟨by decide, rfl⟩ zw_1129 dX12_does_1 ?_
  refine zs_iload_n C dX12_does_4 rfl ?_
  refine zs_iaload C zp_77 dX12_does_5 ?_
  exact zs_if_ne C dX12_does_6 (by decide) (kX12_does_34 C h_X12_gives g_X12_gives h_X12_backs g_X12_backs h_X12_eats g_X12_eats hq) (kX12_does_9 C h_X12_gives g_X12_gives h_X12_backs g_X12_backs h_X12_eats g_X12_eats hq)
theorem mX12_does {d : Nat} {spec : zq_Sp} {d_X12_gives : Nat} {s_X12_gives : zq_Sp} (h_X12_gives : zq_M yX12_gives cX12_gives 6 (some .int) 1 d_X12_gives s_X12_gives) (g_X12_gives : d_X12_gives + 1 ≤ d) {d_X12_backs : Nat} {s_X12_backs : zq_Sp} (h_X12_backs : zq_M yX12_backs cX12_backs 6 (some .int) 1 d_X12_backs s_X12_backs) (g_X12_backs : d_X12_backs + 1 ≤ d) {d_X12_eats : Nat} {s_X12_eats : zq_Sp} (h_X12_eats : zq_M yX12_eats cX12_eats 2 (some .int) 1 d_X12_eats s_X12_eats) (g_X12_eats : d_X12_eats + 1 ≤ d) (v : ∀ args h Q, spec args h Q → (zq_a args).length ≤ 3 ∧ xX12_does_0 s_X12_gives s_X12_backs s_X12_eats Q (zq_l0 3 args) [] h) : zq_M yX12_does cX12_does 3 (some .boolean) 1 d spec := by
  refine zq_met (by decide +kernel) (by decide) (fun X Q args h C hq hs => ⟨(v args h Q hs).1, _, ?_, (v args h Q hs).2⟩)
  exact kX12_does_0 C h_X12_gives g_X12_gives h_X12_backs g_X12_backs h_X12_eats g_X12_eats hq
/-! ToOneCrumbModel.supper()I -/
theorem dX12_supper_0 : decode cX12_supper 0 = .ok (.aload_n 0, 1) := by decide +kernel
theorem dX12_supper_1 : decode cX12_supper 1 = .ok (.iconst 0, 1) := by decide +kernel
theorem dX12_supper_2 : decode cX12_supper 2 = .ok (.putfield 147, 3) := by decide +kernel
theorem dX12_supper_5 : decode cX12_supper 5 = .ok (.aload_n 0, 1) := by decide +kernel
theorem dX12_supper_6 : decode cX12_supper 6 = .ok (.bipush 60, 2) := by decide +kernel
theorem dX12_supper_8 : decode cX12_supper 8 = .ok (.invokevirtual 218, 3) := by decide +kernel
theorem dX12_supper_11 : decode cX12_supper 11 = .ok (.istore_n 1, 1) := by decide +kernel
theorem dX12_supper_12 : decode cX12_supper 12 = .ok (.aload_n 0, 1) := by decide +kernel
theorem dX12_supper_13 : decode cX12_supper 13 = .ok (.iconst 0, 1) := by decide +kernel
theorem dX12_supper_14 : decode cX12_supper 14 = .ok (.putfield 357, 3) := by decide +kernel
theorem dX12_supper_17 : decode cX12_supper 17 = .ok (.iconst 1, 1) := by decide +kernel
theorem dX12_supper_18 : decode cX12_supper 18 = .ok (.istore_n 2, 1) := by decide +kernel
theorem dX12_supper_19 : decode cX12_supper 19 = .ok (.iload_n 1, 1) := by decide +kernel
theorem dX12_supper_20 : decode cX12_supper 20 = .ok (.ifCond .le 7, 3) := by decide +kernel
theorem dX12_supper_23 : decode cX12_supper 23 = .ok (.iconst 1, 1) := by decide +kernel
theorem dX12_supper_24 : decode cX12_supper 24 = .ok (.goto 4, 3) := by decide +kernel
theorem dX12_supper_27 : decode cX12_supper 27 = .ok (.iconst 0, 1) := by decide +kernel
theorem dX12_supper_28 : decode cX12_supper 28 = .ok (.istore_n 3, 1) := by decide +kernel
theorem dX12_supper_29 : decode cX12_supper 29 = .ok (.iload_n 3, 1) := by decide +kernel
theorem dX12_supper_30 : decode cX12_supper 30 = .ok (.ifCond .eq 30, 3) := by decide +kernel
theorem dX12_supper_33 : decode cX12_supper 33 = .ok (.aload_n 0, 1) := by decide +kernel
theorem dX12_supper_34 : decode cX12_supper 34 = .ok (.invokevirtual 362, 3) := by decide +kernel
theorem dX12_supper_37 : decode cX12_supper 37 = .ok (.istore_n 2, 1) := by decide +kernel
theorem dX12_supper_38 : decode cX12_supper 38 = .ok (.iload_n 2, 1) := by decide +kernel
theorem dX12_supper_39 : decode cX12_supper 39 = .ok (.ifCond .eq 16, 3) := by decide +kernel
theorem dX12_supper_42 : decode cX12_supper 42 = .ok (.aload_n 0, 1) := by decide +kernel
theorem dX12_supper_43 : decode cX12_supper 43 = .ok (.bipush 59, 2) := by decide +kernel
theorem dX12_supper_45 : decode cX12_supper 45 = .ok (.invokevirtual 229, 3) := by decide +kernel
theorem dX12_supper_48 : decode cX12_supper 48 = .ok (.ifCond .eq 7, 3) := by decide +kernel
theorem dX12_supper_51 : decode cX12_supper 51 = .ok (.iconst 1, 1) := by decide +kernel
theorem dX12_supper_52 : decode cX12_supper 52 = .ok (.goto 4, 3) := by decide +kernel
theorem dX12_supper_55 : decode cX12_supper 55 = .ok (.iconst 0, 1) := by decide +kernel
theorem dX12_supper_56 : decode cX12_supper 56 = .ok (.istore_n 3, 1) := by decide +kernel
theorem dX12_supper_57 : decode cX12_supper 57 = .ok (.goto (-28), 3) := by decide +kernel
theorem dX12_supper_60 : decode cX12_supper 60 = .ok (.aload_n 0, 1) := by decide +kernel
theorem dX12_supper_61 : decode cX12_supper 61 = .ok (.iload_n 1, 1) := by decide +kernel
theorem dX12_supper_62 : decode cX12_supper 62 = .ok (.bipush 60, 2) := by decide +kernel
theorem dX12_supper_64 : decode cX12_supper 64 = .ok (.iload_n 2, 1) := by decide +kernel
theorem dX12_supper_65 : decode cX12_supper 65 = .ok (.invokevirtual 232, 3) := by decide +kernel
theorem dX12_supper_68 : decode cX12_supper 68 = .ok (.istore 4, 2) := by decide +kernel
theorem dX12_supper_70 : decode cX12_supper 70 = .ok (.iload 4, 2) := by decide +kernel
theorem dX12_supper_72 : decode cX12_supper 72 = .ok (.ifCond .ge 6, 3) := by decide +kernel
theorem dX12_supper_75 : decode cX12_supper 75 = .ok (.iload 4, 2) := by decide +kernel
theorem dX12_supper_77 : decode cX12_supper 77 = .ok (.ireturn, 1) := by decide +kernel
theorem dX12_supper_78 : decode cX12_supper 78 = .ok (.aload_n 0, 1) := by decide +kernel
theorem dX12_supper_79 : decode cX12_supper 79 = .ok (.invokevirtual 342, 3) := by decide +kernel
theorem dX12_supper_82 : decode cX12_supper 82 = .ok (.iconst 0, 1) := by decide +kernel
theorem dX12_supper_83 : decode cX12_supper 83 = .ok (.istore 5, 2) := by decide +kernel
theorem dX12_supper_85 : decode cX12_supper 85 = .ok (.iload 5, 2) := by decide +kernel
theorem dX12_supper_87 : decode cX12_supper 87 = .ok (.aload_n 0, 1) := by decide +kernel
theorem dX12_supper_88 : decode cX12_supper 88 = .ok (.getfield 357, 3) := by decide +kernel
theorem dX12_supper_91 : decode cX12_supper 91 = .ok (.if_icmp .ge 18, 3) := by decide +kernel
theorem dX12_supper_94 : decode cX12_supper 94 = .ok (.aload_n 0, 1) := by decide +kernel
theorem dX12_supper_95 : decode cX12_supper 95 = .ok (.iload 5, 2) := by decide +kernel
theorem dX12_supper_97 : decode cX12_supper 97 = .ok (.invokevirtual 365, 3) := by decide +kernel
theorem dX12_supper_100 : decode cX12_supper 100 = .ok (.ifCond .eq 9, 3) := by decide +kernel
theorem dX12_supper_103 : decode cX12_supper 103 = .ok (.iinc 5 1, 3) := by decide +kernel
theorem dX12_supper_106 : decode cX12_supper 106 = .ok (.goto (-21), 3) := by decide +kernel
theorem dX12_supper_109 : decode cX12_supper 109 = .ok (.aload_n 0, 1) := by decide +kernel
theorem dX12_supper_110 : decode cX12_supper 110 = .ok (.iconst 0, 1) := by decide +kernel
theorem dX12_supper_111 : decode cX12_supper 111 = .ok (.putfield 155, 3) := by decide +kernel
theorem dX12_supper_114 : decode cX12_supper 114 = .ok (.aload_n 0, 1) := by decide +kernel
theorem dX12_supper_115 : decode cX12_supper 115 = .ok (.iload 5, 2) := by decide +kernel
theorem dX12_supper_117 : decode cX12_supper 117 = .ok (.aload_n 0, 1) := by decide +kernel
theorem dX12_supper_118 : decode cX12_supper 118 = .ok (.getfield 357, 3) := by decide +kernel
theorem dX12_supper_121 : decode cX12_supper 121 = .ok (.if_icmp .ge 7, 3) := by decide +kernel
theorem dX12_supper_124 : decode cX12_supper 124 = .ok (.iconst 1, 1) := by decide +kernel
theorem dX12_supper_125 : decode cX12_supper 125 = .ok (.goto 4, 3) := by decide +kernel
theorem dX12_supper_128 : decode cX12_supper 128 = .ok (.iconst 0, 1) := by decide +kernel
theorem dX12_supper_129 : decode cX12_supper 129 = .ok (.invokestatic 190, 3) := by decide +kernel
theorem dX12_supper_132 : decode cX12_supper 132 = .ok (.i2l, 1) := by decide +kernel
theorem dX12_supper_133 : decode cX12_supper 133 = .ok (.invokevirtual 368, 3) := by decide +kernel
theorem dX12_supper_136 : decode cX12_supper 136 = .ok (.aload_n 0, 1) := by decide +kernel
theorem dX12_supper_137 : decode cX12_supper 137 = .ok (.aload_n 0, 1) := by decide +kernel
theorem dX12_supper_138 : decode cX12_supper 138 = .ok (.iconst (-1), 1) := by decide +kernel
theorem dX12_supper_139 : decode cX12_supper 139 = .ok (.invokevirtual 321, 3) := by decide +kernel
theorem dX12_supper_142 : decode cX12_supper 142 = .ok (.i2l, 1) := by decide +kernel
theorem dX12_supper_143 : decode cX12_supper 143 = .ok (.invokevirtual 368, 3) := by decide +kernel
theorem dX12_supper_146 : decode cX12_supper 146 = .ok (.iload 5, 2) := by decide +kernel
theorem dX12_supper_148 : decode cX12_supper 148 = .ok (.ifCond .le 12, 3) := by decide +kernel
theorem dX12_supper_151 : decode cX12_supper 151 = .ok (.aload_n 0, 1) := by decide +kernel
theorem dX12_supper_152 : decode cX12_supper 152 = .ok (.iload 5, 2) := by decide +kernel
theorem dX12_supper_154 : decode cX12_supper 154 = .ok (.invokevirtual 335, 3) := by decide +kernel
theorem dX12_supper_157 : decode cX12_supper 157 = .ok (.goto 4, 3) := by decide +kernel
theorem dX12_supper_160 : decode cX12_supper 160 = .ok (.iconst 0, 1) := by decide +kernel
theorem dX12_supper_161 : decode cX12_supper 161 = .ok (.ireturn, 1) := by decide +kernel
def xX12_supper_161 (s_X12_begins : zq_Sp) (s_X12_readsAct : zq_Sp) (s_X12_takes : zq_Sp) (s_X12_faultOf : zq_Sp) (s_X12_putsBy : zq_Sp) (s_X12_does : zq_Sp) (s_X12_flag : zq_Sp) (s_X12_enters : zq_Sp) (s_X12_holds : zq_Sp) (s_X12_adds : zq_Sp) (J29 : zq_P) (J85 : zq_P) (Q : zq_Q) (ls : zq_L) (st : List Value) (h : zq_H) : Prop := (zi_iret Q) ls st h
theorem kX12_supper_161 {X : zq_X} {d : Nat} (C : zq_C X cX12_supper 6 RX12 d) {d_X12_begins : Nat} {s_X12_begins : zq_Sp} (h_X12_begins : zq_M yX12_begins cX12_begins 3 (some .int) 1 d_X12_begins s_X12_begins) (g_X12_begins : d_X12_begins + 1 ≤ d) {d_X12_readsAct : Nat} {s_X12_readsAct : zq_Sp} (h_X12_readsAct : zq_M yX12_readsAct cX12_readsAct 2 (some .boolean) 1 d_X12_readsAct s_X12_readsAct) (g_X12_readsAct : d_X12_readsAct + 1 ≤ d) {d_X12_takes : Nat} {s_X12_takes : zq_Sp} (h_X12_takes : zq_M yX12_takes cX12_takes 3 (some .boolean) 1 d_X12_takes s_X12_takes) (g_X12_takes : d_X12_takes + 1 ≤ d) {d_X12_faultOf : Nat} {s_X12_faultOf : zq_Sp} (h_X12_faultOf : zq_M yX12_faultOf cX12_faultOf 5 (some .int) 1 d_X12_faultOf s_X12_faultOf) (g_X12_faultOf : d_X12_faultOf + 1 ≤ d) {d_X12_putsBy : Nat} {s_X12_putsBy : zq_Sp} (h_X12_putsBy : zq_M yX12_putsBy cX12_putsBy 2 none 0 d_X12_putsBy s_X12_putsBy) (g_X12_putsBy : d_X12_putsBy + 1 ≤ d) {d_X12_does : Nat} {s_X12_does : zq_Sp} (h_X12_does : zq_M yX12_does cX12_does 3 (some .boolean) 1 d_X12_does s_X12_does) (g_X12_does : d_X12_does + 1 ≤ d) {d_X12_flag : Nat} {s_X12_flag : zq_Sp} (h_X12_flag : zq_M yX12_flag cX12_flag 1 (some .int) 1 d_X12_flag s_X12_flag) (g_X12_flag : d_X12_flag + 1 ≤ d) {d_X12_enters : Nat} {s_X12_enters : zq_Sp} (h_X12_enters : zq_M yX12_enters cX12_enters 3 none 0 d_X12_enters s_X12_enters) (g_X12_enters : d_X12_enters + 1 ≤ d) {d_X12_holds : Nat} {s_X12_holds : zq_Sp} (h_X12_holds : zq_M yX12_holds cX12_holds 4 (some .int) 1 d_X12_holds s_X12_holds) (g_X12_holds : d_X12_holds + 1 ≤ d) {d_X12_adds : Nat} {s_X12_adds : zq_Sp} (h_X12_adds : zq_M yX12_adds cX12_adds 3 (some .int) 1 d_X12_adds s_X12_adds) (g_X12_adds : d_X12_adds + 1 ≤ d) {J29 : zq_P} (j29 : zq_ok X 6 29 J29) {J85 : zq_P} (j85 : zq_ok X 6 85 J85) {Q : zq_Q} (hq : zq_R X (some .int) 1 Q) : zq_ok X 6 161 (xX12_supper_161 s_X12_begins s_X12_readsAct s_X12_takes s_X12_faultOf s_X12_putsBy s_X12_does s_X12_flag s_X12_enters s_X12_holds s_X12_adds J29 J85 Q) := by
  exact zs_iret C hq dX12_supper_161
def xX12_supper_160 (s_X12_begins : zq_Sp) (s_X12_readsAct : zq_Sp) (s_X12_takes : zq_Sp) (s_X12_faultOf : zq_Sp) (s_X12_putsBy : zq_Sp) (s_X12_does : zq_Sp) (s_X12_flag : zq_Sp) (s_X12_enters : zq_Sp) (s_X12_holds : zq_Sp) (s_X12_adds : zq_Sp) (J29 : zq_P) (J85 : zq_P) (Q : zq_Q) (ls : zq_L) (st : List Value) (h : zq_H) : Prop := (zi_push (.int 0) ((xX12_supper_161 s_X12_begins s_X12_readsAct s_X12_takes s_X12_faultOf s_X12_putsBy s_X12_does s_X12_flag s_X12_enters s_X12_holds s_X12_adds J29 J85 Q))) ls st h
theorem kX12_supper_160 {X : zq_X} {d : Nat} (C : zq_C X cX12_supper 6 RX12 d) {d_X12_begins : Nat} {s_X12_begins : zq_Sp} (h_X12_begins : zq_M yX12_begins cX12_begins 3 (some .int) 1 d_X12_begins s_X12_begins) (g_X12_begins : d_X12_begins + 1 ≤ d) {d_X12_readsAct : Nat} {s_X12_readsAct : zq_Sp} (h_X12_readsAct : zq_M yX12_readsAct cX12_readsAct 2 (some .boolean) 1 d_X12_readsAct s_X12_readsAct) (g_X12_readsAct : d_X12_readsAct + 1 ≤ d) {d_X12_takes : Nat} {s_X12_takes : zq_Sp} (h_X12_takes : zq_M yX12_takes cX12_takes 3 (some .boolean) 1 d_X12_takes s_X12_takes) (g_X12_takes : d_X12_takes + 1 ≤ d) {d_X12_faultOf : Nat} {s_X12_faultOf : zq_Sp} (h_X12_faultOf : zq_M yX12_faultOf cX12_faultOf 5 (some .int) 1 d_X12_faultOf s_X12_faultOf) (g_X12_faultOf : d_X12_faultOf + 1 ≤ d) {d_X12_putsBy : Nat} {s_X12_putsBy : zq_Sp} (h_X12_putsBy : zq_M yX12_putsBy cX12_putsBy 2 none 0 d_X12_putsBy s_X12_putsBy) (g_X12_putsBy : d_X12_putsBy + 1 ≤ d) {d_X12_does : Nat} {s_X12_does : zq_Sp} (h_X12_does : zq_M yX12_does cX12_does 3 (some .boolean) 1 d_X12_does s_X12_does) (g_X12_does : d_X12_does + 1 ≤ d) {d_X12_flag : Nat} {s_X12_flag : zq_Sp} (h_X12_flag : zq_M yX12_flag cX12_flag 1 (some .int) 1 d_X12_flag s_X12_flag) (g_X12_flag : d_X12_flag + 1 ≤ d) {d_X12_enters : Nat} {s_X12_enters : zq_Sp} (h_X12_enters : zq_M yX12_enters cX12_enters 3 none 0 d_X12_enters s_X12_enters) (g_X12_enters : d_X12_enters + 1 ≤ d) {d_X12_holds : Nat} {s_X12_holds : zq_Sp} (h_X12_holds : zq_M yX12_holds cX12_holds 4 (some .int) 1 d_X12_holds s_X12_holds) (g_X12_holds : d_X12_holds + 1 ≤ d) {d_X12_adds : Nat} {s_X12_adds : zq_Sp} (h_X12_adds : zq_M yX12_adds cX12_adds 3 (some .int) 1 d_X12_adds s_X12_adds) (g_X12_adds : d_X12_adds + 1 ≤ d) {J29 : zq_P} (j29 : zq_ok X 6 29 J29) {J85 : zq_P} (j85 : zq_ok X 6 85 J85) {Q : zq_Q} (hq : zq_R X (some .int) 1 Q) : zq_ok X 6 160 (xX12_supper_160 s_X12_begins s_X12_readsAct s_X12_takes s_X12_faultOf s_X12_putsBy s_X12_does s_X12_flag s_X12_enters s_X12_holds s_X12_adds J29 J85 Q) := by
  refine zs_iconst C dX12_supper_160 (by decide) ?_
  exact kX12_supper_161 C h_X12_begins g_X12_begins h_X12_readsAct g_X12_readsAct h_X12_takes g_X12_takes h_X12_faultOf g_X12_faultOf h_X12_putsBy g_X12_putsBy h_X12_does g_X12_does h_X12_flag g_X12_flag h_X12_enters g_X12_enters h_X12_holds g_X12_holds h_X12_adds g_X12_adds j29 j85 hq
def xX12_supper_151 (s_X12_begins : zq_Sp) (s_X12_readsAct : zq_Sp) (s_X12_takes : zq_Sp) (s_X12_faultOf : zq_Sp) (s_X12_putsBy : zq_Sp) (s_X12_does : zq_Sp) (s_X12_flag : zq_Sp) (s_X12_enters : zq_Sp) (s_X12_holds : zq_Sp) (s_X12_adds : zq_Sp) (J29 : zq_P) (J85 : zq_P) (Q : zq_Q) (ls : zq_L) (st : List Value) (h : zq_H) : Prop := (zi_aload 0 (zi_iload 5 (zi_callV 1 56 s_X12_adds ((xX12_supper_161 s_X12_begins s_X12_readsAct s_X12_takes s_X12_faultOf s_X12_putsBy s_X12_does s_X12_flag s_X12_enters s_X12_holds s_X12_adds J29 J85 Q))))) ls st h
theorem kX12_supper_151 {X : zq_X} {d : Nat} (C : zq_C X cX12_supper 6 RX12 d) {d_X12_begins : Nat} {s_X12_begins : zq_Sp} (h_X12_begins : zq_M yX12_begins cX12_begins 3 (some .int) 1 d_X12_begins s_X12_begins) (g_X12_begins : d_X12_begins + 1 ≤ d) {d_X12_readsAct : Nat} {s_X12_readsAct : zq_Sp} (h_X12_readsAct : zq_M yX12_readsAct cX12_readsAct 2 (some .boolean) 1 d_X12_readsAct s_X12_readsAct) (g_X12_readsAct : d_X12_readsAct + 1 ≤ d) {d_X12_takes : Nat} {s_X12_takes : zq_Sp} (h_X12_takes : zq_M yX12_takes cX12_takes 3 (some .boolean) 1 d_X12_takes s_X12_takes) (g_X12_takes : d_X12_takes + 1 ≤ d) {d_X12_faultOf : Nat} {s_X12_faultOf : zq_Sp} (h_X12_faultOf : zq_M yX12_faultOf cX12_faultOf 5 (some .int) 1 d_X12_faultOf s_X12_faultOf) (g_X12_faultOf : d_X12_faultOf + 1 ≤ d) {d_X12_putsBy : Nat} {s_X12_putsBy : zq_Sp} (h_X12_putsBy : zq_M yX12_putsBy cX12_putsBy 2 none 0 d_X12_putsBy s_X12_putsBy) (g_X12_putsBy : d_X12_putsBy + 1 ≤ d) {d_X12_does : Nat} {s_X12_does : zq_Sp} (h_X12_does : zq_M yX12_does cX12_does 3 (some .boolean) 1 d_X12_does s_X12_does) (g_X12_does : d_X12_does + 1 ≤ d) {d_X12_flag : Nat} {s_X12_flag : zq_Sp} (h_X12_flag : zq_M yX12_flag cX12_flag 1 (some .int) 1 d_X12_flag s_X12_flag) (g_X12_flag : d_X12_flag + 1 ≤ d) {d_X12_enters : Nat} {s_X12_enters : zq_Sp} (h_X12_enters : zq_M yX12_enters cX12_enters 3 none 0 d_X12_enters s_X12_enters) (g_X12_enters : d_X12_enters + 1 ≤ d) {d_X12_holds : Nat} {s_X12_holds : zq_Sp} (h_X12_holds : zq_M yX12_holds cX12_holds 4 (some .int) 1 d_X12_holds s_X12_holds) (g_X12_holds : d_X12_holds + 1 ≤ d) {d_X12_adds : Nat} {s_X12_adds : zq_Sp} (h_X12_adds : zq_M yX12_adds cX12_adds 3 (some .int) 1 d_X12_adds s_X12_adds) (g_X12_adds : d_X12_adds + 1 ≤ d) {J29 : zq_P} (j29 : zq_ok X 6 29 J29) {J85 : zq_P} (j85 : zq_ok X 6 85 J85) {Q : zq_Q} (hq : zq_R X (some .int) 1 Q) : zq_ok X 6 151 (xX12_supper_151 s_X12_begins s_X12_readsAct s_X12_takes s_X12_faultOf s_X12_putsBy s_X12_does s_X12_flag s_X12_enters s_X12_holds s_X12_adds J29 J85 Q) := by
  refine zs_aload_n C dX12_supper_151 rfl ?_
  refine zs_iload C dX12_supper_152 ?_
  refine zs_callV C h_X12_adds g_X12_adds zy_X12_adds zp_56 (show vwCl[12]? = some (RX12, TX12, 67) from rfl) zw_1541 zw_1543 zs9_X12_adds dX12_supper_154 ?_
  exact zs_goto C dX12_supper_157 (by decide) (kX12_supper_161 C h_X12_begins g_X12_begins h_X12_readsAct g_X12_readsAct h_X12_takes g_X12_takes h_X12_faultOf g_X12_faultOf h_X12_putsBy g_X12_putsBy h_X12_does g_X12_does h_X12_flag g_X12_flag h_X12_enters g_X12_enters h_X12_holds g_X12_holds h_X12_adds g_X12_adds j29 j85 hq)
def xX12_supper_129 (s_X12_begins : zq_Sp) (s_X12_readsAct : zq_Sp) (s_X12_takes : zq_Sp) (s_X12_faultOf : zq_Sp) (s_X12_putsBy : zq_Sp) (s_X12_does : zq_Sp) (s_X12_flag : zq_Sp) (s_X12_enters : zq_Sp) (s_X12_holds : zq_Sp) (s_X12_adds : zq_Sp) (J29 : zq_P) (J85 : zq_P) (Q : zq_Q) (ls : zq_L) (st : List Value) (h : zq_H) : Prop := (zi_callS 1 s_X12_flag (zi_i2l (zi_callV 1 56 s_X12_enters (zi_aload 0 (zi_aload 0 (zi_push (.int (-1)) (zi_callV 1 56 s_X12_holds (zi_i2l (zi_callV 1 56 s_X12_enters (zi_iload 5 (zi_if1 (fun x => x ≤ 0) (xX12_supper_160 s_X12_begins s_X12_readsAct s_X12_takes s_X12_faultOf s_X12_putsBy s_X12_does s_X12_flag s_X12_enters s_X12_holds s_X12_adds J29 J85 Q) (xX12_supper_151 s_X12_begins s_X12_readsAct s_X12_takes s_X12_faultOf s_X12_putsBy s_X12_does s_X12_flag s_X12_enters s_X12_holds s_X12_adds J29 J85 Q)))))))))))) ls st h
theorem kX12_supper_129 {X : zq_X} {d : Nat} (C : zq_C X cX12_supper 6 RX12 d) {d_X12_begins : Nat} {s_X12_begins : zq_Sp} (h_X12_begins : zq_M yX12_begins cX12_begins 3 (some .int) 1 d_X12_begins s_X12_begins) (g_X12_begins : d_X12_begins + 1 ≤ d) {d_X12_readsAct : Nat} {s_X12_readsAct : zq_Sp} (h_X12_readsAct : zq_M yX12_readsAct cX12_readsAct 2 (some .boolean) 1 d_X12_readsAct s_X12_readsAct) (g_X12_readsAct : d_X12_readsAct + 1 ≤ d) {d_X12_takes : Nat} {s_X12_takes : zq_Sp} (h_X12_takes : zq_M yX12_takes cX12_takes 3 (some .boolean) 1 d_X12_takes s_X12_takes) (g_X12_takes : d_X12_takes + 1 ≤ d) {d_X12_faultOf : Nat} {s_X12_faultOf : zq_Sp} (h_X12_faultOf : zq_M yX12_faultOf cX12_faultOf 5 (some .int) 1 d_X12_faultOf s_X12_faultOf) (g_X12_faultOf : d_X12_faultOf + 1 ≤ d) {d_X12_putsBy : Nat} {s_X12_putsBy : zq_Sp} (h_X12_putsBy : zq_M yX12_putsBy cX12_putsBy 2 none 0 d_X12_putsBy s_X12_putsBy) (g_X12_putsBy : d_X12_putsBy + 1 ≤ d) {d_X12_does : Nat} {s_X12_does : zq_Sp} (h_X12_does : zq_M yX12_does cX12_does 3 (some .boolean) 1 d_X12_does s_X12_does) (g_X12_does : d_X12_does + 1 ≤ d) {d_X12_flag : Nat} {s_X12_flag : zq_Sp} (h_X12_flag : zq_M yX12_flag cX12_flag 1 (some .int) 1 d_X12_flag s_X12_flag) (g_X12_flag : d_X12_flag + 1 ≤ d) {d_X12_enters : Nat} {s_X12_enters : zq_Sp} (h_X12_enters : zq_M yX12_enters cX12_enters 3 none 0 d_X12_enters s_X12_enters) (g_X12_enters : d_X12_enters + 1 ≤ d) {d_X12_holds : Nat} {s_X12_holds : zq_Sp} (h_X12_holds : zq_M yX12_holds cX12_holds 4 (some .int) 1 d_X12_holds s_X12_holds) (g_X12_holds : d_X12_holds + 1 ≤ d) {d_X12_adds : Nat} {s_X12_adds : zq_Sp} (h_X12_adds : zq_M yX12_adds cX12_adds 3 (some .int) 1 d_X12_adds s_X12_adds) (g_X12_adds : d_X12_adds + 1 ≤ d) {J29 : zq_P} (j29 : zq_ok X 6 29 J29) {J85 : zq_P} (j85 : zq_ok X 6 85 J85) {Q : zq_Q} (hq : zq_R X (some .int) 1 Q) : zq_ok X 6 129 (xX12_supper_129 s_X12_begins s_X12_readsAct s_X12_takes s_X12_faultOf s_X12_putsBy s_X12_does s_X12_flag s_X12_enters s_X12_holds s_X12_adds J29 J85 Q) := by
  refine zs_callS C h_X12_flag g_X12_flag zy_X12_flag zw_1380 zw_1381 dX12_supper_129 ?_
  refine zs_i2l C dX12_supper_132 ?_
  refine zs_callV C h_X12_enters g_X12_enters zy_X12_enters zp_56 (show vwCl[12]? = some (RX12, TX12, 67) from rfl) zw_1574 zw_1576 zs9_X12_enters dX12_supper_133 ?_
  refine zs_aload_n C dX12_supper_136 rfl ?_
  refine zs_aload_n C dX12_supper_137 rfl ?_
  refine zs_iconst C dX12_supper_138 (by decide) ?_
  refine zs_callV C h_X12_holds g_X12_holds zy_X12_holds zp_56 (show vwCl[12]? = some (RX12, TX12, 67) from rfl) zw_1490 zw_1492 zs9_X12_holds dX12_supper_139 ?_
  refine zs_i2l C dX12_supper_142 ?_
  refine zs_callV C h_X12_enters g_X12_enters zy_X12_enters zp_56 (show vwCl[12]? = some (RX12, TX12, 67) from rfl) zw_1574 zw_1576 zs9_X12_enters dX12_supper_143 ?_
  refine zs_iload C dX12_supper_146 ?_
  exact zs_if_le C dX12_supper_148 (by decide) (kX12_supper_160 C h_X12_begins g_X12_begins h_X12_readsAct g_X12_readsAct h_X12_takes g_X12_takes h_X12_faultOf g_X12_faultOf h_X12_putsBy g_X12_putsBy h_X12_does g_X12_does h_X12_flag g_X12_flag h_X12_enters g_X12_enters h_X12_holds g_X12_holds h_X12_adds g_X12_adds j29 j85 hq) (kX12_supper_151 C h_X12_begins g_X12_begins h_X12_readsAct g_X12_readsAct h_X12_takes g_X12_takes h_X12_faultOf g_X12_faultOf h_X12_putsBy g_X12_putsBy h_X12_does g_X12_does h_X12_flag g_X12_flag h_X12_enters g_X12_enters h_X12_holds g_X12_holds h_X12_adds g_X12_adds j29 j85 hq)
def xX12_supper_128 (s_X12_begins : zq_Sp) (s_X12_readsAct : zq_Sp) (s_X12_takes : zq_Sp) (s_X12_faultOf : zq_Sp) (s_X12_putsBy : zq_Sp) (s_X12_does : zq_Sp) (s_X12_flag : zq_Sp) (s_X12_enters : zq_Sp) (s_X12_holds : zq_Sp) (s_X12_adds : zq_Sp) (J29 : zq_P) (J85 : zq_P) (Q : zq_Q) (ls : zq_L) (st : List Value) (h : zq_H) : Prop := (zi_push (.int 0) ((xX12_supper_129 s_X12_begins s_X12_readsAct s_X12_takes s_X12_faultOf s_X12_putsBy s_X12_does s_X12_flag s_X12_enters s_X12_holds s_X12_adds J29 J85 Q))) ls st h
theorem kX12_supper_128 {X : zq_X} {d : Nat} (C : zq_C X cX12_supper 6 RX12 d) {d_X12_begins : Nat} {s_X12_begins : zq_Sp} (h_X12_begins : zq_M yX12_begins cX12_begins 3 (some .int) 1 d_X12_begins s_X12_begins) (g_X12_begins : d_X12_begins + 1 ≤ d) {d_X12_readsAct : Nat} {s_X12_readsAct : zq_Sp} (h_X12_readsAct : zq_M yX12_readsAct cX12_readsAct 2 (some .boolean) 1 d_X12_readsAct s_X12_readsAct) (g_X12_readsAct : d_X12_readsAct + 1 ≤ d) {d_X12_takes : Nat} {s_X12_takes : zq_Sp} (h_X12_takes : zq_M yX12_takes cX12_takes 3 (some .boolean) 1 d_X12_takes s_X12_takes) (g_X12_takes : d_X12_takes + 1 ≤ d) {d_X12_faultOf : Nat} {s_X12_faultOf : zq_Sp} (h_X12_faultOf : zq_M yX12_faultOf cX12_faultOf 5 (some .int) 1 d_X12_faultOf s_X12_faultOf) (g_X12_faultOf : d_X12_faultOf + 1 ≤ d) {d_X12_putsBy : Nat} {s_X12_putsBy : zq_Sp} (h_X12_putsBy : zq_M yX12_putsBy cX12_putsBy 2 none 0 d_X12_putsBy s_X12_putsBy) (g_X12_putsBy : d_X12_putsBy + 1 ≤ d) {d_X12_does : Nat} {s_X12_does : zq_Sp} (h_X12_does : zq_M yX12_does cX12_does 3 (some .boolean) 1 d_X12_does s_X12_does) (g_X12_does : d_X12_does + 1 ≤ d) {d_X12_flag : Nat} {s_X12_flag : zq_Sp} (h_X12_flag : zq_M yX12_flag cX12_flag 1 (some .int) 1 d_X12_flag s_X12_flag) (g_X12_flag : d_X12_flag + 1 ≤ d) {d_X12_enters : Nat} {s_X12_enters : zq_Sp} (h_X12_enters : zq_M yX12_enters cX12_enters 3 none 0 d_X12_enters s_X12_enters) (g_X12_enters : d_X12_enters + 1 ≤ d) {d_X12_holds : Nat} {s_X12_holds : zq_Sp} (h_X12_holds : zq_M yX12_holds cX12_holds 4 (some .int) 1 d_X12_holds s_X12_holds) (g_X12_holds : d_X12_holds + 1 ≤ d) {d_X12_adds : Nat} {s_X12_adds : zq_Sp} (h_X12_adds : zq_M yX12_adds cX12_adds 3 (some .int) 1 d_X12_adds s_X12_adds) (g_X12_adds : d_X12_adds + 1 ≤ d) {J29 : zq_P} (j29 : zq_ok X 6 29 J29) {J85 : zq_P} (j85 : zq_ok X 6 85 J85) {Q : zq_Q} (hq : zq_R X (some .int) 1 Q) : zq_ok X 6 128 (xX12_supper_128 s_X12_begins s_X12_readsAct s_X12_takes s_X12_faultOf s_X12_putsBy s_X12_does s_X12_flag s_X12_enters s_X12_holds s_X12_adds J29 J85 Q) := by
  refine zs_iconst C dX12_supper_128 (by decide) ?_
  exact kX12_supper_129 C h_X12_begins g_X12_begins h_X12_readsAct g_X12_readsAct h_X12_takes g_X12_takes h_X12_faultOf g_X12_faultOf h_X12_putsBy g_X12_putsBy h_X12_does g_X12_does h_X12_flag g_X12_flag h_X12_enters g_X12_enters h_X12_holds g_X12_holds h_X12_adds g_X12_adds j29 j85 hq
def xX12_supper_124 (s_X12_begins : zq_Sp) (s_X12_readsAct : zq_Sp) (s_X12_takes : zq_Sp) (s_X12_faultOf : zq_Sp) (s_X12_putsBy : zq_Sp) (s_X12_does : zq_Sp) (s_X12_flag : zq_Sp) (s_X12_enters : zq_Sp) (s_X12_holds : zq_Sp) (s_X12_adds : zq_Sp) (J29 : zq_P) (J85 : zq_P) (Q : zq_Q) (ls : zq_L) (st : List Value) (h : zq_H) : Prop := (zi_push (.int 1) ((xX12_supper_129 s_X12_begins s_X12_readsAct s_X12_takes s_X12_faultOf s_X12_putsBy s_X12_does s_X12_flag s_X12_enters s_X12_holds s_X12_adds J29 J85 Q))) ls st h
theorem kX12_supper_124 {X : zq_X} {d : Nat} (C : zq_C X cX12_supper 6 RX12 d) {d_X12_begins : Nat} {s_X12_begins : zq_Sp} (h_X12_begins : zq_M yX12_begins cX12_begins 3 (some .int) 1 d_X12_begins s_X12_begins) (g_X12_begins : d_X12_begins + 1 ≤ d) {d_X12_readsAct : Nat} {s_X12_readsAct : zq_Sp} (h_X12_readsAct : zq_M yX12_readsAct cX12_readsAct 2 (some .boolean) 1 d_X12_readsAct s_X12_readsAct) (g_X12_readsAct : d_X12_readsAct + 1 ≤ d) {d_X12_takes : Nat} {s_X12_takes : zq_Sp} (h_X12_takes : zq_M yX12_takes cX12_takes 3 (some .boolean) 1 d_X12_takes s_X12_takes) (g_X12_takes : d_X12_takes + 1 ≤ d) {d_X12_faultOf : Nat} {s_X12_faultOf : zq_Sp} (h_X12_faultOf : zq_M yX12_faultOf cX12_faultOf 5 (some .int) 1 d_X12_faultOf s_X12_faultOf) (g_X12_faultOf : d_X12_faultOf + 1 ≤ d) {d_X12_putsBy : Nat} {s_X12_putsBy : zq_Sp} (h_X12_putsBy : zq_M yX12_putsBy cX12_putsBy 2 none 0 d_X12_putsBy s_X12_putsBy) (g_X12_putsBy : d_X12_putsBy + 1 ≤ d) {d_X12_does : Nat} {s_X12_does : zq_Sp} (h_X12_does : zq_M yX12_does cX12_does 3 (some .boolean) 1 d_X12_does s_X12_does) (g_X12_does : d_X12_does + 1 ≤ d) {d_X12_flag : Nat} {s_X12_flag : zq_Sp} (h_X12_flag : zq_M yX12_flag cX12_flag 1 (some .int) 1 d_X12_flag s_X12_flag) (g_X12_flag : d_X12_flag + 1 ≤ d) {d_X12_enters : Nat} {s_X12_enters : zq_Sp} (h_X12_enters : zq_M yX12_enters cX12_enters 3 none 0 d_X12_enters s_X12_enters) (g_X12_enters : d_X12_enters + 1 ≤ d) {d_X12_holds : Nat} {s_X12_holds : zq_Sp} (h_X12_holds : zq_M yX12_holds cX12_holds 4 (some .int) 1 d_X12_holds s_X12_holds) (g_X12_holds : d_X12_holds + 1 ≤ d) {d_X12_adds : Nat} {s_X12_adds : zq_Sp} (h_X12_adds : zq_M yX12_adds cX12_adds 3 (some .int) 1 d_X12_adds s_X12_adds) (g_X12_adds : d_X12_adds + 1 ≤ d) {J29 : zq_P} (j29 : zq_ok X 6 29 J29) {J85 : zq_P} (j85 : zq_ok X 6 85 J85) {Q : zq_Q} (hq : zq_R X (some .int) 1 Q) : zq_ok X 6 124 (xX12_supper_124 s_X12_begins s_X12_readsAct s_X12_takes s_X12_faultOf s_X12_putsBy s_X12_does s_X12_flag s_X12_enters s_X12_holds s_X12_adds J29 J85 Q) := by
  refine zs_iconst C dX12_supper_124 (by decide) ?_
  exact zs_goto C dX12_supper_125 (by decide) (kX12_supper_129 C h_X12_begins g_X12_begins h_X12_readsAct g_X12_readsAct h_X12_takes g_X12_takes h_X12_faultOf g_X12_faultOf h_X12_putsBy g_X12_putsBy h_X12_does g_X12_does h_X12_flag g_X12_flag h_X12_enters g_X12_enters h_X12_holds g_X12_holds h_X12_adds g_X12_adds j29 j85 hq)
def xX12_supper_109 (s_X12_begins : zq_Sp) (s_X12_readsAct : zq_Sp) (s_X12_takes : zq_Sp) (s_X12_faultOf : zq_Sp) (s_X12_putsBy : zq_Sp) (s_X12_does : zq_Sp) (s_X12_flag : zq_Sp) (s_X12_enters : zq_Sp) (s_X12_holds : zq_Sp) (s_X12_adds : zq_Sp) (J29 : zq_P) (J85 : zq_P) (Q : zq_Q) (ls : zq_L) (st : List Value) (h : zq_H) : Prop := (zi_aload 0 (zi_push (.int 0) (zi_putI 56 1 (zi_aload 0 (zi_iload 5 (zi_aload 0 (zi_getI 56 37 (zi_if2 (fun x y => y ≤ x) (xX12_supper_128 s_X12_begins s_X12_readsAct s_X12_takes s_X12_faultOf s_X12_putsBy s_X12_does s_X12_flag s_X12_enters s_X12_holds s_X12_adds J29 J85 Q) (xX12_supper_124 s_X12_begins s_X12_readsAct s_X12_takes s_X12_faultOf s_X12_putsBy s_X12_does s_X12_flag s_X12_enters s_X12_holds s_X12_adds J29 J85 Q))))))))) ls st h
theorem kX12_supper_109 {X : zq_X} {d : Nat} (C : zq_C X cX12_supper 6 RX12 d) {d_X12_begins : Nat} {s_X12_begins : zq_Sp} (h_X12_begins : zq_M yX12_begins cX12_begins 3 (some .int) 1 d_X12_begins s_X12_begins) (g_X12_begins : d_X12_begins + 1 ≤ d) {d_X12_readsAct : Nat} {s_X12_readsAct : zq_Sp} (h_X12_readsAct : zq_M yX12_readsAct cX12_readsAct 2 (some .boolean) 1 d_X12_readsAct s_X12_readsAct) (g_X12_readsAct : d_X12_readsAct + 1 ≤ d) {d_X12_takes : Nat} {s_X12_takes : zq_Sp} (h_X12_takes : zq_M yX12_takes cX12_takes 3 (some .boolean) 1 d_X12_takes s_X12_takes) (g_X12_takes : d_X12_takes + 1 ≤ d) {d_X12_faultOf : Nat} {s_X12_faultOf : zq_Sp} (h_X12_faultOf : zq_M yX12_faultOf cX12_faultOf 5 (some .int) 1 d_X12_faultOf s_X12_faultOf) (g_X12_faultOf : d_X12_faultOf + 1 ≤ d) {d_X12_putsBy : Nat} {s_X12_putsBy : zq_Sp} (h_X12_putsBy : zq_M yX12_putsBy cX12_putsBy 2 none 0 d_X12_putsBy s_X12_putsBy) (g_X12_putsBy : d_X12_putsBy + 1 ≤ d) {d_X12_does : Nat} {s_X12_does : zq_Sp} (h_X12_does : zq_M yX12_does cX12_does 3 (some .boolean) 1 d_X12_does s_X12_does) (g_X12_does : d_X12_does + 1 ≤ d) {d_X12_flag : Nat} {s_X12_flag : zq_Sp} (h_X12_flag : zq_M yX12_flag cX12_flag 1 (some .int) 1 d_X12_flag s_X12_flag) (g_X12_flag : d_X12_flag + 1 ≤ d) {d_X12_enters : Nat} {s_X12_enters : zq_Sp} (h_X12_enters : zq_M yX12_enters cX12_enters 3 none 0 d_X12_enters s_X12_enters) (g_X12_enters : d_X12_enters + 1 ≤ d) {d_X12_holds : Nat} {s_X12_holds : zq_Sp} (h_X12_holds : zq_M yX12_holds cX12_holds 4 (some .int) 1 d_X12_holds s_X12_holds) (g_X12_holds : d_X12_holds + 1 ≤ d) {d_X12_adds : Nat} {s_X12_adds : zq_Sp} (h_X12_adds : zq_M yX12_adds cX12_adds 3 (some .int) 1 d_X12_adds s_X12_adds) (g_X12_adds : d_X12_adds + 1 ≤ d) {J29 : zq_P} (j29 : zq_ok X 6 29 J29) {J85 : zq_P} (j85 : zq_ok X 6 85 J85) {Q : zq_Q} (hq : zq_R X (some .int) 1 Q) : zq_ok X 6 109 (xX12_supper_109 s_X12_begins s_X12_readsAct s_X12_takes s_X12_faultOf s_X12_putsBy s_X12_does s_X12_flag s_X12_enters s_X12_holds s_X12_adds J29 J85 Q) := by
  refine zs_aload_n C dX12_supper_109 rfl ?_
  refine zs_iconst C dX12_supper_110 (by decide) ?_
  refine zs_putI C zp_56 zF12 (j := 1) ⟨by decide, rfl⟩ ⟨rfl, by decide +kernel⟩ zw_1097 dX12_supper_111 ?_
  refine zs_aload_n C dX12_supper_114 rfl ?_
  refine zs_iload C dX12_supper_115 ?_
  refine zs_aload_n C dX12_supper_117 rfl ?_
  refine zs_getI C zp_56 zF12 (j := 37) ⟨by decide, rfl⟩ zw_1133 dX12_supper_118 ?_
  exact zs_icmp_ge C dX12_supper_121 (by decide) (kX12_supper_128 C h_X12_begins g_X12_begins h_X12_readsAct g_X12_readsAct h_X12_takes g_X12_takes h_X12_faultOf g_X12_faultOf h_X12_putsBy g_X12_putsBy h_X12_does g_X12_does h_X12_flag g_X12_flag h_X12_enters g_X12_enters h_X12_holds g_X12_holds h_X12_adds g_X12_adds j29 j85 hq) (kX12_supper_124 C h_X12_begins g_X12_begins h_X12_readsAct g_X12_readsAct h_X12_takes g_X12_takes h_X12_faultOf g_X12_faultOf h_X12_putsBy g_X12_putsBy h_X12_does g_X12_does h_X12_flag g_X12_flag h_X12_enters g_X12_enters h_X12_holds g_X12_holds h_X12_adds g_X12_adds j29 j85 hq)
def xX12_supper_103 (s_X12_begins : zq_Sp) (s_X12_readsAct : zq_Sp) (s_X12_takes : zq_Sp) (s_X12_faultOf : zq_Sp) (s_X12_putsBy : zq_Sp) (s_X12_does : zq_Sp) (s_X12_flag : zq_Sp) (s_X12_enters : zq_Sp) (s_X12_holds : zq_Sp) (s_X12_adds : zq_Sp) (J29 : zq_P) (J85 : zq_P) (Q : zq_Q) (ls : zq_L) (st : List Value) (h : zq_H) : Prop := (zi_iinc 5 1 (J85)) ls st h
theorem kX12_supper_103 {X : zq_X} {d : Nat} (C : zq_C X cX12_supper 6 RX12 d) {d_X12_begins : Nat} {s_X12_begins : zq_Sp} (h_X12_begins : zq_M yX12_begins cX12_begins 3 (some .int) 1 d_X12_begins s_X12_begins) (g_X12_begins : d_X12_begins + 1 ≤ d) {d_X12_readsAct : Nat} {s_X12_readsAct : zq_Sp} (h_X12_readsAct : zq_M yX12_readsAct cX12_readsAct 2 (some .boolean) 1 d_X12_readsAct s_X12_readsAct) (g_X12_readsAct : d_X12_readsAct + 1 ≤ d) {d_X12_takes : Nat} {s_X12_takes : zq_Sp} (h_X12_takes : zq_M yX12_takes cX12_takes 3 (some .boolean) 1 d_X12_takes s_X12_takes) (g_X12_takes : d_X12_takes + 1 ≤ d) {d_X12_faultOf : Nat} {s_X12_faultOf : zq_Sp} (h_X12_faultOf : zq_M yX12_faultOf cX12_faultOf 5 (some .int) 1 d_X12_faultOf s_X12_faultOf) (g_X12_faultOf : d_X12_faultOf + 1 ≤ d) {d_X12_putsBy : Nat} {s_X12_putsBy : zq_Sp} (h_X12_putsBy : zq_M yX12_putsBy cX12_putsBy 2 none 0 d_X12_putsBy s_X12_putsBy) (g_X12_putsBy : d_X12_putsBy + 1 ≤ d) {d_X12_does : Nat} {s_X12_does : zq_Sp} (h_X12_does : zq_M yX12_does cX12_does 3 (some .boolean) 1 d_X12_does s_X12_does) (g_X12_does : d_X12_does + 1 ≤ d) {d_X12_flag : Nat} {s_X12_flag : zq_Sp} (h_X12_flag : zq_M yX12_flag cX12_flag 1 (some .int) 1 d_X12_flag s_X12_flag) (g_X12_flag : d_X12_flag + 1 ≤ d) {d_X12_enters : Nat} {s_X12_enters : zq_Sp} (h_X12_enters : zq_M yX12_enters cX12_enters 3 none 0 d_X12_enters s_X12_enters) (g_X12_enters : d_X12_enters + 1 ≤ d) {d_X12_holds : Nat} {s_X12_holds : zq_Sp} (h_X12_holds : zq_M yX12_holds cX12_holds 4 (some .int) 1 d_X12_holds s_X12_holds) (g_X12_holds : d_X12_holds + 1 ≤ d) {d_X12_adds : Nat} {s_X12_adds : zq_Sp} (h_X12_adds : zq_M yX12_adds cX12_adds 3 (some .int) 1 d_X12_adds s_X12_adds) (g_X12_adds : d_X12_adds + 1 ≤ d) {J29 : zq_P} (j29 : zq_ok X 6 29 J29) {J85 : zq_P} (j85 : zq_ok X 6 85 J85) {Q : zq_Q} (hq : zq_R X (some .int) 1 Q) : zq_ok X 6 103 (xX12_supper_103 s_X12_begins s_X12_readsAct s_X12_takes s_X12_faultOf s_X12_putsBy s_X12_does s_X12_flag s_X12_enters s_X12_holds s_X12_adds J29 J85 Q) := by
  refine zs_iinc C dX12_supper_103 (by decide) (by decide) ?_
  exact zs_goto C dX12_supper_106 (by decide) (j85)
def xX12_supper_94 (s_X12_begins : zq_Sp) (s_X12_readsAct : zq_Sp) (s_X12_takes : zq_Sp) (s_X12_faultOf : zq_Sp) (s_X12_putsBy : zq_Sp) (s_X12_does : zq_Sp) (s_X12_flag : zq_Sp) (s_X12_enters : zq_Sp) (s_X12_holds : zq_Sp) (s_X12_adds : zq_Sp) (J29 : zq_P) (J85 : zq_P) (Q : zq_Q) (ls : zq_L) (st : List Value) (h : zq_H) : Prop := (zi_aload 0 (zi_iload 5 (zi_callV 1 56 s_X12_does (zi_if1 (fun x => x = 0) (xX12_supper_109 s_X12_begins s_X12_readsAct s_X12_takes s_X12_faultOf s_X12_putsBy s_X12_does s_X12_flag s_X12_enters s_X12_holds s_X12_adds J29 J85 Q) (xX12_supper_103 s_X12_begins s_X12_readsAct s_X12_takes s_X12_faultOf s_X12_putsBy s_X12_does s_X12_flag s_X12_enters s_X12_holds s_X12_adds J29 J85 Q))))) ls st h
theorem kX12_supper_94 {X : zq_X} {d : Nat} (C : zq_C X cX12_supper 6 RX12 d) {d_X12_begins : Nat} {s_X12_begins : zq_Sp} (h_X12_begins : zq_M yX12_begins cX12_begins 3 (some .int) 1 d_X12_begins s_X12_begins) (g_X12_begins : d_X12_begins + 1 ≤ d) {d_X12_readsAct : Nat} {s_X12_readsAct : zq_Sp} (h_X12_readsAct : zq_M yX12_readsAct cX12_readsAct 2 (some .boolean) 1 d_X12_readsAct s_X12_readsAct) (g_X12_readsAct : d_X12_readsAct + 1 ≤ d) {d_X12_takes : Nat} {s_X12_takes : zq_Sp} (h_X12_takes : zq_M yX12_takes cX12_takes 3 (some .boolean) 1 d_X12_takes s_X12_takes) (g_X12_takes : d_X12_takes + 1 ≤ d) {d_X12_faultOf : Nat} {s_X12_faultOf : zq_Sp} (h_X12_faultOf : zq_M yX12_faultOf cX12_faultOf 5 (some .int) 1 d_X12_faultOf s_X12_faultOf) (g_X12_faultOf : d_X12_faultOf + 1 ≤ d) {d_X12_putsBy : Nat} {s_X12_putsBy : zq_Sp} (h_X12_putsBy : zq_M yX12_putsBy cX12_putsBy 2 none 0 d_X12_putsBy s_X12_putsBy) (g_X12_putsBy : d_X12_putsBy + 1 ≤ d) {d_X12_does : Nat} {s_X12_does : zq_Sp} (h_X12_does : zq_M yX12_does cX12_does 3 (some .boolean) 1 d_X12_does s_X12_does) (g_X12_does : d_X12_does + 1 ≤ d) {d_X12_flag : Nat} {s_X12_flag : zq_Sp} (h_X12_flag : zq_M yX12_flag cX12_flag 1 (some .int) 1 d_X12_flag s_X12_flag) (g_X12_flag : d_X12_flag + 1 ≤ d) {d_X12_enters : Nat} {s_X12_enters : zq_Sp} (h_X12_enters : zq_M yX12_enters cX12_enters 3 none 0 d_X12_enters s_X12_enters) (g_X12_enters : d_X12_enters + 1 ≤ d) {d_X12_holds : Nat} {s_X12_holds : zq_Sp} (h_X12_holds : zq_M yX12_holds cX12_holds 4 (some .int) 1 d_X12_holds s_X12_holds) (g_X12_holds : d_X12_holds + 1 ≤ d) {d_X12_adds : Nat} {s_X12_adds : zq_Sp} (h_X12_adds : zq_M yX12_adds cX12_adds 3 (some .int) 1 d_X12_adds s_X12_adds) (g_X12_adds : d_X12_adds + 1 ≤ d) {J29 : zq_P} (j29 : zq_ok X 6 29 J29) {J85 : zq_P} (j85 : zq_ok X 6 85 J85) {Q : zq_Q} (hq : zq_R X (some .int) 1 Q) : zq_ok X 6 94 (xX12_supper_94 s_X12_begins s_X12_readsAct s_X12_takes s_X12_faultOf s_X12_putsBy s_X12_does s_X12_flag s_X12_enters s_X12_holds s_X12_adds J29 J85 Q) := by
  refine zs_aload_n C dX12_supper_94 rfl ?_
  refine zs_iload C dX12_supper_95 ?_
  refine zs_callV C h_X12_does g_X12_does zy_X12_does zp_56 (show vwCl[12]? = some (RX12, TX12, 67) from rfl) zw_1570 zw_1572 zs9_X12_does dX12_supper_97 ?_
  exact zs_if_eq C dX12_supper_100 (by decide) (kX12_supper_109 C h_X12_begins g_X12_begins h_X12_readsAct g_X12_readsAct h_X12_takes g_X12_takes h_X12_faultOf g_X12_faultOf h_X12_putsBy g_X12_putsBy h_X12_does g_X12_does h_X12_flag g_X12_flag h_X12_enters g_X12_enters h_X12_holds g_X12_holds h_X12_adds g_X12_adds j29 j85 hq) (kX12_supper_103 C h_X12_begins g_X12_begins h_X12_readsAct g_X12_readsAct h_X12_takes g_X12_takes h_X12_faultOf g_X12_faultOf h_X12_putsBy g_X12_putsBy h_X12_does g_X12_does h_X12_flag g_X12_flag h_X12_enters g_X12_enters h_X12_holds g_X12_holds h_X12_adds g_X12_adds j29 j85 hq)
def xX12_supper_85 (s_X12_begins : zq_Sp) (s_X12_readsAct : zq_Sp) (s_X12_takes : zq_Sp) (s_X12_faultOf : zq_Sp) (s_X12_putsBy : zq_Sp) (s_X12_does : zq_Sp) (s_X12_flag : zq_Sp) (s_X12_enters : zq_Sp) (s_X12_holds : zq_Sp) (s_X12_adds : zq_Sp) (J29 : zq_P) (J85 : zq_P) (Q : zq_Q) (ls : zq_L) (st : List Value) (h : zq_H) : Prop := (zi_iload 5 (zi_aload 0 (zi_getI 56 37 (zi_if2 (fun x y => y ≤ x) (xX12_supper_109 s_X12_begins s_X12_readsAct s_X12_takes s_X12_faultOf s_X12_putsBy s_X12_does s_X12_flag s_X12_enters s_X12_holds s_X12_adds J29 J85 Q) (xX12_supper_94 s_X12_begins s_X12_readsAct s_X12_takes s_X12_faultOf s_X12_putsBy s_X12_does s_X12_flag s_X12_enters s_X12_holds s_X12_adds J29 J85 Q))))) ls st h
theorem kX12_supper_85 {X : zq_X} {d : Nat} (C : zq_C X cX12_supper 6 RX12 d) {d_X12_begins : Nat} {s_X12_begins : zq_Sp} (h_X12_begins : zq_M yX12_begins cX12_begins 3 (some .int) 1 d_X12_begins s_X12_begins) (g_X12_begins : d_X12_begins + 1 ≤ d) {d_X12_readsAct : Nat} {s_X12_readsAct : zq_Sp} (h_X12_readsAct : zq_M yX12_readsAct cX12_readsAct 2 (some .boolean) 1 d_X12_readsAct s_X12_readsAct) (g_X12_readsAct : d_X12_readsAct + 1 ≤ d) {d_X12_takes : Nat} {s_X12_takes : zq_Sp} (h_X12_takes : zq_M yX12_takes cX12_takes 3 (some .boolean) 1 d_X12_takes s_X12_takes) (g_X12_takes : d_X12_takes + 1 ≤ d) {d_X12_faultOf : Nat} {s_X12_faultOf : zq_Sp} (h_X12_faultOf : zq_M yX12_faultOf cX12_faultOf 5 (some .int) 1 d_X12_faultOf s_X12_faultOf) (g_X12_faultOf : d_X12_faultOf + 1 ≤ d) {d_X12_putsBy : Nat} {s_X12_putsBy : zq_Sp} (h_X12_putsBy : zq_M yX12_putsBy cX12_putsBy 2 none 0 d_X12_putsBy s_X12_putsBy) (g_X12_putsBy : d_X12_putsBy + 1 ≤ d) {d_X12_does : Nat} {s_X12_does : zq_Sp} (h_X12_does : zq_M yX12_does cX12_does 3 (some .boolean) 1 d_X12_does s_X12_does) (g_X12_does : d_X12_does + 1 ≤ d) {d_X12_flag : Nat} {s_X12_flag : zq_Sp} (h_X12_flag : zq_M yX12_flag cX12_flag 1 (some .int) 1 d_X12_flag s_X12_flag) (g_X12_flag : d_X12_flag + 1 ≤ d) {d_X12_enters : Nat} {s_X12_enters : zq_Sp} (h_X12_enters : zq_M yX12_enters cX12_enters 3 none 0 d_X12_enters s_X12_enters) (g_X12_enters : d_X12_enters + 1 ≤ d) {d_X12_holds : Nat} {s_X12_holds : zq_Sp} (h_X12_holds : zq_M yX12_holds cX12_holds 4 (some .int) 1 d_X12_holds s_X12_holds) (g_X12_holds : d_X12_holds + 1 ≤ d) {d_X12_adds : Nat} {s_X12_adds : zq_Sp} (h_X12_adds : zq_M yX12_adds cX12_adds 3 (some .int) 1 d_X12_adds s_X12_adds) (g_X12_adds : d_X12_adds + 1 ≤ d) {J29 : zq_P} (j29 : zq_ok X 6 29 J29) {J85 : zq_P} (j85 : zq_ok X 6 85 J85) {Q : zq_Q} (hq : zq_R X (some .int) 1 Q) : zq_ok X 6 85 (xX12_supper_85 s_X12_begins s_X12_readsAct s_X12_takes s_X12_faultOf s_X12_putsBy s_X12_does s_X12_flag s_X12_enters s_X12_holds s_X12_adds J29 J85 Q) := by
  refine zs_iload C dX12_supper_85 ?_
  refine zs_aload_n C dX12_supper_87 rfl ?_
  refine zs_getI C zp_56 zF12 (j := 37) ⟨by decide, rfl⟩ zw_1133 dX12_supper_88 ?_
  exact zs_icmp_ge C dX12_supper_91 (by decide) (kX12_supper_109 C h_X12_begins g_X12_begins h_X12_readsAct g_X12_readsAct h_X12_takes g_X12_takes h_X12_faultOf g_X12_faultOf h_X12_putsBy g_X12_putsBy h_X12_does g_X12_does h_X12_flag g_X12_flag h_X12_enters g_X12_enters h_X12_holds g_X12_holds h_X12_adds g_X12_adds j29 j85 hq) (kX12_supper_94 C h_X12_begins g_X12_begins h_X12_readsAct g_X12_readsAct h_X12_takes g_X12_takes h_X12_faultOf g_X12_faultOf h_X12_putsBy g_X12_putsBy h_X12_does g_X12_does h_X12_flag g_X12_flag h_X12_enters g_X12_enters h_X12_holds g_X12_holds h_X12_adds g_X12_adds j29 j85 hq)
def xX12_supper_78 (s_X12_begins : zq_Sp) (s_X12_readsAct : zq_Sp) (s_X12_takes : zq_Sp) (s_X12_faultOf : zq_Sp) (s_X12_putsBy : zq_Sp) (s_X12_does : zq_Sp) (s_X12_flag : zq_Sp) (s_X12_enters : zq_Sp) (s_X12_holds : zq_Sp) (s_X12_adds : zq_Sp) (J29 : zq_P) (J85 : zq_P) (Q : zq_Q) (ls : zq_L) (st : List Value) (h : zq_H) : Prop := (zi_aload 0 (zi_callV 0 56 s_X12_putsBy (zi_push (.int 0) (zi_istore 5 (J85))))) ls st h
theorem kX12_supper_78 {X : zq_X} {d : Nat} (C : zq_C X cX12_supper 6 RX12 d) {d_X12_begins : Nat} {s_X12_begins : zq_Sp} (h_X12_begins : zq_M yX12_begins cX12_begins 3 (some .int) 1 d_X12_begins s_X12_begins) (g_X12_begins : d_X12_begins + 1 ≤ d) {d_X12_readsAct : Nat} {s_X12_readsAct : zq_Sp} (h_X12_readsAct : zq_M yX12_readsAct cX12_readsAct 2 (some .boolean) 1 d_X12_readsAct s_X12_readsAct) (g_X12_readsAct : d_X12_readsAct + 1 ≤ d) {d_X12_takes : Nat} {s_X12_takes : zq_Sp} (h_X12_takes : zq_M yX12_takes cX12_takes 3 (some .boolean) 1 d_X12_takes s_X12_takes) (g_X12_takes : d_X12_takes + 1 ≤ d) {d_X12_faultOf : Nat} {s_X12_faultOf : zq_Sp} (h_X12_faultOf : zq_M yX12_faultOf cX12_faultOf 5 (some .int) 1 d_X12_faultOf s_X12_faultOf) (g_X12_faultOf : d_X12_faultOf + 1 ≤ d) {d_X12_putsBy : Nat} {s_X12_putsBy : zq_Sp} (h_X12_putsBy : zq_M yX12_putsBy cX12_putsBy 2 none 0 d_X12_putsBy s_X12_putsBy) (g_X12_putsBy : d_X12_putsBy + 1 ≤ d) {d_X12_does : Nat} {s_X12_does : zq_Sp} (h_X12_does : zq_M yX12_does cX12_does 3 (some .boolean) 1 d_X12_does s_X12_does) (g_X12_does : d_X12_does + 1 ≤ d) {d_X12_flag : Nat} {s_X12_flag : zq_Sp} (h_X12_flag : zq_M yX12_flag cX12_flag 1 (some .int) 1 d_X12_flag s_X12_flag) (g_X12_flag : d_X12_flag + 1 ≤ d) {d_X12_enters : Nat} {s_X12_enters : zq_Sp} (h_X12_enters : zq_M yX12_enters cX12_enters 3 none 0 d_X12_enters s_X12_enters) (g_X12_enters : d_X12_enters + 1 ≤ d) {d_X12_holds : Nat} {s_X12_holds : zq_Sp} (h_X12_holds : zq_M yX12_holds cX12_holds 4 (some .int) 1 d_X12_holds s_X12_holds) (g_X12_holds : d_X12_holds + 1 ≤ d) {d_X12_adds : Nat} {s_X12_adds : zq_Sp} (h_X12_adds : zq_M yX12_adds cX12_adds 3 (some .int) 1 d_X12_adds s_X12_adds) (g_X12_adds : d_X12_adds + 1 ≤ d) {J29 : zq_P} (j29 : zq_ok X 6 29 J29) {J85 : zq_P} (j85 : zq_ok X 6 85 J85) {Q : zq_Q} (hq : zq_R X (some .int) 1 Q) : zq_ok X 6 78 (xX12_supper_78 s_X12_begins s_X12_readsAct s_X12_takes s_X12_faultOf s_X12_putsBy s_X12_does s_X12_flag s_X12_enters s_X12_holds s_X12_adds J29 J85 Q) := by
  refine zs_aload_n C dX12_supper_78 rfl ?_
  refine zs_callV C h_X12_putsBy g_X12_putsBy zy_X12_putsBy zp_56 (show vwCl[12]? = some (RX12, TX12, 67) from rfl) zw_1525 zw_1527 zs9_X12_putsBy dX12_supper_79 ?_
  refine zs_iconst C dX12_supper_82 (by decide) ?_
  refine zs_istore C dX12_supper_83 (by decide) ?_
  exact j85
def xX12_supper_75 (s_X12_begins : zq_Sp) (s_X12_readsAct : zq_Sp) (s_X12_takes : zq_Sp) (s_X12_faultOf : zq_Sp) (s_X12_putsBy : zq_Sp) (s_X12_does : zq_Sp) (s_X12_flag : zq_Sp) (s_X12_enters : zq_Sp) (s_X12_holds : zq_Sp) (s_X12_adds : zq_Sp) (J29 : zq_P) (J85 : zq_P) (Q : zq_Q) (ls : zq_L) (st : List Value) (h : zq_H) : Prop := (zi_iload 4 (zi_iret Q)) ls st h
theorem kX12_supper_75 {X : zq_X} {d : Nat} (C : zq_C X cX12_supper 6 RX12 d) {d_X12_begins : Nat} {s_X12_begins : zq_Sp} (h_X12_begins : zq_M yX12_begins cX12_begins 3 (some .int) 1 d_X12_begins s_X12_begins) (g_X12_begins : d_X12_begins + 1 ≤ d) {d_X12_readsAct : Nat} {s_X12_readsAct : zq_Sp} (h_X12_readsAct : zq_M yX12_readsAct cX12_readsAct 2 (some .boolean) 1 d_X12_readsAct s_X12_readsAct) (g_X12_readsAct : d_X12_readsAct + 1 ≤ d) {d_X12_takes : Nat} {s_X12_takes : zq_Sp} (h_X12_takes : zq_M yX12_takes cX12_takes 3 (some .boolean) 1 d_X12_takes s_X12_takes) (g_X12_takes : d_X12_takes + 1 ≤ d) {d_X12_faultOf : Nat} {s_X12_faultOf : zq_Sp} (h_X12_faultOf : zq_M yX12_faultOf cX12_faultOf 5 (some .int) 1 d_X12_faultOf s_X12_faultOf) (g_X12_faultOf : d_X12_faultOf + 1 ≤ d) {d_X12_putsBy : Nat} {s_X12_putsBy : zq_Sp} (h_X12_putsBy : zq_M yX12_putsBy cX12_putsBy 2 none 0 d_X12_putsBy s_X12_putsBy) (g_X12_putsBy : d_X12_putsBy + 1 ≤ d) {d_X12_does : Nat} {s_X12_does : zq_Sp} (h_X12_does : zq_M yX12_does cX12_does 3 (some .boolean) 1 d_X12_does s_X12_does) (g_X12_does : d_X12_does + 1 ≤ d) {d_X12_flag : Nat} {s_X12_flag : zq_Sp} (h_X12_flag : zq_M yX12_flag cX12_flag 1 (some .int) 1 d_X12_flag s_X12_flag) (g_X12_flag : d_X12_flag + 1 ≤ d) {d_X12_enters : Nat} {s_X12_enters : zq_Sp} (h_X12_enters : zq_M yX12_enters cX12_enters 3 none 0 d_X12_enters s_X12_enters) (g_X12_enters : d_X12_enters + 1 ≤ d) {d_X12_holds : Nat} {s_X12_holds : zq_Sp} (h_X12_holds : zq_M yX12_holds cX12_holds 4 (some .int) 1 d_X12_holds s_X12_holds) (g_X12_holds : d_X12_holds + 1 ≤ d) {d_X12_adds : Nat} {s_X12_adds : zq_Sp} (h_X12_adds : zq_M yX12_adds cX12_adds 3 (some .int) 1 d_X12_adds s_X12_adds) (g_X12_adds : d_X12_adds + 1 ≤ d) {J29 : zq_P} (j29 : zq_ok X 6 29 J29) {J85 : zq_P} (j85 : zq_ok X 6 85 J85) {Q : zq_Q} (hq : zq_R X (some .int) 1 Q) : zq_ok X 6 75 (xX12_supper_75 s_X12_begins s_X12_readsAct s_X12_takes s_X12_faultOf s_X12_putsBy s_X12_does s_X12_flag s_X12_enters s_X12_holds s_X12_adds J29 J85 Q) := by
  refine zs_iload C dX12_supper_75 ?_
  exact zs_iret C hq dX12_supper_77
def xX12_supper_60 (s_X12_begins : zq_Sp) (s_X12_readsAct : zq_Sp) (s_X12_takes : zq_Sp) (s_X12_faultOf : zq_Sp) (s_X12_putsBy : zq_Sp) (s_X12_does : zq_Sp) (s_X12_flag : zq_Sp) (s_X12_enters : zq_Sp) (s_X12_holds : zq_Sp) (s_X12_adds : zq_Sp) (J29 : zq_P) (J85 : zq_P) (Q : zq_Q) (ls : zq_L) (st : List Value) (h : zq_H) : Prop := (zi_aload 0 (zi_iload 1 (zi_push (.int 60) (zi_iload 2 (zi_callV 3 56 s_X12_faultOf (zi_istore 4 (zi_iload 4 (zi_if1 (fun x => 0 ≤ x) (xX12_supper_78 s_X12_begins s_X12_readsAct s_X12_takes s_X12_faultOf s_X12_putsBy s_X12_does s_X12_flag s_X12_enters s_X12_holds s_X12_adds J29 J85 Q) (xX12_supper_75 s_X12_begins s_X12_readsAct s_X12_takes s_X12_faultOf s_X12_putsBy s_X12_does s_X12_flag s_X12_enters s_X12_holds s_X12_adds J29 J85 Q))))))))) ls st h
theorem kX12_supper_60 {X : zq_X} {d : Nat} (C : zq_C X cX12_supper 6 RX12 d) {d_X12_begins : Nat} {s_X12_begins : zq_Sp} (h_X12_begins : zq_M yX12_begins cX12_begins 3 (some .int) 1 d_X12_begins s_X12_begins) (g_X12_begins : d_X12_begins + 1 ≤ d) {d_X12_readsAct : Nat} {s_X12_readsAct : zq_Sp} (h_X12_readsAct : zq_M yX12_readsAct cX12_readsAct 2 (some .boolean) 1 d_X12_readsAct s_X12_readsAct) (g_X12_readsAct : d_X12_readsAct + 1 ≤ d) {d_X12_takes : Nat} {s_X12_takes : zq_Sp} (h_X12_takes : zq_M yX12_takes cX12_takes 3 (some .boolean) 1 d_X12_takes s_X12_takes) (g_X12_takes : d_X12_takes + 1 ≤ d) {d_X12_faultOf : Nat} {s_X12_faultOf : zq_Sp} (h_X12_faultOf : zq_M yX12_faultOf cX12_faultOf 5 (some .int) 1 d_X12_faultOf s_X12_faultOf) (g_X12_faultOf : d_X12_faultOf + 1 ≤ d) {d_X12_putsBy : Nat} {s_X12_putsBy : zq_Sp} (h_X12_putsBy : zq_M yX12_putsBy cX12_putsBy 2 none 0 d_X12_putsBy s_X12_putsBy) (g_X12_putsBy : d_X12_putsBy + 1 ≤ d) {d_X12_does : Nat} {s_X12_does : zq_Sp} (h_X12_does : zq_M yX12_does cX12_does 3 (some .boolean) 1 d_X12_does s_X12_does) (g_X12_does : d_X12_does + 1 ≤ d) {d_X12_flag : Nat} {s_X12_flag : zq_Sp} (h_X12_flag : zq_M yX12_flag cX12_flag 1 (some .int) 1 d_X12_flag s_X12_flag) (g_X12_flag : d_X12_flag + 1 ≤ d) {d_X12_enters : Nat} {s_X12_enters : zq_Sp} (h_X12_enters : zq_M yX12_enters cX12_enters 3 none 0 d_X12_enters s_X12_enters) (g_X12_enters : d_X12_enters + 1 ≤ d) {d_X12_holds : Nat} {s_X12_holds : zq_Sp} (h_X12_holds : zq_M yX12_holds cX12_holds 4 (some .int) 1 d_X12_holds s_X12_holds) (g_X12_holds : d_X12_holds + 1 ≤ d) {d_X12_adds : Nat} {s_X12_adds : zq_Sp} (h_X12_adds : zq_M yX12_adds cX12_adds 3 (some .int) 1 d_X12_adds s_X12_adds) (g_X12_adds : d_X12_adds + 1 ≤ d) {J29 : zq_P} (j29 : zq_ok X 6 29 J29) {J85 : zq_P} (j85 : zq_ok X 6 85 J85) {Q : zq_Q} (hq : zq_R X (some .int) 1 Q) : zq_ok X 6 60 (xX12_supper_60 s_X12_begins s_X12_readsAct s_X12_takes s_X12_faultOf s_X12_putsBy s_X12_does s_X12_flag s_X12_enters s_X12_holds s_X12_adds J29 J85 Q) := by
  refine zs_aload_n C dX12_supper_60 rfl ?_
  refine zs_iload_n C dX12_supper_61 rfl ?_
  refine zs_bipush C dX12_supper_62 (by decide) ?_
  refine zs_iload_n C dX12_supper_64 rfl ?_
  refine zs_callV C h_X12_faultOf g_X12_faultOf zy_X12_faultOf zp_56 (show vwCl[12]? = some (RX12, TX12, 67) from rfl) zw_1388 zw_1390 zs9_X12_faultOf dX12_supper_65 ?_
  refine zs_istore C dX12_supper_68 (by decide) ?_
  refine zs_iload C dX12_supper_70 ?_
  exact zs_if_ge C dX12_supper_72 (by decide) (kX12_supper_78 C h_X12_begins g_X12_begins h_X12_readsAct g_X12_readsAct h_X12_takes g_X12_takes h_X12_faultOf g_X12_faultOf h_X12_putsBy g_X12_putsBy h_X12_does g_X12_does h_X12_flag g_X12_flag h_X12_enters g_X12_enters h_X12_holds g_X12_holds h_X12_adds g_X12_adds j29 j85 hq) (kX12_supper_75 C h_X12_begins g_X12_begins h_X12_readsAct g_X12_readsAct h_X12_takes g_X12_takes h_X12_faultOf g_X12_faultOf h_X12_putsBy g_X12_putsBy h_X12_does g_X12_does h_X12_flag g_X12_flag h_X12_enters g_X12_enters h_X12_holds g_X12_holds h_X12_adds g_X12_adds j29 j85 hq)
def xX12_supper_56 (s_X12_begins : zq_Sp) (s_X12_readsAct : zq_Sp) (s_X12_takes : zq_Sp) (s_X12_faultOf : zq_Sp) (s_X12_putsBy : zq_Sp) (s_X12_does : zq_Sp) (s_X12_flag : zq_Sp) (s_X12_enters : zq_Sp) (s_X12_holds : zq_Sp) (s_X12_adds : zq_Sp) (J29 : zq_P) (J85 : zq_P) (Q : zq_Q) (ls : zq_L) (st : List Value) (h : zq_H) : Prop := (zi_istore 3 (J29)) ls st h
theorem kX12_supper_56 {X : zq_X} {d : Nat} (C : zq_C X cX12_supper 6 RX12 d) {d_X12_begins : Nat} {s_X12_begins : zq_Sp} (h_X12_begins : zq_M yX12_begins cX12_begins 3 (some .int) 1 d_X12_begins s_X12_begins) (g_X12_begins : d_X12_begins + 1 ≤ d) {d_X12_readsAct : Nat} {s_X12_readsAct : zq_Sp} (h_X12_readsAct : zq_M yX12_readsAct cX12_readsAct 2 (some .boolean) 1 d_X12_readsAct s_X12_readsAct) (g_X12_readsAct : d_X12_readsAct + 1 ≤ d) {d_X12_takes : Nat} {s_X12_takes : zq_Sp} (h_X12_takes : zq_M yX12_takes cX12_takes 3 (some .boolean) 1 d_X12_takes s_X12_takes) (g_X12_takes : d_X12_takes + 1 ≤ d) {d_X12_faultOf : Nat} {s_X12_faultOf : zq_Sp} (h_X12_faultOf : zq_M yX12_faultOf cX12_faultOf 5 (some .int) 1 d_X12_faultOf s_X12_faultOf) (g_X12_faultOf : d_X12_faultOf + 1 ≤ d) {d_X12_putsBy : Nat} {s_X12_putsBy : zq_Sp} (h_X12_putsBy : zq_M yX12_putsBy cX12_putsBy 2 none 0 d_X12_putsBy s_X12_putsBy) (g_X12_putsBy : d_X12_putsBy + 1 ≤ d) {d_X12_does : Nat} {s_X12_does : zq_Sp} (h_X12_does : zq_M yX12_does cX12_does 3 (some .boolean) 1 d_X12_does s_X12_does) (g_X12_does : d_X12_does + 1 ≤ d) {d_X12_flag : Nat} {s_X12_flag : zq_Sp} (h_X12_flag : zq_M yX12_flag cX12_flag 1 (some .int) 1 d_X12_flag s_X12_flag) (g_X12_flag : d_X12_flag + 1 ≤ d) {d_X12_enters : Nat} {s_X12_enters : zq_Sp} (h_X12_enters : zq_M yX12_enters cX12_enters 3 none 0 d_X12_enters s_X12_enters) (g_X12_enters : d_X12_enters + 1 ≤ d) {d_X12_holds : Nat} {s_X12_holds : zq_Sp} (h_X12_holds : zq_M yX12_holds cX12_holds 4 (some .int) 1 d_X12_holds s_X12_holds) (g_X12_holds : d_X12_holds + 1 ≤ d) {d_X12_adds : Nat} {s_X12_adds : zq_Sp} (h_X12_adds : zq_M yX12_adds cX12_adds 3 (some .int) 1 d_X12_adds s_X12_adds) (g_X12_adds : d_X12_adds + 1 ≤ d) {J29 : zq_P} (j29 : zq_ok X 6 29 J29) {J85 : zq_P} (j85 : zq_ok X 6 85 J85) {Q : zq_Q} (hq : zq_R X (some .int) 1 Q) : zq_ok X 6 56 (xX12_supper_56 s_X12_begins s_X12_readsAct s_X12_takes s_X12_faultOf s_X12_putsBy s_X12_does s_X12_flag s_X12_enters s_X12_holds s_X12_adds J29 J85 Q) := by
  refine zs_istore_n C dX12_supper_56 rfl (by decide) ?_
  exact zs_goto C dX12_supper_57 (by decide) (j29)
def xX12_supper_55 (s_X12_begins : zq_Sp) (s_X12_readsAct : zq_Sp) (s_X12_takes : zq_Sp) (s_X12_faultOf : zq_Sp) (s_X12_putsBy : zq_Sp) (s_X12_does : zq_Sp) (s_X12_flag : zq_Sp) (s_X12_enters : zq_Sp) (s_X12_holds : zq_Sp) (s_X12_adds : zq_Sp) (J29 : zq_P) (J85 : zq_P) (Q : zq_Q) (ls : zq_L) (st : List Value) (h : zq_H) : Prop := (zi_push (.int 0) ((xX12_supper_56 s_X12_begins s_X12_readsAct s_X12_takes s_X12_faultOf s_X12_putsBy s_X12_does s_X12_flag s_X12_enters s_X12_holds s_X12_adds J29 J85 Q))) ls st h
theorem kX12_supper_55 {X : zq_X} {d : Nat} (C : zq_C X cX12_supper 6 RX12 d) {d_X12_begins : Nat} {s_X12_begins : zq_Sp} (h_X12_begins : zq_M yX12_begins cX12_begins 3 (some .int) 1 d_X12_begins s_X12_begins) (g_X12_begins : d_X12_begins + 1 ≤ d) {d_X12_readsAct : Nat} {s_X12_readsAct : zq_Sp} (h_X12_readsAct : zq_M yX12_readsAct cX12_readsAct 2 (some .boolean) 1 d_X12_readsAct s_X12_readsAct) (g_X12_readsAct : d_X12_readsAct + 1 ≤ d) {d_X12_takes : Nat} {s_X12_takes : zq_Sp} (h_X12_takes : zq_M yX12_takes cX12_takes 3 (some .boolean) 1 d_X12_takes s_X12_takes) (g_X12_takes : d_X12_takes + 1 ≤ d) {d_X12_faultOf : Nat} {s_X12_faultOf : zq_Sp} (h_X12_faultOf : zq_M yX12_faultOf cX12_faultOf 5 (some .int) 1 d_X12_faultOf s_X12_faultOf) (g_X12_faultOf : d_X12_faultOf + 1 ≤ d) {d_X12_putsBy : Nat} {s_X12_putsBy : zq_Sp} (h_X12_putsBy : zq_M yX12_putsBy cX12_putsBy 2 none 0 d_X12_putsBy s_X12_putsBy) (g_X12_putsBy : d_X12_putsBy + 1 ≤ d) {d_X12_does : Nat} {s_X12_does : zq_Sp} (h_X12_does : zq_M yX12_does cX12_does 3 (some .boolean) 1 d_X12_does s_X12_does) (g_X12_does : d_X12_does + 1 ≤ d) {d_X12_flag : Nat} {s_X12_flag : zq_Sp} (h_X12_flag : zq_M yX12_flag cX12_flag 1 (some .int) 1 d_X12_flag s_X12_flag) (g_X12_flag : d_X12_flag + 1 ≤ d) {d_X12_enters : Nat} {s_X12_enters : zq_Sp} (h_X12_enters : zq_M yX12_enters cX12_enters 3 none 0 d_X12_enters s_X12_enters) (g_X12_enters : d_X12_enters + 1 ≤ d) {d_X12_holds : Nat} {s_X12_holds : zq_Sp} (h_X12_holds : zq_M yX12_holds cX12_holds 4 (some .int) 1 d_X12_holds s_X12_holds) (g_X12_holds : d_X12_holds + 1 ≤ d) {d_X12_adds : Nat} {s_X12_adds : zq_Sp} (h_X12_adds : zq_M yX12_adds cX12_adds 3 (some .int) 1 d_X12_adds s_X12_adds) (g_X12_adds : d_X12_adds + 1 ≤ d) {J29 : zq_P} (j29 : zq_ok X 6 29 J29) {J85 : zq_P} (j85 : zq_ok X 6 85 J85) {Q : zq_Q} (hq : zq_R X (some .int) 1 Q) : zq_ok X 6 55 (xX12_supper_55 s_X12_begins s_X12_readsAct s_X12_takes s_X12_faultOf s_X12_putsBy s_X12_does s_X12_flag s_X12_enters s_X12_holds s_X12_adds J29 J85 Q) := by
  refine zs_iconst C dX12_supper_55 (by decide) ?_
  exact kX12_supper_56 C h_X12_begins g_X12_begins h_X12_readsAct g_X12_readsAct h_X12_takes g_X12_takes h_X12_faultOf g_X12_faultOf h_X12_putsBy g_X12_putsBy h_X12_does g_X12_does h_X12_flag g_X12_flag h_X12_enters g_X12_enters h_X12_holds g_X12_holds h_X12_adds g_X12_adds j29 j85 hq
def xX12_supper_51 (s_X12_begins : zq_Sp) (s_X12_readsAct : zq_Sp) (s_X12_takes : zq_Sp) (s_X12_faultOf : zq_Sp) (s_X12_putsBy : zq_Sp) (s_X12_does : zq_Sp) (s_X12_flag : zq_Sp) (s_X12_enters : zq_Sp) (s_X12_holds : zq_Sp) (s_X12_adds : zq_Sp) (J29 : zq_P) (J85 : zq_P) (Q : zq_Q) (ls : zq_L) (st : List Value) (h : zq_H) : Prop := (zi_push (.int 1) ((xX12_supper_56 s_X12_begins s_X12_readsAct s_X12_takes s_X12_faultOf s_X12_putsBy s_X12_does s_X12_flag s_X12_enters s_X12_holds s_X12_adds J29 J85 Q))) ls st h
theorem kX12_supper_51 {X : zq_X} {d : Nat} (C : zq_C X cX12_supper 6 RX12 d) {d_X12_begins : Nat} {s_X12_begins : zq_Sp} (h_X12_begins : zq_M yX12_begins cX12_begins 3 (some .int) 1 d_X12_begins s_X12_begins) (g_X12_begins : d_X12_begins + 1 ≤ d) {d_X12_readsAct : Nat} {s_X12_readsAct : zq_Sp} (h_X12_readsAct : zq_M yX12_readsAct cX12_readsAct 2 (some .boolean) 1 d_X12_readsAct s_X12_readsAct) (g_X12_readsAct : d_X12_readsAct + 1 ≤ d) {d_X12_takes : Nat} {s_X12_takes : zq_Sp} (h_X12_takes : zq_M yX12_takes cX12_takes 3 (some .boolean) 1 d_X12_takes s_X12_takes) (g_X12_takes : d_X12_takes + 1 ≤ d) {d_X12_faultOf : Nat} {s_X12_faultOf : zq_Sp} (h_X12_faultOf : zq_M yX12_faultOf cX12_faultOf 5 (some .int) 1 d_X12_faultOf s_X12_faultOf) (g_X12_faultOf : d_X12_faultOf + 1 ≤ d) {d_X12_putsBy : Nat} {s_X12_putsBy : zq_Sp} (h_X12_putsBy : zq_M yX12_putsBy cX12_putsBy 2 none 0 d_X12_putsBy s_X12_putsBy) (g_X12_putsBy : d_X12_putsBy + 1 ≤ d) {d_X12_does : Nat} {s_X12_does : zq_Sp} (h_X12_does : zq_M yX12_does cX12_does 3 (some .boolean) 1 d_X12_does s_X12_does) (g_X12_does : d_X12_does + 1 ≤ d) {d_X12_flag : Nat} {s_X12_flag : zq_Sp} (h_X12_flag : zq_M yX12_flag cX12_flag 1 (some .int) 1 d_X12_flag s_X12_flag) (g_X12_flag : d_X12_flag + 1 ≤ d) {d_X12_enters : Nat} {s_X12_enters : zq_Sp} (h_X12_enters : zq_M yX12_enters cX12_enters 3 none 0 d_X12_enters s_X12_enters) (g_X12_enters : d_X12_enters + 1 ≤ d) {d_X12_holds : Nat} {s_X12_holds : zq_Sp} (h_X12_holds : zq_M yX12_holds cX12_holds 4 (some .int) 1 d_X12_holds s_X12_holds) (g_X12_holds : d_X12_holds + 1 ≤ d) {d_X12_adds : Nat} {s_X12_adds : zq_Sp} (h_X12_adds : zq_M yX12_adds cX12_adds 3 (some .int) 1 d_X12_adds s_X12_adds) (g_X12_adds : d_X12_adds + 1 ≤ d) {J29 : zq_P} (j29 : zq_ok X 6 29 J29) {J85 : zq_P} (j85 : zq_ok X 6 85 J85) {Q : zq_Q} (hq : zq_R X (some .int) 1 Q) : zq_ok X 6 51 (xX12_supper_51 s_X12_begins s_X12_readsAct s_X12_takes s_X12_faultOf s_X12_putsBy s_X12_does s_X12_flag s_X12_enters s_X12_holds s_X12_adds J29 J85 Q) := by
  refine zs_iconst C dX12_supper_51 (by decide) ?_
  exact zs_goto C dX12_supper_52 (by decide) (kX12_supper_56 C h_X12_begins g_X12_begins h_X12_readsAct g_X12_readsAct h_X12_takes g_X12_takes h_X12_faultOf g_X12_faultOf h_X12_putsBy g_X12_putsBy h_X12_does g_X12_does h_X12_flag g_X12_flag h_X12_enters g_X12_enters h_X12_holds g_X12_holds h_X12_adds g_X12_adds j29 j85 hq)
def xX12_supper_42 (s_X12_begins : zq_Sp) (s_X12_readsAct : zq_Sp) (s_X12_takes : zq_Sp) (s_X12_faultOf : zq_Sp) (s_X12_putsBy : zq_Sp) (s_X12_does : zq_Sp) (s_X12_flag : zq_Sp) (s_X12_enters : zq_Sp) (s_X12_holds : zq_Sp) (s_X12_adds : zq_Sp) (J29 : zq_P) (J85 : zq_P) (Q : zq_Q) (ls : zq_L) (st : List Value) (h : zq_H) : Prop := (zi_aload 0 (zi_push (.int 59) (zi_callV 1 56 s_X12_takes (zi_if1 (fun x => x = 0) (xX12_supper_55 s_X12_begins s_X12_readsAct s_X12_takes s_X12_faultOf s_X12_putsBy s_X12_does s_X12_flag s_X12_enters s_X12_holds s_X12_adds J29 J85 Q) (xX12_supper_51 s_X12_begins s_X12_readsAct s_X12_takes s_X12_faultOf s_X12_putsBy s_X12_does s_X12_flag s_X12_enters s_X12_holds s_X12_adds J29 J85 Q))))) ls st h
theorem kX12_supper_42 {X : zq_X} {d : Nat} (C : zq_C X cX12_supper 6 RX12 d) {d_X12_begins : Nat} {s_X12_begins : zq_Sp} (h_X12_begins : zq_M yX12_begins cX12_begins 3 (some .int) 1 d_X12_begins s_X12_begins) (g_X12_begins : d_X12_begins + 1 ≤ d) {d_X12_readsAct : Nat} {s_X12_readsAct : zq_Sp} (h_X12_readsAct : zq_M yX12_readsAct cX12_readsAct 2 (some .boolean) 1 d_X12_readsAct s_X12_readsAct) (g_X12_readsAct : d_X12_readsAct + 1 ≤ d) {d_X12_takes : Nat} {s_X12_takes : zq_Sp} (h_X12_takes : zq_M yX12_takes cX12_takes 3 (some .boolean) 1 d_X12_takes s_X12_takes) (g_X12_takes : d_X12_takes + 1 ≤ d) {d_X12_faultOf : Nat} {s_X12_faultOf : zq_Sp} (h_X12_faultOf : zq_M yX12_faultOf cX12_faultOf 5 (some .int) 1 d_X12_faultOf s_X12_faultOf) (g_X12_faultOf : d_X12_faultOf + 1 ≤ d) {d_X12_putsBy : Nat} {s_X12_putsBy : zq_Sp} (h_X12_putsBy : zq_M yX12_putsBy cX12_putsBy 2 none 0 d_X12_putsBy s_X12_putsBy) (g_X12_putsBy : d_X12_putsBy + 1 ≤ d) {d_X12_does : Nat} {s_X12_does : zq_Sp} (h_X12_does : zq_M yX12_does cX12_does 3 (some .boolean) 1 d_X12_does s_X12_does) (g_X12_does : d_X12_does + 1 ≤ d) {d_X12_flag : Nat} {s_X12_flag : zq_Sp} (h_X12_flag : zq_M yX12_flag cX12_flag 1 (some .int) 1 d_X12_flag s_X12_flag) (g_X12_flag : d_X12_flag + 1 ≤ d) {d_X12_enters : Nat} {s_X12_enters : zq_Sp} (h_X12_enters : zq_M yX12_enters cX12_enters 3 none 0 d_X12_enters s_X12_enters) (g_X12_enters : d_X12_enters + 1 ≤ d) {d_X12_holds : Nat} {s_X12_holds : zq_Sp} (h_X12_holds : zq_M yX12_holds cX12_holds 4 (some .int) 1 d_X12_holds s_X12_holds) (g_X12_holds : d_X12_holds + 1 ≤ d) {d_X12_adds : Nat} {s_X12_adds : zq_Sp} (h_X12_adds : zq_M yX12_adds cX12_adds 3 (some .int) 1 d_X12_adds s_X12_adds) (g_X12_adds : d_X12_adds + 1 ≤ d) {J29 : zq_P} (j29 : zq_ok X 6 29 J29) {J85 : zq_P} (j85 : zq_ok X 6 85 J85) {Q : zq_Q} (hq : zq_R X (some .int) 1 Q) : zq_ok X 6 42 (xX12_supper_42 s_X12_begins s_X12_readsAct s_X12_takes s_X12_faultOf s_X12_putsBy s_X12_does s_X12_flag s_X12_enters s_X12_holds s_X12_adds J29 J85 Q) := by
  refine zs_aload_n C dX12_supper_42 rfl ?_
  refine zs_bipush C dX12_supper_43 (by decide) ?_
  refine zs_callV C h_X12_takes g_X12_takes zy_X12_takes zp_56 (show vwCl[12]? = some (RX12, TX12, 67) from rfl) zw_1384 zw_1386 zs9_X12_takes dX12_supper_45 ?_
  exact zs_if_eq C dX12_supper_48 (by decide) (kX12_supper_55 C h_X12_begins g_X12_begins h_X12_readsAct g_X12_readsAct h_X12_takes g_X12_takes h_X12_faultOf g_X12_faultOf h_X12_putsBy g_X12_putsBy h_X12_does g_X12_does h_X12_flag g_X12_flag h_X12_enters g_X12_enters h_X12_holds g_X12_holds h_X12_adds g_X12_adds j29 j85 hq) (kX12_supper_51 C h_X12_begins g_X12_begins h_X12_readsAct g_X12_readsAct h_X12_takes g_X12_takes h_X12_faultOf g_X12_faultOf h_X12_putsBy g_X12_putsBy h_X12_does g_X12_does h_X12_flag g_X12_flag h_X12_enters g_X12_enters h_X12_holds g_X12_holds h_X12_adds g_X12_adds j29 j85 hq)
def xX12_supper_33 (s_X12_begins : zq_Sp) (s_X12_readsAct : zq_Sp) (s_X12_takes : zq_Sp) (s_X12_faultOf : zq_Sp) (s_X12_putsBy : zq_Sp) (s_X12_does : zq_Sp) (s_X12_flag : zq_Sp) (s_X12_enters : zq_Sp) (s_X12_holds : zq_Sp) (s_X12_adds : zq_Sp) (J29 : zq_P) (J85 : zq_P) (Q : zq_Q) (ls : zq_L) (st : List Value) (h : zq_H) : Prop := (zi_aload 0 (zi_callV 0 56 s_X12_readsAct (zi_istore 2 (zi_iload 2 (zi_if1 (fun x => x = 0) (xX12_supper_55 s_X12_begins s_X12_readsAct s_X12_takes s_X12_faultOf s_X12_putsBy s_X12_does s_X12_flag s_X12_enters s_X12_holds s_X12_adds J29 J85 Q) (xX12_supper_42 s_X12_begins s_X12_readsAct s_X12_takes s_X12_faultOf s_X12_putsBy s_X12_does s_X12_flag s_X12_enters s_X12_holds s_X12_adds J29 J85 Q)))))) ls st h
theorem kX12_supper_33 {X : zq_X} {d : Nat} (C : zq_C X cX12_supper 6 RX12 d) {d_X12_begins : Nat} {s_X12_begins : zq_Sp} (h_X12_begins : zq_M yX12_begins cX12_begins 3 (some .int) 1 d_X12_begins s_X12_begins) (g_X12_begins : d_X12_begins + 1 ≤ d) {d_X12_readsAct : Nat} {s_X12_readsAct : zq_Sp} (h_X12_readsAct : zq_M yX12_readsAct cX12_readsAct 2 (some .boolean) 1 d_X12_readsAct s_X12_readsAct) (g_X12_readsAct : d_X12_readsAct + 1 ≤ d) {d_X12_takes : Nat} {s_X12_takes : zq_Sp} (h_X12_takes : zq_M yX12_takes cX12_takes 3 (some .boolean) 1 d_X12_takes s_X12_takes) (g_X12_takes : d_X12_takes + 1 ≤ d) {d_X12_faultOf : Nat} {s_X12_faultOf : zq_Sp} (h_X12_faultOf : zq_M yX12_faultOf cX12_faultOf 5 (some .int) 1 d_X12_faultOf s_X12_faultOf) (g_X12_faultOf : d_X12_faultOf + 1 ≤ d) {d_X12_putsBy : Nat} {s_X12_putsBy : zq_Sp} (h_X12_putsBy : zq_M yX12_putsBy cX12_putsBy 2 none 0 d_X12_putsBy s_X12_putsBy) (g_X12_putsBy : d_X12_putsBy + 1 ≤ d) {d_X12_does : Nat} {s_X12_does : zq_Sp} (h_X12_does : zq_M yX12_does cX12_does 3 (some .boolean) 1 d_X12_does s_X12_does) (g_X12_does : d_X12_does + 1 ≤ d) {d_X12_flag : Nat} {s_X12_flag : zq_Sp} (h_X12_flag : zq_M yX12_flag cX12_flag 1 (some .int) 1 d_X12_flag s_X12_flag) (g_X12_flag : d_X12_flag + 1 ≤ d) {d_X12_enters : Nat} {s_X12_enters : zq_Sp} (h_X12_enters : zq_M yX12_enters cX12_enters 3 none 0 d_X12_enters s_X12_enters) (g_X12_enters : d_X12_enters + 1 ≤ d) {d_X12_holds : Nat} {s_X12_holds : zq_Sp} (h_X12_holds : zq_M yX12_holds cX12_holds 4 (some .int) 1 d_X12_holds s_X12_holds) (g_X12_holds : d_X12_holds + 1 ≤ d) {d_X12_adds : Nat} {s_X12_adds : zq_Sp} (h_X12_adds : zq_M yX12_adds cX12_adds 3 (some .int) 1 d_X12_adds s_X12_adds) (g_X12_adds : d_X12_adds + 1 ≤ d) {J29 : zq_P} (j29 : zq_ok X 6 29 J29) {J85 : zq_P} (j85 : zq_ok X 6 85 J85) {Q : zq_Q} (hq : zq_R X (some .int) 1 Q) : zq_ok X 6 33 (xX12_supper_33 s_X12_begins s_X12_readsAct s_X12_takes s_X12_faultOf s_X12_putsBy s_X12_does s_X12_flag s_X12_enters s_X12_holds s_X12_adds J29 J85 Q) := by
  refine zs_aload_n C dX12_supper_33 rfl ?_
  refine zs_callV C h_X12_readsAct g_X12_readsAct zy_X12_readsAct zp_56 (show vwCl[12]? = some (RX12, TX12, 67) from rfl) zw_1565 zw_1567 zs9_X12_readsAct dX12_supper_34 ?_
  refine zs_istore_n C dX12_supper_37 rfl (by decide) ?_
  refine zs_iload_n C dX12_supper_38 rfl ?_
  exact zs_if_eq C dX12_supper_39 (by decide) (kX12_supper_55 C h_X12_begins g_X12_begins h_X12_readsAct g_X12_readsAct h_X12_takes g_X12_takes h_X12_faultOf g_X12_faultOf h_X12_putsBy g_X12_putsBy h_X12_does g_X12_does h_X12_flag g_X12_flag h_X12_enters g_X12_enters h_X12_holds g_X12_holds h_X12_adds g_X12_adds j29 j85 hq) (kX12_supper_42 C h_X12_begins g_X12_begins h_X12_readsAct g_X12_readsAct h_X12_takes g_X12_takes h_X12_faultOf g_X12_faultOf h_X12_putsBy g_X12_putsBy h_X12_does g_X12_does h_X12_flag g_X12_flag h_X12_enters g_X12_enters h_X12_holds g_X12_holds h_X12_adds g_X12_adds j29 j85 hq)
def xX12_supper_29 (s_X12_begins : zq_Sp) (s_X12_readsAct : zq_Sp) (s_X12_takes : zq_Sp) (s_X12_faultOf : zq_Sp) (s_X12_putsBy : zq_Sp) (s_X12_does : zq_Sp) (s_X12_flag : zq_Sp) (s_X12_enters : zq_Sp) (s_X12_holds : zq_Sp) (s_X12_adds : zq_Sp) (J29 : zq_P) (J85 : zq_P) (Q : zq_Q) (ls : zq_L) (st : List Value) (h : zq_H) : Prop := (zi_iload 3 (zi_if1 (fun x => x = 0) (xX12_supper_60 s_X12_begins s_X12_readsAct s_X12_takes s_X12_faultOf s_X12_putsBy s_X12_does s_X12_flag s_X12_enters s_X12_holds s_X12_adds J29 J85 Q) (xX12_supper_33 s_X12_begins s_X12_readsAct s_X12_takes s_X12_faultOf s_X12_putsBy s_X12_does s_X12_flag s_X12_enters s_X12_holds s_X12_adds J29 J85 Q))) ls st h
theorem kX12_supper_29 {X : zq_X} {d : Nat} (C : zq_C X cX12_supper 6 RX12 d) {d_X12_begins : Nat} {s_X12_begins : zq_Sp} (h_X12_begins : zq_M yX12_begins cX12_begins 3 (some .int) 1 d_X12_begins s_X12_begins) (g_X12_begins : d_X12_begins + 1 ≤ d) {d_X12_readsAct : Nat} {s_X12_readsAct : zq_Sp} (h_X12_readsAct : zq_M yX12_readsAct cX12_readsAct 2 (some .boolean) 1 d_X12_readsAct s_X12_readsAct) (g_X12_readsAct : d_X12_readsAct + 1 ≤ d) {d_X12_takes : Nat} {s_X12_takes : zq_Sp} (h_X12_takes : zq_M yX12_takes cX12_takes 3 (some .boolean) 1 d_X12_takes s_X12_takes) (g_X12_takes : d_X12_takes + 1 ≤ d) {d_X12_faultOf : Nat} {s_X12_faultOf : zq_Sp} (h_X12_faultOf : zq_M yX12_faultOf cX12_faultOf 5 (some .int) 1 d_X12_faultOf s_X12_faultOf) (g_X12_faultOf : d_X12_faultOf + 1 ≤ d) {d_X12_putsBy : Nat} {s_X12_putsBy : zq_Sp} (h_X12_putsBy : zq_M yX12_putsBy cX12_putsBy 2 none 0 d_X12_putsBy s_X12_putsBy) (g_X12_putsBy : d_X12_putsBy + 1 ≤ d) {d_X12_does : Nat} {s_X12_does : zq_Sp} (h_X12_does : zq_M yX12_does cX12_does 3 (some .boolean) 1 d_X12_does s_X12_does) (g_X12_does : d_X12_does + 1 ≤ d) {d_X12_flag : Nat} {s_X12_flag : zq_Sp} (h_X12_flag : zq_M yX12_flag cX12_flag 1 (some .int) 1 d_X12_flag s_X12_flag) (g_X12_flag : d_X12_flag + 1 ≤ d) {d_X12_enters : Nat} {s_X12_enters : zq_Sp} (h_X12_enters : zq_M yX12_enters cX12_enters 3 none 0 d_X12_enters s_X12_enters) (g_X12_enters : d_X12_enters + 1 ≤ d) {d_X12_holds : Nat} {s_X12_holds : zq_Sp} (h_X12_holds : zq_M yX12_holds cX12_holds 4 (some .int) 1 d_X12_holds s_X12_holds) (g_X12_holds : d_X12_holds + 1 ≤ d) {d_X12_adds : Nat} {s_X12_adds : zq_Sp} (h_X12_adds : zq_M yX12_adds cX12_adds 3 (some .int) 1 d_X12_adds s_X12_adds) (g_X12_adds : d_X12_adds + 1 ≤ d) {J29 : zq_P} (j29 : zq_ok X 6 29 J29) {J85 : zq_P} (j85 : zq_ok X 6 85 J85) {Q : zq_Q} (hq : zq_R X (some .int) 1 Q) : zq_ok X 6 29 (xX12_supper_29 s_X12_begins s_X12_readsAct s_X12_takes s_X12_faultOf s_X12_putsBy s_X12_does s_X12_flag s_X12_enters s_X12_holds s_X12_adds J29 J85 Q) := by
  refine zs_iload_n C dX12_supper_29 rfl ?_
  exact zs_if_eq C dX12_supper_30 (by decide) (kX12_supper_60 C h_X12_begins g_X12_begins h_X12_readsAct g_X12_readsAct h_X12_takes g_X12_takes h_X12_faultOf g_X12_faultOf h_X12_putsBy g_X12_putsBy h_X12_does g_X12_does h_X12_flag g_X12_flag h_X12_enters g_X12_enters h_X12_holds g_X12_holds h_X12_adds g_X12_adds j29 j85 hq) (kX12_supper_33 C h_X12_begins g_X12_begins h_X12_readsAct g_X12_readsAct h_X12_takes g_X12_takes h_X12_faultOf g_X12_faultOf h_X12_putsBy g_X12_putsBy h_X12_does g_X12_does h_X12_flag g_X12_flag h_X12_enters g_X12_enters h_X12_holds g_X12_holds h_X12_adds g_X12_adds j29 j85 hq)
def xX12_supper_28 (s_X12_begins : zq_Sp) (s_X12_readsAct : zq_Sp) (s_X12_takes : zq_Sp) (s_X12_faultOf : zq_Sp) (s_X12_putsBy : zq_Sp) (s_X12_does : zq_Sp) (s_X12_flag : zq_Sp) (s_X12_enters : zq_Sp) (s_X12_holds : zq_Sp) (s_X12_adds : zq_Sp) (J29 : zq_P) (J85 : zq_P) (Q : zq_Q) (ls : zq_L) (st : List Value) (h : zq_H) : Prop := (zi_istore 3 (J29)) ls st h
theorem kX12_supper_28 {X : zq_X} {d : Nat} (C : zq_C X cX12_supper 6 RX12 d) {d_X12_begins : Nat} {s_X12_begins : zq_Sp} (h_X12_begins : zq_M yX12_begins cX12_begins 3 (some .int) 1 d_X12_begins s_X12_begins) (g_X12_begins : d_X12_begins + 1 ≤ d) {d_X12_readsAct : Nat} {s_X12_readsAct : zq_Sp} (h_X12_readsAct : zq_M yX12_readsAct cX12_readsAct 2 (some .boolean) 1 d_X12_readsAct s_X12_readsAct) (g_X12_readsAct : d_X12_readsAct + 1 ≤ d) {d_X12_takes : Nat} {s_X12_takes : zq_Sp} (h_X12_takes : zq_M yX12_takes cX12_takes 3 (some .boolean) 1 d_X12_takes s_X12_takes) (g_X12_takes : d_X12_takes + 1 ≤ d) {d_X12_faultOf : Nat} {s_X12_faultOf : zq_Sp} (h_X12_faultOf : zq_M yX12_faultOf cX12_faultOf 5 (some .int) 1 d_X12_faultOf s_X12_faultOf) (g_X12_faultOf : d_X12_faultOf + 1 ≤ d) {d_X12_putsBy : Nat} {s_X12_putsBy : zq_Sp} (h_X12_putsBy : zq_M yX12_putsBy cX12_putsBy 2 none 0 d_X12_putsBy s_X12_putsBy) (g_X12_putsBy : d_X12_putsBy + 1 ≤ d) {d_X12_does : Nat} {s_X12_does : zq_Sp} (h_X12_does : zq_M yX12_does cX12_does 3 (some .boolean) 1 d_X12_does s_X12_does) (g_X12_does : d_X12_does + 1 ≤ d) {d_X12_flag : Nat} {s_X12_flag : zq_Sp} (h_X12_flag : zq_M yX12_flag cX12_flag 1 (some .int) 1 d_X12_flag s_X12_flag) (g_X12_flag : d_X12_flag + 1 ≤ d) {d_X12_enters : Nat} {s_X12_enters : zq_Sp} (h_X12_enters : zq_M yX12_enters cX12_enters 3 none 0 d_X12_enters s_X12_enters) (g_X12_enters : d_X12_enters + 1 ≤ d) {d_X12_holds : Nat} {s_X12_holds : zq_Sp} (h_X12_holds : zq_M yX12_holds cX12_holds 4 (some .int) 1 d_X12_holds s_X12_holds) (g_X12_holds : d_X12_holds + 1 ≤ d) {d_X12_adds : Nat} {s_X12_adds : zq_Sp} (h_X12_adds : zq_M yX12_adds cX12_adds 3 (some .int) 1 d_X12_adds s_X12_adds) (g_X12_adds : d_X12_adds + 1 ≤ d) {J29 : zq_P} (j29 : zq_ok X 6 29 J29) {J85 : zq_P} (j85 : zq_ok X 6 85 J85) {Q : zq_Q} (hq : zq_R X (some .int) 1 Q) : zq_ok X 6 28 (xX12_supper_28 s_X12_begins s_X12_readsAct s_X12_takes s_X12_faultOf s_X12_putsBy s_X12_does s_X12_flag s_X12_enters s_X12_holds s_X12_adds J29 J85 Q) := by
  refine zs_istore_n C dX12_supper_28 rfl (by decide) ?_
  exact j29
def xX12_supper_27 (s_X12_begins : zq_Sp) (s_X12_readsAct : zq_Sp) (s_X12_takes : zq_Sp) (s_X12_faultOf : zq_Sp) (s_X12_putsBy : zq_Sp) (s_X12_does : zq_Sp) (s_X12_flag : zq_Sp) (s_X12_enters : zq_Sp) (s_X12_holds : zq_Sp) (s_X12_adds : zq_Sp) (J29 : zq_P) (J85 : zq_P) (Q : zq_Q) (ls : zq_L) (st : List Value) (h : zq_H) : Prop := (zi_push (.int 0) ((xX12_supper_28 s_X12_begins s_X12_readsAct s_X12_takes s_X12_faultOf s_X12_putsBy s_X12_does s_X12_flag s_X12_enters s_X12_holds s_X12_adds J29 J85 Q))) ls st h
theorem kX12_supper_27 {X : zq_X} {d : Nat} (C : zq_C X cX12_supper 6 RX12 d) {d_X12_begins : Nat} {s_X12_begins : zq_Sp} (h_X12_begins : zq_M yX12_begins cX12_begins 3 (some .int) 1 d_X12_begins s_X12_begins) (g_X12_begins : d_X12_begins + 1 ≤ d) {d_X12_readsAct : Nat} {s_X12_readsAct : zq_Sp} (h_X12_readsAct : zq_M yX12_readsAct cX12_readsAct 2 (some .boolean) 1 d_X12_readsAct s_X12_readsAct) (g_X12_readsAct : d_X12_readsAct + 1 ≤ d) {d_X12_takes : Nat} {s_X12_takes : zq_Sp} (h_X12_takes : zq_M yX12_takes cX12_takes 3 (some .boolean) 1 d_X12_takes s_X12_takes) (g_X12_takes : d_X12_takes + 1 ≤ d) {d_X12_faultOf : Nat} {s_X12_faultOf : zq_Sp} (h_X12_faultOf : zq_M yX12_faultOf cX12_faultOf 5 (some .int) 1 d_X12_faultOf s_X12_faultOf) (g_X12_faultOf : d_X12_faultOf + 1 ≤ d) {d_X12_putsBy : Nat} {s_X12_putsBy : zq_Sp} (h_X12_putsBy : zq_M yX12_putsBy cX12_putsBy 2 none 0 d_X12_putsBy s_X12_putsBy) (g_X12_putsBy : d_X12_putsBy + 1 ≤ d) {d_X12_does : Nat} {s_X12_does : zq_Sp} (h_X12_does : zq_M yX12_does cX12_does 3 (some .boolean) 1 d_X12_does s_X12_does) (g_X12_does : d_X12_does + 1 ≤ d) {d_X12_flag : Nat} {s_X12_flag : zq_Sp} (h_X12_flag : zq_M yX12_flag cX12_flag 1 (some .int) 1 d_X12_flag s_X12_flag) (g_X12_flag : d_X12_flag + 1 ≤ d) {d_X12_enters : Nat} {s_X12_enters : zq_Sp} (h_X12_enters : zq_M yX12_enters cX12_enters 3 none 0 d_X12_enters s_X12_enters) (g_X12_enters : d_X12_enters + 1 ≤ d) {d_X12_holds : Nat} {s_X12_holds : zq_Sp} (h_X12_holds : zq_M yX12_holds cX12_holds 4 (some .int) 1 d_X12_holds s_X12_holds) (g_X12_holds : d_X12_holds + 1 ≤ d) {d_X12_adds : Nat} {s_X12_adds : zq_Sp} (h_X12_adds : zq_M yX12_adds cX12_adds 3 (some .int) 1 d_X12_adds s_X12_adds) (g_X12_adds : d_X12_adds + 1 ≤ d) {J29 : zq_P} (j29 : zq_ok X 6 29 J29) {J85 : zq_P} (j85 : zq_ok X 6 85 J85) {Q : zq_Q} (hq : zq_R X (some .int) 1 Q) : zq_ok X 6 27 (xX12_supper_27 s_X12_begins s_X12_readsAct s_X12_takes s_X12_faultOf s_X12_putsBy s_X12_does s_X12_flag s_X12_enters s_X12_holds s_X12_adds J29 J85 Q) := by
  refine zs_iconst C dX12_supper_27 (by decide) ?_
  exact kX12_supper_28 C h_X12_begins g_X12_begins h_X12_readsAct g_X12_readsAct h_X12_takes g_X12_takes h_X12_faultOf g_X12_faultOf h_X12_putsBy g_X12_putsBy h_X12_does g_X12_does h_X12_flag g_X12_flag h_X12_enters g_X12_enters h_X12_holds g_X12_holds h_X12_adds g_X12_adds j29 j85 hq
def xX12_supper_23 (s_X12_begins : zq_Sp) (s_X12_readsAct : zq_Sp) (s_X12_takes : zq_Sp) (s_X12_faultOf : zq_Sp) (s_X12_putsBy : zq_Sp) (s_X12_does : zq_Sp) (s_X12_flag : zq_Sp) (s_X12_enters : zq_Sp) (s_X12_holds : zq_Sp) (s_X12_adds : zq_Sp) (J29 : zq_P) (J85 : zq_P) (Q : zq_Q) (ls : zq_L) (st : List Value) (h : zq_H) : Prop := (zi_push (.int 1) ((xX12_supper_28 s_X12_begins s_X12_readsAct s_X12_takes s_X12_faultOf s_X12_putsBy s_X12_does s_X12_flag s_X12_enters s_X12_holds s_X12_adds J29 J85 Q))) ls st h
theorem kX12_supper_23 {X : zq_X} {d : Nat} (C : zq_C X cX12_supper 6 RX12 d) {d_X12_begins : Nat} {s_X12_begins : zq_Sp} (h_X12_begins : zq_M yX12_begins cX12_begins 3 (some .int) 1 d_X12_begins s_X12_begins) (g_X12_begins : d_X12_begins + 1 ≤ d) {d_X12_readsAct : Nat} {s_X12_readsAct : zq_Sp} (h_X12_readsAct : zq_M yX12_readsAct cX12_readsAct 2 (some .boolean) 1 d_X12_readsAct s_X12_readsAct) (g_X12_readsAct : d_X12_readsAct + 1 ≤ d) {d_X12_takes : Nat} {s_X12_takes : zq_Sp} (h_X12_takes : zq_M yX12_takes cX12_takes 3 (some .boolean) 1 d_X12_takes s_X12_takes) (g_X12_takes : d_X12_takes + 1 ≤ d) {d_X12_faultOf : Nat} {s_X12_faultOf : zq_Sp} (h_X12_faultOf : zq_M yX12_faultOf cX12_faultOf 5 (some .int) 1 d_X12_faultOf s_X12_faultOf) (g_X12_faultOf : d_X12_faultOf + 1 ≤ d) {d_X12_putsBy : Nat} {s_X12_putsBy : zq_Sp} (h_X12_putsBy : zq_M yX12_putsBy cX12_putsBy 2 none 0 d_X12_putsBy s_X12_putsBy) (g_X12_putsBy : d_X12_putsBy + 1 ≤ d) {d_X12_does : Nat} {s_X12_does : zq_Sp} (h_X12_does : zq_M yX12_does cX12_does 3 (some .boolean) 1 d_X12_does s_X12_does) (g_X12_does : d_X12_does + 1 ≤ d) {d_X12_flag : Nat} {s_X12_flag : zq_Sp} (h_X12_flag : zq_M yX12_flag cX12_flag 1 (some .int) 1 d_X12_flag s_X12_flag) (g_X12_flag : d_X12_flag + 1 ≤ d) {d_X12_enters : Nat} {s_X12_enters : zq_Sp} (h_X12_enters : zq_M yX12_enters cX12_enters 3 none 0 d_X12_enters s_X12_enters) (g_X12_enters : d_X12_enters + 1 ≤ d) {d_X12_holds : Nat} {s_X12_holds : zq_Sp} (h_X12_holds : zq_M yX12_holds cX12_holds 4 (some .int) 1 d_X12_holds s_X12_holds) (g_X12_holds : d_X12_holds + 1 ≤ d) {d_X12_adds : Nat} {s_X12_adds : zq_Sp} (h_X12_adds : zq_M yX12_adds cX12_adds 3 (some .int) 1 d_X12_adds s_X12_adds) (g_X12_adds : d_X12_adds + 1 ≤ d) {J29 : zq_P} (j29 : zq_ok X 6 29 J29) {J85 : zq_P} (j85 : zq_ok X 6 85 J85) {Q : zq_Q} (hq : zq_R X (some .int) 1 Q) : zq_ok X 6 23 (xX12_supper_23 s_X12_begins s_X12_readsAct s_X12_takes s_X12_faultOf s_X12_putsBy s_X12_does s_X12_flag s_X12_enters s_X12_holds s_X12_adds J29 J85 Q) := by
  refine zs_iconst C dX12_supper_23 (by decide) ?_
  exact zs_goto C dX12_supper_24 (by decide) (kX12_supper_28 C h_X12_begins g_X12_begins h_X12_readsAct g_X12_readsAct h_X12_takes g_X12_takes h_X12_faultOf g_X12_faultOf h_X12_putsBy g_X12_putsBy h_X12_does g_X12_does h_X12_flag g_X12_flag h_X12_enters g_X12_enters h_X12_holds g_X12_holds h_X12_adds g_X12_adds j29 j85 hq)
def xX12_supper_0 (s_X12_begins : zq_Sp) (s_X12_readsAct : zq_Sp) (s_X12_takes : zq_Sp) (s_X12_faultOf : zq_Sp) (s_X12_putsBy : zq_Sp) (s_X12_does : zq_Sp) (s_X12_flag : zq_Sp) (s_X12_enters : zq_Sp) (s_X12_holds : zq_Sp) (s_X12_adds : zq_Sp) (J29 : zq_P) (J85 : zq_P) (Q : zq_Q) (ls : zq_L) (st : List Value) (h : zq_H) : Prop := (zi_aload 0 (zi_push (.int 0) (zi_putI 56 0 (zi_aload 0 (zi_push (.int 60) (zi_callV 1 56 s_X12_begins (zi_istore 1 (zi_aload 0 (zi_push (.int 0) (zi_putI 56 37 (zi_push (.int 1) (zi_istore 2 (zi_iload 1 (zi_if1 (fun x => x ≤ 0) (xX12_supper_27 s_X12_begins s_X12_readsAct s_X12_takes s_X12_faultOf s_X12_putsBy s_X12_does s_X12_flag s_X12_enters s_X12_holds s_X12_adds J29 J85 Q) (xX12_supper_23 s_X12_begins s_X12_readsAct s_X12_takes s_X12_faultOf s_X12_putsBy s_X12_does s_X12_flag s_X12_enters s_X12_holds s_X12_adds J29 J85 Q))))))))))))))) ls st h
theorem kX12_supper_0 {X : zq_X} {d : Nat} (C : zq_C X cX12_supper 6 RX12 d) {d_X12_begins : Nat} {s_X12_begins : zq_Sp} (h_X12_begins : zq_M yX12_begins cX12_begins 3 (some .int) 1 d_X12_begins s_X12_begins) (g_X12_begins : d_X12_begins + 1 ≤ d) {d_X12_readsAct : Nat} {s_X12_readsAct : zq_Sp} (h_X12_readsAct : zq_M yX12_readsAct cX12_readsAct 2 (some .boolean) 1 d_X12_readsAct s_X12_readsAct) (g_X12_readsAct : d_X12_readsAct + 1 ≤ d) {d_X12_takes : Nat} {s_X12_takes : zq_Sp} (h_X12_takes : zq_M yX12_takes cX12_takes 3 (some .boolean) 1 d_X12_takes s_X12_takes) (g_X12_takes : d_X12_takes + 1 ≤ d) {d_X12_faultOf : Nat} {s_X12_faultOf : zq_Sp} (h_X12_faultOf : zq_M yX12_faultOf cX12_faultOf 5 (some .int) 1 d_X12_faultOf s_X12_faultOf) (g_X12_faultOf : d_X12_faultOf + 1 ≤ d) {d_X12_putsBy : Nat} {s_X12_putsBy : zq_Sp} (h_X12_putsBy : zq_M yX12_putsBy cX12_putsBy 2 none 0 d_X12_putsBy s_X12_putsBy) (g_X12_putsBy : d_X12_putsBy + 1 ≤ d) {d_X12_does : Nat} {s_X12_does : zq_Sp} (h_X12_does : zq_M yX12_does cX12_does 3 (some .boolean) 1 d_X12_does s_X12_does) (g_X12_does : d_X12_does + 1 ≤ d) {d_X12_flag : Nat} {s_X12_flag : zq_Sp} (h_X12_flag : zq_M yX12_flag cX12_flag 1 (some .int) 1 d_X12_flag s_X12_flag) (g_X12_flag : d_X12_flag + 1 ≤ d) {d_X12_enters : Nat} {s_X12_enters : zq_Sp} (h_X12_enters : zq_M yX12_enters cX12_enters 3 none 0 d_X12_enters s_X12_enters) (g_X12_enters : d_X12_enters + 1 ≤ d) {d_X12_holds : Nat} {s_X12_holds : zq_Sp} (h_X12_holds : zq_M yX12_holds cX12_holds 4 (some .int) 1 d_X12_holds s_X12_holds) (g_X12_holds : d_X12_holds + 1 ≤ d) {d_X12_adds : Nat} {s_X12_adds : zq_Sp} (h_X12_adds : zq_M yX12_adds cX12_adds 3 (some .int) 1 d_X12_adds s_X12_adds) (g_X12_adds : d_X12_adds + 1 ≤ d) {J29 : zq_P} (j29 : zq_ok X 6 29 J29) {J85 : zq_P} (j85 : zq_ok X 6 85 J85) {Q : zq_Q} (hq : zq_R X (some .int) 1 Q) : zq_ok X 6 0 (xX12_supper_0 s_X12_begins s_X12_readsAct s_X12_takes s_X12_faultOf s_X12_putsBy s_X12_does s_X12_flag s_X12_enters s_X12_holds s_X12_adds J29 J85 Q) := by
  refine zs_aload_n C dX12_supper_0 rfl ?_
  refine zs_iconst C dX12_supper_1 (by decide) ?_
  refine zs_putI C zp_56 zF12 (j := 0) ⟨by decide, rfl⟩ ⟨rfl, by decide +kernel⟩ zw_1096 dX12_supper_2 ?_
  refine zs_aload_n C dX12_supper_5 rfl ?_
  refine zs_bipush C dX12_supper_6 (by decide) ?_
  refine zs_callV C h_X12_begins g_X12_begins zy_X12_begins zp_56 (show vwCl[12]? = some (RX12, TX12, 67) from rfl) zw_1318 zw_1320 zs9_X12_begins dX12_supper_8 ?_
  refine zs_istore_n C dX12_supper_11 rfl (by decide) ?_
  refine zs_aload_n C dX12_supper_12 rfl ?_
  refine zs_iconst C dX12_supper_13 (by decide) ?_
  refine zs_putI C zp_56 zF12 (j := 37) ⟨by decide, rfl⟩ ⟨rfl, by decide +kernel⟩ zw_1133 dX12_supper_14 ?_
  refine zs_iconst C dX12_supper_17 (by decide) ?_
  refine zs_istore_n C dX12_supper_18 rfl (by decide) ?_
  refine zs_iload_n C dX12_supper_19 rfl ?_
  exact zs_if_le C dX12_supper_20 (by decide) (kX12_supper_27 C h_X12_begins g_X12_begins h_X12_readsAct g_X12_readsAct h_X12_takes g_X12_takes h_X12_faultOf g_X12_faultOf h_X12_putsBy g_X12_putsBy h_X12_does g_X12_does h_X12_flag g_X12_flag h_X12_enters g_X12_enters h_X12_holds g_X12_holds h_X12_adds g_X12_adds j29 j85 hq) (kX12_supper_23 C h_X12_begins g_X12_begins h_X12_readsAct g_X12_readsAct h_X12_takes g_X12_takes h_X12_faultOf g_X12_faultOf h_X12_putsBy g_X12_putsBy h_X12_does g_X12_does h_X12_flag g_X12_flag h_X12_enters g_X12_enters h_X12_holds g_X12_holds h_X12_adds g_X12_adds j29 j85 hq)
theorem mX12_supper {d : Nat} {spec : zq_Sp} {σ29 : Type} {σ85 : Type} {d_X12_begins : Nat} {s_X12_begins : zq_Sp} (h_X12_begins : zq_M yX12_begins cX12_begins 3 (some .int) 1 d_X12_begins s_X12_begins) (g_X12_begins : d_X12_begins + 1 ≤ d) {d_X12_readsAct : Nat} {s_X12_readsAct : zq_Sp} (h_X12_readsAct : zq_M yX12_readsAct cX12_readsAct 2 (some .boolean) 1 d_X12_readsAct s_X12_readsAct) (g_X12_readsAct : d_X12_readsAct + 1 ≤ d) {d_X12_takes : Nat} {s_X12_takes : zq_Sp} (h_X12_takes : zq_M yX12_takes cX12_takes 3 (some .boolean) 1 d_X12_takes s_X12_takes) (g_X12_takes : d_X12_takes + 1 ≤ d) {d_X12_faultOf : Nat} {s_X12_faultOf : zq_Sp} (h_X12_faultOf : zq_M yX12_faultOf cX12_faultOf 5 (some .int) 1 d_X12_faultOf s_X12_faultOf) (g_X12_faultOf : d_X12_faultOf + 1 ≤ d) {d_X12_putsBy : Nat} {s_X12_putsBy : zq_Sp} (h_X12_putsBy : zq_M yX12_putsBy cX12_putsBy 2 none 0 d_X12_putsBy s_X12_putsBy) (g_X12_putsBy : d_X12_putsBy + 1 ≤ d) {d_X12_does : Nat} {s_X12_does : zq_Sp} (h_X12_does : zq_M yX12_does cX12_does 3 (some .boolean) 1 d_X12_does s_X12_does) (g_X12_does : d_X12_does + 1 ≤ d) {d_X12_flag : Nat} {s_X12_flag : zq_Sp} (h_X12_flag : zq_M yX12_flag cX12_flag 1 (some .int) 1 d_X12_flag s_X12_flag) (g_X12_flag : d_X12_flag + 1 ≤ d) {d_X12_enters : Nat} {s_X12_enters : zq_Sp} (h_X12_enters : zq_M yX12_enters cX12_enters 3 none 0 d_X12_enters s_X12_enters) (g_X12_enters : d_X12_enters + 1 ≤ d) {d_X12_holds : Nat} {s_X12_holds : zq_Sp} (h_X12_holds : zq_M yX12_holds cX12_holds 4 (some .int) 1 d_X12_holds s_X12_holds) (g_X12_holds : d_X12_holds + 1 ≤ d) {d_X12_adds : Nat} {s_X12_adds : zq_Sp} (h_X12_adds : zq_M yX12_adds cX12_adds 3 (some .int) 1 d_X12_adds s_X12_adds) (g_X12_adds : d_X12_adds + 1 ≤ d) (μ29 : σ29 → Nat) (I29 : zq_Q → σ29 → zq_P) (μ85 : σ85 → Nat) (I85 : zq_Q → σ85 → zq_P) (v : ∀ args h Q, spec args h Q → (zq_a args).length ≤ 6 ∧ xX12_supper_0 s_X12_begins s_X12_readsAct s_X12_takes s_X12_faultOf s_X12_putsBy s_X12_does s_X12_flag s_X12_enters s_X12_holds s_X12_adds (fun ls st h => ∃ b, I29 Q b ls st h) (fun ls st h => ∃ b, I85 Q b ls st h) Q (zq_l0 6 args) [] h) (v29 : ∀ Q a ls st h, I29 Q a ls st h → xX12_supper_29 s_X12_begins s_X12_readsAct s_X12_takes s_X12_faultOf s_X12_putsBy s_X12_does s_X12_flag s_X12_enters s_X12_holds s_X12_adds (fun ls st h => ∃ b, μ29 b < μ29 a ∧ I29 Q b ls st h) (fun ls st h => ∃ b, μ85 b < μ29 a ∧ I85 Q b ls st h) Q ls st h) (v85 : ∀ Q a ls st h, I85 Q a ls st h → xX12_supper_85 s_X12_begins s_X12_readsAct s_X12_takes s_X12_faultOf s_X12_putsBy s_X12_does s_X12_flag s_X12_enters s_X12_holds s_X12_adds (fun ls st h => ∃ b, μ29 b < μ85 a ∧ I29 Q b ls st h) (fun ls st h => ∃ b, μ85 b < μ85 a ∧ I85 Q b ls st h) Q ls st h) : zq_M yX12_supper cX12_supper 6 (some .int) 1 d spec := by
  refine zq_met (by decide +kernel) (by decide) (fun X Q args h C hq hs => ⟨(v args h Q hs).1, _, ?_, (v args h Q hs).2⟩)
  have hl := zq_loop2 (X := X) (nL := 6) (pc1 := 29) (pc2 := 85) μ29 μ85 (I29 Q) (I85 Q) (fun J29 J85 => xX12_supper_29 s_X12_begins s_X12_readsAct s_X12_takes s_X12_faultOf s_X12_putsBy s_X12_does s_X12_flag s_X12_enters s_X12_holds s_X12_adds J29 J85 Q) (fun J29 J85 => xX12_supper_85 s_X12_begins s_X12_readsAct s_X12_takes s_X12_faultOf s_X12_putsBy s_X12_does s_X12_flag s_X12_enters s_X12_holds s_X12_adds J29 J85 Q) (fun j29 j85 => kX12_supper_29 C h_X12_begins g_X12_begins h_X12_readsAct g_X12_readsAct h_X12_takes g_X12_takes h_X12_faultOf g_X12_faultOf h_X12_putsBy g_X12_putsBy h_X12_does g_X12_does h_X12_flag g_X12_flag h_X12_enters g_X12_enters h_X12_holds g_X12_holds h_X12_adds g_X12_adds j29 j85 hq) (fun j29 j85 => kX12_supper_85 C h_X12_begins g_X12_begins h_X12_readsAct g_X12_readsAct h_X12_takes g_X12_takes h_X12_faultOf g_X12_faultOf h_X12_putsBy g_X12_putsBy h_X12_does g_X12_does h_X12_flag g_X12_flag h_X12_enters g_X12_enters h_X12_holds g_X12_holds h_X12_adds g_X12_adds j29 j85 hq) (v29 Q) (v85 Q)
  exact kX12_supper_0 C h_X12_begins g_X12_begins h_X12_readsAct g_X12_readsAct h_X12_takes g_X12_takes h_X12_faultOf g_X12_faultOf h_X12_putsBy g_X12_putsBy h_X12_does g_X12_does h_X12_flag g_X12_flag h_X12_enters g_X12_enters h_X12_holds g_X12_holds h_X12_adds g_X12_adds hl.1 hl.2 hq
/-! ToOneCrumbModel.seen(II)I -/
theorem dX12_seen_0 : decode cX12_seen 0 = .ok (.aload_n 0, 1) := by decide +kernel
theorem dX12_seen_1 : decode cX12_seen 1 = .ok (.iconst 0, 1) := by decide +kernel
theorem dX12_seen_2 : decode cX12_seen 2 = .ok (.putfield 147, 3) := by decide +kernel
theorem dX12_seen_5 : decode cX12_seen 5 = .ok (.aload_n 0, 1) := by decide +kernel
theorem dX12_seen_6 : decode cX12_seen 6 = .ok (.iload_n 1, 1) := by decide +kernel
theorem dX12_seen_7 : decode cX12_seen 7 = .ok (.invokevirtual 313, 3) := by decide +kernel
theorem dX12_seen_10 : decode cX12_seen 10 = .ok (.ifCond .eq 11, 3) := by decide +kernel
theorem dX12_seen_13 : decode cX12_seen 13 = .ok (.aload_n 0, 1) := by decide +kernel
theorem dX12_seen_14 : decode cX12_seen 14 = .ok (.iload_n 2, 1) := by decide +kernel
theorem dX12_seen_15 : decode cX12_seen 15 = .ok (.invokevirtual 313, 3) := by decide +kernel
theorem dX12_seen_18 : decode cX12_seen 18 = .ok (.ifCond .ne 5, 3) := by decide +kernel
theorem dX12_seen_21 : decode cX12_seen 21 = .ok (.iconst (-1), 1) := by decide +kernel
theorem dX12_seen_22 : decode cX12_seen 22 = .ok (.ireturn, 1) := by decide +kernel
theorem dX12_seen_23 : decode cX12_seen 23 = .ok (.aload_n 0, 1) := by decide +kernel
theorem dX12_seen_24 : decode cX12_seen 24 = .ok (.invokevirtual 318, 3) := by decide +kernel
theorem dX12_seen_27 : decode cX12_seen 27 = .ok (.aload_n 0, 1) := by decide +kernel
theorem dX12_seen_28 : decode cX12_seen 28 = .ok (.iload_n 1, 1) := by decide +kernel
theorem dX12_seen_29 : decode cX12_seen 29 = .ok (.iload_n 2, 1) := by decide +kernel
theorem dX12_seen_30 : decode cX12_seen 30 = .ok (.invokevirtual 324, 3) := by decide +kernel
theorem dX12_seen_33 : decode cX12_seen 33 = .ok (.ireturn, 1) := by decide +kernel
def xX12_seen_23 (s_X12_isGuest : zq_Sp) (s_X12_laysTable : zq_Sp) (s_X12_held : zq_Sp) (Q : zq_Q) (ls : zq_L) (st : List Value) (h : zq_H) : Prop := (zi_aload 0 (zi_callV 0 56 s_X12_laysTable (zi_aload 0 (zi_iload 1 (zi_iload 2 (zi_callV 2 56 s_X12_held (zi_iret Q))))))) ls st h
theorem kX12_seen_23 {X : zq_X} {d : Nat} (C : zq_C X cX12_seen 3 RX12 d) {d_X12_isGuest : Nat} {s_X12_isGuest : zq_Sp} (h_X12_isGuest : zq_M yX12_isGuest cX12_isGuest 2 (some .boolean) 1 d_X12_isGuest s_X12_isGuest) (g_X12_isGuest : d_X12_isGuest + 1 ≤ d) {d_X12_laysTable : Nat} {s_X12_laysTable : zq_Sp} (h_X12_laysTable : zq_M yX12_laysTable cX12_laysTable 3 none 0 d_X12_laysTable s_X12_laysTable) (g_X12_laysTable : d_X12_laysTable + 1 ≤ d) {d_X12_held : Nat} {s_X12_held : zq_Sp} (h_X12_held : zq_M yX12_held cX12_held 5 (some .int) 1 d_X12_held s_X12_held) (g_X12_held : d_X12_held + 1 ≤ d) {Q : zq_Q} (hq : zq_R X (some .int) 1 Q) : zq_ok X 3 23 (xX12_seen_23 s_X12_isGuest s_X12_laysTable s_X12_held Q) := by
  refine zs_aload_n C dX12_seen_23 rfl ?_
  refine zs_callV C h_X12_laysTable g_X12_laysTable zy_X12_laysTable zp_56 (show vwCl[12]? = some (RX12, TX12, 67) from rfl) zw_1471 zw_1473 zs9_X12_laysTable dX12_seen_24 ?_
  refine zs_aload_n C dX12_seen_27 rfl ?_
  refine zs_iload_n C dX12_seen_28 rfl ?_
  refine zs_iload_n C dX12_seen_29 rfl ?_
  refine zs_callV C h_X12_held g_X12_held zy_X12_held zp_56 (show vwCl[12]? = some (RX12, TX12, 67) from rfl) zw_1494 zw_1496 zs9_X12_held dX12_seen_30 ?_
  exact zs_iret C hq dX12_seen_33
def xX12_seen_21 (s_X12_isGuest : zq_Sp) (s_X12_laysTable : zq_Sp) (s_X12_held : zq_Sp) (Q : zq_Q) (ls : zq_L) (st : List Value) (h : zq_H) : Prop := (zi_push (.int (-1)) (zi_iret Q)) ls st h
theorem kX12_seen_21 {X : zq_X} {d : Nat} (C : zq_C X cX12_seen 3 RX12 d) {d_X12_isGuest : Nat} {s_X12_isGuest : zq_Sp} (h_X12_isGuest : zq_M yX12_isGuest cX12_isGuest 2 (some .boolean) 1 d_X12_isGuest s_X12_isGuest) (g_X12_isGuest : d_X12_isGuest + 1 ≤ d) {d_X12_laysTable : Nat} {s_X12_laysTable : zq_Sp} (h_X12_laysTable : zq_M yX12_laysTable cX12_laysTable 3 none 0 d_X12_laysTable s_X12_laysTable) (g_X12_laysTable : d_X12_laysTable + 1 ≤ d) {d_X12_held : Nat} {s_X12_held : zq_Sp} (h_X12_held : zq_M yX12_held cX12_held 5 (some .int) 1 d_X12_held s_X12_held) (g_X12_held : d_X12_held + 1 ≤ d) {Q : zq_Q} (hq : zq_R X (some .int) 1 Q) : zq_ok X 3 21 (xX12_seen_21 s_X12_isGuest s_X12_laysTable s_X12_held Q) := by
  refine zs_iconst C dX12_seen_21 (by decide) ?_
  exact zs_iret C hq dX12_seen_22
def xX12_seen_13 (s_X12_isGuest : zq_Sp) (s_X12_laysTable : zq_Sp) (s_X12_held : zq_Sp) (Q : zq_Q) (ls : zq_L) (st : List Value) (h : zq_H) : Prop := (zi_aload 0 (zi_iload 2 (zi_callV 1 56 s_X12_isGuest (zi_if1 (fun x => x = 0) (xX12_seen_21 s_X12_isGuest s_X12_laysTable s_X12_held Q) (xX12_seen_23 s_X12_isGuest s_X12_laysTable s_X12_held Q))))) ls st h
theorem kX12_seen_13 {X : zq_X} {d : Nat} (C : zq_C X cX12_seen 3 RX12 d) {d_X12_isGuest : Nat} {s_X12_isGuest : zq_Sp} (h_X12_isGuest : zq_M yX12_isGuest cX12_isGuest 2 (some .boolean) 1 d_X12_isGuest s_X12_isGuest) (g_X12_isGuest : d_X12_isGuest + 1 ≤ d) {d_X12_laysTable : Nat} {s_X12_laysTable : zq_Sp} (h_X12_laysTable : zq_M yX12_laysTable cX12_laysTable 3 none 0 d_X12_laysTable s_X12_laysTable) (g_X12_laysTable : d_X12_laysTable + 1 ≤ d) {d_X12_held : Nat} {s_X12_held : zq_Sp} (h_X12_held : zq_M yX12_held cX12_held 5 (some .int) 1 d_X12_held s_X12_held) (g_X12_held : d_X12_held + 1 ≤ d) {Q : zq_Q} (hq : zq_R X (some .int) 1 Q) : zq_ok X 3 13 (xX12_seen_13 s_X12_isGuest s_X12_laysTable s_X12_held Q) := by
  refine zs_aload_n C dX12_seen_13 rfl ?_
  refine zs_iload_n C dX12_seen_14 rfl ?_
  refine zs_callV C h_X12_isGuest g_X12_isGuest zy_X12_isGuest zp_56 (show vwCl[12]? = some (RX12, TX12, 67) from rfl) zw_1466 zw_1468 zs9_X12_isGuest dX12_seen_15 ?_
  exact zs_if_ne C dX12_seen_18 (by decide) (kX12_seen_23 C h_X12_isGuest g_X12_isGuest h_X12_laysTable g_X12_laysTable h_X12_held g_X12_held hq) (kX12_seen_21 C h_X12_isGuest g_X12_isGuest h_X12_laysTable g_X12_laysTable h_X12_held g_X12_held hq)
def xX12_seen_0 (s_X12_isGuest : zq_Sp) (s_X12_laysTable : zq_Sp) (s_X12_held : zq_Sp) (Q : zq_Q) (ls : zq_L) (st : List Value) (h : zq_H) : Prop := (zi_aload 0 (zi_push (.int 0) (zi_putI 56 0 (zi_aload 0 (zi_iload 1 (zi_callV 1 56 s_X12_isGuest (zi_if1 (fun x => x = 0) (xX12_seen_21 s_X12_isGuest s_X12_laysTable s_X12_held Q) (xX12_seen_13 s_X12_isGuest s_X12_laysTable s_X12_held Q)))))))) ls st h
theorem kX12_seen_0 {X : zq_X} {d : Nat} (C : zq_C X cX12_seen 3 RX12 d) {d_X12_isGuest : Nat} {s_X12_isGuest : zq_Sp} (h_X12_isGuest : zq_M yX12_isGuest cX12_isGuest 2 (some .boolean) 1 d_X12_isGuest s_X12_isGuest) (g_X12_isGuest : d_X12_isGuest + 1 ≤ d) {d_X12_laysTable : Nat} {s_X12_laysTable : zq_Sp} (h_X12_laysTable : zq_M yX12_laysTable cX12_laysTable 3 none 0 d_X12_laysTable s_X12_laysTable) (g_X12_laysTable : d_X12_laysTable + 1 ≤ d) {d_X12_held : Nat} {s_X12_held : zq_Sp} (h_X12_held : zq_M yX12_held cX12_held 5 (some .int) 1 d_X12_held s_X12_held) (g_X12_held : d_X12_held + 1 ≤ d) {Q : zq_Q} (hq : zq_R X (some .int) 1 Q) : zq_ok X 3 0 (xX12_seen_0 s_X12_isGuest s_X12_laysTable s_X12_held Q) := by
  refine zs_aload_n C dX12_seen_0 rfl ?_
  refine zs_iconst C dX12_seen_1 (by decide) ?_
  refine zs_putI C zp_56 zF12 (j := 0) ⟨by decide, rfl⟩ ⟨rfl, by decide +kernel⟩ zw_1096 dX12_seen_2 ?_
  refine zs_aload_n C dX12_seen_5 rfl ?_
  refine zs_iload_n C dX12_seen_6 rfl ?_
  refine zs_callV C h_X12_isGuest g_X12_isGuest zy_X12_isGuest zp_56 (show vwCl[12]? = some (RX12, TX12, 67) from rfl) zw_1466 zw_1468 zs9_X12_isGuest dX12_seen_7 ?_
  exact zs_if_eq C dX12_seen_10 (by decide) (kX12_seen_21 C h_X12_isGuest g_X12_isGuest h_X12_laysTable g_X12_laysTable h_X12_held g_X12_held hq) (kX12_seen_13 C h_X12_isGuest g_X12_isGuest h_X12_laysTable g_X12_laysTable h_X12_held g_X12_held hq)
theorem mX12_seen {d : Nat} {spec : zq_Sp} {d_X12_isGuest : Nat} {s_X12_isGuest : zq_Sp} (h_X12_isGuest : zq_M yX12_isGuest cX12_isGuest 2 (some .boolean) 1 d_X12_isGuest s_X12_isGuest) (g_X12_isGuest : d_X12_isGuest + 1 ≤ d) {d_X12_laysTable : Nat} {s_X12_laysTable : zq_Sp} (h_X12_laysTable : zq_M yX12_laysTable cX12_laysTable 3 none 0 d_X12_laysTable s_X12_laysTable) (g_X12_laysTable : d_X12_laysTable + 1 ≤ d) {d_X12_held : Nat} {s_X12_held : zq_Sp} (h_X12_held : zq_M yX12_held cX12_held 5 (some .int) 1 d_X12_held s_X12_held) (g_X12_held : d_X12_held + 1 ≤ d) (v : ∀ args h Q, spec args h Q → (zq_a args).length ≤ 3 ∧ xX12_seen_0 s_X12_isGuest s_X12_laysTable s_X12_held Q (zq_l0 3 args) [] h) : zq_M yX12_seen cX12_seen 3 (some .int) 1 d spec := by
  refine zq_met (by decide +kernel) (by decide) (fun X Q args h C hq hs => ⟨(v args h Q hs).1, _, ?_, (v args h Q hs).2⟩)
  exact kX12_seen_0 C h_X12_isGuest g_X12_isGuest h_X12_laysTable g_X12_laysTable h_X12_held g_X12_held hq
/-! ToOneCrumbModel.envy()I -/
theorem dX12_envy_0 : decode cX12_envy 0 = .ok (.aload_n 0, 1) := by decide +kernel
theorem dX12_envy_1 : decode cX12_envy 1 = .ok (.iconst 0, 1) := by decide +kernel
theorem dX12_envy_2 : decode cX12_envy 2 = .ok (.putfield 147, 3) := by decide +kernel
theorem dX12_envy_5 : decode cX12_envy 5 = .ok (.aload_n 0, 1) := by decide +kernel
theorem dX12_envy_6 : decode cX12_envy 6 = .ok (.invokevirtual 318, 3) := by decide +kernel
theorem dX12_envy_9 : decode cX12_envy 9 = .ok (.aload_n 0, 1) := by decide +kernel
theorem dX12_envy_10 : decode cX12_envy 10 = .ok (.iconst 0, 1) := by decide +kernel
theorem dX12_envy_11 : decode cX12_envy 11 = .ok (.putfield 155, 3) := by decide +kernel
theorem dX12_envy_14 : decode cX12_envy 14 = .ok (.iconst 0, 1) := by decide +kernel
theorem dX12_envy_15 : decode cX12_envy 15 = .ok (.istore_n 1, 1) := by decide +kernel
theorem dX12_envy_16 : decode cX12_envy 16 = .ok (.iconst 0, 1) := by decide +kernel
theorem dX12_envy_17 : decode cX12_envy 17 = .ok (.istore_n 2, 1) := by decide +kernel
theorem dX12_envy_18 : decode cX12_envy 18 = .ok (.iload_n 2, 1) := by decide +kernel
theorem dX12_envy_19 : decode cX12_envy 19 = .ok (.aload_n 0, 1) := by decide +kernel
theorem dX12_envy_20 : decode cX12_envy 20 = .ok (.getfield 165, 3) := by decide +kernel
theorem dX12_envy_23 : decode cX12_envy 23 = .ok (.if_icmp .ge 59, 3) := by decide +kernel
theorem dX12_envy_26 : decode cX12_envy 26 = .ok (.iconst 0, 1) := by decide +kernel
theorem dX12_envy_27 : decode cX12_envy 27 = .ok (.istore_n 3, 1) := by decide +kernel
theorem dX12_envy_28 : decode cX12_envy 28 = .ok (.iload_n 3, 1) := by decide +kernel
theorem dX12_envy_29 : decode cX12_envy 29 = .ok (.aload_n 0, 1) := by decide +kernel
theorem dX12_envy_30 : decode cX12_envy 30 = .ok (.getfield 165, 3) := by decide +kernel
theorem dX12_envy_33 : decode cX12_envy 33 = .ok (.if_icmp .ge 43, 3) := by decide +kernel
theorem dX12_envy_36 : decode cX12_envy 36 = .ok (.aload_n 0, 1) := by decide +kernel
theorem dX12_envy_37 : decode cX12_envy 37 = .ok (.iload_n 2, 1) := by decide +kernel
theorem dX12_envy_38 : decode cX12_envy 38 = .ok (.iload_n 3, 1) := by decide +kernel
theorem dX12_envy_39 : decode cX12_envy 39 = .ok (.invokevirtual 324, 3) := by decide +kernel
theorem dX12_envy_42 : decode cX12_envy 42 = .ok (.aload_n 0, 1) := by decide +kernel
theorem dX12_envy_43 : decode cX12_envy 43 = .ok (.iload_n 2, 1) := by decide +kernel
theorem dX12_envy_44 : decode cX12_envy 44 = .ok (.iload_n 2, 1) := by decide +kernel
theorem dX12_envy_45 : decode cX12_envy 45 = .ok (.invokevirtual 324, 3) := by decide +kernel
theorem dX12_envy_48 : decode cX12_envy 48 = .ok (.if_icmp .le 22, 3) := by decide +kernel
theorem dX12_envy_51 : decode cX12_envy 51 = .ok (.iload_n 1, 1) := by decide +kernel
theorem dX12_envy_52 : decode cX12_envy 52 = .ok (.ifCond .ne 15, 3) := by decide +kernel
theorem dX12_envy_55 : decode cX12_envy 55 = .ok (.aload_n 0, 1) := by decide +kernel
theorem dX12_envy_56 : decode cX12_envy 56 = .ok (.iload_n 2, 1) := by decide +kernel
theorem dX12_envy_57 : decode cX12_envy 57 = .ok (.i2l, 1) := by decide +kernel
theorem dX12_envy_58 : decode cX12_envy 58 = .ok (.invokevirtual 368, 3) := by decide +kernel
theorem dX12_envy_61 : decode cX12_envy 61 = .ok (.aload_n 0, 1) := by decide +kernel
theorem dX12_envy_62 : decode cX12_envy 62 = .ok (.iload_n 3, 1) := by decide +kernel
theorem dX12_envy_63 : decode cX12_envy 63 = .ok (.i2l, 1) := by decide +kernel
theorem dX12_envy_64 : decode cX12_envy 64 = .ok (.invokevirtual 368, 3) := by decide +kernel
theorem dX12_envy_67 : decode cX12_envy 67 = .ok (.iinc 1 1, 3) := by decide +kernel
theorem dX12_envy_70 : decode cX12_envy 70 = .ok (.iinc 3 1, 3) := by decide +kernel
theorem dX12_envy_73 : decode cX12_envy 73 = .ok (.goto (-45), 3) := by decide +kernel
theorem dX12_envy_76 : decode cX12_envy 76 = .ok (.iinc 2 1, 3) := by decide +kernel
theorem dX12_envy_79 : decode cX12_envy 79 = .ok (.goto (-61), 3) := by decide +kernel
theorem dX12_envy_82 : decode cX12_envy 82 = .ok (.iload_n 1, 1) := by decide +kernel
theorem dX12_envy_83 : decode cX12_envy 83 = .ok (.ireturn, 1) := by decide +kernel
def xX12_envy_82 (s_X12_laysTable : zq_Sp) (s_X12_held : zq_Sp) (s_X12_enters : zq_Sp) (J18 : zq_P) (J28 : zq_P) (Q : zq_Q) (ls : zq_L) (st : List Value) (h : zq_H) : Prop := (zi_iload 1 (zi_iret Q)) ls st h
theorem kX12_envy_82 {X : zq_X} {d : Nat} (C : zq_C X cX12_envy 4 RX12 d) {d_X12_laysTable : Nat} {s_X12_laysTable : zq_Sp} (h_X12_laysTable : zq_M yX12_laysTable cX12_laysTable 3 none 0 d_X12_laysTable s_X12_laysTable) (g_X12_laysTable : d_X12_laysTable + 1 ≤ d) {d_X12_held : Nat} {s_X12_held : zq_Sp} (h_X12_held : zq_M yX12_held cX12_held 5 (some .int) 1 d_X12_held s_X12_held) (g_X12_held : d_X12_held + 1 ≤ d) {d_X12_enters : Nat} {s_X12_enters : zq_Sp} (h_X12_enters : zq_M yX12_enters cX12_enters 3 none 0 d_X12_enters s_X12_enters) (g_X12_enters : d_X12_enters + 1 ≤ d) {J18 : zq_P} (j18 : zq_ok X 4 18 J18) {J28 : zq_P} (j28 : zq_ok X 4 28 J28) {Q : zq_Q} (hq : zq_R X (some .int) 1 Q) : zq_ok X 4 82 (xX12_envy_82 s_X12_laysTable s_X12_held s_X12_enters J18 J28 Q) := by
  refine zs_iload_n C dX12_envy_82 rfl ?_
  exact zs_iret C hq dX12_envy_83
def xX12_envy_76 (s_X12_laysTable : zq_Sp) (s_X12_held : zq_Sp) (s_X12_enters : zq_Sp) (J18 : zq_P) (J28 : zq_P) (Q : zq_Q) (ls : zq_L) (st : List Value) (h : zq_H) : Prop := (zi_iinc 2 1 (J18)) ls st h
theorem kX12_envy_76 {X : zq_X} {d : Nat} (C : zq_C X cX12_envy 4 RX12 d) {d_X12_laysTable : Nat} {s_X12_laysTable : zq_Sp} (h_X12_laysTable : zq_M yX12_laysTable cX12_laysTable 3 none 0 d_X12_laysTable s_X12_laysTable) (g_X12_laysTable : d_X12_laysTable + 1 ≤ d) {d_X12_held : Nat} {s_X12_held : zq_Sp} (h_X12_held : zq_M yX12_held cX12_held 5 (some .int) 1 d_X12_held s_X12_held) (g_X12_held : d_X12_held + 1 ≤ d) {d_X12_enters : Nat} {s_X12_enters : zq_Sp} (h_X12_enters : zq_M yX12_enters cX12_enters 3 none 0 d_X12_enters s_X12_enters) (g_X12_enters : d_X12_enters + 1 ≤ d) {J18 : zq_P} (j18 : zq_ok X 4 18 J18) {J28 : zq_P} (j28 : zq_ok X 4 28 J28) {Q : zq_Q} (hq : zq_R X (some .int) 1 Q) : zq_ok X 4 76 (xX12_envy_76 s_X12_laysTable s_X12_held s_X12_enters J18 J28 Q) := by
  refine zs_iinc C dX12_envy_76 (by decide) (by decide) ?_
  exact zs_goto C dX12_envy_79 (by decide) (j18)
def xX12_envy_70 (s_X12_laysTable : zq_Sp) (s_X12_held : zq_Sp) (s_X12_enters : zq_Sp) (J18 : zq_P) (J28 : zq_P) (Q : zq_Q) (ls : zq_L) (st : List Value) (h : zq_H) : Prop := (zi_iinc 3 1 (J28)) ls st h
theorem kX12_envy_70 {X : zq_X} {d : Nat} (C : zq_C X cX12_envy 4 RX12 d) {d_X12_laysTable : Nat} {s_X12_laysTable : zq_Sp} (h_X12_laysTable : zq_M yX12_laysTable cX12_laysTable 3 none 0 d_X12_laysTable s_X12_laysTable) (g_X12_laysTable : d_X12_laysTable + 1 ≤ d) {d_X12_held : Nat} {s_X12_held : zq_Sp} (h_X12_held : zq_M yX12_held cX12_held 5 (some .int) 1 d_X12_held s_X12_held) (g_X12_held : d_X12_held + 1 ≤ d) {d_X12_enters : Nat} {s_X12_enters : zq_Sp} (h_X12_enters : zq_M yX12_enters cX12_enters 3 none 0 d_X12_enters s_X12_enters) (g_X12_enters : d_X12_enters + 1 ≤ d) {J18 : zq_P} (j18 : zq_ok X 4 18 J18) {J28 : zq_P} (j28 : zq_ok X 4 28 J28) {Q : zq_Q} (hq : zq_R X (some .int) 1 Q) : zq_ok X 4 70 (xX12_envy_70 s_X12_laysTable s_X12_held s_X12_enters J18 J28 Q) := by
  refine zs_iinc C dX12_envy_70 (by decide) (by decide) ?_
  exact zs_goto C dX12_envy_73 (by decide) (j28)
def xX12_envy_67 (s_X12_laysTable : zq_Sp) (s_X12_held : zq_Sp) (s_X12_enters : zq_Sp) (J18 : zq_P) (J28 : zq_P) (Q : zq_Q) (ls : zq_L) (st : List Value) (h : zq_H) : Prop := (zi_iinc 1 1 ((xX12_envy_70 s_X12_laysTable s_X12_held s_X12_enters J18 J28 Q))) ls st h
theorem kX12_envy_67 {X : zq_X} {d : Nat} (C : zq_C X cX12_envy 4 RX12 d) {d_X12_laysTable : Nat} {s_X12_laysTable : zq_Sp} (h_X12_laysTable : zq_M yX12_laysTable cX12_laysTable 3 none 0 d_X12_laysTable s_X12_laysTable) (g_X12_laysTable : d_X12_laysTable + 1 ≤ d) {d_X12_held : Nat} {s_X12_held : zq_Sp} (h_X12_held : zq_M yX12_held cX12_held 5 (some .int) 1 d_X12_held s_X12_held) (g_X12_held : d_X12_held + 1 ≤ d) {d_X12_enters : Nat} {s_X12_enters : zq_Sp} (h_X12_enters : zq_M yX12_enters cX12_enters 3 none 0 d_X12_enters s_X12_enters) (g_X12_enters : d_X12_enters + 1 ≤ d) {J18 : zq_P} (j18 : zq_ok X 4 18 J18) {J28 : zq_P} (j28 : zq_ok X 4 28 J28) {Q : zq_Q} (hq : zq_R X (some .int) 1 Q) : zq_ok X 4 67 (xX12_envy_67 s_X12_laysTable s_X12_held s_X12_enters J18 J28 Q) := by
  refine zs_iinc C dX12_envy_67 (by decide) (by decide) ?_
  exact kX12_envy_70 C h_X12_laysTable g_X12_laysTable h_X12_held g_X12_held h_X12_enters g_X12_enters j18 j28 hq
def xX12_envy_55 (s_X12_laysTable : zq_Sp) (s_X12_held : zq_Sp) (s_X12_enters : zq_Sp) (J18 : zq_P) (J28 : zq_P) (Q : zq_Q) (ls : zq_L) (st : List Value) (h : zq_H) : Prop := (zi_aload 0 (zi_iload 2 (zi_i2l (zi_callV 1 56 s_X12_enters (zi_aload 0 (zi_iload 3 (zi_i2l (zi_callV 1 56 s_X12_enters ((xX12_envy_67 s_X12_laysTable s_X12_held s_X12_enters J18 J28 Q)))))))))) ls st h
theorem kX12_envy_55 {X : zq_X} {d : Nat} (C : zq_C X cX12_envy 4 RX12 d) {d_X12_laysTable : Nat} {s_X12_laysTable : zq_Sp} (h_X12_laysTable : zq_M yX12_laysTable cX12_laysTable 3 none 0 d_X12_laysTable s_X12_laysTable) (g_X12_laysTable : d_X12_laysTable + 1 ≤ d) {d_X12_held : Nat} {s_X12_held : zq_Sp} (h_X12_held : zq_M yX12_held cX12_held 5 (some .int) 1 d_X12_held s_X12_held) (g_X12_held : d_X12_held + 1 ≤ d) {d_X12_enters : Nat} {s_X12_enters : zq_Sp} (h_X12_enters : zq_M yX12_enters cX12_enters 3 none 0 d_X12_enters s_X12_enters) (g_X12_enters : d_X12_enters + 1 ≤ d) {J18 : zq_P} (j18 : zq_ok X 4 18 J18) {J28 : zq_P} (j28 : zq_ok X 4 28 J28) {Q : zq_Q} (hq : zq_R X (some .int) 1 Q) : zq_ok X 4 55 (xX12_envy_55 s_X12_laysTable s_X12_held s_X12_enters J18 J28 Q) := by
  refine zs_aload_n C dX12_envy_55 rfl ?_
  refine zs_iload_n C dX12_envy_56 rfl ?_
  refine zs_i2l C dX12_envy_57 ?_
  refine zs_callV C h_X12_enters g_X12_enters zy_X12_enters zp_56 (show vwCl[12]? = some (RX12, TX12, 67) from rfl) zw_1574 zw_1576 zs9_X12_enters dX12_envy_58 ?_
  refine zs_aload_n C dX12_envy_61 rfl ?_
  refine zs_iload_n C dX12_envy_62 rfl ?_
  refine zs_i2l C dX12_envy_63 ?_
  refine zs_callV C h_X12_enters g_X12_enters zy_X12_enters zp_56 (show vwCl[12]? = some (RX12, TX12, 67) from rfl) zw_1574 zw_1576 zs9_X12_enters dX12_envy_64 ?_
  exact kX12_envy_67 C h_X12_laysTable g_X12_laysTable h_X12_held g_X12_held h_X12_enters g_X12_enters j18 j28 hq
def xX12_envy_51 (s_X12_laysTable : zq_Sp) (s_X12_held : zq_Sp) (s_X12_enters : zq_Sp) (J18 : zq_P) (J28 : zq_P) (Q : zq_Q) (ls : zq_L) (st : List Value) (h : zq_H) : Prop := (zi_iload 1 (zi_if1 (fun x => x = 0) (xX12_envy_55 s_X12_laysTable s_X12_held s_X12_enters J18 J28 Q) (xX12_envy_67 s_X12_laysTable s_X12_held s_X12_enters J18 J28 Q))) ls st h
theorem kX12_envy_51 {X : zq_X} {d : Nat} (C : zq_C X cX12_envy 4 RX12 d) {d_X12_laysTable : Nat} {s_X12_laysTable : zq_Sp} (h_X12_laysTable : zq_M yX12_laysTable cX12_laysTable 3 none 0 d_X12_laysTable s_X12_laysTable) (g_X12_laysTable : d_X12_laysTable + 1 ≤ d) {d_X12_held : Nat} {s_X12_held : zq_Sp} (h_X12_held : zq_M yX12_held cX12_held 5 (some .int) 1 d_X12_held s_X12_held) (g_X12_held : d_X12_held + 1 ≤ d) {d_X12_enters : Nat} {s_X12_enters : zq_Sp} (h_X12_enters : zq_M yX12_enters cX12_enters 3 none 0 d_X12_enters s_X12_enters) (g_X12_enters : d_X12_enters + 1 ≤ d) {J18 : zq_P} (j18 : zq_ok X 4 18 J18) {J28 : zq_P} (j28 : zq_ok X 4 28 J28) {Q : zq_Q} (hq : zq_R X (some .int) 1 Q) : zq_ok X 4 51 (xX12_envy_51 s_X12_laysTable s_X12_held s_X12_enters J18 J28 Q) := by
  refine zs_iload_n C dX12_envy_51 rfl ?_
  exact zs_if_ne C dX12_envy_52 (by decide) (kX12_envy_67 C h_X12_laysTable g_X12_laysTable h_X12_held g_X12_held h_X12_enters g_X12_enters j18 j28 hq) (kX12_envy_55 C h_X12_laysTable g_X12_laysTable h_X12_held g_X12_held h_X12_enters g_X12_enters j18 j28 hq)
def xX12_envy_36 (s_X12_laysTable : zq_Sp) (s_X12_held : zq_Sp) (s_X12_enters : zq_Sp) (J18 : zq_P) (J28 : zq_P) (Q : zq_Q) (ls : zq_L) (st : List Value) (h : zq_H) : Prop := (zi_aload 0 (zi_iload 2 (zi_iload 3 (zi_callV 2 56 s_X12_held (zi_aload 0 (zi_iload 2 (zi_iload 2 (zi_callV 2 56 s_X12_held (zi_if2 (fun x y => x ≤ y) (xX12_envy_70 s_X12_laysTable s_X12_held s_X12_enters J18 J28 Q) (xX12_envy_51 s_X12_laysTable s_X12_held s_X12_enters J18 J28 Q)))))))))) ls st h
theorem kX12_envy_36 {X : zq_X} {d : Nat} (C : zq_C X cX12_envy 4 RX12 d) {d_X12_laysTable : Nat} {s_X12_laysTable : zq_Sp} (h_X12_laysTable : zq_M yX12_laysTable cX12_laysTable 3 none 0 d_X12_laysTable s_X12_laysTable) (g_X12_laysTable : d_X12_laysTable + 1 ≤ d) {d_X12_held : Nat} {s_X12_held : zq_Sp} (h_X12_held : zq_M yX12_held cX12_held 5 (some .int) 1 d_X12_held s_X12_held) (g_X12_held : d_X12_held + 1 ≤ d) {d_X12_enters : Nat} {s_X12_enters : zq_Sp} (h_X12_enters : zq_M yX12_enters cX12_enters 3 none 0 d_X12_enters s_X12_enters) (g_X12_enters : d_X12_enters + 1 ≤ d) {J18 : zq_P} (j18 : zq_ok X 4 18 J18) {J28 : zq_P} (j28 : zq_ok X 4 28 J28) {Q : zq_Q} (hq : zq_R X (some .int) 1 Q) : zq_ok X 4 36 (xX12_envy_36 s_X12_laysTable s_X12_held s_X12_enters J18 J28 Q) := by
  refine zs_aload_n C dX12_envy_36 rfl ?_
  refine zs_iload_n C dX12_envy_37 rfl ?_
  refine zs_iload_n C dX12_envy_38 rfl ?_
  refine zs_callV C h_X12_held g_X12_held zy_X12_held zp_56 (show vwCl[12]? = some (RX12, TX12, 67) from rfl) zw_1494 zw_1496 zs9_X12_held dX12_envy_39 ?_
  refine zs_aload_n C dX12_envy_42 rfl ?_
  refine zs_iload_n C dX12_envy_43 rfl ?_
  refine zs_iload_n C dX12_envy_44 rfl ?_
  refine zs_callV C h_X12_held g_X12_held zy_X12_held zp_56 (show vwCl[12]? = some (RX12, TX12, 67) from rfl) zw_1494 zw_1496 zs9_X12_held dX12_envy_45 ?_
  exact zs_icmp_le C dX12_envy_48 (by decide) (kX12_envy_70 C h_X12_laysTable g_X12_laysTable h_X12_held g_X12_held h_X12_enters g_X12_enters j18 j28 hq) (kX12_envy_51 C h_X12_laysTable g_X12_laysTable h_X12_held g_X12_held h_X12_enters g_X12_enters j18 j28 hq)
def xX12_envy_28 (s_X12_laysTable : zq_Sp) (s_X12_held : zq_Sp) (s_X12_enters : zq_Sp) (J18 : zq_P) (J28 : zq_P) (Q : zq_Q) (ls : zq_L) (st : List Value) (h : zq_H) : Prop := (zi_iload 3 (zi_aload 0 (zi_getI 56 4 (zi_if2 (fun x y => y ≤ x) (xX12_envy_76 s_X12_laysTable s_X12_held s_X12_enters J18 J28 Q) (xX12_envy_36 s_X12_laysTable s_X12_held s_X12_enters J18 J28 Q))))) ls st h
theorem kX12_envy_28 {X : zq_X} {d : Nat} (C : zq_C X cX12_envy 4 RX12 d) {d_X12_laysTable : Nat} {s_X12_laysTable : zq_Sp} (h_X12_laysTable : zq_M yX12_laysTable cX12_laysTable 3 none 0 d_X12_laysTable s_X12_laysTable) (g_X12_laysTable : d_X12_laysTable + 1 ≤ d) {d_X12_held : Nat} {s_X12_held : zq_Sp} (h_X12_held : zq_M yX12_held cX12_held 5 (some .int) 1 d_X12_held s_X12_held) (g_X12_held : d_X12_held + 1 ≤ d) {d_X12_enters : Nat} {s_X12_enters : zq_Sp} (h_X12_enters : zq_M yX12_enters cX12_enters 3 none 0 d_X12_enters s_X12_enters) (g_X12_enters : d_X12_enters + 1 ≤ d) {J18 : zq_P} (j18 : zq_ok X 4 18 J18) {J28 : zq_P} (j28 : zq_ok X 4 28 J28) {Q : zq_Q} (hq : zq_R X (some .int) 1 Q) : zq_ok X 4 28 (xX12_envy_28 s_X12_laysTable s_X12_held s_X12_enters J18 J28 Q) := by
  refine zs_iload_n C dX12_envy_28 rfl ?_
  refine zs_aload_n C dX12_envy_29 rfl ?_
  refine zs_getI C zp_56 zF12 (j := 4) ⟨by decide, rfl⟩ zw_1100 dX12_envy_30 ?_
  exact zs_icmp_ge C dX12_envy_33 (by decide) (kX12_envy_76 C h_X12_laysTable g_X12_laysTable h_X12_held g_X12_held h_X12_enters g_X12_enters j18 j28 hq) (kX12_envy_36 C h_X12_laysTable g_X12_laysTable h_X12_held g_X12_held h_X12_enters g_X12_enters j18 j28 hq)
def xX12_envy_26 (s_X12_laysTable : zq_Sp) (s_X12_held : zq_Sp) (s_X12_enters : zq_Sp) (J18 : zq_P) (J28 : zq_P) (Q : zq_Q) (ls : zq_L) (st : List Value) (h : zq_H) : Prop := (zi_push (.int 0) (zi_istore 3 (J28))) ls st h
theorem kX12_envy_26 {X : zq_X} {d : Nat} (C : zq_C X cX12_envy 4 RX12 d) {d_X12_laysTable : Nat} {s_X12_laysTable : zq_Sp} (h_X12_laysTable : zq_M yX12_laysTable cX12_laysTable 3 none 0 d_X12_laysTable s_X12_laysTable) (g_X12_laysTable : d_X12_laysTable + 1 ≤ d) {d_X12_held : Nat} {s_X12_held : zq_Sp} (h_X12_held : zq_M yX12_held cX12_held 5 (some .int) 1 d_X12_held s_X12_held) (g_X12_held : d_X12_held + 1 ≤ d) {d_X12_enters : Nat} {s_X12_enters : zq_Sp} (h_X12_enters : zq_M yX12_enters cX12_enters 3 none 0 d_X12_enters s_X12_enters) (g_X12_enters : d_X12_enters + 1 ≤ d) {J18 : zq_P} (j18 : zq_ok X 4 18 J18) {J28 : zq_P} (j28 : zq_ok X 4 28 J28) {Q : zq_Q} (hq : zq_R X (some .int) 1 Q) : zq_ok X 4 26 (xX12_envy_26 s_X12_laysTable s_X12_held s_X12_enters J18 J28 Q) := by
  refine zs_iconst C dX12_envy_26 (by decide) ?_
  refine zs_istore_n C dX12_envy_27 rfl (by decide) ?_
  exact j28
def xX12_envy_18 (s_X12_laysTable : zq_Sp) (s_X12_held : zq_Sp) (s_X12_enters : zq_Sp) (J18 : zq_P) (J28 : zq_P) (Q : zq_Q) (ls : zq_L) (st : List Value) (h : zq_H) : Prop := (zi_iload 2 (zi_aload 0 (zi_getI 56 4 (zi_if2 (fun x y => y ≤ x) (xX12_envy_82 s_X12_laysTable s_X12_held s_X12_enters J18 J28 Q) (xX12_envy_26 s_X12_laysTable s_X12_held s_X12_enters J18 J28 Q))))) ls st h
theorem kX12_envy_18 {X : zq_X} {d : Nat} (C : zq_C X cX12_envy 4 RX12 d) {d_X12_laysTable : Nat} {s_X12_laysTable : zq_Sp} (h_X12_laysTable : zq_M yX12_laysTable cX12_laysTable 3 none 0 d_X12_laysTable s_X12_laysTable) (g_X12_laysTable : d_X12_laysTable + 1 ≤ d) {d_X12_held : Nat} {s_X12_held : zq_Sp} (h_X12_held : zq_M yX12_held cX12_held 5 (some .int) 1 d_X12_held s_X12_held) (g_X12_held : d_X12_held + 1 ≤ d) {d_X12_enters : Nat} {s_X12_enters : zq_Sp} (h_X12_enters : zq_M yX12_enters cX12_enters 3 none 0 d_X12_enters s_X12_enters) (g_X12_enters : d_X12_enters + 1 ≤ d) {J18 : zq_P} (j18 : zq_ok X 4 18 J18) {J28 : zq_P} (j28 : zq_ok X 4 28 J28) {Q : zq_Q} (hq : zq_R X (some .int) 1 Q) : zq_ok X 4 18 (xX12_envy_18 s_X12_laysTable s_X12_held s_X12_enters J18 J28 Q) := by
  refine zs_iload_n C dX12_envy_18 rfl ?_
  refine zs_aload_n C dX12_envy_19 rfl ?_
  refine zs_getI C zp_56 zF12 (j := 4) ⟨by decide, rfl⟩ zw_1100 dX12_envy_20 ?_
  exact zs_icmp_ge C dX12_envy_23 (by decide) (kX12_envy_82 C h_X12_laysTable g_X12_laysTable h_X12_held g_X12_held h_X12_enters g_X12_enters j18 j28 hq) (kX12_envy_26 C h_X12_laysTable g_X12_laysTable h_X12_held g_X12_held h_X12_enters g_X12_enters j18 j28 hq)
def xX12_envy_0 (s_X12_laysTable : zq_Sp) (s_X12_held : zq_Sp) (s_X12_enters : zq_Sp) (J18 : zq_P) (J28 : zq_P) (Q : zq_Q) (ls : zq_L) (st : List Value) (h : zq_H) : Prop := (zi_aload 0 (zi_push (.int 0) (zi_putI 56 0 (zi_aload 0 (zi_callV 0 56 s_X12_laysTable (zi_aload 0 (zi_push (.int 0) (zi_putI 56 1 (zi_push (.int 0) (zi_istore 1 (zi_push (.int 0) (zi_istore 2 (J18))))))))))))) ls st h
theorem kX12_envy_0 {X : zq_X} {d : Nat} (C : zq_C X cX12_envy 4 RX12 d) {d_X12_laysTable : Nat} {s_X12_laysTable : zq_Sp} (h_X12_laysTable : zq_M yX12_laysTable cX12_laysTable 3 none 0 d_X12_laysTable s_X12_laysTable) (g_X12_laysTable : d_X12_laysTable + 1 ≤ d) {d_X12_held : Nat} {s_X12_held : zq_Sp} (h_X12_held : zq_M yX12_held cX12_held 5 (some .int) 1 d_X12_held s_X12_held) (g_X12_held : d_X12_held + 1 ≤ d) {d_X12_enters : Nat} {s_X12_enters : zq_Sp} (h_X12_enters : zq_M yX12_enters cX12_enters 3 none 0 d_X12_enters s_X12_enters) (g_X12_enters : d_X12_enters + 1 ≤ d) {J18 : zq_P} (j18 : zq_ok X 4 18 J18) {J28 : zq_P} (j28 : zq_ok X 4 28 J28) {Q : zq_Q} (hq : zq_R X (some .int) 1 Q) : zq_ok X 4 0 (xX12_envy_0 s_X12_laysTable s_X12_held s_X12_enters J18 J28 Q) := by
  refine zs_aload_n C dX12_envy_0 rfl ?_
  refine zs_iconst C dX12_envy_1 (by decide) ?_
  refine zs_putI C zp_56 zF12 (j := 0) ⟨by decide, rfl⟩ ⟨rfl, by decide +kernel⟩ zw_1096 dX12_envy_2 ?_
  refine zs_aload_n C dX12_envy_5 rfl ?_
  refine zs_callV C h_X12_laysTable g_X12_laysTable zy_X12_laysTable zp_56 (show vwCl[12]? = some (RX12, TX12, 67) from rfl) zw_1471 zw_1473 zs9_X12_laysTable dX12_envy_6 ?_
  refine zs_aload_n C dX12_envy_9 rfl ?_
  refine zs_iconst C dX12_envy_10 (by decide) ?_
  refine zs_putI C zp_56 zF12 (j := 1) ⟨by decide, rfl⟩ ⟨rfl, by decide +kernel⟩ zw_1097 dX12_envy_11 ?_
  refine zs_iconst C dX12_envy_14 (by decide) ?_
  refine zs_istore_n C dX12_envy_15 rfl (by decide) ?_
  refine zs_iconst C dX12_envy_16 (by decide) ?_
  refine zs_istore_n C dX12_envy_17 rfl (by decide) ?_
  exact j18
theorem mX12_envy {d : Nat} {spec : zq_Sp} {σ18 : Type} {σ28 : Type} {d_X12_laysTable : Nat} {s_X12_laysTable : zq_Sp} (h_X12_laysTable : zq_M yX12_laysTable cX12_laysTable 3 none 0 d_X12_laysTable s_X12_laysTable) (g_X12_laysTable : d_X12_laysTable + 1 ≤ d) {d_X12_held : Nat} {s_X12_held : zq_Sp} (h_X12_held : zq_M yX12_held cX12_held 5 (some .int) 1 d_X12_held s_X12_held) (g_X12_held : d_X12_held + 1 ≤ d) {d_X12_enters : Nat} {s_X12_enters : zq_Sp} (h_X12_enters : zq_M yX12_enters cX12_enters 3 none 0 d_X12_enters s_X12_enters) (g_X12_enters : d_X12_enters + 1 ≤ d) (μ18 : σ18 → Nat) (I18 : zq_Q → σ18 → zq_P) (μ28 : σ28 → Nat) (I28 : zq_Q → σ28 → zq_P) (v : ∀ args h Q, spec args h Q → (zq_a args).length ≤ 4 ∧ xX12_envy_0 s_X12_laysTable s_X12_held s_X12_enters (fun ls st h => ∃ b, I18 Q b ls st h) (fun ls st h => ∃ b, I28 Q b ls st h) Q (zq_l0 4 args) [] h) (v18 : ∀ Q a ls st h, I18 Q a ls st h → xX12_envy_18 s_X12_laysTable s_X12_held s_X12_enters (fun ls st h => ∃ b, μ18 b < μ18 a ∧ I18 Q b ls st h) (fun ls st h => ∃ b, μ28 b < μ18 a ∧ I28 Q b ls st h) Q ls st h) (v28 : ∀ Q a ls st h, I28 Q a ls st h → xX12_envy_28 s_X12_laysTable s_X12_held s_X12_enters (fun ls st h => ∃ b, μ18 b < μ28 a ∧ I18 Q b ls st h) (fun ls st h => ∃ b, μ28 b < μ28 a ∧ I28 Q b ls st h) Q ls st h) : zq_M yX12_envy cX12_envy 4 (some .int) 1 d spec := by
  refine zq_met (by decide +kernel) (by decide) (fun X Q args h C hq hs => ⟨(v args h Q hs).1, _, ?_, (v args h Q hs).2⟩)
  have hl := zq_loop2 (X := X) (nL := 4) (pc1 := 18) (pc2 := 28) μ18 μ28 (I18 Q) (I28 Q) (fun J18 J28 => xX12_envy_18 s_X12_laysTable s_X12_held s_X12_enters J18 J28 Q) (fun J18 J28 => xX12_envy_28 s_X12_laysTable s_X12_held s_X12_enters J18 J28 Q) (fun j18 j28 => kX12_envy_18 C h_X12_laysTable g_X12_laysTable h_X12_held g_X12_held h_X12_enters g_X12_enters j18 j28 hq) (fun j18 j28 => kX12_envy_28 C h_X12_laysTable g_X12_laysTable h_X12_held g_X12_held h_X12_enters g_X12_enters j18 j28 hq) (v18 Q) (v28 Q)
  exact kX12_envy_0 C h_X12_laysTable g_X12_laysTable h_X12_held g_X12_held h_X12_enters g_X12_enters hl.1 hl.2 hq
/-! ToOneCrumbModel.wronged()I -/
theorem dX12_wronged_0 : decode cX12_wronged 0 = .ok (.aload_n 0, 1) := by decide +kernel
theorem dX12_wronged_1 : decode cX12_wronged 1 = .ok (.iconst 0, 1) := by decide +kernel
theorem dX12_wronged_2 : decode cX12_wronged 2 = .ok (.putfield 147, 3) := by decide +kernel
theorem dX12_wronged_5 : decode cX12_wronged 5 = .ok (.aload_n 0, 1) := by decide +kernel
theorem dX12_wronged_6 : decode cX12_wronged 6 = .ok (.invokevirtual 318, 3) := by decide +kernel
theorem dX12_wronged_9 : decode cX12_wronged 9 = .ok (.iconst 0, 1) := by decide +kernel
theorem dX12_wronged_10 : decode cX12_wronged 10 = .ok (.istore_n 1, 1) := by decide +kernel
theorem dX12_wronged_11 : decode cX12_wronged 11 = .ok (.iconst 0, 1) := by decide +kernel
theorem dX12_wronged_12 : decode cX12_wronged 12 = .ok (.istore_n 2, 1) := by decide +kernel
theorem dX12_wronged_13 : decode cX12_wronged 13 = .ok (.iload_n 2, 1) := by decide +kernel
theorem dX12_wronged_14 : decode cX12_wronged 14 = .ok (.aload_n 0, 1) := by decide +kernel
theorem dX12_wronged_15 : decode cX12_wronged 15 = .ok (.getfield 165, 3) := by decide +kernel
theorem dX12_wronged_18 : decode cX12_wronged 18 = .ok (.if_icmp .ge 36, 3) := by decide +kernel
theorem dX12_wronged_21 : decode cX12_wronged 21 = .ok (.iload_n 1, 1) := by decide +kernel
theorem dX12_wronged_22 : decode cX12_wronged 22 = .ok (.aload_n 0, 1) := by decide +kernel
theorem dX12_wronged_23 : decode cX12_wronged 23 = .ok (.iload_n 2, 1) := by decide +kernel
theorem dX12_wronged_24 : decode cX12_wronged 24 = .ok (.aload_n 0, 1) := by decide +kernel
theorem dX12_wronged_25 : decode cX12_wronged 25 = .ok (.iload_n 2, 1) := by decide +kernel
theorem dX12_wronged_26 : decode cX12_wronged 26 = .ok (.iload_n 2, 1) := by decide +kernel
theorem dX12_wronged_27 : decode cX12_wronged 27 = .ok (.invokevirtual 324, 3) := by decide +kernel
theorem dX12_wronged_30 : decode cX12_wronged 30 = .ok (.i2l, 1) := by decide +kernel
theorem dX12_wronged_31 : decode cX12_wronged 31 = .ok (.bipush 100, 2) := by decide +kernel
theorem dX12_wronged_33 : decode cX12_wronged 33 = .ok (.invokevirtual 327, 3) := by decide +kernel
theorem dX12_wronged_36 : decode cX12_wronged 36 = .ok (.ifCond .eq 7, 3) := by decide +kernel
theorem dX12_wronged_39 : decode cX12_wronged 39 = .ok (.iconst 0, 1) := by decide +kernel
theorem dX12_wronged_40 : decode cX12_wronged 40 = .ok (.goto 6, 3) := by decide +kernel
theorem dX12_wronged_43 : decode cX12_wronged 43 = .ok (.iconst 1, 1) := by decide +kernel
theorem dX12_wronged_44 : decode cX12_wronged 44 = .ok (.iload_n 2, 1) := by decide +kernel
theorem dX12_wronged_45 : decode cX12_wronged 45 = .ok (.ishl, 1) := by decide +kernel
theorem dX12_wronged_46 : decode cX12_wronged 46 = .ok (.ior, 1) := by decide +kernel
theorem dX12_wronged_47 : decode cX12_wronged 47 = .ok (.istore_n 1, 1) := by decide +kernel
theorem dX12_wronged_48 : decode cX12_wronged 48 = .ok (.iinc 2 1, 3) := by decide +kernel
theorem dX12_wronged_51 : decode cX12_wronged 51 = .ok (.goto (-38), 3) := by decide +kernel
theorem dX12_wronged_54 : decode cX12_wronged 54 = .ok (.iconst 0, 1) := by decide +kernel
theorem dX12_wronged_55 : decode cX12_wronged 55 = .ok (.istore_n 2, 1) := by decide +kernel
theorem dX12_wronged_56 : decode cX12_wronged 56 = .ok (.iconst 1, 1) := by decide +kernel
theorem dX12_wronged_57 : decode cX12_wronged 57 = .ok (.istore_n 3, 1) := by decide +kernel
theorem dX12_wronged_58 : decode cX12_wronged 58 = .ok (.iload_n 3, 1) := by decide +kernel
theorem dX12_wronged_59 : decode cX12_wronged 59 = .ok (.aload_n 0, 1) := by decide +kernel
theorem dX12_wronged_60 : decode cX12_wronged 60 = .ok (.getfield 158, 3) := by decide +kernel
theorem dX12_wronged_63 : decode cX12_wronged 63 = .ok (.if_icmp .ge 37, 3) := by decide +kernel
theorem dX12_wronged_66 : decode cX12_wronged 66 = .ok (.iload_n 2, 1) := by decide +kernel
theorem dX12_wronged_67 : decode cX12_wronged 67 = .ok (.aload_n 0, 1) := by decide +kernel
theorem dX12_wronged_68 : decode cX12_wronged 68 = .ok (.getfield 30, 3) := by decide +kernel
theorem dX12_wronged_71 : decode cX12_wronged 71 = .ok (.iload_n 3, 1) := by decide +kernel
theorem dX12_wronged_72 : decode cX12_wronged 72 = .ok (.iaload, 1) := by decide +kernel
theorem dX12_wronged_73 : decode cX12_wronged 73 = .ok (.aload_n 0, 1) := by decide +kernel
theorem dX12_wronged_74 : decode cX12_wronged 74 = .ok (.getfield 30, 3) := by decide +kernel
theorem dX12_wronged_77 : decode cX12_wronged 77 = .ok (.iload_n 3, 1) := by decide +kernel
theorem dX12_wronged_78 : decode cX12_wronged 78 = .ok (.iconst 1, 1) := by decide +kernel
theorem dX12_wronged_79 : decode cX12_wronged 79 = .ok (.isub, 1) := by decide +kernel
theorem dX12_wronged_80 : decode cX12_wronged 80 = .ok (.iaload, 1) := by decide +kernel
theorem dX12_wronged_81 : decode cX12_wronged 81 = .ok (.if_icmp .eq 7, 3) := by decide +kernel
theorem dX12_wronged_84 : decode cX12_wronged 84 = .ok (.iconst 1, 1) := by decide +kernel
theorem dX12_wronged_85 : decode cX12_wronged 85 = .ok (.goto 4, 3) := by decide +kernel
theorem dX12_wronged_88 : decode cX12_wronged 88 = .ok (.iconst 0, 1) := by decide +kernel
theorem dX12_wronged_89 : decode cX12_wronged 89 = .ok (.invokestatic 190, 3) := by decide +kernel
theorem dX12_wronged_92 : decode cX12_wronged 92 = .ok (.iadd, 1) := by decide +kernel
theorem dX12_wronged_93 : decode cX12_wronged 93 = .ok (.istore_n 2, 1) := by decide +kernel
theorem dX12_wronged_94 : decode cX12_wronged 94 = .ok (.iinc 3 1, 3) := by decide +kernel
theorem dX12_wronged_97 : decode cX12_wronged 97 = .ok (.goto (-39), 3) := by decide +kernel
theorem dX12_wronged_100 : decode cX12_wronged 100 = .ok (.aload_n 0, 1) := by decide +kernel
theorem dX12_wronged_101 : decode cX12_wronged 101 = .ok (.iconst 0, 1) := by decide +kernel
theorem dX12_wronged_102 : decode cX12_wronged 102 = .ok (.putfield 155, 3) := by decide +kernel
theorem dX12_wronged_105 : decode cX12_wronged 105 = .ok (.aload_n 0, 1) := by decide +kernel
theorem dX12_wronged_106 : decode cX12_wronged 106 = .ok (.iload_n 1, 1) := by decide +kernel
theorem dX12_wronged_107 : decode cX12_wronged 107 = .ok (.invokestatic 372, 3) := by decide +kernel
theorem dX12_wronged_110 : decode cX12_wronged 110 = .ok (.i2l, 1) := by decide +kernel
theorem dX12_wronged_111 : decode cX12_wronged 111 = .ok (.invokevirtual 368, 3) := by decide +kernel
theorem dX12_wronged_114 : decode cX12_wronged 114 = .ok (.aload_n 0, 1) := by decide +kernel
theorem dX12_wronged_115 : decode cX12_wronged 115 = .ok (.iload_n 2, 1) := by decide +kernel
theorem dX12_wronged_116 : decode cX12_wronged 116 = .ok (.i2l, 1) := by decide +kernel
theorem dX12_wronged_117 : decode cX12_wronged 117 = .ok (.invokevirtual 368, 3) := by decide +kernel
theorem dX12_wronged_120 : decode cX12_wronged 120 = .ok (.iload_n 1, 1) := by decide +kernel
theorem dX12_wronged_121 : decode cX12_wronged 121 = .ok (.ireturn, 1) := by decide +kernel
def xX12_wronged_100 (s_X12_laysTable : zq_Sp) (s_X12_held : zq_Sp) (s_X12_isDue : zq_Sp) (s_X12_flag : zq_Sp) (s_J6_bitCount_0f7a4 : zq_Sp) (s_X12_enters : zq_Sp) (J13 : zq_P) (J58 : zq_P) (Q : zq_Q) (ls : zq_L) (st : List Value) (h : zq_H) : Prop := (zi_aload 0 (zi_push (.int 0) (zi_putI 56 1 (zi_aload 0 (zi_iload 1 (zi_callS 1 s_J6_bitCount_0f7a4 (zi_i2l (zi_callV 1 56 s_X12_enters (zi_aload 0 (zi_iload 2 (zi_i2l (zi_callV 1 56 s_X12_enters (zi_iload 1 (zi_iret Q)))))))))))))) ls st h
theorem kX12_wronged_100 {X : zq_X} {d : Nat} (C : zq_C X cX12_wronged 4 RX12 d) {d_X12_laysTable : Nat} {s_X12_laysTable : zq_Sp} (h_X12_laysTable : zq_M yX12_laysTable cX12_laysTable 3 none 0 d_X12_laysTable s_X12_laysTable) (g_X12_laysTable : d_X12_laysTable + 1 ≤ d) {d_X12_held : Nat} {s_X12_held : zq_Sp} (h_X12_held : zq_M yX12_held cX12_held 5 (some .int) 1 d_X12_held s_X12_held) (g_X12_held : d_X12_held + 1 ≤ d) {d_X12_isDue : Nat} {s_X12_isDue : zq_Sp} (h_X12_isDue : zq_M yX12_isDue cX12_isDue 5 (some .boolean) 1 d_X12_isDue s_X12_isDue) (g_X12_isDue : d_X12_isDue + 1 ≤ d) {d_X12_flag : Nat} {s_X12_flag : zq_Sp} (h_X12_flag : zq_M yX12_flag cX12_flag 1 (some .int) 1 d_X12_flag s_X12_flag) (g_X12_flag : d_X12_flag + 1 ≤ d) {d_J6_bitCount_0f7a4 : Nat} {s_J6_bitCount_0f7a4 : zq_Sp} (h_J6_bitCount_0f7a4 : zq_M yJ6_bitCount_0f7a4 cJ6_bitCount_0f7a4 1 (some .int) 1 d_J6_bitCount_0f7a4 s_J6_bitCount_0f7a4) (g_J6_bitCount_0f7a4 : d_J6_bitCount_0f7a4 + 1 ≤ d) {d_X12_enters : Nat} {s_X12_enters : zq_Sp} (h_X12_enters : zq_M yX12_enters cX12_enters 3 none 0 d_X12_enters s_X12_enters) (g_X12_enters : d_X12_enters + 1 ≤ d) {J13 : zq_P} (j13 : zq_ok X 4 13 J13) {J58 : zq_P} (j58 : zq_ok X 4 58 J58) {Q : zq_Q} (hq : zq_R X (some .int) 1 Q) : zq_ok X 4 100 (xX12_wronged_100 s_X12_laysTable s_X12_held s_X12_isDue s_X12_flag s_J6_bitCount_0f7a4 s_X12_enters J13 J58 Q) := by
  refine zs_aload_n C dX12_wronged_100 rfl ?_
  refine zs_iconst C dX12_wronged_101 (by decide) ?_
  refine zs_putI C zp_56 zF12 (j := 1) ⟨by decide, rfl⟩ ⟨rfl, by decide +kernel⟩ zw_1097 dX12_wronged_102 ?_
  refine zs_aload_n C dX12_wronged_105 rfl ?_
  refine zs_iload_n C dX12_wronged_106 rfl ?_
  refine zs_callS C h_J6_bitCount_0f7a4 g_J6_bitCount_0f7a4 zy_J6_bitCount_0f7a4 zw_1590 zw_696 dX12_wronged_107 ?_
  refine zs_i2l C dX12_wronged_110 ?_
  refine zs_callV C h_X12_enters g_X12_enters zy_X12_enters zp_56 (show vwCl[12]? = some (RX12, TX12, 67) from rfl) zw_1574 zw_1576 zs9_X12_enters dX12_wronged_111 ?_
  refine zs_aload_n C dX12_wronged_114 rfl ?_
  refine zs_iload_n C dX12_wronged_115 rfl ?_
  refine zs_i2l C dX12_wronged_116 ?_
  refine zs_callV C h_X12_enters g_X12_enters zy_X12_enters zp_56 (show vwCl[12]? = some (RX12, TX12, 67) from rfl) zw_1574 zw_1576 zs9_X12_enters dX12_wronged_117 ?_
  refine zs_iload_n C dX12_wronged_120 rfl ?_
  exact zs_iret C hq dX12_wronged_121
def xX12_wronged_89 (s_X12_laysTable : zq_Sp) (s_X12_held : zq_Sp) (s_X12_isDue : zq_Sp) (s_X12_flag : zq_Sp) (s_J6_bitCount_0f7a4 : zq_Sp) (s_X12_enters : zq_Sp) (J13 : zq_P) (J58 : zq_P) (Q : zq_Q) (ls : zq_L) (st : List Value) (h : zq_H) : Prop := (zi_callS 1 s_X12_flag (zi_i2 (fun x y => x + y) (zi_istore 2 (zi_iinc 3 1 (J58))))) ls st h
theorem kX12_wronged_89 {X : zq_X} {d : Nat} (C : zq_C X cX12_wronged 4 RX12 d) {d_X12_laysTable : Nat} {s_X12_laysTable : zq_Sp} (h_X12_laysTable : zq_M yX12_laysTable cX12_laysTable 3 none 0 d_X12_laysTable s_X12_laysTable) (g_X12_laysTable : d_X12_laysTable + 1 ≤ d) {d_X12_held : Nat} {s_X12_held : zq_Sp} (h_X12_held : zq_M yX12_held cX12_held 5 (some .int) 1 d_X12_held s_X12_held) (g_X12_held : d_X12_held + 1 ≤ d) {d_X12_isDue : Nat} {s_X12_isDue : zq_Sp} (h_X12_isDue : zq_M yX12_isDue cX12_isDue 5 (some .boolean) 1 d_X12_isDue s_X12_isDue) (g_X12_isDue : d_X12_isDue + 1 ≤ d) {d_X12_flag : Nat} {s_X12_flag : zq_Sp} (h_X12_flag : zq_M yX12_flag cX12_flag 1 (some .int) 1 d_X12_flag s_X12_flag) (g_X12_flag : d_X12_flag + 1 ≤ d) {d_J6_bitCount_0f7a4 : Nat} {s_J6_bitCount_0f7a4 : zq_Sp} (h_J6_bitCount_0f7a4 : zq_M yJ6_bitCount_0f7a4 cJ6_bitCount_0f7a4 1 (some .int) 1 d_J6_bitCount_0f7a4 s_J6_bitCount_0f7a4) (g_J6_bitCount_0f7a4 : d_J6_bitCount_0f7a4 + 1 ≤ d) {d_X12_enters : Nat} {s_X12_enters : zq_Sp} (h_X12_enters : zq_M yX12_enters cX12_enters 3 none 0 d_X12_enters s_X12_enters) (g_X12_enters : d_X12_enters + 1 ≤ d) {J13 : zq_P} (j13 : zq_ok X 4 13 J13) {J58 : zq_P} (j58 : zq_ok X 4 58 J58) {Q : zq_Q} (hq : zq_R X (some .int) 1 Q) : zq_ok X 4 89 (xX12_wronged_89 s_X12_laysTable s_X12_held s_X12_isDue s_X12_flag s_J6_bitCount_0f7a4 s_X12_enters J13 J58 Q) := by
  refine zs_callS C h_X12_flag g_X12_flag zy_X12_flag zw_1380 zw_1381 dX12_wronged_89 ?_
  refine zs_iadd C dX12_wronged_92 ?_
  refine zs_istore_n C dX12_wronged_93 rfl (by decide) ?_
  refine zs_iinc C dX12_wronged_94 (by decide) (by decide) ?_
  exact zs_goto C dX12_wronged_97 (by decide) (j58)
def xX12_wronged_88 (s_X12_laysTable : zq_Sp) (s_X12_held : zq_Sp) (s_X12_isDue : zq_Sp) (s_X12_flag : zq_Sp) (s_J6_bitCount_0f7a4 : zq_Sp) (s_X12_enters : zq_Sp) (J13 : zq_P) (J58 : zq_P) (Q : zq_Q) (ls : zq_L) (st : List Value) (h : zq_H) : Prop := (zi_push (.int 0) ((xX12_wronged_89 s_X12_laysTable s_X12_held s_X12_isDue s_X12_flag s_J6_bitCount_0f7a4 s_X12_enters J13 J58 Q))) ls st h
theorem kX12_wronged_88 {X : zq_X} {d : Nat} (C : zq_C X cX12_wronged 4 RX12 d) {d_X12_laysTable : Nat} {s_X12_laysTable : zq_Sp} (h_X12_laysTable : zq_M yX12_laysTable cX12_laysTable 3 none 0 d_X12_laysTable s_X12_laysTable) (g_X12_laysTable : d_X12_laysTable + 1 ≤ d) {d_X12_held : Nat} {s_X12_held : zq_Sp} (h_X12_held : zq_M yX12_held cX12_held 5 (some .int) 1 d_X12_held s_X12_held) (g_X12_held : d_X12_held + 1 ≤ d) {d_X12_isDue : Nat} {s_X12_isDue : zq_Sp} (h_X12_isDue : zq_M yX12_isDue cX12_isDue 5 (some .boolean) 1 d_X12_isDue s_X12_isDue) (g_X12_isDue : d_X12_isDue + 1 ≤ d) {d_X12_flag : Nat} {s_X12_flag : zq_Sp} (h_X12_flag : zq_M yX12_flag cX12_flag 1 (some .int) 1 d_X12_flag s_X12_flag) (g_X12_flag : d_X12_flag + 1 ≤ d) {d_J6_bitCount_0f7a4 : Nat} {s_J6_bitCount_0f7a4 : zq_Sp} (h_J6_bitCount_0f7a4 : zq_M yJ6_bitCount_0f7a4 cJ6_bitCount_0f7a4 1 (some .int) 1 d_J6_bitCount_0f7a4 s_J6_bitCount_0f7a4) (g_J6_bitCount_0f7a4 : d_J6_bitCount_0f7a4 + 1 ≤ d) {d_X12_enters : Nat} {s_X12_enters : zq_Sp} (h_X12_enters : zq_M yX12_enters cX12_enters 3 none 0 d_X12_enters s_X12_enters) (g_X12_enters : d_X12_enters + 1 ≤ d) {J13 : zq_P} (j13 : zq_ok X 4 13 J13) {J58 : zq_P} (j58 : zq_ok X 4 58 J58) {Q : zq_Q} (hq : zq_R X (some .int) 1 Q) : zq_ok X 4 88 (xX12_wronged_88 s_X12_laysTable s_X12_held s_X12_isDue s_X12_flag s_J6_bitCount_0f7a4 s_X12_enters J13 J58 Q) := by
  refine zs_iconst C dX12_wronged_88 (by decide) ?_
  exact kX12_wronged_89 C h_X12_laysTable g_X12_laysTable h_X12_held g_X12_held h_X12_isDue g_X12_isDue h_X12_flag g_X12_flag h_J6_bitCount_0f7a4 g_J6_bitCount_0f7a4 h_X12_enters g_X12_enters j13 j58 hq
def xX12_wronged_84 (s_X12_laysTable : zq_Sp) (s_X12_held : zq_Sp) (s_X12_isDue : zq_Sp) (s_X12_flag : zq_Sp) (s_J6_bitCount_0f7a4 : zq_Sp) (s_X12_enters : zq_Sp) (J13 : zq_P) (J58 : zq_P) (Q : zq_Q) (ls : zq_L) (st : List Value) (h : zq_H) : Prop := (zi_push (.int 1) ((xX12_wronged_89 s_X12_laysTable s_X12_held s_X12_isDue s_X12_flag s_J6_bitCount_0f7a4 s_X12_enters J13 J58 Q))) ls st h
theorem kX12_wronged_84 {X : zq_X} {d : Nat} (C : zq_C X cX12_wronged 4 RX12 d) {d_X12_laysTable : Nat} {s_X12_laysTable : zq_Sp} (h_X12_laysTable : zq_M yX12_laysTable cX12_laysTable 3 none 0 d_X12_laysTable s_X12_laysTable) (g_X12_laysTable : d_X12_laysTable + 1 ≤ d) {d_X12_held : Nat} {s_X12_held : zq_Sp} (h_X12_held : zq_M yX12_held cX12_held 5 (some .int) 1 d_X12_held s_X12_held) (g_X12_held : d_X12_held + 1 ≤ d) {d_X12_isDue : Nat} {s_X12_isDue : zq_Sp} (h_X12_isDue : zq_M yX12_isDue cX12_isDue 5 (some .boolean) 1 d_X12_isDue s_X12_isDue) (g_X12_isDue : d_X12_isDue + 1 ≤ d) {d_X12_flag : Nat} {s_X12_flag : zq_Sp} (h_X12_flag : zq_M yX12_flag cX12_flag 1 (some .int) 1 d_X12_flag s_X12_flag) (g_X12_flag : d_X12_flag + 1 ≤ d) {d_J6_bitCount_0f7a4 : Nat} {s_J6_bitCount_0f7a4 : zq_Sp} (h_J6_bitCount_0f7a4 : zq_M yJ6_bitCount_0f7a4 cJ6_bitCount_0f7a4 1 (some .int) 1 d_J6_bitCount_0f7a4 s_J6_bitCount_0f7a4) (g_J6_bitCount_0f7a4 : d_J6_bitCount_0f7a4 + 1 ≤ d) {d_X12_enters : Nat} {s_X12_enters : zq_Sp} (h_X12_enters : zq_M yX12_enters cX12_enters 3 none 0 d_X12_enters s_X12_enters) (g_X12_enters : d_X12_enters + 1 ≤ d) {J13 : zq_P} (j13 : zq_ok X 4 13 J13) {J58 : zq_P} (j58 : zq_ok X 4 58 J58) {Q : zq_Q} (hq : zq_R X (some .int) 1 Q) : zq_ok X 4 84 (xX12_wronged_84 s_X12_laysTable s_X12_held s_X12_isDue s_X12_flag s_J6_bitCount_0f7a4 s_X12_enters J13 J58 Q) := by
  refine zs_iconst C dX12_wronged_84 (by decide) ?_
  exact zs_goto C dX12_wronged_85 (by decide) (kX12_wronged_89 C h_X12_laysTable g_X12_laysTable h_X12_held g_X12_held h_X12_isDue g_X12_isDue h_X12_flag g_X12_flag h_J6_bitCount_0f7a4 g_J6_bitCount_0f7a4 h_X12_enters g_X12_enters j13 j58 hq)
def xX12_wronged_66 (s_X12_laysTable : zq_Sp) (s_X12_held : zq_Sp) (s_X12_isDue : zq_Sp) (s_X12_flag : zq_Sp) (s_J6_bitCount_0f7a4 : zq_Sp) (s_X12_enters : zq_Sp) (J13 : zq_P) (J58 : zq_P) (Q : zq_Q) (ls : zq_L) (st : List Value) (h : zq_H) : Prop := (zi_iload 2 (zi_aload 0 (zi_getR 56 63 (zi_iload 3 (zi_aldI 63 16 (zi_aload 0 (zi_getR 56 63 (zi_iload 3 (zi_push (.int 1) (zi_i2 (fun x y => x - y) (zi_aldI 63 16 (zi_if2 (fun x y => x = y) (xX12_wronged_88 s_X12_laysTable s_X12_held s_X12_isDue s_X12_flag s_J6_bitCount_0f7a4 s_X12_enters J13 J58 Q) (xX12_wronged_84 s_X12_laysTable s_X12_held s_X12_isDue s_X12_flag s_J6_bitCount_0f7a4 s_X12_enters J13 J58 Q))))))))))))) ls st h
theorem kX12_wronged_66 {X : zq_X} {d : Nat} (C : zq_C X cX12_wronged 4 RX12 d) {d_X12_laysTable : Nat} {s_X12_laysTable : zq_Sp} (h_X12_laysTable : zq_M yX12_laysTable cX12_laysTable 3 none 0 d_X12_laysTable s_X12_laysTable) (g_X12_laysTable : d_X12_laysTable + 1 ≤ d) {d_X12_held : Nat} {s_X12_held : zq_Sp} (h_X12_held : zq_M yX12_held cX12_held 5 (some .int) 1 d_X12_held s_X12_held) (g_X12_held : d_X12_held + 1 ≤ d) {d_X12_isDue : Nat} {s_X12_isDue : zq_Sp} (h_X12_isDue : zq_M yX12_isDue cX12_isDue 5 (some .boolean) 1 d_X12_isDue s_X12_isDue) (g_X12_isDue : d_X12_isDue + 1 ≤ d) {d_X12_flag : Nat} {s_X12_flag : zq_Sp} (h_X12_flag : zq_M yX12_flag cX12_flag 1 (some .int) 1 d_X12_flag s_X12_flag) (g_X12_flag : d_X12_flag + 1 ≤ d) {d_J6_bitCount_0f7a4 : Nat} {s_J6_bitCount_0f7a4 : zq_Sp} (h_J6_bitCount_0f7a4 : zq_M yJ6_bitCount_0f7a4 cJ6_bitCount_0f7a4 1 (some .int) 1 d_J6_bitCount_0f7a4 s_J6_bitCount_0f7a4) (g_J6_bitCount_0f7a4 : d_J6_bitCount_0f7a4 + 1 ≤ d) {d_X12_enters : Nat} {s_X12_enters : zq_Sp} (h_X12_enters : zq_M yX12_enters cX12_enters 3 none 0 d_X12_enters s_X12_enters) (g_X12_enters : d_X12_enters + 1 ≤ d) {J13 : zq_P} (j13 : zq_ok X 4 13 J13) {J58 : zq_P} (j58 : zq_ok X 4 58 J58) {Q : zq_Q} (hq : zq_R X (some .int) 1 Q) : zq_ok X 4 66 (xX12_wronged_66 s_X12_laysTable s_X12_held s_X12_isDue s_X12_flag s_J6_bitCount_0f7a4 s_X12_enters J13 J58 Q) := by
  refine zs_iload_n C dX12_wronged_66 rfl ?_
  refine zs_aload_n C dX12_wronged_67 rfl ?_
  refine zs_getR C zp_56 zF12 (j := 11) ⟨by decide, rfl⟩ zw_1107 dX12_wronged_68 ?_
  refine zs_iload_n C dX12_wronged_71 rfl ?_
  refine zs_iaload C zp_63 dX12_wronged_72 ?_
  refine zs_aload_n C dX12_wronged_73 rfl ?_
  refine zs_getR C zp_56 zF12 (j := 11) ⟨by decide, rfl⟩ zw_1107 dX12_wronged_74 ?_
  refine zs_iload_n C dX12_wronged_77 rfl ?_
  refine zs_iconst C dX12_wronged_78 (by decide) ?_
  refine zs_isub C dX12_wronged_79 ?_
  refine zs_iaload C zp_63 dX12_wronged_80 ?_
  exact zs_icmp_eq C dX12_wronged_81 (by decide) (kX12_wronged_88 C h_X12_laysTable g_X12_laysTable h_X12_held g_X12_held h_X12_isDue g_X12_isDue h_X12_flag g_X12_flag h_J6_bitCount_0f7a4 g_J6_bitCount_0f7a4 h_X12_enters g_X12_enters j13 j58 hq) (kX12_wronged_84 C h_X12_laysTable g_X12_laysTable h_X12_held g_X12_held h_X12_isDue g_X12_isDue h_X12_flag g_X12_flag h_J6_bitCount_0f7a4 g_J6_bitCount_0f7a4 h_X12_enters g_X12_enters j13 j58 hq)
def xX12_wronged_58 (s_X12_laysTable : zq_Sp) (s_X12_held : zq_Sp) (s_X12_isDue : zq_Sp) (s_X12_flag : zq_Sp) (s_J6_bitCount_0f7a4 : zq_Sp) (s_X12_enters : zq_Sp) (J13 : zq_P) (J58 : zq_P) (Q : zq_Q) (ls : zq_L) (st : List Value) (h : zq_H) : Prop := (zi_iload 3 (zi_aload 0 (zi_getI 56 3 (zi_if2 (fun x y => y ≤ x) (xX12_wronged_100 s_X12_laysTable s_X12_held s_X12_isDue s_X12_flag s_J6_bitCount_0f7a4 s_X12_enters J13 J58 Q) (xX12_wronged_66 s_X12_laysTable s_X12_held s_X12_isDue s_X12_flag s_J6_bitCount_0f7a4 s_X12_enters J13 J58 Q))))) ls st h
theorem kX12_wronged_58 {X : zq_X} {d : Nat} (C : zq_C X cX12_wronged 4 RX12 d) {d_X12_laysTable : Nat} {s_X12_laysTable : zq_Sp} (h_X12_laysTable : zq_M yX12_laysTable cX12_laysTable 3 none 0 d_X12_laysTable s_X12_laysTable) (g_X12_laysTable : d_X12_laysTable + 1 ≤ d) {d_X12_held : Nat} {s_X12_held : zq_Sp} (h_X12_held : zq_M yX12_held cX12_held 5 (some .int) 1 d_X12_held s_X12_held) (g_X12_held : d_X12_held + 1 ≤ d) {d_X12_isDue : Nat} {s_X12_isDue : zq_Sp} (h_X12_isDue : zq_M yX12_isDue cX12_isDue 5 (some .boolean) 1 d_X12_isDue s_X12_isDue) (g_X12_isDue : d_X12_isDue + 1 ≤ d) {d_X12_flag : Nat} {s_X12_flag : zq_Sp} (h_X12_flag : zq_M yX12_flag cX12_flag 1 (some .int) 1 d_X12_flag s_X12_flag) (g_X12_flag : d_X12_flag + 1 ≤ d) {d_J6_bitCount_0f7a4 : Nat} {s_J6_bitCount_0f7a4 : zq_Sp} (h_J6_bitCount_0f7a4 : zq_M yJ6_bitCount_0f7a4 cJ6_bitCount_0f7a4 1 (some .int) 1 d_J6_bitCount_0f7a4 s_J6_bitCount_0f7a4) (g_J6_bitCount_0f7a4 : d_J6_bitCount_0f7a4 + 1 ≤ d) {d_X12_enters : Nat} {s_X12_enters : zq_Sp} (h_X12_enters : zq_M yX12_enters cX12_enters 3 none 0 d_X12_enters s_X12_enters) (g_X12_enters : d_X12_enters + 1 ≤ d) {J13 : zq_P} (j13 : zq_ok X 4 13 J13) {J58 : zq_P} (j58 : zq_ok X 4 58 J58) {Q : zq_Q} (hq : zq_R X (some .int) 1 Q) : zq_ok X 4 58 (xX12_wronged_58 s_X12_laysTable s_X12_held s_X12_isDue s_X12_flag s_J6_bitCount_0f7a4 s_X12_enters J13 J58 Q) := by
  refine zs_iload_n C dX12_wronged_58 rfl ?_
  refine zs_aload_n C dX12_wronged_59 rfl ?_
  refine zs_getI C zp_56 zF12 (j := 3) ⟨by decide, rfl⟩ zw_1099 dX12_wronged_60 ?_
  exact zs_icmp_ge C dX12_wronged_63 (by decide) (kX12_wronged_100 C h_X12_laysTable g_X12_laysTable h_X12_held g_X12_held h_X12_isDue g_X12_isDue h_X12_flag g_X12_flag h_J6_bitCount_0f7a4 g_J6_bitCount_0f7a4 h_X12_enters g_X12_enters j13 j58 hq) (kX12_wronged_66 C h_X12_laysTable g_X12_laysTable h_X12_held g_X12_held h_X12_isDue g_X12_isDue h_X12_flag g_X12_flag h_J6_bitCount_0f7a4 g_J6_bitCount_0f7a4 h_X12_enters g_X12_enters j13 j58 hq)
def xX12_wronged_54 (s_X12_laysTable : zq_Sp) (s_X12_held : zq_Sp) (s_X12_isDue : zq_Sp) (s_X12_flag : zq_Sp) (s_J6_bitCount_0f7a4 : zq_Sp) (s_X12_enters : zq_Sp) (J13 : zq_P) (J58 : zq_P) (Q : zq_Q) (ls : zq_L) (st : List Value) (h : zq_H) : Prop := (zi_push (.int 0) (zi_istore 2 (zi_push (.int 1) (zi_istore 3 (J58))))) ls st h
theorem kX12_wronged_54 {X : zq_X} {d : Nat} (C : zq_C X cX12_wronged 4 RX12 d) {d_X12_laysTable : Nat} {s_X12_laysTable : zq_Sp} (h_X12_laysTable : zq_M yX12_laysTable cX12_laysTable 3 none 0 d_X12_laysTable s_X12_laysTable) (g_X12_laysTable : d_X12_laysTable + 1 ≤ d) {d_X12_held : Nat} {s_X12_held : zq_Sp} (h_X12_held : zq_M yX12_held cX12_held 5 (some .int) 1 d_X12_held s_X12_held) (g_X12_held : d_X12_held + 1 ≤ d) {d_X12_isDue : Nat} {s_X12_isDue : zq_Sp} (h_X12_isDue : zq_M yX12_isDue cX12_isDue 5 (some .boolean) 1 d_X12_isDue s_X12_isDue) (g_X12_isDue : d_X12_isDue + 1 ≤ d) {d_X12_flag : Nat} {s_X12_flag : zq_Sp} (h_X12_flag : zq_M yX12_flag cX12_flag 1 (some .int) 1 d_X12_flag s_X12_flag) (g_X12_flag : d_X12_flag + 1 ≤ d) {d_J6_bitCount_0f7a4 : Nat} {s_J6_bitCount_0f7a4 : zq_Sp} (h_J6_bitCount_0f7a4 : zq_M yJ6_bitCount_0f7a4 cJ6_bitCount_0f7a4 1 (some .int) 1 d_J6_bitCount_0f7a4 s_J6_bitCount_0f7a4) (g_J6_bitCount_0f7a4 : d_J6_bitCount_0f7a4 + 1 ≤ d) {d_X12_enters : Nat} {s_X12_enters : zq_Sp} (h_X12_enters : zq_M yX12_enters cX12_enters 3 none 0 d_X12_enters s_X12_enters) (g_X12_enters : d_X12_enters + 1 ≤ d) {J13 : zq_P} (j13 : zq_ok X 4 13 J13) {J58 : zq_P} (j58 : zq_ok X 4 58 J58) {Q : zq_Q} (hq : zq_R X (some .int) 1 Q) : zq_ok X 4 54 (xX12_wronged_54 s_X12_laysTable s_X12_held s_X12_isDue s_X12_flag s_J6_bitCount_0f7a4 s_X12_enters J13 J58 Q) := by
  refine zs_iconst C dX12_wronged_54 (by decide) ?_
  refine zs_istore_n C dX12_wronged_55 rfl (by decide) ?_
  refine zs_iconst C dX12_wronged_56 (by decide) ?_
  refine zs_istore_n C dX12_wronged_57 rfl (by decide) ?_
  exact j58
def xX12_wronged_46 (s_X12_laysTable : zq_Sp) (s_X12_held : zq_Sp) (s_X12_isDue : zq_Sp) (s_X12_flag : zq_Sp) (s_J6_bitCount_0f7a4 : zq_Sp) (s_X12_enters : zq_Sp) (J13 : zq_P) (J58 : zq_P) (Q : zq_Q) (ls : zq_L) (st : List Value) (h : zq_H) : Prop := (zi_i2 (fun x y => x ||| y) (zi_istore 1 (zi_iinc 2 1 (J13)))) ls st h
theorem kX12_wronged_46 {X : zq_X} {d : Nat} (C : zq_C X cX12_wronged 4 RX12 d) {d_X12_laysTable : Nat} {s_X12_laysTable : zq_Sp} (h_X12_laysTable : zq_M yX12_laysTable cX12_laysTable 3 none 0 d_X12_laysTable s_X12_laysTable) (g_X12_laysTable : d_X12_laysTable + 1 ≤ d) {d_X12_held : Nat} {s_X12_held : zq_Sp} (h_X12_held : zq_M yX12_held cX12_held 5 (some .int) 1 d_X12_held s_X12_held) (g_X12_held : d_X12_held + 1 ≤ d) {d_X12_isDue : Nat} {s_X12_isDue : zq_Sp} (h_X12_isDue : zq_M yX12_isDue cX12_isDue 5 (some .boolean) 1 d_X12_isDue s_X12_isDue) (g_X12_isDue : d_X12_isDue + 1 ≤ d) {d_X12_flag : Nat} {s_X12_flag : zq_Sp} (h_X12_flag : zq_M yX12_flag cX12_flag 1 (some .int) 1 d_X12_flag s_X12_flag) (g_X12_flag : d_X12_flag + 1 ≤ d) {d_J6_bitCount_0f7a4 : Nat} {s_J6_bitCount_0f7a4 : zq_Sp} (h_J6_bitCount_0f7a4 : zq_M yJ6_bitCount_0f7a4 cJ6_bitCount_0f7a4 1 (some .int) 1 d_J6_bitCount_0f7a4 s_J6_bitCount_0f7a4) (g_J6_bitCount_0f7a4 : d_J6_bitCount_0f7a4 + 1 ≤ d) {d_X12_enters : Nat} {s_X12_enters : zq_Sp} (h_X12_enters : zq_M yX12_enters cX12_enters 3 none 0 d_X12_enters s_X12_enters) (g_X12_enters : d_X12_enters + 1 ≤ d) {J13 : zq_P} (j13 : zq_ok X 4 13 J13) {J58 : zq_P} (j58 : zq_ok X 4 58 J58) {Q : zq_Q} (hq : zq_R X (some .int) 1 Q) : zq_ok X 4 46 (xX12_wronged_46 s_X12_laysTable s_X12_held s_X12_isDue s_X12_flag s_J6_bitCount_0f7a4 s_X12_enters J13 J58 Q) := by
  refine zs_ior C dX12_wronged_46 ?_
  refine zs_istore_n C dX12_wronged_47 rfl (by decide) ?_
  refine zs_iinc C dX12_wronged_48 (by decide) (by decide) ?_
  exact zs_goto C dX12_wronged_51 (by decide) (j13)
def xX12_wronged_43 (s_X12_laysTable : zq_Sp) (s_X12_held : zq_Sp) (s_X12_isDue : zq_Sp) (s_X12_flag : zq_Sp) (s_J6_bitCount_0f7a4 : zq_Sp) (s_X12_enters : zq_Sp) (J13 : zq_P) (J58 : zq_P) (Q : zq_Q) (ls : zq_L) (st : List Value) (h : zq_H) : Prop := (zi_push (.int 1) (zi_iload 2 (zi_i2 zf_shl ((xX12_wronged_46 s_X12_laysTable s_X12_held s_X12_isDue s_X12_flag s_J6_bitCount_0f7a4 s_X12_enters J13 J58 Q))))) ls st h
theorem kX12_wronged_43 {X : zq_X} {d : Nat} (C : zq_C X cX12_wronged 4 RX12 d) {d_X12_laysTable : Nat} {s_X12_laysTable : zq_Sp} (h_X12_laysTable : zq_M yX12_laysTable cX12_laysTable 3 none 0 d_X12_laysTable s_X12_laysTable) (g_X12_laysTable : d_X12_laysTable + 1 ≤ d) {d_X12_held : Nat} {s_X12_held : zq_Sp} (h_X12_held : zq_M yX12_held cX12_held 5 (some .int) 1 d_X12_held s_X12_held) (g_X12_held : d_X12_held + 1 ≤ d) {d_X12_isDue : Nat} {s_X12_isDue : zq_Sp} (h_X12_isDue : zq_M yX12_isDue cX12_isDue 5 (some .boolean) 1 d_X12_isDue s_X12_isDue) (g_X12_isDue : d_X12_isDue + 1 ≤ d) {d_X12_flag : Nat} {s_X12_flag : zq_Sp} (h_X12_flag : zq_M yX12_flag cX12_flag 1 (some .int) 1 d_X12_flag s_X12_flag) (g_X12_flag : d_X12_flag + 1 ≤ d) {d_J6_bitCount_0f7a4 : Nat} {s_J6_bitCount_0f7a4 : zq_Sp} (h_J6_bitCount_0f7a4 : zq_M yJ6_bitCount_0f7a4 cJ6_bitCount_0f7a4 1 (some .int) 1 d_J6_bitCount_0f7a4 s_J6_bitCount_0f7a4) (g_J6_bitCount_0f7a4 : d_J6_bitCount_0f7a4 + 1 ≤ d) {d_X12_enters : Nat} {s_X12_enters : zq_Sp} (h_X12_enters : zq_M yX12_enters cX12_enters 3 none 0 d_X12_enters s_X12_enters) (g_X12_enters : d_X12_enters + 1 ≤ d) {J13 : zq_P} (j13 : zq_ok X 4 13 J13) {J58 : zq_P} (j58 : zq_ok X 4 58 J58) {Q : zq_Q} (hq : zq_R X (some .int) 1 Q) : zq_ok X 4 43 (xX12_wronged_43 s_X12_laysTable s_X12_held s_X12_isDue s_X12_flag s_J6_bitCount_0f7a4 s_X12_enters J13 J58 Q) := by
  refine zs_iconst C dX12_wronged_43 (by decide) ?_
  refine zs_iload_n C dX12_wronged_44 rfl ?_
  refine zs_ishl C dX12_wronged_45 ?_
  exact kX12_wronged_46 C h_X12_laysTable g_X12_laysTable h_X12_held g_X12_held h_X12_isDue g_X12_isDue h_X12_flag g_X12_flag h_J6_bitCount_0f7a4 g_J6_bitCount_0f7a4 h_X12_enters g_X12_enters j13 j58 hq
def xX12_wronged_39 (s_X12_laysTable : zq_Sp) (s_X12_held : zq_Sp) (s_X12_isDue : zq_Sp) (s_X12_flag : zq_Sp) (s_J6_bitCount_0f7a4 : zq_Sp) (s_X12_enters : zq_Sp) (J13 : zq_P) (J58 : zq_P) (Q : zq_Q) (ls : zq_L) (st : List Value) (h : zq_H) : Prop := (zi_push (.int 0) ((xX12_wronged_46 s_X12_laysTable s_X12_held s_X12_isDue s_X12_flag s_J6_bitCount_0f7a4 s_X12_enters J13 J58 Q))) ls st h
theorem kX12_wronged_39 {X : zq_X} {d : Nat} (C : zq_C X cX12_wronged 4 RX12 d) {d_X12_laysTable : Nat} {s_X12_laysTable : zq_Sp} (h_X12_laysTable : zq_M yX12_laysTable cX12_laysTable 3 none 0 d_X12_laysTable s_X12_laysTable) (g_X12_laysTable : d_X12_laysTable + 1 ≤ d) {d_X12_held : Nat} {s_X12_held : zq_Sp} (h_X12_held : zq_M yX12_held cX12_held 5 (some .int) 1 d_X12_held s_X12_held) (g_X12_held : d_X12_held + 1 ≤ d) {d_X12_isDue : Nat} {s_X12_isDue : zq_Sp} (h_X12_isDue : zq_M yX12_isDue cX12_isDue 5 (some .boolean) 1 d_X12_isDue s_X12_isDue) (g_X12_isDue : d_X12_isDue + 1 ≤ d) {d_X12_flag : Nat} {s_X12_flag : zq_Sp} (h_X12_flag : zq_M yX12_flag cX12_flag 1 (some .int) 1 d_X12_flag s_X12_flag) (g_X12_flag : d_X12_flag + 1 ≤ d) {d_J6_bitCount_0f7a4 : Nat} {s_J6_bitCount_0f7a4 : zq_Sp} (h_J6_bitCount_0f7a4 : zq_M yJ6_bitCount_0f7a4 cJ6_bitCount_0f7a4 1 (some .int) 1 d_J6_bitCount_0f7a4 s_J6_bitCount_0f7a4) (g_J6_bitCount_0f7a4 : d_J6_bitCount_0f7a4 + 1 ≤ d) {d_X12_enters : Nat} {s_X12_enters : zq_Sp} (h_X12_enters : zq_M yX12_enters cX12_enters 3 none 0 d_X12_enters s_X12_enters) (g_X12_enters : d_X12_enters + 1 ≤ d) {J13 : zq_P} (j13 : zq_ok X 4 13 J13) {J58 : zq_P} (j58 : zq_ok X 4 58 J58) {Q : zq_Q} (hq : zq_R X (some .int) 1 Q) : zq_ok X 4 39 (xX12_wronged_39 s_X12_laysTable s_X12_held s_X12_isDue s_X12_flag s_J6_bitCount_0f7a4 s_X12_enters J13 J58 Q) := by
  refine zs_iconst C dX12_wronged_39 (by decide) ?_
  exact zs_goto C dX12_wronged_40 (by decide) (kX12_wronged_46 C h_X12_laysTable g_X12_laysTable h_X12_held g_X12_held h_X12_isDue g_X12_isDue h_X12_flag g_X12_flag h_J6_bitCount_0f7a4 g_J6_bitCount_0f7a4 h_X12_enters g_X12_enters j13 j58 hq)
def xX12_wronged_21 (s_X12_laysTable : zq_Sp) (s_X12_held : zq_Sp) (s_X12_isDue : zq_Sp) (s_X12_flag : zq_Sp) (s_J6_bitCount_0f7a4 : zq_Sp) (s_X12_enters : zq_Sp) (J13 : zq_P) (J58 : zq_P) (Q : zq_Q) (ls : zq_L) (st : List Value) (h : zq_H) : Prop := (zi_iload 1 (zi_aload 0 (zi_iload 2 (zi_aload 0 (zi_iload 2 (zi_iload 2 (zi_callV 2 56 s_X12_held (zi_i2l (zi_push (.int 100) (zi_callV 3 56 s_X12_isDue (zi_if1 (fun x => x = 0) (xX12_wronged_43 s_X12_laysTable s_X12_held s_X12_isDue s_X12_flag s_J6_bitCount_0f7a4 s_X12_enters J13 J58 Q) (xX12_wronged_39 s_X12_laysTable s_X12_held s_X12_isDue s_X12_flag s_J6_bitCount_0f7a4 s_X12_enters J13 J58 Q)))))))))))) ls st h
theorem kX12_wronged_21 {X : zq_X} {d : Nat} (C : zq_C X cX12_wronged 4 RX12 d) {d_X12_laysTable : Nat} {s_X12_laysTable : zq_Sp} (h_X12_laysTable : zq_M yX12_laysTable cX12_laysTable 3 none 0 d_X12_laysTable s_X12_laysTable) (g_X12_laysTable : d_X12_laysTable + 1 ≤ d) {d_X12_held : Nat} {s_X12_held : zq_Sp} (h_X12_held : zq_M yX12_held cX12_held 5 (some .int) 1 d_X12_held s_X12_held) (g_X12_held : d_X12_held + 1 ≤ d) {d_X12_isDue : Nat} {s_X12_isDue : zq_Sp} (h_X12_isDue : zq_M yX12_isDue cX12_isDue 5 (some .boolean) 1 d_X12_isDue s_X12_isDue) (g_X12_isDue : d_X12_isDue + 1 ≤ d) {d_X12_flag : Nat} {s_X12_flag : zq_Sp} (h_X12_flag : zq_M yX12_flag cX12_flag 1 (some .int) 1 d_X12_flag s_X12_flag) (g_X12_flag : d_X12_flag + 1 ≤ d) {d_J6_bitCount_0f7a4 : Nat} {s_J6_bitCount_0f7a4 : zq_Sp} (h_J6_bitCount_0f7a4 : zq_M yJ6_bitCount_0f7a4 cJ6_bitCount_0f7a4 1 (some .int) 1 d_J6_bitCount_0f7a4 s_J6_bitCount_0f7a4) (g_J6_bitCount_0f7a4 : d_J6_bitCount_0f7a4 + 1 ≤ d) {d_X12_enters : Nat} {s_X12_enters : zq_Sp} (h_X12_enters : zq_M yX12_enters cX12_enters 3 none 0 d_X12_enters s_X12_enters) (g_X12_enters : d_X12_enters + 1 ≤ d) {J13 : zq_P} (j13 : zq_ok X 4 13 J13) {J58 : zq_P} (j58 : zq_ok X 4 58 J58) {Q : zq_Q} (hq : zq_R X (some .int) 1 Q) : zq_ok X 4 21 (xX12_wronged_21 s_X12_laysTable s_X12_held s_X12_isDue s_X12_flag s_J6_bitCount_0f7a4 s_X12_enters J13 J58 Q) := by
  refine zs_iload_n C dX12_wronged_21 rfl ?_
  refine zs_aload_n C dX12_wronged_22 rfl ?_
  refine zs_iload_n C dX12_wronged_23 rfl ?_
  refine zs_aload_n C dX12_wronged_24 rfl ?_
  refine zs_iload_n C dX12_wronged_25 rfl ?_
  refine zs_iload_n C dX12_wronged_26 rfl ?_
  refine zs_callV C h_X12_held g_X12_held zy_X12_held zp_56 (show vwCl[12]? = some (RX12, TX12, 67) from rfl) zw_1494 zw_1496 zs9_X12_held dX12_wronged_27 ?_
  refine zs_i2l C dX12_wronged_30 ?_
  refine zs_bipush C dX12_wronged_31 (by decide) ?_
  refine zs_callV C h_X12_isDue g_X12_isDue zy_X12_isDue zp_56 (show vwCl[12]? = some (RX12, TX12, 67) from rfl) zw_1498 zw_1500 zs9_X12_isDue dX12_wronged_33 ?_
  exact zs_if_eq C dX12_wronged_36 (by decide) (kX12_wronged_43 C h_X12_laysTable g_X12_laysTable h_X12_held g_X12_held h_X12_isDue g_X12_isDue h_X12_flag g_X12_flag h_J6_bitCount_0f7a4 g_J6_bitCount_0f7a4 h_X12_enters g_X12_enters j13 j58 hq) (kX12_wronged_39 C h_X12_laysTable g_X12_laysTable h_X12_held g_X12_held h_X12_isDue g_X12_isDue h_X12_flag g_X12_flag h_J6_bitCount_0f7a4 g_J6_bitCount_0f7a4 h_X12_enters g_X12_enters j13 j58 hq)
def xX12_wronged_13 (s_X12_laysTable : zq_Sp) (s_X12_held : zq_Sp) (s_X12_isDue : zq_Sp) (s_X12_flag : zq_Sp) (s_J6_bitCount_0f7a4 : zq_Sp) (s_X12_enters : zq_Sp) (J13 : zq_P) (J58 : zq_P) (Q : zq_Q) (ls : zq_L) (st : List Value) (h : zq_H) : Prop := (zi_iload 2 (zi_aload 0 (zi_getI 56 4 (zi_if2 (fun x y => y ≤ x) (xX12_wronged_54 s_X12_laysTable s_X12_held s_X12_isDue s_X12_flag s_J6_bitCount_0f7a4 s_X12_enters J13 J58 Q) (xX12_wronged_21 s_X12_laysTable s_X12_held s_X12_isDue s_X12_flag s_J6_bitCount_0f7a4 s_X12_enters J13 J58 Q))))) ls st h
theorem kX12_wronged_13 {X : zq_X} {d : Nat} (C : zq_C X cX12_wronged 4 RX12 d) {d_X12_laysTable : Nat} {s_X12_laysTable : zq_Sp} (h_X12_laysTable : zq_M yX12_laysTable cX12_laysTable 3 none 0 d_X12_laysTable s_X12_laysTable) (g_X12_laysTable : d_X12_laysTable + 1 ≤ d) {d_X12_held : Nat} {s_X12_held : zq_Sp} (h_X12_held : zq_M yX12_held cX12_held 5 (some .int) 1 d_X12_held s_X12_held) (g_X12_held : d_X12_held + 1 ≤ d) {d_X12_isDue : Nat} {s_X12_isDue : zq_Sp} (h_X12_isDue : zq_M yX12_isDue cX12_isDue 5 (some .boolean) 1 d_X12_isDue s_X12_isDue) (g_X12_isDue : d_X12_isDue + 1 ≤ d) {d_X12_flag : Nat} {s_X12_flag : zq_Sp} (h_X12_flag : zq_M yX12_flag cX12_flag 1 (some .int) 1 d_X12_flag s_X12_flag) (g_X12_flag : d_X12_flag + 1 ≤ d) {d_J6_bitCount_0f7a4 : Nat} {s_J6_bitCount_0f7a4 : zq_Sp} (h_J6_bitCount_0f7a4 : zq_M yJ6_bitCount_0f7a4 cJ6_bitCount_0f7a4 1 (some .int) 1 d_J6_bitCount_0f7a4 s_J6_bitCount_0f7a4) (g_J6_bitCount_0f7a4 : d_J6_bitCount_0f7a4 + 1 ≤ d) {d_X12_enters : Nat} {s_X12_enters : zq_Sp} (h_X12_enters : zq_M yX12_enters cX12_enters 3 none 0 d_X12_enters s_X12_enters) (g_X12_enters : d_X12_enters + 1 ≤ d) {J13 : zq_P} (j13 : zq_ok X 4 13 J13) {J58 : zq_P} (j58 : zq_ok X 4 58 J58) {Q : zq_Q} (hq : zq_R X (some .int) 1 Q) : zq_ok X 4 13 (xX12_wronged_13 s_X12_laysTable s_X12_held s_X12_isDue s_X12_flag s_J6_bitCount_0f7a4 s_X12_enters J13 J58 Q) := by
  refine zs_iload_n C dX12_wronged_13 rfl ?_
  refine zs_aload_n C dX12_wronged_14 rfl ?_
  refine zs_getI C zp_56 zF12 (j := 4) ⟨by decide, rfl⟩ zw_1100 dX12_wronged_15 ?_
  exact zs_icmp_ge C dX12_wronged_18 (by decide) (kX12_wronged_54 C h_X12_laysTable g_X12_laysTable h_X12_held g_X12_held h_X12_isDue g_X12_isDue h_X12_flag g_X12_flag h_J6_bitCount_0f7a4 g_J6_bitCount_0f7a4 h_X12_enters g_X12_enters j13 j58 hq) (kX12_wronged_21 C h_X12_laysTable g_X12_laysTable h_X12_held g_X12_held h_X12_isDue g_X12_isDue h_X12_flag g_X12_flag h_J6_bitCount_0f7a4 g_J6_bitCount_0f7a4 h_X12_enters g_X12_enters j13 j58 hq)
def xX12_wronged_0 (s_X12_laysTable : zq_Sp) (s_X12_held : zq_Sp) (s_X12_isDue : zq_Sp) (s_X12_flag : zq_Sp) (s_J6_bitCount_0f7a4 : zq_Sp) (s_X12_enters : zq_Sp) (J13 : zq_P) (J58 : zq_P) (Q : zq_Q) (ls : zq_L) (st : List Value) (h : zq_H) : Prop := (zi_aload 0 (zi_push (.int 0) (zi_putI 56 0 (zi_aload 0 (zi_callV 0 56 s_X12_laysTable (zi_push (.int 0) (zi_istore 1 (zi_push (.int 0) (zi_istore 2 (J13)))))))))) ls st h
theorem kX12_wronged_0 {X : zq_X} {d : Nat} (C : zq_C X cX12_wronged 4 RX12 d) {d_X12_laysTable : Nat} {s_X12_laysTable : zq_Sp} (h_X12_laysTable : zq_M yX12_laysTable cX12_laysTable 3 none 0 d_X12_laysTable s_X12_laysTable) (g_X12_laysTable : d_X12_laysTable + 1 ≤ d) {d_X12_held : Nat} {s_X12_held : zq_Sp} (h_X12_held : zq_M yX12_held cX12_held 5 (some .int) 1 d_X12_held s_X12_held) (g_X12_held : d_X12_held + 1 ≤ d) {d_X12_isDue : Nat} {s_X12_isDue : zq_Sp} (h_X12_isDue : zq_M yX12_isDue cX12_isDue 5 (some .boolean) 1 d_X12_isDue s_X12_isDue) (g_X12_isDue : d_X12_isDue + 1 ≤ d) {d_X12_flag : Nat} {s_X12_flag : zq_Sp} (h_X12_flag : zq_M yX12_flag cX12_flag 1 (some .int) 1 d_X12_flag s_X12_flag) (g_X12_flag : d_X12_flag + 1 ≤ d) {d_J6_bitCount_0f7a4 : Nat} {s_J6_bitCount_0f7a4 : zq_Sp} (h_J6_bitCount_0f7a4 : zq_M yJ6_bitCount_0f7a4 cJ6_bitCount_0f7a4 1 (some .int) 1 d_J6_bitCount_0f7a4 s_J6_bitCount_0f7a4) (g_J6_bitCount_0f7a4 : d_J6_bitCount_0f7a4 + 1 ≤ d) {d_X12_enters : Nat} {s_X12_enters : zq_Sp} (h_X12_enters : zq_M yX12_enters cX12_enters 3 none 0 d_X12_enters s_X12_enters) (g_X12_enters : d_X12_enters + 1 ≤ d) {J13 : zq_P} (j13 : zq_ok X 4 13 J13) {J58 : zq_P} (j58 : zq_ok X 4 58 J58) {Q : zq_Q} (hq : zq_R X (some .int) 1 Q) : zq_ok X 4 0 (xX12_wronged_0 s_X12_laysTable s_X12_held s_X12_isDue s_X12_flag s_J6_bitCount_0f7a4 s_X12_enters J13 J58 Q) := by
  refine zs_aload_n C dX12_wronged_0 rfl ?_
  refine zs_iconst C dX12_wronged_1 (by decide) ?_
  refine zs_putI C zp_56 zF12 (j := 0) ⟨by decide, rfl⟩ ⟨rfl, by decide +kernel⟩ zw_1096 dX12_wronged_2 ?_
  refine zs_aload_n C dX12_wronged_5 rfl ?_
  refine zs_callV C h_X12_laysTable g_X12_laysTable zy_X12_laysTable zp_56 (show vwCl[12]? = some (RX12, TX12, 67) from rfl) zw_1471 zw_1473 zs9_X12_laysTable dX12_wronged_6 ?_
  refine zs_iconst C dX12_wronged_9 (by decide) ?_
  refine zs_istore_n C dX12_wronged_10 rfl (by decide) ?_
  refine zs_iconst C dX12_wronged_11 (by decide) ?_
  refine zs_istore_n C dX12_wronged_12 rfl (by decide) ?_
  exact j13
theorem mX12_wronged {d : Nat} {spec : zq_Sp} {σ13 : Type} {σ58 : Type} {d_X12_laysTable : Nat} {s_X12_laysTable : zq_Sp} (h_X12_laysTable : zq_M yX12_laysTable cX12_laysTable 3 none 0 d_X12_laysTable s_X12_laysTable) (g_X12_laysTable : d_X12_laysTable + 1 ≤ d) {d_X12_held : Nat} {s_X12_held : zq_Sp} (h_X12_held : zq_M yX12_held cX12_held 5 (some .int) 1 d_X12_held s_X12_held) (g_X12_held : d_X12_held + 1 ≤ d) {d_X12_isDue : Nat} {s_X12_isDue : zq_Sp} (h_X12_isDue : zq_M yX12_isDue cX12_isDue 5 (some .boolean) 1 d_X12_isDue s_X12_isDue) (g_X12_isDue : d_X12_isDue + 1 ≤ d) {d_X12_flag : Nat} {s_X12_flag : zq_Sp} (h_X12_flag : zq_M yX12_flag cX12_flag 1 (some .int) 1 d_X12_flag s_X12_flag) (g_X12_flag : d_X12_flag + 1 ≤ d) {d_J6_bitCount_0f7a4 : Nat} {s_J6_bitCount_0f7a4 : zq_Sp} (h_J6_bitCount_0f7a4 : zq_M yJ6_bitCount_0f7a4 cJ6_bitCount_0f7a4 1 (some .int) 1 d_J6_bitCount_0f7a4 s_J6_bitCount_0f7a4) (g_J6_bitCount_0f7a4 : d_J6_bitCount_0f7a4 + 1 ≤ d) {d_X12_enters : Nat} {s_X12_enters : zq_Sp} (h_X12_enters : zq_M yX12_enters cX12_enters 3 none 0 d_X12_enters s_X12_enters) (g_X12_enters : d_X12_enters + 1 ≤ d) (μ13 : σ13 → Nat) (I13 : zq_Q → σ13 → zq_P) (μ58 : σ58 → Nat) (I58 : zq_Q → σ58 → zq_P) (v : ∀ args h Q, spec args h Q → (zq_a args).length ≤ 4 ∧ xX12_wronged_0 s_X12_laysTable s_X12_held s_X12_isDue s_X12_flag s_J6_bitCount_0f7a4 s_X12_enters (fun ls st h => ∃ b, I13 Q b ls st h) (fun ls st h => ∃ b, I58 Q b ls st h) Q (zq_l0 4 args) [] h) (v13 : ∀ Q a ls st h, I13 Q a ls st h → xX12_wronged_13 s_X12_laysTable s_X12_held s_X12_isDue s_X12_flag s_J6_bitCount_0f7a4 s_X12_enters (fun ls st h => ∃ b, μ13 b < μ13 a ∧ I13 Q b ls st h) (fun ls st h => ∃ b, μ58 b < μ13 a ∧ I58 Q b ls st h) Q ls st h) (v58 : ∀ Q a ls st h, I58 Q a ls st h → xX12_wronged_58 s_X12_laysTable s_X12_held s_X12_isDue s_X12_flag s_J6_bitCount_0f7a4 s_X12_enters (fun ls st h => ∃ b, μ13 b < μ58 a ∧ I13 Q b ls st h) (fun ls st h => ∃ b, μ58 b < μ58 a ∧ I58 Q b ls st h) Q ls st h) : zq_M yX12_wronged cX12_wronged 4 (some .int) 1 d spec := by
  refine zq_met (by decide +kernel) (by decide) (fun X Q args h C hq hs => ⟨(v args h Q hs).1, _, ?_, (v args h Q hs).2⟩)
  have hl := zq_loop2 (X := X) (nL := 4) (pc1 := 13) (pc2 := 58) μ13 μ58 (I13 Q) (I58 Q) (fun J13 J58 => xX12_wronged_13 s_X12_laysTable s_X12_held s_X12_isDue s_X12_flag s_J6_bitCount_0f7a4 s_X12_enters J13 J58 Q) (fun J13 J58 => xX12_wronged_58 s_X12_laysTable s_X12_held s_X12_isDue s_X12_flag s_J6_bitCount_0f7a4 s_X12_enters J13 J58 Q) (fun j13 j58 => kX12_wronged_13 C h_X12_laysTable g_X12_laysTable h_X12_held g_X12_held h_X12_isDue g_X12_isDue h_X12_flag g_X12_flag h_J6_bitCount_0f7a4 g_J6_bitCount_0f7a4 h_X12_enters g_X12_enters j13 j58 hq) (fun j13 j58 => kX12_wronged_58 C h_X12_laysTable g_X12_laysTable h_X12_held g_X12_held h_X12_isDue g_X12_isDue h_X12_flag g_X12_flag h_J6_bitCount_0f7a4 g_J6_bitCount_0f7a4 h_X12_enters g_X12_enters j13 j58 hq) (v13 Q) (v58 Q)
  exact kX12_wronged_0 C h_X12_laysTable g_X12_laysTable h_X12_held g_X12_held h_X12_isDue g_X12_isDue h_X12_flag g_X12_flag h_J6_bitCount_0f7a4 g_J6_bitCount_0f7a4 h_X12_enters g_X12_enters hl.1 hl.2 hq
/-! ToOneCrumbModel.happiest()I -/
theorem dX12_happiest_0 : decode cX12_happiest 0 = .ok (.aload_n 0, 1) := by decide +kernel
theorem dX12_happiest_1 : decode cX12_happiest 1 = .ok (.iconst 0, 1) := by decide +kernel
theorem dX12_happiest_2 : decode cX12_happiest 2 = .ok (.putfield 147, 3) := by decide +kernel
theorem dX12_happiest_5 : decode cX12_happiest 5 = .ok (.aload_n 0, 1) := by decide +kernel
theorem dX12_happiest_6 : decode cX12_happiest 6 = .ok (.getfield 165, 3) := by decide +kernel
theorem dX12_happiest_9 : decode cX12_happiest 9 = .ok (.ifCond .ne 6, 3) := by decide +kernel
theorem dX12_happiest_12 : decode cX12_happiest 12 = .ok (.bipush (-2), 2) := by decide +kernel
theorem dX12_happiest_14 : decode cX12_happiest 14 = .ok (.ireturn, 1) := by decide +kernel
theorem dX12_happiest_15 : decode cX12_happiest 15 = .ok (.aload_n 0, 1) := by decide +kernel
theorem dX12_happiest_16 : decode cX12_happiest 16 = .ok (.invokevirtual 318, 3) := by decide +kernel
theorem dX12_happiest_19 : decode cX12_happiest 19 = .ok (.iconst 0, 1) := by decide +kernel
theorem dX12_happiest_20 : decode cX12_happiest 20 = .ok (.istore_n 1, 1) := by decide +kernel
theorem dX12_happiest_21 : decode cX12_happiest 21 = .ok (.aload_n 0, 1) := by decide +kernel
theorem dX12_happiest_22 : decode cX12_happiest 22 = .ok (.iconst 0, 1) := by decide +kernel
theorem dX12_happiest_23 : decode cX12_happiest 23 = .ok (.iconst 0, 1) := by decide +kernel
theorem dX12_happiest_24 : decode cX12_happiest 24 = .ok (.invokevirtual 324, 3) := by decide +kernel
theorem dX12_happiest_27 : decode cX12_happiest 27 = .ok (.i2l, 1) := by decide +kernel
theorem dX12_happiest_28 : decode cX12_happiest 28 = .ok (.lstore_n 2, 1) := by decide +kernel
theorem dX12_happiest_29 : decode cX12_happiest 29 = .ok (.iconst 1, 1) := by decide +kernel
theorem dX12_happiest_30 : decode cX12_happiest 30 = .ok (.aload_n 0, 1) := by decide +kernel
theorem dX12_happiest_31 : decode cX12_happiest 31 = .ok (.getfield 66, 3) := by decide +kernel
theorem dX12_happiest_34 : decode cX12_happiest 34 = .ok (.iconst 0, 1) := by decide +kernel
theorem dX12_happiest_35 : decode cX12_happiest 35 = .ok (.iaload, 1) := by decide +kernel
theorem dX12_happiest_36 : decode cX12_happiest 36 = .ok (.invokestatic 262, 3) := by decide +kernel
theorem dX12_happiest_39 : decode cX12_happiest 39 = .ok (.i2l, 1) := by decide +kernel
theorem dX12_happiest_40 : decode cX12_happiest 40 = .ok (.lstore 4, 2) := by decide +kernel
theorem dX12_happiest_42 : decode cX12_happiest 42 = .ok (.iconst 1, 1) := by decide +kernel
theorem dX12_happiest_43 : decode cX12_happiest 43 = .ok (.istore 6, 2) := by decide +kernel
theorem dX12_happiest_45 : decode cX12_happiest 45 = .ok (.iload 6, 2) := by decide +kernel
theorem dX12_happiest_47 : decode cX12_happiest 47 = .ok (.aload_n 0, 1) := by decide +kernel
theorem dX12_happiest_48 : decode cX12_happiest 48 = .ok (.getfield 165, 3) := by decide +kernel
theorem dX12_happiest_51 : decode cX12_happiest 51 = .ok (.if_icmp .ge 57, 3) := by decide +kernel
theorem dX12_happiest_54 : decode cX12_happiest 54 = .ok (.aload_n 0, 1) := by decide +kernel
theorem dX12_happiest_55 : decode cX12_happiest 55 = .ok (.iload 6, 2) := by decide +kernel
theorem dX12_happiest_57 : decode cX12_happiest 57 = .ok (.iload 6, 2) := by decide +kernel
theorem dX12_happiest_59 : decode cX12_happiest 59 = .ok (.invokevirtual 324, 3) := by decide +kernel
theorem dX12_happiest_62 : decode cX12_happiest 62 = .ok (.i2l, 1) := by decide +kernel
theorem dX12_happiest_63 : decode cX12_happiest 63 = .ok (.lstore 7, 2) := by decide +kernel
theorem dX12_happiest_65 : decode cX12_happiest 65 = .ok (.iconst 1, 1) := by decide +kernel
theorem dX12_happiest_66 : decode cX12_happiest 66 = .ok (.aload_n 0, 1) := by decide +kernel
theorem dX12_happiest_67 : decode cX12_happiest 67 = .ok (.getfield 66, 3) := by decide +kernel
theorem dX12_happiest_70 : decode cX12_happiest 70 = .ok (.iload 6, 2) := by decide +kernel
theorem dX12_happiest_72 : decode cX12_happiest 72 = .ok (.iaload, 1) := by decide +kernel
theorem dX12_happiest_73 : decode cX12_happiest 73 = .ok (.invokestatic 262, 3) := by decide +kernel
theorem dX12_happiest_76 : decode cX12_happiest 76 = .ok (.i2l, 1) := by decide +kernel
theorem dX12_happiest_77 : decode cX12_happiest 77 = .ok (.lstore 9, 2) := by decide +kernel
theorem dX12_happiest_79 : decode cX12_happiest 79 = .ok (.lload 7, 2) := by decide +kernel
theorem dX12_happiest_81 : decode cX12_happiest 81 = .ok (.lload 4, 2) := by decide +kernel
theorem dX12_happiest_83 : decode cX12_happiest 83 = .ok (.lmul, 1) := by decide +kernel
theorem dX12_happiest_84 : decode cX12_happiest 84 = .ok (.lload_n 2, 1) := by decide +kernel
theorem dX12_happiest_85 : decode cX12_happiest 85 = .ok (.lload 9, 2) := by decide +kernel
theorem dX12_happiest_87 : decode cX12_happiest 87 = .ok (.lmul, 1) := by decide +kernel
theorem dX12_happiest_88 : decode cX12_happiest 88 = .ok (.lcmp, 1) := by decide +kernel
theorem dX12_happiest_89 : decode cX12_happiest 89 = .ok (.ifCond .le 13, 3) := by decide +kernel
theorem dX12_happiest_92 : decode cX12_happiest 92 = .ok (.iload 6, 2) := by decide +kernel
theorem dX12_happiest_94 : decode cX12_happiest 94 = .ok (.istore_n 1, 1) := by decide +kernel
theorem dX12_happiest_95 : decode cX12_happiest 95 = .ok (.lload 7, 2) := by decide +kernel
theorem dX12_happiest_97 : decode cX12_happiest 97 = .ok (.lstore_n 2, 1) := by decide +kernel
theorem dX12_happiest_98 : decode cX12_happiest 98 = .ok (.lload 9, 2) := by decide +kernel
theorem dX12_happiest_100 : decode cX12_happiest 100 = .ok (.lstore 4, 2) := by decide +kernel
theorem dX12_happiest_102 : decode cX12_happiest 102 = .ok (.iinc 6 1, 3) := by decide +kernel
theorem dX12_happiest_105 : decode cX12_happiest 105 = .ok (.goto (-60), 3) := by decide +kernel
theorem dX12_happiest_108 : decode cX12_happiest 108 = .ok (.lload_n 2, 1) := by decide +kernel
theorem dX12_happiest_109 : decode cX12_happiest 109 = .ok (.lload 4, 2) := by decide +kernel
theorem dX12_happiest_111 : decode cX12_happiest 111 = .ok (.invokestatic 151, 3) := by decide +kernel
theorem dX12_happiest_114 : decode cX12_happiest 114 = .ok (.lstore 6, 2) := by decide +kernel
theorem dX12_happiest_116 : decode cX12_happiest 116 = .ok (.aload_n 0, 1) := by decide +kernel
theorem dX12_happiest_117 : decode cX12_happiest 117 = .ok (.iconst 0, 1) := by decide +kernel
theorem dX12_happiest_118 : decode cX12_happiest 118 = .ok (.putfield 155, 3) := by decide +kernel
theorem dX12_happiest_121 : decode cX12_happiest 121 = .ok (.aload_n 0, 1) := by decide +kernel
theorem dX12_happiest_122 : decode cX12_happiest 122 = .ok (.lload_n 2, 1) := by decide +kernel
theorem dX12_happiest_123 : decode cX12_happiest 123 = .ok (.lload 6, 2) := by decide +kernel
theorem dX12_happiest_125 : decode cX12_happiest 125 = .ok (.ldiv, 1) := by decide +kernel
theorem dX12_happiest_126 : decode cX12_happiest 126 = .ok (.invokevirtual 368, 3) := by decide +kernel
theorem dX12_happiest_129 : decode cX12_happiest 129 = .ok (.aload_n 0, 1) := by decide +kernel
theorem dX12_happiest_130 : decode cX12_happiest 130 = .ok (.lload 4, 2) := by decide +kernel
theorem dX12_happiest_132 : decode cX12_happiest 132 = .ok (.lload 6, 2) := by decide +kernel
theorem dX12_happiest_134 : decode cX12_happiest 134 = .ok (.ldiv, 1) := by decide +kernel
theorem dX12_happiest_135 : decode cX12_happiest 135 = .ok (.invokevirtual 368, 3) := by decide +kernel
theorem dX12_happiest_138 : decode cX12_happiest 138 = .ok (.iload_n 1, 1) := by decide +kernel
theorem dX12_happiest_139 : decode cX12_happiest 139 = .ok (.ireturn, 1) := by decide +kernel
def xX12_happiest_108 (s_X12_laysTable : zq_Sp) (s_X12_held : zq_Sp) (s_X12_common : zq_Sp) (s_X12_enters : zq_Sp) (J45 : zq_P) (Q : zq_Q) (ls : zq_L) (st : List Value) (h : zq_H) : Prop := (zi_lload 2 (zi_lload 4 (zi_callS 2 s_X12_common (zi_lstore 6 (zi_aload 0 (zi_push (.int 0) (zi_putI 56 1 (zi_aload 0 (zi_lload 2 (zi_lload 6 (zi_ldv (fun x y => x / y) (zi_callV 1 56 s_X12_enters (zi_aload 0 (zi_lload 4 (zi_lload 6 (zi_ldv (fun x y => x / y) (zi_callV 1 56 s_X12_enters (zi_iload 1 (zi_iret Q))))))))))))))))))) ls st h
theorem kX12_happiest_108 {X : zq_X} {d : Nat} (C : zq_C X cX12_happiest 11 RX12 d) (hd1 : 1 ≤ d) {d_X12_laysTable : Nat} {s_X12_laysTable : zq_Sp} (h_X12_laysTable : zq_M yX12_laysTable cX12_laysTable 3 none 0 d_X12_laysTable s_X12_laysTable) (g_X12_laysTable : d_X12_laysTable + 1 ≤ d) {d_X12_held : Nat} {s_X12_held : zq_Sp} (h_X12_held : zq_M yX12_held cX12_held 5 (some .int) 1 d_X12_held s_X12_held) (g_X12_held : d_X12_held + 1 ≤ d) {d_X12_common : Nat} {s_X12_common : zq_Sp} (h_X12_common : zq_M yX12_common cX12_common 4 (some .long) 2 d_X12_common s_X12_common) (g_X12_common : d_X12_common + 1 ≤ d) {d_X12_enters : Nat} {s_X12_enters : zq_Sp} (h_X12_enters : zq_M yX12_enters cX12_enters 3 none 0 d_X12_enters s_X12_enters) (g_X12_enters : d_X12_enters + 1 ≤ d) {J45 : zq_P} (j45 : zq_ok X 11 45 J45) {Q : zq_Q} (hq : zq_R X (some .int) 1 Q) : zq_ok X 11 108 (xX12_happiest_108 s_X12_laysTable s_X12_held s_X12_common s_X12_enters J45 Q) := by
  refine zs_lload_n C dX12_happiest_108 rfl ?_
  refine zs_lload C dX12_happiest_109 ?_
  refine zs_callS C h_X12_common g_X12_common zy_X12_common zw_1595 zw_1596 dX12_happiest_111 ?_
  refine zs_lstore C dX12_happiest_114 (by decide) ?_
  refine zs_aload_n C dX12_happiest_116 rfl ?_
  refine zs_iconst C dX12_happiest_117 (by decide) ?_
  refine zs_putI C zp_56 zF12 (j := 1) ⟨by decide, rfl⟩ ⟨rfl, by decide +kernel⟩ zw_1097 dX12_happiest_118 ?_
  refine zs_aload_n C dX12_happiest_121 rfl ?_
  refine zs_lload_n C dX12_happiest_122 rfl ?_
  refine zs_lload C dX12_happiest_123 ?_
  refine zs_ldiv C dX12_happiest_125 ?_
  refine zs_callV C h_X12_enters g_X12_enters zy_X12_enters zp_56 (show vwCl[12]? = some (RX12, TX12, 67) from rfl) zw_1574 zw_1576 zs9_X12_enters dX12_happiest_126 ?_
  refine zs_aload_n C dX12_happiest_129 rfl ?_
  refine zs_lload C dX12_happiest_130 ?_
  refine zs_lload C dX12_happiest_132 ?_
  refine zs_ldiv C dX12_happiest_134 ?_
  refine zs_callV C h_X12_enters g_X12_enters zy_X12_enters zp_56 (show vwCl[12]? = some (RX12, TX12, 67) from rfl) zw_1574 zw_1576 zs9_X12_enters dX12_happiest_135 ?_
  refine zs_iload_n C dX12_happiest_138 rfl ?_
  exact zs_iret C hq dX12_happiest_139
def xX12_happiest_102 (s_X12_laysTable : zq_Sp) (s_X12_held : zq_Sp) (s_X12_common : zq_Sp) (s_X12_enters : zq_Sp) (J45 : zq_P) (Q : zq_Q) (ls : zq_L) (st : List Value) (h : zq_H) : Prop := (zi_iinc 6 1 (J45)) ls st h
theorem kX12_happiest_102 {X : zq_X} {d : Nat} (C : zq_C X cX12_happiest 11 RX12 d) (hd1 : 1 ≤ d) {d_X12_laysTable : Nat} {s_X12_laysTable : zq_Sp} (h_X12_laysTable : zq_M yX12_laysTable cX12_laysTable 3 none 0 d_X12_laysTable s_X12_laysTable) (g_X12_laysTable : d_X12_laysTable + 1 ≤ d) {d_X12_held : Nat} {s_X12_held : zq_Sp} (h_X12_held : zq_M yX12_held cX12_held 5 (some .int) 1 d_X12_held s_X12_held) (g_X12_held : d_X12_held + 1 ≤ d) {d_X12_common : Nat} {s_X12_common : zq_Sp} (h_X12_common : zq_M yX12_common cX12_common 4 (some .long) 2 d_X12_common s_X12_common) (g_X12_common : d_X12_common + 1 ≤ d) {d_X12_enters : Nat} {s_X12_enters : zq_Sp} (h_X12_enters : zq_M yX12_enters cX12_enters 3 none 0 d_X12_enters s_X12_enters) (g_X12_enters : d_X12_enters + 1 ≤ d) {J45 : zq_P} (j45 : zq_ok X 11 45 J45) {Q : zq_Q} (hq : zq_R X (some .int) 1 Q) : zq_ok X 11 102 (xX12_happiest_102 s_X12_laysTable s_X12_held s_X12_common s_X12_enters J45 Q) := by
  refine zs_iinc C dX12_happiest_102 (by decide) (by decide) ?_
  exact zs_goto C dX12_happiest_105 (by decide) (j45)
def xX12_happiest_92 (s_X12_laysTable : zq_Sp) (s_X12_held : zq_Sp) (s_X12_common : zq_Sp) (s_X12_enters : zq_Sp) (J45 : zq_P) (Q : zq_Q) (ls : zq_L) (st : List Value) (h : zq_H) : Prop := (zi_iload 6 (zi_istore 1 (zi_lload 7 (zi_lstore 2 (zi_lload 9 (zi_lstore 4 ((xX12_happiest_102 s_X12_laysTable s_X12_held s_X12_common s_X12_enters J45 Q)))))))) ls st h
theorem kX12_happiest_92 {X : zq_X} {d : Nat} (C : zq_C X cX12_happiest 11 RX12 d) (hd1 : 1 ≤ d) {d_X12_laysTable : Nat} {s_X12_laysTable : zq_Sp} (h_X12_laysTable : zq_M yX12_laysTable cX12_laysTable 3 none 0 d_X12_laysTable s_X12_laysTable) (g_X12_laysTable : d_X12_laysTable + 1 ≤ d) {d_X12_held : Nat} {s_X12_held : zq_Sp} (h_X12_held : zq_M yX12_held cX12_held 5 (some .int) 1 d_X12_held s_X12_held) (g_X12_held : d_X12_held + 1 ≤ d) {d_X12_common : Nat} {s_X12_common : zq_Sp} (h_X12_common : zq_M yX12_common cX12_common 4 (some .long) 2 d_X12_common s_X12_common) (g_X12_common : d_X12_common + 1 ≤ d) {d_X12_enters : Nat} {s_X12_enters : zq_Sp} (h_X12_enters : zq_M yX12_enters cX12_enters 3 none 0 d_X12_enters s_X12_enters) (g_X12_enters : d_X12_enters + 1 ≤ d) {J45 : zq_P} (j45 : zq_ok X 11 45 J45) {Q : zq_Q} (hq : zq_R X (some .int) 1 Q) : zq_ok X 11 92 (xX12_happiest_92 s_X12_laysTable s_X12_held s_X12_common s_X12_enters J45 Q) := by
  refine zs_iload C dX12_happiest_92 ?_
  refine zs_istore_n C dX12_happiest_94 rfl (by decide) ?_
  refine zs_lload C dX12_happiest_95 ?_
  refine zs_lstore_n C dX12_happiest_97 rfl (by decide) ?_
  refine zs_lload C dX12_happiest_98 ?_
  refine zs_lstore C dX12_happiest_100 (by decide) ?_
  exact kX12_happiest_102 C hd1 h_X12_laysTable g_X12_laysTable h_X12_held g_X12_held h_X12_common g_X12_common h_X12_enters g_X12_enters j45 hq
def xX12_happiest_54 (s_X12_laysTable : zq_Sp) (s_X12_held : zq_Sp) (s_X12_common : zq_Sp) (s_X12_enters : zq_Sp) (J45 : zq_P) (Q : zq_Q) (ls : zq_L) (st : List Value) (h : zq_H) : Prop := (zi_aload 0 (zi_iload 6 (zi_iload 6 (zi_callV 2 56 s_X12_held (zi_i2l (zi_lstore 7 (zi_push (.int 1) (zi_aload 0 (zi_getR 56 75 (zi_iload 6 (zi_aldI 75 6 (zi_m2 zf_max (zi_i2l (zi_lstore 9 (zi_lload 7 (zi_lload 4 (zi_l2 (fun x y => x * y) (zi_lload 2 (zi_lload 9 (zi_l2 (fun x y => x * y) (zi_lcmp (zi_if1 (fun x => x ≤ 0) (xX12_happiest_102 s_X12_laysTable s_X12_held s_X12_common s_X12_enters J45 Q) (xX12_happiest_92 s_X12_laysTable s_X12_held s_X12_common s_X12_enters J45 Q))))))))))))))))))))))) ls st h
theorem kX12_happiest_54 {X : zq_X} {d : Nat} (C : zq_C X cX12_happiest 11 RX12 d) (hd1 : 1 ≤ d) {d_X12_laysTable : Nat} {s_X12_laysTable : zq_Sp} (h_X12_laysTable : zq_M yX12_laysTable cX12_laysTable 3 none 0 d_X12_laysTable s_X12_laysTable) (g_X12_laysTable : d_X12_laysTable + 1 ≤ d) {d_X12_held : Nat} {s_X12_held : zq_Sp} (h_X12_held : zq_M yX12_held cX12_held 5 (some .int) 1 d_X12_held s_X12_held) (g_X12_held : d_X12_held + 1 ≤ d) {d_X12_common : Nat} {s_X12_common : zq_Sp} (h_X12_common : zq_M yX12_common cX12_common 4 (some .long) 2 d_X12_common s_X12_common) (g_X12_common : d_X12_common + 1 ≤ d) {d_X12_enters : Nat} {s_X12_enters : zq_Sp} (h_X12_enters : zq_M yX12_enters cX12_enters 3 none 0 d_X12_enters s_X12_enters) (g_X12_enters : d_X12_enters + 1 ≤ d) {J45 : zq_P} (j45 : zq_ok X 11 45 J45) {Q : zq_Q} (hq : zq_R X (some .int) 1 Q) : zq_ok X 11 54 (xX12_happiest_54 s_X12_laysTable s_X12_held s_X12_common s_X12_enters J45 Q) := by
  refine zs_aload_n C dX12_happiest_54 rfl ?_
  refine zs_iload C dX12_happiest_55 ?_
  refine zs_iload C dX12_happiest_57 ?_
  refine zs_callV C h_X12_held g_X12_held zy_X12_held zp_56 (show vwCl[12]? = some (RX12, TX12, 67) from rfl) zw_1494 zw_1496 zs9_X12_held dX12_happiest_59 ?_
  refine zs_i2l C dX12_happiest_62 ?_
  refine zs_lstore C dX12_happiest_63 (by decide) ?_
  refine zs_iconst C dX12_happiest_65 (by decide) ?_
  refine zs_aload_n C dX12_happiest_66 rfl ?_
  refine zs_getR C zp_56 zF12 (j := 30) ⟨by decide, rfl⟩ zw_1126 dX12_happiest_67 ?_
  refine zs_iload C dX12_happiest_70 ?_
  refine zs_iaload C zp_75 dX12_happiest_72 ?_
  refine zs_mmax C hd1 zw_1424 zw_454 zw_14 zw_455 dX12_happiest_73 ?_
  refine zs_i2l C dX12_happiest_76 ?_
  refine zs_lstore C dX12_happiest_77 (by decide) ?_
  refine zs_lload C dX12_happiest_79 ?_
  refine zs_lload C dX12_happiest_81 ?_
  refine zs_lmul C dX12_happiest_83 ?_
  refine zs_lload_n C dX12_happiest_84 rfl ?_
  refine zs_lload C dX12_happiest_85 ?_
  refine zs_lmul C dX12_happiest_87 ?_
  refine zs_lcmp C dX12_happiest_88 ?_
  exact zs_if_le C dX12_happiest_89 (by decide) (kX12_happiest_102 C hd1 h_X12_laysTable g_X12_laysTable h_X12_held g_X12_held h_X12_common g_X12_common h_X12_enters g_X12_enters j45 hq) (kX12_happiest_92 C hd1 h_X12_laysTable g_X12_laysTable h_X12_held g_X12_held h_X12_common g_X12_common h_X12_enters g_X12_enters j45 hq)
def xX12_happiest_45 (s_X12_laysTable : zq_Sp) (s_X12_held : zq_Sp) (s_X12_common : zq_Sp) (s_X12_enters : zq_Sp) (J45 : zq_P) (Q : zq_Q) (ls : zq_L) (st : List Value) (h : zq_H) : Prop := (zi_iload 6 (zi_aload 0 (zi_getI 56 4 (zi_if2 (fun x y => y ≤ x) (xX12_happiest_108 s_X12_laysTable s_X12_held s_X12_common s_X12_enters J45 Q) (xX12_happiest_54 s_X12_laysTable s_X12_held s_X12_common s_X12_enters J45 Q))))) ls st h
theorem kX12_happiest_45 {X : zq_X} {d : Nat} (C : zq_C X cX12_happiest 11 RX12 d) (hd1 : 1 ≤ d) {d_X12_laysTable : Nat} {s_X12_laysTable : zq_Sp} (h_X12_laysTable : zq_M yX12_laysTable cX12_laysTable 3 none 0 d_X12_laysTable s_X12_laysTable) (g_X12_laysTable : d_X12_laysTable + 1 ≤ d) {d_X12_held : Nat} {s_X12_held : zq_Sp} (h_X12_held : zq_M yX12_held cX12_held 5 (some .int) 1 d_X12_held s_X12_held) (g_X12_held : d_X12_held + 1 ≤ d) {d_X12_common : Nat} {s_X12_common : zq_Sp} (h_X12_common : zq_M yX12_common cX12_common 4 (some .long) 2 d_X12_common s_X12_common) (g_X12_common : d_X12_common + 1 ≤ d) {d_X12_enters : Nat} {s_X12_enters : zq_Sp} (h_X12_enters : zq_M yX12_enters cX12_enters 3 none 0 d_X12_enters s_X12_enters) (g_X12_enters : d_X12_enters + 1 ≤ d) {J45 : zq_P} (j45 : zq_ok X 11 45 J45) {Q : zq_Q} (hq : zq_R X (some .int) 1 Q) : zq_ok X 11 45 (xX12_happiest_45 s_X12_laysTable s_X12_held s_X12_common s_X12_enters J45 Q) := by
  refine zs_iload C dX12_happiest_45 ?_
  refine zs_aload_n C dX12_happiest_47 rfl ?_
  refine zs_getI C zp_56 zF12 (j := 4) ⟨by decide, rfl⟩ zw_1100 dX12_happiest_48 ?_
  exact zs_icmp_ge C dX12_happiest_51 (by decide) (kX12_happiest_108 C hd1 h_X12_laysTable g_X12_laysTable h_X12_held g_X12_held h_X12_common g_X12_common h_X12_enters g_X12_enters j45 hq) (kX12_happiest_54 C hd1 h_X12_laysTable g_X12_laysTable h_X12_held g_X12_held h_X12_common g_X12_common h_X12_enters g_X12_enters j45 hq)
def xX12_happiest_15 (s_X12_laysTable : zq_Sp) (s_X12_held : zq_Sp) (s_X12_common : zq_Sp) (s_X12_enters : zq_Sp) (J45 : zq_P) (Q : zq_Q) (ls : zq_L) (st : List Value) (h : zq_H) : Prop := (zi_aload 0 (zi_callV 0 56 s_X12_laysTable (zi_push (.int 0) (zi_istore 1 (zi_aload 0 (zi_push (.int 0) (zi_push (.int 0) (zi_callV 2 56 s_X12_held (zi_i2l (zi_lstore 2 (zi_push (.int 1) (zi_aload 0 (zi_getR 56 75 (zi_push (.int 0) (zi_aldI 75 6 (zi_m2 zf_max (zi_i2l (zi_lstore 4 (zi_push (.int 1) (zi_istore 6 (J45))))))))))))))))))))) ls st h
theorem kX12_happiest_15 {X : zq_X} {d : Nat} (C : zq_C X cX12_happiest 11 RX12 d) (hd1 : 1 ≤ d) {d_X12_laysTable : Nat} {s_X12_laysTable : zq_Sp} (h_X12_laysTable : zq_M yX12_laysTable cX12_laysTable 3 none 0 d_X12_laysTable s_X12_laysTable) (g_X12_laysTable : d_X12_laysTable + 1 ≤ d) {d_X12_held : Nat} {s_X12_held : zq_Sp} (h_X12_held : zq_M yX12_held cX12_held 5 (some .int) 1 d_X12_held s_X12_held) (g_X12_held : d_X12_held + 1 ≤ d) {d_X12_common : Nat} {s_X12_common : zq_Sp} (h_X12_common : zq_M yX12_common cX12_common 4 (some .long) 2 d_X12_common s_X12_common) (g_X12_common : d_X12_common + 1 ≤ d) {d_X12_enters : Nat} {s_X12_enters : zq_Sp} (h_X12_enters : zq_M yX12_enters cX12_enters 3 none 0 d_X12_enters s_X12_enters) (g_X12_enters : d_X12_enters + 1 ≤ d) {J45 : zq_P} (j45 : zq_ok X 11 45 J45) {Q : zq_Q} (hq : zq_R X (some .int) 1 Q) : zq_ok X 11 15 (xX12_happiest_15 s_X12_laysTable s_X12_held s_X12_common s_X12_enters J45 Q) := by
  refine zs_aload_n C dX12_happiest_15 rfl ?_
  refine zs_callV C h_X12_laysTable g_X12_laysTable zy_X12_laysTable zp_56 (show vwCl[12]? = some (RX12, TX12, 67) from rfl) zw_1471 zw_1473 zs9_X12_laysTable dX12_happiest_16 ?_
  refine zs_iconst C dX12_happiest_19 (by decide) ?_
  refine zs_istore_n C dX12_happiest_20 rfl (by decide) ?_
  refine zs_aload_n C dX12_happiest_21 rfl ?_
  refine zs_iconst C dX12_happiest_22 (by decide) ?_
  refine zs_iconst C dX12_happiest_23 (by decide) ?_
  refine zs_callV C h_X12_held g_X12_held zy_X12_held zp_56 (show vwCl[12]? = some (RX12, TX12, 67) from rfl) zw_1494 zw_1496 zs9_X12_held dX12_happiest_24 ?_
  refine zs_i2l C dX12_happiest_27 ?_
  refine zs_lstore_n C dX12_happiest_28 rfl (by decide) ?_
  refine zs_iconst C dX12_happiest_29 (by decide) ?_
  refine zs_aload_n C dX12_happiest_30 rfl ?_
  refine zs_getR C zp_56 zF12 (j := 30) ⟨by decide, rfl⟩ zw_1126 dX12_happiest_31 ?_
  refine zs_iconst C dX12_happiest_34 (by decide) ?_
  refine zs_iaload C zp_75 dX12_happiest_35 ?_
  refine zs_mmax C hd1 zw_1424 zw_454 zw_14 zw_455 dX12_happiest_36 ?_
  refine zs_i2l C dX12_happiest_39 ?_
  refine zs_lstore C dX12_happiest_40 (by decide) ?_
  refine zs_iconst C dX12_happiest_42 (by decide) ?_
  refine zs_istore C dX12_happiest_43 (by decide) ?_
  exact j45
def xX12_happiest_12 (s_X12_laysTable : zq_Sp) (s_X12_held : zq_Sp) (s_X12_common : zq_Sp) (s_X12_enters : zq_Sp) (J45 : zq_P) (Q : zq_Q) (ls : zq_L) (st : List Value) (h : zq_H) : Prop := (zi_push (.int (-2)) (zi_iret Q)) ls st h
theorem kX12_happiest_12 {X : zq_X} {d : Nat} (C : zq_C X cX12_happiest 11 RX12 d) (hd1 : 1 ≤ d) {d_X12_laysTable : Nat} {s_X12_laysTable : zq_Sp} (h_X12_laysTable : zq_M yX12_laysTable cX12_laysTable 3 none 0 d_X12_laysTable s_X12_laysTable) (g_X12_laysTable : d_X12_laysTable + 1 ≤ d) {d_X12_held : Nat} {s_X12_held : zq_Sp} (h_X12_held : zq_M yX12_held cX12_held 5 (some .int) 1 d_X12_held s_X12_held) (g_X12_held : d_X12_held + 1 ≤ d) {d_X12_common : Nat} {s_X12_common : zq_Sp} (h_X12_common : zq_M yX12_common cX12_common 4 (some .long) 2 d_X12_common s_X12_common) (g_X12_common : d_X12_common + 1 ≤ d) {d_X12_enters : Nat} {s_X12_enters : zq_Sp} (h_X12_enters : zq_M yX12_enters cX12_enters 3 none 0 d_X12_enters s_X12_enters) (g_X12_enters : d_X12_enters + 1 ≤ d) {J45 : zq_P} (j45 : zq_ok X 11 45 J45) {Q : zq_Q} (hq : zq_R X (some .int) 1 Q) : zq_ok X 11 12 (xX12_happiest_12 s_X12_laysTable s_X12_held s_X12_common s_X12_enters J45 Q) := by
  refine zs_bipush C dX12_happiest_12 (by decide) ?_
  exact zs_iret C hq dX12_happiest_14
def xX12_happiest_0 (s_X12_laysTable : zq_Sp) (s_X12_held : zq_Sp) (s_X12_common : zq_Sp) (s_X12_enters : zq_Sp) (J45 : zq_P) (Q : zq_Q) (ls : zq_L) (st : List Value) (h : zq_H) : Prop := (zi_aload 0 (zi_push (.int 0) (zi_putI 56 0 (zi_aload 0 (zi_getI 56 4 (zi_if1 (fun x => x = 0) (xX12_happiest_12 s_X12_laysTable s_X12_held s_X12_common s_X12_enters J45 Q) (xX12_happiest_15 s_X12_laysTable s_X12_held s_X12_common s_X12_enters J45 Q))))))) ls st h
theorem kX12_happiest_0 {X : zq_X} {d : Nat} (C : zq_C X cX12_happiest 11 RX12 d) (hd1 : 1 ≤ d) {d_X12_laysTable : Nat} {s_X12_laysTable : zq_Sp} (h_X12_laysTable : zq_M yX12_laysTable cX12_laysTable 3 none 0 d_X12_laysTable s_X12_laysTable) (g_X12_laysTable : d_X12_laysTable + 1 ≤ d) {d_X12_held : Nat} {s_X12_held : zq_Sp} (h_X12_held : zq_M yX12_held cX12_held 5 (some .int) 1 d_X12_held s_X12_held) (g_X12_held : d_X12_held + 1 ≤ d) {d_X12_common : Nat} {s_X12_common : zq_Sp} (h_X12_common : zq_M yX12_common cX12_common 4 (some .long) 2 d_X12_common s_X12_common) (g_X12_common : d_X12_common + 1 ≤ d) {d_X12_enters : Nat} {s_X12_enters : zq_Sp} (h_X12_enters : zq_M yX12_enters cX12_enters 3 none 0 d_X12_enters s_X12_enters) (g_X12_enters : d_X12_enters + 1 ≤ d) {J45 : zq_P} (j45 : zq_ok X 11 45 J45) {Q : zq_Q} (hq : zq_R X (some .int) 1 Q) : zq_ok X 11 0 (xX12_happiest_0 s_X12_laysTable s_X12_held s_X12_common s_X12_enters J45 Q) := by
  refine zs_aload_n C dX12_happiest_0 rfl ?_
  refine zs_iconst C dX12_happiest_1 (by decide) ?_
  refine zs_putI C zp_56 zF12 (j := 0) ⟨by decide, rfl⟩ ⟨rfl, by decide +kernel⟩ zw_1096 dX12_happiest_2 ?_
  refine zs_aload_n C dX12_happiest_5 rfl ?_
  refine zs_getI C zp_56 zF12 (j := 4) ⟨by decide, rfl⟩ zw_1100 dX12_happiest_6 ?_
  exact zs_if_ne C dX12_happiest_9 (by decide) (kX12_happiest_15 C hd1 h_X12_laysTable g_X12_laysTable h_X12_held g_X12_held h_X12_common g_X12_common h_X12_enters g_X12_enters j45 hq) (kX12_happiest_12 C hd1 h_X12_laysTable g_X12_laysTable h_X12_held g_X12_held h_X12_common g_X12_common h_X12_enters g_X12_enters j45 hq)
theorem mX12_happiest {d : Nat} {spec : zq_Sp} {σ45 : Type} {d_X12_laysTable : Nat} {s_X12_laysTable : zq_Sp} (h_X12_laysTable : zq_M yX12_laysTable cX12_laysTable 3 none 0 d_X12_laysTable s_X12_laysTable) (g_X12_laysTable : d_X12_laysTable + 1 ≤ d) {d_X12_held : Nat} {s_X12_held : zq_Sp} (h_X12_held : zq_M yX12_held cX12_held 5 (some .int) 1 d_X12_held s_X12_held) (g_X12_held : d_X12_held + 1 ≤ d) {d_X12_common : Nat} {s_X12_common : zq_Sp} (h_X12_common : zq_M yX12_common cX12_common 4 (some .long) 2 d_X12_common s_X12_common) (g_X12_common : d_X12_common + 1 ≤ d) {d_X12_enters : Nat} {s_X12_enters : zq_Sp} (h_X12_enters : zq_M yX12_enters cX12_enters 3 none 0 d_X12_enters s_X12_enters) (g_X12_enters : d_X12_enters + 1 ≤ d) (hd1 : 1 ≤ d) (μ45 : σ45 → Nat) (I45 : zq_Q → σ45 → zq_P) (v : ∀ args h Q, spec args h Q → (zq_a args).length ≤ 11 ∧ xX12_happiest_0 s_X12_laysTable s_X12_held s_X12_common s_X12_enters (fun ls st h => ∃ b, I45 Q b ls st h) Q (zq_l0 11 args) [] h) (v45 : ∀ Q a ls st h, I45 Q a ls st h → xX12_happiest_45 s_X12_laysTable s_X12_held s_X12_common s_X12_enters (fun ls st h => ∃ b, μ45 b < μ45 a ∧ I45 Q b ls st h) Q ls st h) : zq_M yX12_happiest cX12_happiest 11 (some .int) 1 d spec := by
  refine zq_met (by decide +kernel) (by decide) (fun X Q args h C hq hs => ⟨(v args h Q hs).1, _, ?_, (v args h Q hs).2⟩)
  have hl := zq_loop1 (X := X) (nL := 11) (pc1 := 45) μ45 (I45 Q) (fun J45 => xX12_happiest_45 s_X12_laysTable s_X12_held s_X12_common s_X12_enters J45 Q) (fun j45 => kX12_happiest_45 C hd1 h_X12_laysTable g_X12_laysTable h_X12_held g_X12_held h_X12_common g_X12_common h_X12_enters g_X12_enters j45 hq) (v45 Q)
  exact kX12_happiest_0 C hd1 h_X12_laysTable g_X12_laysTable h_X12_held g_X12_held h_X12_common g_X12_common h_X12_enters g_X12_enters hl hq
/-! ToOneCrumbModel.pieces(I)I -/
theorem dX12_pieces_0 : decode cX12_pieces 0 = .ok (.aload_n 0, 1) := by decide +kernel
theorem dX12_pieces_1 : decode cX12_pieces 1 = .ok (.iconst 0, 1) := by decide +kernel
theorem dX12_pieces_2 : decode cX12_pieces 2 = .ok (.putfield 147, 3) := by decide +kernel
theorem dX12_pieces_5 : decode cX12_pieces 5 = .ok (.aload_n 0, 1) := by decide +kernel
theorem dX12_pieces_6 : decode cX12_pieces 6 = .ok (.iload_n 1, 1) := by decide +kernel
theorem dX12_pieces_7 : decode cX12_pieces 7 = .ok (.invokevirtual 313, 3) := by decide +kernel
theorem dX12_pieces_10 : decode cX12_pieces 10 = .ok (.ifCond .ne 5, 3) := by decide +kernel
theorem dX12_pieces_13 : decode cX12_pieces 13 = .ok (.iconst (-1), 1) := by decide +kernel
theorem dX12_pieces_14 : decode cX12_pieces 14 = .ok (.ireturn, 1) := by decide +kernel
theorem dX12_pieces_15 : decode cX12_pieces 15 = .ok (.iconst 0, 1) := by decide +kernel
theorem dX12_pieces_16 : decode cX12_pieces 16 = .ok (.istore_n 2, 1) := by decide +kernel
theorem dX12_pieces_17 : decode cX12_pieces 17 = .ok (.iconst 0, 1) := by decide +kernel
theorem dX12_pieces_18 : decode cX12_pieces 18 = .ok (.istore_n 3, 1) := by decide +kernel
theorem dX12_pieces_19 : decode cX12_pieces 19 = .ok (.iconst 0, 1) := by decide +kernel
theorem dX12_pieces_20 : decode cX12_pieces 20 = .ok (.istore 4, 2) := by decide +kernel
theorem dX12_pieces_22 : decode cX12_pieces 22 = .ok (.iconst (-1), 1) := by decide +kernel
theorem dX12_pieces_23 : decode cX12_pieces 23 = .ok (.istore 5, 2) := by decide +kernel
theorem dX12_pieces_25 : decode cX12_pieces 25 = .ok (.iconst 0, 1) := by decide +kernel
theorem dX12_pieces_26 : decode cX12_pieces 26 = .ok (.istore 6, 2) := by decide +kernel
theorem dX12_pieces_28 : decode cX12_pieces 28 = .ok (.iload 6, 2) := by decide +kernel
theorem dX12_pieces_30 : decode cX12_pieces 30 = .ok (.aload_n 0, 1) := by decide +kernel
theorem dX12_pieces_31 : decode cX12_pieces 31 = .ok (.getfield 158, 3) := by decide +kernel
theorem dX12_pieces_34 : decode cX12_pieces 34 = .ok (.if_icmp .ge 61, 3) := by decide +kernel
theorem dX12_pieces_37 : decode cX12_pieces 37 = .ok (.aload_n 0, 1) := by decide +kernel
theorem dX12_pieces_38 : decode cX12_pieces 38 = .ok (.getfield 30, 3) := by decide +kernel
theorem dX12_pieces_41 : decode cX12_pieces 41 = .ok (.iload 6, 2) := by decide +kernel
theorem dX12_pieces_43 : decode cX12_pieces 43 = .ok (.iaload, 1) := by decide +kernel
theorem dX12_pieces_44 : decode cX12_pieces 44 = .ok (.iload_n 1, 1) := by decide +kernel
theorem dX12_pieces_45 : decode cX12_pieces 45 = .ok (.if_icmp .ne 9, 3) := by decide +kernel
theorem dX12_pieces_48 : decode cX12_pieces 48 = .ok (.iload_n 3, 1) := by decide +kernel
theorem dX12_pieces_49 : decode cX12_pieces 49 = .ok (.iconst 1, 1) := by decide +kernel
theorem dX12_pieces_50 : decode cX12_pieces 50 = .ok (.iadd, 1) := by decide +kernel
theorem dX12_pieces_51 : decode cX12_pieces 51 = .ok (.goto 4, 3) := by decide +kernel
theorem dX12_pieces_54 : decode cX12_pieces 54 = .ok (.iconst 0, 1) := by decide +kernel
theorem dX12_pieces_55 : decode cX12_pieces 55 = .ok (.istore_n 3, 1) := by decide +kernel
theorem dX12_pieces_56 : decode cX12_pieces 56 = .ok (.iload_n 2, 1) := by decide +kernel
theorem dX12_pieces_57 : decode cX12_pieces 57 = .ok (.iload_n 3, 1) := by decide +kernel
theorem dX12_pieces_58 : decode cX12_pieces 58 = .ok (.iconst 1, 1) := by decide +kernel
theorem dX12_pieces_59 : decode cX12_pieces 59 = .ok (.if_icmp .ne 7, 3) := by decide +kernel
theorem dX12_pieces_62 : decode cX12_pieces 62 = .ok (.iconst 1, 1) := by decide +kernel
theorem dX12_pieces_63 : decode cX12_pieces 63 = .ok (.goto 4, 3) := by decide +kernel
theorem dX12_pieces_66 : decode cX12_pieces 66 = .ok (.iconst 0, 1) := by decide +kernel
theorem dX12_pieces_67 : decode cX12_pieces 67 = .ok (.invokestatic 190, 3) := by decide +kernel
theorem dX12_pieces_70 : decode cX12_pieces 70 = .ok (.iadd, 1) := by decide +kernel
theorem dX12_pieces_71 : decode cX12_pieces 71 = .ok (.istore_n 2, 1) := by decide +kernel
theorem dX12_pieces_72 : decode cX12_pieces 72 = .ok (.iload_n 3, 1) := by decide +kernel
theorem dX12_pieces_73 : decode cX12_pieces 73 = .ok (.iload 4, 2) := by decide +kernel
theorem dX12_pieces_75 : decode cX12_pieces 75 = .ok (.if_icmp .le 14, 3) := by decide +kernel
theorem dX12_pieces_78 : decode cX12_pieces 78 = .ok (.iload_n 3, 1) := by decide +kernel
theorem dX12_pieces_79 : decode cX12_pieces 79 = .ok (.istore 4, 2) := by decide +kernel
theorem dX12_pieces_81 : decode cX12_pieces 81 = .ok (.iload 6, 2) := by decide +kernel
theorem dX12_pieces_83 : decode cX12_pieces 83 = .ok (.iload_n 3, 1) := by decide +kernel
theorem dX12_pieces_84 : decode cX12_pieces 84 = .ok (.isub, 1) := by decide +kernel
theorem dX12_pieces_85 : decode cX12_pieces 85 = .ok (.iconst 1, 1) := by decide +kernel
theorem dX12_pieces_86 : decode cX12_pieces 86 = .ok (.iadd, 1) := by decide +kernel
theorem dX12_pieces_87 : decode cX12_pieces 87 = .ok (.istore 5, 2) := by decide +kernel
theorem dX12_pieces_89 : decode cX12_pieces 89 = .ok (.iinc 6 1, 3) := by decide +kernel
theorem dX12_pieces_92 : decode cX12_pieces 92 = .ok (.goto (-64), 3) := by decide +kernel
theorem dX12_pieces_95 : decode cX12_pieces 95 = .ok (.aload_n 0, 1) := by decide +kernel
theorem dX12_pieces_96 : decode cX12_pieces 96 = .ok (.iconst 0, 1) := by decide +kernel
theorem dX12_pieces_97 : decode cX12_pieces 97 = .ok (.putfield 155, 3) := by decide +kernel
theorem dX12_pieces_100 : decode cX12_pieces 100 = .ok (.aload_n 0, 1) := by decide +kernel
theorem dX12_pieces_101 : decode cX12_pieces 101 = .ok (.iload 5, 2) := by decide +kernel
theorem dX12_pieces_103 : decode cX12_pieces 103 = .ok (.i2l, 1) := by decide +kernel
theorem dX12_pieces_104 : decode cX12_pieces 104 = .ok (.invokevirtual 368, 3) := by decide +kernel
theorem dX12_pieces_107 : decode cX12_pieces 107 = .ok (.aload_n 0, 1) := by decide +kernel
theorem dX12_pieces_108 : decode cX12_pieces 108 = .ok (.iload 4, 2) := by decide +kernel
theorem dX12_pieces_110 : decode cX12_pieces 110 = .ok (.i2l, 1) := by decide +kernel
theorem dX12_pieces_111 : decode cX12_pieces 111 = .ok (.invokevirtual 368, 3) := by decide +kernel
theorem dX12_pieces_114 : decode cX12_pieces 114 = .ok (.iload_n 2, 1) := by decide +kernel
theorem dX12_pieces_115 : decode cX12_pieces 115 = .ok (.ireturn, 1) := by decide +kernel
def xX12_pieces_95 (s_X12_isGuest : zq_Sp) (s_X12_flag : zq_Sp) (s_X12_enters : zq_Sp) (J28 : zq_P) (Q : zq_Q) (ls : zq_L) (st : List Value) (h : zq_H) : Prop := (zi_aload 0 (zi_push (.int 0) (zi_putI 56 1 (zi_aload 0 (zi_iload 5 (zi_i2l (zi_callV 1 56 s_X12_enters (zi_aload 0 (zi_iload 4 (zi_i2l (zi_callV 1 56 s_X12_enters (zi_iload 2 (zi_iret Q))))))))))))) ls st h
theorem kX12_pieces_95 {X : zq_X} {d : Nat} (C : zq_C X cX12_pieces 7 RX12 d) {d_X12_isGuest : Nat} {s_X12_isGuest : zq_Sp} (h_X12_isGuest : zq_M yX12_isGuest cX12_isGuest 2 (some .boolean) 1 d_X12_isGuest s_X12_isGuest) (g_X12_isGuest : d_X12_isGuest + 1 ≤ d) {d_X12_flag : Nat} {s_X12_flag : zq_Sp} (h_X12_flag : zq_M yX12_flag cX12_flag 1 (some .int) 1 d_X12_flag s_X12_flag) (g_X12_flag : d_X12_flag + 1 ≤ d) {d_X12_enters : Nat} {s_X12_enters : zq_Sp} (h_X12_enters : zq_M yX12_enters cX12_enters 3 none 0 d_X12_enters s_X12_enters) (g_X12_enters : d_X12_enters + 1 ≤ d) {J28 : zq_P} (j28 : zq_ok X 7 28 J28) {Q : zq_Q} (hq : zq_R X (some .int) 1 Q) : zq_ok X 7 95 (xX12_pieces_95 s_X12_isGuest s_X12_flag s_X12_enters J28 Q) := by
  refine zs_aload_n C dX12_pieces_95 rfl ?_
  refine zs_iconst C dX12_pieces_96 (by decide) ?_
  refine zs_putI C zp_56 zF12 (j := 1) ⟨by decide, rfl⟩ ⟨rfl, by decide +kernel⟩ zw_1097 dX12_pieces_97 ?_
  refine zs_aload_n C dX12_pieces_100 rfl ?_
  refine zs_iload C dX12_pieces_101 ?_
  refine zs_i2l C dX12_pieces_103 ?_
  refine zs_callV C h_X12_enters g_X12_enters zy_X12_enters zp_56 (show vwCl[12]? = some (RX12, TX12, 67) from rfl) zw_1574 zw_1576 zs9_X12_enters dX12_pieces_104 ?_
  refine zs_aload_n C dX12_pieces_107 rfl ?_
  refine zs_iload C dX12_pieces_108 ?_
  refine zs_i2l C dX12_pieces_110 ?_
  refine zs_callV C h_X12_enters g_X12_enters zy_X12_enters zp_56 (show vwCl[12]? = some (RX12, TX12, 67) from rfl) zw_1574 zw_1576 zs9_X12_enters dX12_pieces_111 ?_
  refine zs_iload_n C dX12_pieces_114 rfl ?_
  exact zs_iret C hq dX12_pieces_115
def xX12_pieces_89 (s_X12_isGuest : zq_Sp) (s_X12_flag : zq_Sp) (s_X12_enters : zq_Sp) (J28 : zq_P) (Q : zq_Q) (ls : zq_L) (st : List Value) (h : zq_H) : Prop := (zi_iinc 6 1 (J28)) ls st h
theorem kX12_pieces_89 {X : zq_X} {d : Nat} (C : zq_C X cX12_pieces 7 RX12 d) {d_X12_isGuest : Nat} {s_X12_isGuest : zq_Sp} (h_X12_isGuest : zq_M yX12_isGuest cX12_isGuest 2 (some .boolean) 1 d_X12_isGuest s_X12_isGuest) (g_X12_isGuest : d_X12_isGuest + 1 ≤ d) {d_X12_flag : Nat} {s_X12_flag : zq_Sp} (h_X12_flag : zq_M yX12_flag cX12_flag 1 (some .int) 1 d_X12_flag s_X12_flag) (g_X12_flag : d_X12_flag + 1 ≤ d) {d_X12_enters : Nat} {s_X12_enters : zq_Sp} (h_X12_enters : zq_M yX12_enters cX12_enters 3 none 0 d_X12_enters s_X12_enters) (g_X12_enters : d_X12_enters + 1 ≤ d) {J28 : zq_P} (j28 : zq_ok X 7 28 J28) {Q : zq_Q} (hq : zq_R X (some .int) 1 Q) : zq_ok X 7 89 (xX12_pieces_89 s_X12_isGuest s_X12_flag s_X12_enters J28 Q) := by
  refine zs_iinc C dX12_pieces_89 (by decide) (by decide) ?_
  exact zs_goto C dX12_pieces_92 (by decide) (j28)
def xX12_pieces_78 (s_X12_isGuest : zq_Sp) (s_X12_flag : zq_Sp) (s_X12_enters : zq_Sp) (J28 : zq_P) (Q : zq_Q) (ls : zq_L) (st : List Value) (h : zq_H) : Prop := (zi_iload 3 (zi_istore 4 (zi_iload 6 (zi_iload 3 (zi_i2 (fun x y => x - y) (zi_push (.int 1) (zi_i2 (fun x y => x + y) (zi_istore 5 ((xX12_pieces_89 s_X12_isGuest s_X12_flag s_X12_enters J28 Q)))))))))) ls st h
theorem kX12_pieces_78 {X : zq_X} {d : Nat} (C : zq_C X cX12_pieces 7 RX12 d) {d_X12_isGuest : Nat} {s_X12_isGuest : zq_Sp} (h_X12_isGuest : zq_M yX12_isGuest cX12_isGuest 2 (some .boolean) 1 d_X12_isGuest s_X12_isGuest) (g_X12_isGuest : d_X12_isGuest + 1 ≤ d) {d_X12_flag : Nat} {s_X12_flag : zq_Sp} (h_X12_flag : zq_M yX12_flag cX12_flag 1 (some .int) 1 d_X12_flag s_X12_flag) (g_X12_flag : d_X12_flag + 1 ≤ d) {d_X12_enters : Nat} {s_X12_enters : zq_Sp} (h_X12_enters : zq_M yX12_enters cX12_enters 3 none 0 d_X12_enters s_X12_enters) (g_X12_enters : d_X12_enters + 1 ≤ d) {J28 : zq_P} (j28 : zq_ok X 7 28 J28) {Q : zq_Q} (hq : zq_R X (some .int) 1 Q) : zq_ok X 7 78 (xX12_pieces_78 s_X12_isGuest s_X12_flag s_X12_enters J28 Q) := by
  refine zs_iload_n C dX12_pieces_78 rfl ?_
  refine zs_istore C dX12_pieces_79 (by decide) ?_
  refine zs_iload C dX12_pieces_81 ?_
  refine zs_iload_n C dX12_pieces_83 rfl ?_
  refine zs_isub C dX12_pieces_84 ?_
  refine zs_iconst C dX12_pieces_85 (by decide) ?_
  refine zs_iadd C dX12_pieces_86 ?_
  refine zs_istore C dX12_pieces_87 (by decide) ?_
  exact kX12_pieces_89 C h_X12_isGuest g_X12_isGuest h_X12_flag g_X12_flag h_X12_enters g_X12_enters j28 hq
def xX12_pieces_67 (s_X12_isGuest : zq_Sp) (s_X12_flag : zq_Sp) (s_X12_enters : zq_Sp) (J28 : zq_P) (Q : zq_Q) (ls : zq_L) (st : List Value) (h : zq_H) : Prop := (zi_callS 1 s_X12_flag (zi_i2 (fun x y => x + y) (zi_istore 2 (zi_iload 3 (zi_iload 4 (zi_if2 (fun x y => x ≤ y) (xX12_pieces_89 s_X12_isGuest s_X12_flag s_X12_enters J28 Q) (xX12_pieces_78 s_X12_isGuest s_X12_flag s_X12_enters J28 Q))))))) ls st h
theorem kX12_pieces_67 {X : zq_X} {d : Nat} (C : zq_C X cX12_pieces 7 RX12 d) {d_X12_isGuest : Nat} {s_X12_isGuest : zq_Sp} (h_X12_isGuest : zq_M yX12_isGuest cX12_isGuest 2 (some .boolean) 1 d_X12_isGuest s_X12_isGuest) (g_X12_isGuest : d_X12_isGuest + 1 ≤ d) {d_X12_flag : Nat} {s_X12_flag : zq_Sp} (h_X12_flag : zq_M yX12_flag cX12_flag 1 (some .int) 1 d_X12_flag s_X12_flag) (g_X12_flag : d_X12_flag + 1 ≤ d) {d_X12_enters : Nat} {s_X12_enters : zq_Sp} (h_X12_enters : zq_M yX12_enters cX12_enters 3 none 0 d_X12_enters s_X12_enters) (g_X12_enters : d_X12_enters + 1 ≤ d) {J28 : zq_P} (j28 : zq_ok X 7 28 J28) {Q : zq_Q} (hq : zq_R X (some .int) 1 Q) : zq_ok X 7 67 (xX12_pieces_67 s_X12_isGuest s_X12_flag s_X12_enters J28 Q) := by
  refine zs_callS C h_X12_flag g_X12_flag zy_X12_flag zw_1380 zw_1381 dX12_pieces_67 ?_
  refine zs_iadd C dX12_pieces_70 ?_
  refine zs_istore_n C dX12_pieces_71 rfl (by decide) ?_
  refine zs_iload_n C dX12_pieces_72 rfl ?_
  refine zs_iload C dX12_pieces_73 ?_
  exact zs_icmp_le C dX12_pieces_75 (by decide) (kX12_pieces_89 C h_X12_isGuest g_X12_isGuest h_X12_flag g_X12_flag h_X12_enters g_X12_enters j28 hq) (kX12_pieces_78 C h_X12_isGuest g_X12_isGuest h_X12_flag g_X12_flag h_X12_enters g_X12_enters j28 hq)
def xX12_pieces_66 (s_X12_isGuest : zq_Sp) (s_X12_flag : zq_Sp) (s_X12_enters : zq_Sp) (J28 : zq_P) (Q : zq_Q) (ls : zq_L) (st : List Value) (h : zq_H) : Prop := (zi_push (.int 0) ((xX12_pieces_67 s_X12_isGuest s_X12_flag s_X12_enters J28 Q))) ls st h
theorem kX12_pieces_66 {X : zq_X} {d : Nat} (C : zq_C X cX12_pieces 7 RX12 d) {d_X12_isGuest : Nat} {s_X12_isGuest : zq_Sp} (h_X12_isGuest : zq_M yX12_isGuest cX12_isGuest 2 (some .boolean) 1 d_X12_isGuest s_X12_isGuest) (g_X12_isGuest : d_X12_isGuest + 1 ≤ d) {d_X12_flag : Nat} {s_X12_flag : zq_Sp} (h_X12_flag : zq_M yX12_flag cX12_flag 1 (some .int) 1 d_X12_flag s_X12_flag) (g_X12_flag : d_X12_flag + 1 ≤ d) {d_X12_enters : Nat} {s_X12_enters : zq_Sp} (h_X12_enters : zq_M yX12_enters cX12_enters 3 none 0 d_X12_enters s_X12_enters) (g_X12_enters : d_X12_enters + 1 ≤ d) {J28 : zq_P} (j28 : zq_ok X 7 28 J28) {Q : zq_Q} (hq : zq_R X (some .int) 1 Q) : zq_ok X 7 66 (xX12_pieces_66 s_X12_isGuest s_X12_flag s_X12_enters J28 Q) := by
  refine zs_iconst C dX12_pieces_66 (by decide) ?_
  exact kX12_pieces_67 C h_X12_isGuest g_X12_isGuest h_X12_flag g_X12_flag h_X12_enters g_X12_enters j28 hq
def xX12_pieces_62 (s_X12_isGuest : zq_Sp) (s_X12_flag : zq_Sp) (s_X12_enters : zq_Sp) (J28 : zq_P) (Q : zq_Q) (ls : zq_L) (st : List Value) (h : zq_H) : Prop := (zi_push (.int 1) ((xX12_pieces_67 s_X12_isGuest s_X12_flag s_X12_enters J28 Q))) ls st h
theorem kX12_pieces_62 {X : zq_X} {d : Nat} (C : zq_C X cX12_pieces 7 RX12 d) {d_X12_isGuest : Nat} {s_X12_isGuest : zq_Sp} (h_X12_isGuest : zq_M yX12_isGuest cX12_isGuest 2 (some .boolean) 1 d_X12_isGuest s_X12_isGuest) (g_X12_isGuest : d_X12_isGuest + 1 ≤ d) {d_X12_flag : Nat} {s_X12_flag : zq_Sp} (h_X12_flag : zq_M yX12_flag cX12_flag 1 (some .int) 1 d_X12_flag s_X12_flag) (g_X12_flag : d_X12_flag + 1 ≤ d) {d_X12_enters : Nat} {s_X12_enters : zq_Sp} (h_X12_enters : zq_M yX12_enters cX12_enters 3 none 0 d_X12_enters s_X12_enters) (g_X12_enters : d_X12_enters + 1 ≤ d) {J28 : zq_P} (j28 : zq_ok X 7 28 J28) {Q : zq_Q} (hq : zq_R X (some .int) 1 Q) : zq_ok X 7 62 (xX12_pieces_62 s_X12_isGuest s_X12_flag s_X12_enters J28 Q) := by
  refine zs_iconst C dX12_pieces_62 (by decide) ?_
  exact zs_goto C dX12_pieces_63 (by decide) (kX12_pieces_67 C h_X12_isGuest g_X12_isGuest h_X12_flag g_X12_flag h_X12_enters g_X12_enters j28 hq)
def xX12_pieces_55 (s_X12_isGuest : zq_Sp) (s_X12_flag : zq_Sp) (s_X12_enters : zq_Sp) (J28 : zq_P) (Q : zq_Q) (ls : zq_L) (st : List Value) (h : zq_H) : Prop := (zi_istore 3 (zi_iload 2 (zi_iload 3 (zi_push (.int 1) (zi_if2 (fun x y => x = y) (xX12_pieces_62 s_X12_isGuest s_X12_flag s_X12_enters J28 Q) (xX12_pieces_66 s_X12_isGuest s_X12_flag s_X12_enters J28 Q)))))) ls st h
theorem kX12_pieces_55 {X : zq_X} {d : Nat} (C : zq_C X cX12_pieces 7 RX12 d) {d_X12_isGuest : Nat} {s_X12_isGuest : zq_Sp} (h_X12_isGuest : zq_M yX12_isGuest cX12_isGuest 2 (some .boolean) 1 d_X12_isGuest s_X12_isGuest) (g_X12_isGuest : d_X12_isGuest + 1 ≤ d) {d_X12_flag : Nat} {s_X12_flag : zq_Sp} (h_X12_flag : zq_M yX12_flag cX12_flag 1 (some .int) 1 d_X12_flag s_X12_flag) (g_X12_flag : d_X12_flag + 1 ≤ d) {d_X12_enters : Nat} {s_X12_enters : zq_Sp} (h_X12_enters : zq_M yX12_enters cX12_enters 3 none 0 d_X12_enters s_X12_enters) (g_X12_enters : d_X12_enters + 1 ≤ d) {J28 : zq_P} (j28 : zq_ok X 7 28 J28) {Q : zq_Q} (hq : zq_R X (some .int) 1 Q) : zq_ok X 7 55 (xX12_pieces_55 s_X12_isGuest s_X12_flag s_X12_enters J28 Q) := by
  refine zs_istore_n C dX12_pieces_55 rfl (by decide) ?_
  refine zs_iload_n C dX12_pieces_56 rfl ?_
  refine zs_iload_n C dX12_pieces_57 rfl ?_
  refine zs_iconst C dX12_pieces_58 (by decide) ?_
  exact zs_icmp_ne C dX12_pieces_59 (by decide) (kX12_pieces_66 C h_X12_isGuest g_X12_isGuest h_X12_flag g_X12_flag h_X12_enters g_X12_enters j28 hq) (kX12_pieces_62 C h_X12_isGuest g_X12_isGuest h_X12_flag g_X12_flag h_X12_enters g_X12_enters j28 hq)
def xX12_pieces_54 (s_X12_isGuest : zq_Sp) (s_X12_flag : zq_Sp) (s_X12_enters : zq_Sp) (J28 : zq_P) (Q : zq_Q) (ls : zq_L) (st : List Value) (h : zq_H) : Prop := (zi_push (.int 0) ((xX12_pieces_55 s_X12_isGuest s_X12_flag s_X12_enters J28 Q))) ls st h
theorem kX12_pieces_54 {X : zq_X} {d : Nat} (C : zq_C X cX12_pieces 7 RX12 d) {d_X12_isGuest : Nat} {s_X12_isGuest : zq_Sp} (h_X12_isGuest : zq_M yX12_isGuest cX12_isGuest 2 (some .boolean) 1 d_X12_isGuest s_X12_isGuest) (g_X12_isGuest : d_X12_isGuest + 1 ≤ d) {d_X12_flag : Nat} {s_X12_flag : zq_Sp} (h_X12_flag : zq_M yX12_flag cX12_flag 1 (some .int) 1 d_X12_flag s_X12_flag) (g_X12_flag : d_X12_flag + 1 ≤ d) {d_X12_enters : Nat} {s_X12_enters : zq_Sp} (h_X12_enters : zq_M yX12_enters cX12_enters 3 none 0 d_X12_enters s_X12_enters) (g_X12_enters : d_X12_enters + 1 ≤ d) {J28 : zq_P} (j28 : zq_ok X 7 28 J28) {Q : zq_Q} (hq : zq_R X (some .int) 1 Q) : zq_ok X 7 54 (xX12_pieces_54 s_X12_isGuest s_X12_flag s_X12_enters J28 Q) := by
  refine zs_iconst C dX12_pieces_54 (by decide) ?_
  exact kX12_pieces_55 C h_X12_isGuest g_X12_isGuest h_X12_flag g_X12_flag h_X12_enters g_X12_enters j28 hq
def xX12_pieces_48 (s_X12_isGuest : zq_Sp) (s_X12_flag : zq_Sp) (s_X12_enters : zq_Sp) (J28 : zq_P) (Q : zq_Q) (ls : zq_L) (st : List Value) (h : zq_H) : Prop := (zi_iload 3 (zi_push (.int 1) (zi_i2 (fun x y => x + y) ((xX12_pieces_55 s_X12_isGuest s_X12_flag s_X12_enters J28 Q))))) ls st h
theorem kX12_pieces_48 {X : zq_X} {d : Nat} (C : zq_C X cX12_pieces 7 RX12 d) {d_X12_isGuest : Nat} {s_X12_isGuest : zq_Sp} (h_X12_isGuest : zq_M yX12_isGuest cX12_isGuest 2 (some .boolean) 1 d_X12_isGuest s_X12_isGuest) (g_X12_isGuest : d_X12_isGuest + 1 ≤ d) {d_X12_flag : Nat} {s_X12_flag : zq_Sp} (h_X12_flag : zq_M yX12_flag cX12_flag 1 (some .int) 1 d_X12_flag s_X12_flag) (g_X12_flag : d_X12_flag + 1 ≤ d) {d_X12_enters : Nat} {s_X12_enters : zq_Sp} (h_X12_enters : zq_M yX12_enters cX12_enters 3 none 0 d_X12_enters s_X12_enters) (g_X12_enters : d_X12_enters + 1 ≤ d) {J28 : zq_P} (j28 : zq_ok X 7 28 J28) {Q : zq_Q} (hq : zq_R X (some .int) 1 Q) : zq_ok X 7 48 (xX12_pieces_48 s_X12_isGuest s_X12_flag s_X12_enters J28 Q) := by
  refine zs_iload_n C dX12_pieces_48 rfl ?_
  refine zs_iconst C dX12_pieces_49 (by decide) ?_
  refine zs_iadd C dX12_pieces_50 ?_
  exact zs_goto C dX12_pieces_51 (by decide) (kX12_pieces_55 C h_X12_isGuest g_X12_isGuest h_X12_flag g_X12_flag h_X12_enters g_X12_enters j28 hq)
def xX12_pieces_37 (s_X12_isGuest : zq_Sp) (s_X12_flag : zq_Sp) (s_X12_enters : zq_Sp) (J28 : zq_P) (Q : zq_Q) (ls : zq_L) (st : List Value) (h : zq_H) : Prop := (zi_aload 0 (zi_getR 56 63 (zi_iload 6 (zi_aldI 63 16 (zi_iload 1 (zi_if2 (fun x y => x = y) (xX12_pieces_48 s_X12_isGuest s_X12_flag s_X12_enters J28 Q) (xX12_pieces_54 s_X12_isGuest s_X12_flag s_X12_enters J28 Q))))))) ls st h
theorem kX12_pieces_37 {X : zq_X} {d : Nat} (C : zq_C X cX12_pieces 7 RX12 d) {d_X12_isGuest : Nat} {s_X12_isGuest : zq_Sp} (h_X12_isGuest : zq_M yX12_isGuest cX12_isGuest 2 (some .boolean) 1 d_X12_isGuest s_X12_isGuest) (g_X12_isGuest : d_X12_isGuest + 1 ≤ d) {d_X12_flag : Nat} {s_X12_flag : zq_Sp} (h_X12_flag : zq_M yX12_flag cX12_flag 1 (some .int) 1 d_X12_flag s_X12_flag) (g_X12_flag : d_X12_flag + 1 ≤ d) {d_X12_enters : Nat} {s_X12_enters : zq_Sp} (h_X12_enters : zq_M yX12_enters cX12_enters 3 none 0 d_X12_enters s_X12_enters) (g_X12_enters : d_X12_enters + 1 ≤ d) {J28 : zq_P} (j28 : zq_ok X 7 28 J28) {Q : zq_Q} (hq : zq_R X (some .int) 1 Q) : zq_ok X 7 37 (xX12_pieces_37 s_X12_isGuest s_X12_flag s_X12_enters J28 Q) := by
  refine zs_aload_n C dX12_pieces_37 rfl ?_
  refine zs_getR C zp_56 zF12 (j := 11) ⟨by decide, rfl⟩ zw_1107 dX12_pieces_38 ?_
  refine zs_iload C dX12_pieces_41 ?_
  refine zs_iaload C zp_63 dX12_pieces_43 ?_
  refine zs_iload_n C dX12_pieces_44 rfl ?_
  exact zs_icmp_ne C dX12_pieces_45 (by decide) (kX12_pieces_54 C h_X12_isGuest g_X12_isGuest h_X12_flag g_X12_flag h_X12_enters g_X12_enters j28 hq) (kX12_pieces_48 C h_X12_isGuest g_X12_isGuest h_X12_flag g_X12_flag h_X12_enters g_X12_enters j28 hq)
def xX12_pieces_28 (s_X12_isGuest : zq_Sp) (s_X12_flag : zq_Sp) (s_X12_enters : zq_Sp) (J28 : zq_P) (Q : zq_Q) (ls : zq_L) (st : List Value) (h : zq_H) : Prop := (zi_iload 6 (zi_aload 0 (zi_getI 56 3 (zi_if2 (fun x y => y ≤ x) (xX12_pieces_95 s_X12_isGuest s_X12_flag s_X12_enters J28 Q) (xX12_pieces_37 s_X12_isGuest s_X12_flag s_X12_enters J28 Q))))) ls st h
theorem kX12_pieces_28 {X : zq_X} {d : Nat} (C : zq_C X cX12_pieces 7 RX12 d) {d_X12_isGuest : Nat} {s_X12_isGuest : zq_Sp} (h_X12_isGuest : zq_M yX12_isGuest cX12_isGuest 2 (some .boolean) 1 d_X12_isGuest s_X12_isGuest) (g_X12_isGuest : d_X12_isGuest + 1 ≤ d) {d_X12_flag : Nat} {s_X12_flag : zq_Sp} (h_X12_flag : zq_M yX12_flag cX12_flag 1 (some .int) 1 d_X12_flag s_X12_flag) (g_X12_flag : d_X12_flag + 1 ≤ d) {d_X12_enters : Nat} {s_X12_enters : zq_Sp} (h_X12_enters : zq_M yX12_enters cX12_enters 3 none 0 d_X12_enters s_X12_enters) (g_X12_enters : d_X12_enters + 1 ≤ d) {J28 : zq_P} (j28 : zq_ok X 7 28 J28) {Q : zq_Q} (hq : zq_R X (some .int) 1 Q) : zq_ok X 7 28 (xX12_pieces_28 s_X12_isGuest s_X12_flag s_X12_enters J28 Q) := by
  refine zs_iload C dX12_pieces_28 ?_
  refine zs_aload_n C dX12_pieces_30 rfl ?_
  refine zs_getI C zp_56 zF12 (j := 3) ⟨by decide, rfl⟩ zw_1099 dX12_pieces_31 ?_
  exact zs_icmp_ge C dX12_pieces_34 (by decide) (kX12_pieces_95 C h_X12_isGuest g_X12_isGuest h_X12_flag g_X12_flag h_X12_enters g_X12_enters j28 hq) (kX12_pieces_37 C h_X12_isGuest g_X12_isGuest h_X12_flag g_X12_flag h_X12_enters g_X12_enters j28 hq)
def xX12_pieces_15 (s_X12_isGuest : zq_Sp) (s_X12_flag : zq_Sp) (s_X12_enters : zq_Sp) (J28 : zq_P) (Q : zq_Q) (ls : zq_L) (st : List Value) (h : zq_H) : Prop := (zi_push (.int 0) (zi_istore 2 (zi_push (.int 0) (zi_istore 3 (zi_push (.int 0) (zi_istore 4 (zi_push (.int (-1)) (zi_istore 5 (zi_push (.int 0) (zi_istore 6 (J28))))))))))) ls st h
theorem kX12_pieces_15 {X : zq_X} {d : Nat} (C : zq_C X cX12_pieces 7 RX12 d) {d_X12_isGuest : Nat} {s_X12_isGuest : zq_Sp} (h_X12_isGuest : zq_M yX12_isGuest cX12_isGuest 2 (some .boolean) 1 d_X12_isGuest s_X12_isGuest) (g_X12_isGuest : d_X12_isGuest + 1 ≤ d) {d_X12_flag : Nat} {s_X12_flag : zq_Sp} (h_X12_flag : zq_M yX12_flag cX12_flag 1 (some .int) 1 d_X12_flag s_X12_flag) (g_X12_flag : d_X12_flag + 1 ≤ d) {d_X12_enters : Nat} {s_X12_enters : zq_Sp} (h_X12_enters : zq_M yX12_enters cX12_enters 3 none 0 d_X12_enters s_X12_enters) (g_X12_enters : d_X12_enters + 1 ≤ d) {J28 : zq_P} (j28 : zq_ok X 7 28 J28) {Q : zq_Q} (hq : zq_R X (some .int) 1 Q) : zq_ok X 7 15 (xX12_pieces_15 s_X12_isGuest s_X12_flag s_X12_enters J28 Q) := by
  refine zs_iconst C dX12_pieces_15 (by decide) ?_
  refine zs_istore_n C dX12_pieces_16 rfl (by decide) ?_
  refine zs_iconst C dX12_pieces_17 (by decide) ?_
  refine zs_istore_n C dX12_pieces_18 rfl (by decide) ?_
  refine zs_iconst C dX12_pieces_19 (by decide) ?_
  refine zs_istore C dX12_pieces_20 (by decide) ?_
  refine zs_iconst C dX12_pieces_22 (by decide) ?_
  refine zs_istore C dX12_pieces_23 (by decide) ?_
  refine zs_iconst C dX12_pieces_25 (by decide) ?_
  refine zs_istore C dX12_pieces_26 (by decide) ?_
  exact j28
def xX12_pieces_13 (s_X12_isGuest : zq_Sp) (s_X12_flag : zq_Sp) (s_X12_enters : zq_Sp) (J28 : zq_P) (Q : zq_Q) (ls : zq_L) (st : List Value) (h : zq_H) : Prop := (zi_push (.int (-1)) (zi_iret Q)) ls st h
theorem kX12_pieces_13 {X : zq_X} {d : Nat} (C : zq_C X cX12_pieces 7 RX12 d) {d_X12_isGuest : Nat} {s_X12_isGuest : zq_Sp} (h_X12_isGuest : zq_M yX12_isGuest cX12_isGuest 2 (some .boolean) 1 d_X12_isGuest s_X12_isGuest) (g_X12_isGuest : d_X12_isGuest + 1 ≤ d) {d_X12_flag : Nat} {s_X12_flag : zq_Sp} (h_X12_flag : zq_M yX12_flag cX12_flag 1 (some .int) 1 d_X12_flag s_X12_flag) (g_X12_flag : d_X12_flag + 1 ≤ d) {d_X12_enters : Nat} {s_X12_enters : zq_Sp} (h_X12_enters : zq_M yX12_enters cX12_enters 3 none 0 d_X12_enters s_X12_enters) (g_X12_enters : d_X12_enters + 1 ≤ d) {J28 : zq_P} (j28 : zq_ok X 7 28 J28) {Q : zq_Q} (hq : zq_R X (some .int) 1 Q) : zq_ok X 7 13 (xX12_pieces_13 s_X12_isGuest s_X12_flag s_X12_enters J28 Q) := by
  refine zs_iconst C dX12_pieces_13 (by decide) ?_
  exact zs_iret C hq dX12_pieces_14
def xX12_pieces_0 (s_X12_isGuest : zq_Sp) (s_X12_flag : zq_Sp) (s_X12_enters : zq_Sp) (J28 : zq_P) (Q : zq_Q) (ls : zq_L) (st : List Value) (h : zq_H) : Prop := (zi_aload 0 (zi_push (.int 0) (zi_putI 56 0 (zi_aload 0 (zi_iload 1 (zi_callV 1 56 s_X12_isGuest (zi_if1 (fun x => x = 0) (xX12_pieces_13 s_X12_isGuest s_X12_flag s_X12_enters J28 Q) (xX12_pieces_15 s_X12_isGuest s_X12_flag s_X12_enters J28 Q)))))))) ls st h
theorem kX12_pieces_0 {X : zq_X} {d : Nat} (C : zq_C X cX12_pieces 7 RX12 d) {d_X12_isGuest : Nat} {s_X12_isGuest : zq_Sp} (h_X12_isGuest : zq_M yX12_isGuest cX12_isGuest 2 (some .boolean) 1 d_X12_isGuest s_X12_isGuest) (g_X12_isGuest : d_X12_isGuest + 1 ≤ d) {d_X12_flag : Nat} {s_X12_flag : zq_Sp} (h_X12_flag : zq_M yX12_flag cX12_flag 1 (some .int) 1 d_X12_flag s_X12_flag) (g_X12_flag : d_X12_flag + 1 ≤ d) {d_X12_enters : Nat} {s_X12_enters : zq_Sp} (h_X12_enters : zq_M yX12_enters cX12_enters 3 none 0 d_X12_enters s_X12_enters) (g_X12_enters : d_X12_enters + 1 ≤ d) {J28 : zq_P} (j28 : zq_ok X 7 28 J28) {Q : zq_Q} (hq : zq_R X (some .int) 1 Q) : zq_ok X 7 0 (xX12_pieces_0 s_X12_isGuest s_X12_flag s_X12_enters J28 Q) := by
  refine zs_aload_n C dX12_pieces_0 rfl ?_
  refine zs_iconst C dX12_pieces_1 (by decide) ?_
  refine zs_putI C zp_56 zF12 (j := 0) ⟨by decide, rfl⟩ ⟨rfl, by decide +kernel⟩ zw_1096 dX12_pieces_2 ?_
  refine zs_aload_n C dX12_pieces_5 rfl ?_
  refine zs_iload_n C dX12_pieces_6 rfl ?_
  refine zs_callV C h_X12_isGuest g_X12_isGuest zy_X12_isGuest zp_56 (show vwCl[12]? = some (RX12, TX12, 67) from rfl) zw_1466 zw_1468 zs9_X12_isGuest dX12_pieces_7 ?_
  exact zs_if_ne C dX12_pieces_10 (by decide) (kX12_pieces_15 C h_X12_isGuest g_X12_isGuest h_X12_flag g_X12_flag h_X12_enters g_X12_enters j28 hq) (kX12_pieces_13 C h_X12_isGuest g_X12_isGuest h_X12_flag g_X12_flag h_X12_enters g_X12_enters j28 hq)
theorem mX12_pieces {d : Nat} {spec : zq_Sp} {σ28 : Type} {d_X12_isGuest : Nat} {s_X12_isGuest : zq_Sp} (h_X12_isGuest : zq_M yX12_isGuest cX12_isGuest 2 (some .boolean) 1 d_X12_isGuest s_X12_isGuest) (g_X12_isGuest : d_X12_isGuest + 1 ≤ d) {d_X12_flag : Nat} {s_X12_flag : zq_Sp} (h_X12_flag : zq_M yX12_flag cX12_flag 1 (some .int) 1 d_X12_flag s_X12_flag) (g_X12_flag : d_X12_flag + 1 ≤ d) {d_X12_enters : Nat} {s_X12_enters : zq_Sp} (h_X12_enters : zq_M yX12_enters cX12_enters 3 none 0 d_X12_enters s_X12_enters) (g_X12_enters : d_X12_enters + 1 ≤ d) (μ28 : σ28 → Nat) (I28 : zq_Q → σ28 → zq_P) (v : ∀ args h Q, spec args h Q → (zq_a args).length ≤ 7 ∧ xX12_pieces_0 s_X12_isGuest s_X12_flag s_X12_enters (fun ls st h => ∃ b, I28 Q b ls st h) Q (zq_l0 7 args) [] h) (v28 : ∀ Q a ls st h, I28 Q a ls st h → xX12_pieces_28 s_X12_isGuest s_X12_flag s_X12_enters (fun ls st h => ∃ b, μ28 b < μ28 a ∧ I28 Q b ls st h) Q ls st h) : zq_M yX12_pieces cX12_pieces 7 (some .int) 1 d spec := by
  refine zq_met (by decide +kernel) (by decide) (fun X Q args h C hq hs => ⟨(v args h Q hs).1, _, ?_, (v args h Q hs).2⟩)
  have hl := zq_loop1 (X := X) (nL := 7) (pc1 := 28) μ28 (I28 Q) (fun J28 => xX12_pieces_28 s_X12_isGuest s_X12_flag s_X12_enters J28 Q) (fun j28 => kX12_pieces_28 C h_X12_isGuest g_X12_isGuest h_X12_flag g_X12_flag h_X12_enters g_X12_enters j28 hq) (v28 Q)
  exact kX12_pieces_0 C h_X12_isGuest g_X12_isGuest h_X12_flag g_X12_flag h_X12_enters g_X12_enters hl hq
/-! ToOneCrumbModel.trade(II)I -/
theorem dX12_trade_0 : decode cX12_trade 0 = .ok (.aload_n 0, 1) := by decide +kernel
theorem dX12_trade_1 : decode cX12_trade 1 = .ok (.iconst 0, 1) := by decide +kernel
theorem dX12_trade_2 : decode cX12_trade 2 = .ok (.putfield 147, 3) := by decide +kernel
theorem dX12_trade_5 : decode cX12_trade 5 = .ok (.aload_n 0, 1) := by decide +kernel
theorem dX12_trade_6 : decode cX12_trade 6 = .ok (.iload_n 1, 1) := by decide +kernel
theorem dX12_trade_7 : decode cX12_trade 7 = .ok (.invokevirtual 313, 3) := by decide +kernel
theorem dX12_trade_10 : decode cX12_trade 10 = .ok (.ifCond .eq 16, 3) := by decide +kernel
theorem dX12_trade_13 : decode cX12_trade 13 = .ok (.aload_n 0, 1) := by decide +kernel
theorem dX12_trade_14 : decode cX12_trade 14 = .ok (.iload_n 2, 1) := by decide +kernel
theorem dX12_trade_15 : decode cX12_trade 15 = .ok (.invokevirtual 313, 3) := by decide +kernel
theorem dX12_trade_18 : decode cX12_trade 18 = .ok (.ifCond .eq 8, 3) := by decide +kernel
theorem dX12_trade_21 : decode cX12_trade 21 = .ok (.iload_n 1, 1) := by decide +kernel
theorem dX12_trade_22 : decode cX12_trade 22 = .ok (.iload_n 2, 1) := by decide +kernel
theorem dX12_trade_23 : decode cX12_trade 23 = .ok (.if_icmp .ne 5, 3) := by decide +kernel
theorem dX12_trade_26 : decode cX12_trade 26 = .ok (.iconst (-1), 1) := by decide +kernel
theorem dX12_trade_27 : decode cX12_trade 27 = .ok (.ireturn, 1) := by decide +kernel
theorem dX12_trade_28 : decode cX12_trade 28 = .ok (.aload_n 0, 1) := by decide +kernel
theorem dX12_trade_29 : decode cX12_trade 29 = .ok (.invokevirtual 318, 3) := by decide +kernel
theorem dX12_trade_32 : decode cX12_trade 32 = .ok (.iconst 0, 1) := by decide +kernel
theorem dX12_trade_33 : decode cX12_trade 33 = .ok (.istore_n 3, 1) := by decide +kernel
theorem dX12_trade_34 : decode cX12_trade 34 = .ok (.iconst 0, 1) := by decide +kernel
theorem dX12_trade_35 : decode cX12_trade 35 = .ok (.istore 4, 2) := by decide +kernel
theorem dX12_trade_37 : decode cX12_trade 37 = .ok (.iconst (-1), 1) := by decide +kernel
theorem dX12_trade_38 : decode cX12_trade 38 = .ok (.istore 5, 2) := by decide +kernel
theorem dX12_trade_40 : decode cX12_trade 40 = .ok (.iconst (-1), 1) := by decide +kernel
theorem dX12_trade_41 : decode cX12_trade 41 = .ok (.istore 6, 2) := by decide +kernel
theorem dX12_trade_43 : decode cX12_trade 43 = .ok (.iconst 0, 1) := by decide +kernel
theorem dX12_trade_44 : decode cX12_trade 44 = .ok (.istore 7, 2) := by decide +kernel
theorem dX12_trade_46 : decode cX12_trade 46 = .ok (.iload 7, 2) := by decide +kernel
theorem dX12_trade_48 : decode cX12_trade 48 = .ok (.aload_n 0, 1) := by decide +kernel
theorem dX12_trade_49 : decode cX12_trade 49 = .ok (.getfield 158, 3) := by decide +kernel
theorem dX12_trade_52 : decode cX12_trade 52 = .ok (.if_icmp .ge 141, 3) := by decide +kernel
theorem dX12_trade_55 : decode cX12_trade 55 = .ok (.iconst 0, 1) := by decide +kernel
theorem dX12_trade_56 : decode cX12_trade 56 = .ok (.istore 8, 2) := by decide +kernel
theorem dX12_trade_58 : decode cX12_trade 58 = .ok (.iload 8, 2) := by decide +kernel
theorem dX12_trade_60 : decode cX12_trade 60 = .ok (.aload_n 0, 1) := by decide +kernel
theorem dX12_trade_61 : decode cX12_trade 61 = .ok (.getfield 158, 3) := by decide +kernel
theorem dX12_trade_64 : decode cX12_trade 64 = .ok (.if_icmp .ge 123, 3) := by decide +kernel
theorem dX12_trade_67 : decode cX12_trade 67 = .ok (.aload_n 0, 1) := by decide +kernel
theorem dX12_trade_68 : decode cX12_trade 68 = .ok (.getfield 30, 3) := by decide +kernel
theorem dX12_trade_71 : decode cX12_trade 71 = .ok (.iload 7, 2) := by decide +kernel
theorem dX12_trade_73 : decode cX12_trade 73 = .ok (.iaload, 1) := by decide +kernel
theorem dX12_trade_74 : decode cX12_trade 74 = .ok (.iload_n 1, 1) := by decide +kernel
theorem dX12_trade_75 : decode cX12_trade 75 = .ok (.if_icmp .ne 106, 3) := by decide +kernel
theorem dX12_trade_78 : decode cX12_trade 78 = .ok (.aload_n 0, 1) := by decide +kernel
theorem dX12_trade_79 : decode cX12_trade 79 = .ok (.getfield 30, 3) := by decide +kernel
theorem dX12_trade_82 : decode cX12_trade 82 = .ok (.iload 8, 2) := by decide +kernel
theorem dX12_trade_84 : decode cX12_trade 84 = .ok (.iaload, 1) := by decide +kernel
theorem dX12_trade_85 : decode cX12_trade 85 = .ok (.iload_n 2, 1) := by decide +kernel
theorem dX12_trade_86 : decode cX12_trade 86 = .ok (.if_icmp .ne 95, 3) := by decide +kernel
theorem dX12_trade_89 : decode cX12_trade 89 = .ok (.aload_n 0, 1) := by decide +kernel
theorem dX12_trade_90 : decode cX12_trade 90 = .ok (.getfield 63, 3) := by decide +kernel
theorem dX12_trade_93 : decode cX12_trade 93 = .ok (.bipush 16, 2) := by decide +kernel
theorem dX12_trade_95 : decode cX12_trade 95 = .ok (.iload_n 1, 1) := by decide +kernel
theorem dX12_trade_96 : decode cX12_trade 96 = .ok (.imul, 1) := by decide +kernel
theorem dX12_trade_97 : decode cX12_trade 97 = .ok (.iload 8, 2) := by decide +kernel
theorem dX12_trade_99 : decode cX12_trade 99 = .ok (.iadd, 1) := by decide +kernel
theorem dX12_trade_100 : decode cX12_trade 100 = .ok (.iaload, 1) := by decide +kernel
theorem dX12_trade_101 : decode cX12_trade 101 = .ok (.aload_n 0, 1) := by decide +kernel
theorem dX12_trade_102 : decode cX12_trade 102 = .ok (.getfield 63, 3) := by decide +kernel
theorem dX12_trade_105 : decode cX12_trade 105 = .ok (.bipush 16, 2) := by decide +kernel
theorem dX12_trade_107 : decode cX12_trade 107 = .ok (.iload_n 1, 1) := by decide +kernel
theorem dX12_trade_108 : decode cX12_trade 108 = .ok (.imul, 1) := by decide +kernel
theorem dX12_trade_109 : decode cX12_trade 109 = .ok (.iload 7, 2) := by decide +kernel
theorem dX12_trade_111 : decode cX12_trade 111 = .ok (.iadd, 1) := by decide +kernel
theorem dX12_trade_112 : decode cX12_trade 112 = .ok (.iaload, 1) := by decide +kernel
theorem dX12_trade_113 : decode cX12_trade 113 = .ok (.isub, 1) := by decide +kernel
theorem dX12_trade_114 : decode cX12_trade 114 = .ok (.istore 9, 2) := by decide +kernel
theorem dX12_trade_116 : decode cX12_trade 116 = .ok (.aload_n 0, 1) := by decide +kernel
theorem dX12_trade_117 : decode cX12_trade 117 = .ok (.getfield 63, 3) := by decide +kernel
theorem dX12_trade_120 : decode cX12_trade 120 = .ok (.bipush 16, 2) := by decide +kernel
theorem dX12_trade_122 : decode cX12_trade 122 = .ok (.iload_n 2, 1) := by decide +kernel
theorem dX12_trade_123 : decode cX12_trade 123 = .ok (.imul, 1) := by decide +kernel
theorem dX12_trade_124 : decode cX12_trade 124 = .ok (.iload 7, 2) := by decide +kernel
theorem dX12_trade_126 : decode cX12_trade 126 = .ok (.iadd, 1) := by decide +kernel
theorem dX12_trade_127 : decode cX12_trade 127 = .ok (.iaload, 1) := by decide +kernel
theorem dX12_trade_128 : decode cX12_trade 128 = .ok (.aload_n 0, 1) := by decide +kernel
theorem dX12_trade_129 : decode cX12_trade 129 = .ok (.getfield 63, 3) := by decide +kernel
theorem dX12_trade_132 : decode cX12_trade 132 = .ok (.bipush 16, 2) := by decide +kernel
theorem dX12_trade_134 : decode cX12_trade 134 = .ok (.iload_n 2, 1) := by decide +kernel
theorem dX12_trade_135 : decode cX12_trade 135 = .ok (.imul, 1) := by decide +kernel
theorem dX12_trade_136 : decode cX12_trade 136 = .ok (.iload 8, 2) := by decide +kernel
theorem dX12_trade_138 : decode cX12_trade 138 = .ok (.iadd, 1) := by decide +kernel
theorem dX12_trade_139 : decode cX12_trade 139 = .ok (.iaload, 1) := by decide +kernel
theorem dX12_trade_140 : decode cX12_trade 140 = .ok (.isub, 1) := by decide +kernel
theorem dX12_trade_141 : decode cX12_trade 141 = .ok (.istore 10, 2) := by decide +kernel
theorem dX12_trade_143 : decode cX12_trade 143 = .ok (.iload 9, 2) := by decide +kernel
theorem dX12_trade_145 : decode cX12_trade 145 = .ok (.ifCond .le 36, 3) := by decide +kernel
theorem dX12_trade_148 : decode cX12_trade 148 = .ok (.iload 10, 2) := by decide +kernel
theorem dX12_trade_150 : decode cX12_trade 150 = .ok (.ifCond .le 31, 3) := by decide +kernel
theorem dX12_trade_153 : decode cX12_trade 153 = .ok (.iinc 3 1, 3) := by decide +kernel
theorem dX12_trade_156 : decode cX12_trade 156 = .ok (.iload 9, 2) := by decide +kernel
theorem dX12_trade_158 : decode cX12_trade 158 = .ok (.iload 10, 2) := by decide +kernel
theorem dX12_trade_160 : decode cX12_trade 160 = .ok (.iadd, 1) := by decide +kernel
theorem dX12_trade_161 : decode cX12_trade 161 = .ok (.iload 4, 2) := by decide +kernel
theorem dX12_trade_163 : decode cX12_trade 163 = .ok (.if_icmp .le 18, 3) := by decide +kernel
theorem dX12_trade_166 : decode cX12_trade 166 = .ok (.iload 9, 2) := by decide +kernel
theorem dX12_trade_168 : decode cX12_trade 168 = .ok (.iload 10, 2) := by decide +kernel
theorem dX12_trade_170 : decode cX12_trade 170 = .ok (.iadd, 1) := by decide +kernel
theorem dX12_trade_171 : decode cX12_trade 171 = .ok (.istore 4, 2) := by decide +kernel
theorem dX12_trade_173 : decode cX12_trade 173 = .ok (.iload 7, 2) := by decide +kernel
theorem dX12_trade_175 : decode cX12_trade 175 = .ok (.istore 5, 2) := by decide +kernel
theorem dX12_trade_177 : decode cX12_trade 177 = .ok (.iload 8, 2) := by decide +kernel
theorem dX12_trade_179 : decode cX12_trade 179 = .ok (.istore 6, 2) := by decide +kernel
theorem dX12_trade_181 : decode cX12_trade 181 = .ok (.iinc 8 1, 3) := by decide +kernel
theorem dX12_trade_184 : decode cX12_trade 184 = .ok (.goto (-126), 3) := by decide +kernel
theorem dX12_trade_187 : decode cX12_trade 187 = .ok (.iinc 7 1, 3) := by decide +kernel
theorem dX12_trade_190 : decode cX12_trade 190 = .ok (.goto (-144), 3) := by decide +kernel
theorem dX12_trade_193 : decode cX12_trade 193 = .ok (.aload_n 0, 1) := by decide +kernel
theorem dX12_trade_194 : decode cX12_trade 194 = .ok (.iconst 0, 1) := by decide +kernel
theorem dX12_trade_195 : decode cX12_trade 195 = .ok (.putfield 155, 3) := by decide +kernel
theorem dX12_trade_198 : decode cX12_trade 198 = .ok (.iload_n 3, 1) := by decide +kernel
theorem dX12_trade_199 : decode cX12_trade 199 = .ok (.ifCond .le 17, 3) := by decide +kernel
theorem dX12_trade_202 : decode cX12_trade 202 = .ok (.aload_n 0, 1) := by decide +kernel
theorem dX12_trade_203 : decode cX12_trade 203 = .ok (.iload 5, 2) := by decide +kernel
theorem dX12_trade_205 : decode cX12_trade 205 = .ok (.i2l, 1) := by decide +kernel
theorem dX12_trade_206 : decode cX12_trade 206 = .ok (.invokevirtual 368, 3) := by decide +kernel
theorem dX12_trade_209 : decode cX12_trade 209 = .ok (.aload_n 0, 1) := by decide +kernel
theorem dX12_trade_210 : decode cX12_trade 210 = .ok (.iload 6, 2) := by decide +kernel
theorem dX12_trade_212 : decode cX12_trade 212 = .ok (.i2l, 1) := by decide +kernel
theorem dX12_trade_213 : decode cX12_trade 213 = .ok (.invokevirtual 368, 3) := by decide +kernel
theorem dX12_trade_216 : decode cX12_trade 216 = .ok (.iload_n 3, 1) := by decide +kernel
theorem dX12_trade_217 : decode cX12_trade 217 = .ok (.ireturn, 1) := by decide +kernel
def xX12_trade_216 (s_X12_isGuest : zq_Sp) (s_X12_laysTable : zq_Sp) (s_X12_enters : zq_Sp) (J46 : zq_P) (J58 : zq_P) (Q : zq_Q) (ls : zq_L) (st : List Value) (h : zq_H) : Prop := (zi_iload 3 (zi_iret Q)) ls st h
theorem kX12_trade_216 {X : zq_X} {d : Nat} (C : zq_C X cX12_trade 11 RX12 d) {d_X12_isGuest : Nat} {s_X12_isGuest : zq_Sp} (h_X12_isGuest : zq_M yX12_isGuest cX12_isGuest 2 (some .boolean) 1 d_X12_isGuest s_X12_isGuest) (g_X12_isGuest : d_X12_isGuest + 1 ≤ d) {d_X12_laysTable : Nat} {s_X12_laysTable : zq_Sp} (h_X12_laysTable : zq_M yX12_laysTable cX12_laysTable 3 none 0 d_X12_laysTable s_X12_laysTable) (g_X12_laysTable : d_X12_laysTable + 1 ≤ d) {d_X12_enters : Nat} {s_X12_enters : zq_Sp} (h_X12_enters : zq_M yX12_enters cX12_enters 3 none 0 d_X12_enters s_X12_enters) (g_X12_enters : d_X12_enters + 1 ≤ d) {J46 : zq_P} (j46 : zq_ok X 11 46 J46) {J58 : zq_P} (j58 : zq_ok X 11 58 J58) {Q : zq_Q} (hq : zq_R X (some .int) 1 Q) : zq_ok X 11 216 (xX12_trade_216 s_X12_isGuest s_X12_laysTable s_X12_enters J46 J58 Q) := by
  refine zs_iload_n C dX12_trade_216 rfl ?_
  exact zs_iret C hq dX12_trade_217
def xX12_trade_202 (s_X12_isGuest : zq_Sp) (s_X12_laysTable : zq_Sp) (s_X12_enters : zq_Sp) (J46 : zq_P) (J58 : zq_P) (Q : zq_Q) (ls : zq_L) (st : List Value) (h : zq_H) : Prop := (zi_aload 0 (zi_iload 5 (zi_i2l (zi_callV 1 56 s_X12_enters (zi_aload 0 (zi_iload 6 (zi_i2l (zi_callV 1 56 s_X12_enters ((xX12_trade_216 s_X12_isGuest s_X12_laysTable s_X12_enters J46 J58 Q)))))))))) ls st h
theorem kX12_trade_202 {X : zq_X} {d : Nat} (C : zq_C X cX12_trade 11 RX12 d) {d_X12_isGuest : Nat} {s_X12_isGuest : zq_Sp} (h_X12_isGuest : zq_M yX12_isGuest cX12_isGuest 2 (some .boolean) 1 d_X12_isGuest s_X12_isGuest) (g_X12_isGuest : d_X12_isGuest + 1 ≤ d) {d_X12_laysTable : Nat} {s_X12_laysTable : zq_Sp} (h_X12_laysTable : zq_M yX12_laysTable cX12_laysTable 3 none 0 d_X12_laysTable s_X12_laysTable) (g_X12_laysTable : d_X12_laysTable + 1 ≤ d) {d_X12_enters : Nat} {s_X12_enters : zq_Sp} (h_X12_enters : zq_M yX12_enters cX12_enters 3 none 0 d_X12_enters s_X12_enters) (g_X12_enters : d_X12_enters + 1 ≤ d) {J46 : zq_P} (j46 : zq_ok X 11 46 J46) {J58 : zq_P} (j58 : zq_ok X 11 58 J58) {Q : zq_Q} (hq : zq_R X (some .int) 1 Q) : zq_ok X 11 202 (xX12_trade_202 s_X12_isGuest s_X12_laysTable s_X12_enters J46 J58 Q) := by
  refine zs_aload_n C dX12_trade_202 rfl ?_
  refine zs_iload C dX12_trade_203 ?_
  refine zs_i2l C dX12_trade_205 ?_
  refine zs_callV C h_X12_enters g_X12_enters zy_X12_enters zp_56 (show vwCl[12]? = some (RX12, TX12, 67) from rfl) zw_1574 zw_1576 zs9_X12_enters dX12_trade_206 ?_
  refine zs_aload_n C dX12_trade_209 rfl ?_
  refine zs_iload C dX12_trade_210 ?_
  refine zs_i2l C dX12_trade_212 ?_
  refine zs_callV C h_X12_enters g_X12_enters zy_X12_enters zp_56 (show vwCl[12]? = some (RX12, TX12, 67) from rfl) zw_1574 zw_1576 zs9_X12_enters dX12_trade_213 ?_
  exact kX12_trade_216 C h_X12_isGuest g_X12_isGuest h_X12_laysTable g_X12_laysTable h_X12_enters g_X12_enters j46 j58 hq
def xX12_trade_193 (s_X12_isGuest : zq_Sp) (s_X12_laysTable : zq_Sp) (s_X12_enters : zq_Sp) (J46 : zq_P) (J58 : zq_P) (Q : zq_Q) (ls : zq_L) (st : List Value) (h : zq_H) : Prop := (zi_aload 0 (zi_push (.int 0) (zi_putI 56 1 (zi_iload 3 (zi_if1 (fun x => x ≤ 0) (xX12_trade_216 s_X12_isGuest s_X12_laysTable s_X12_enters J46 J58 Q) (xX12_trade_202 s_X12_isGuest s_X12_laysTable s_X12_enters J46 J58 Q)))))) ls st h
theorem kX12_trade_193 {X : zq_X} {d : Nat} (C : zq_C X cX12_trade 11 RX12 d) {d_X12_isGuest : Nat} {s_X12_isGuest : zq_Sp} (h_X12_isGuest : zq_M yX12_isGuest cX12_isGuest 2 (some .boolean) 1 d_X12_isGuest s_X12_isGuest) (g_X12_isGuest : d_X12_isGuest + 1 ≤ d) {d_X12_laysTable : Nat} {s_X12_laysTable : zq_Sp} (h_X12_laysTable : zq_M yX12_laysTable cX12_laysTable 3 none 0 d_X12_laysTable s_X12_laysTable) (g_X12_laysTable : d_X12_laysTable + 1 ≤ d) {d_X12_enters : Nat} {s_X12_enters : zq_Sp} (h_X12_enters : zq_M yX12_enters cX12_enters 3 none 0 d_X12_enters s_X12_enters) (g_X12_enters : d_X12_enters + 1 ≤ d) {J46 : zq_P} (j46 : zq_ok X 11 46 J46) {J58 : zq_P} (j58 : zq_ok X 11 58 J58) {Q : zq_Q} (hq : zq_R X (some .int) 1 Q) : zq_ok X 11 193 (xX12_trade_193 s_X12_isGuest s_X12_laysTable s_X12_enters J46 J58 Q) := by
  refine zs_aload_n C dX12_trade_193 rfl ?_
  refine zs_iconst C dX12_trade_194 (by decide) ?_
  refine zs_putI C zp_56 zF12 (j := 1) ⟨by decide, rfl⟩ ⟨rfl, by decide +kernel⟩ zw_1097 dX12_trade_195 ?_
  refine zs_iload_n C dX12_trade_198 rfl ?_
  exact zs_if_le C dX12_trade_199 (by decide) (kX12_trade_216 C h_X12_isGuest g_X12_isGuest h_X12_laysTable g_X12_laysTable h_X12_enters g_X12_enters j46 j58 hq) (kX12_trade_202 C h_X12_isGuest g_X12_isGuest h_X12_laysTable g_X12_laysTable h_X12_enters g_X12_enters j46 j58 hq)
def xX12_trade_187 (s_X12_isGuest : zq_Sp) (s_X12_laysTable : zq_Sp) (s_X12_enters : zq_Sp) (J46 : zq_P) (J58 : zq_P) (Q : zq_Q) (ls : zq_L) (st : List Value) (h : zq_H) : Prop := (zi_iinc 7 1 (J46)) ls st h
theorem kX12_trade_187 {X : zq_X} {d : Nat} (C : zq_C X cX12_trade 11 RX12 d) {d_X12_isGuest : Nat} {s_X12_isGuest : zq_Sp} (h_X12_isGuest : zq_M yX12_isGuest cX12_isGuest 2 (some .boolean) 1 d_X12_isGuest s_X12_isGuest) (g_X12_isGuest : d_X12_isGuest + 1 ≤ d) {d_X12_laysTable : Nat} {s_X12_laysTable : zq_Sp} (h_X12_laysTable : zq_M yX12_laysTable cX12_laysTable 3 none 0 d_X12_laysTable s_X12_laysTable) (g_X12_laysTable : d_X12_laysTable + 1 ≤ d) {d_X12_enters : Nat} {s_X12_enters : zq_Sp} (h_X12_enters : zq_M yX12_enters cX12_enters 3 none 0 d_X12_enters s_X12_enters) (g_X12_enters : d_X12_enters + 1 ≤ d) {J46 : zq_P} (j46 : zq_ok X 11 46 J46) {J58 : zq_P} (j58 : zq_ok X 11 58 J58) {Q : zq_Q} (hq : zq_R X (some .int) 1 Q) : zq_ok X 11 187 (xX12_trade_187 s_X12_isGuest s_X12_laysTable s_X12_enters J46 J58 Q) := by
  refine zs_iinc C dX12_trade_187 (by decide) (by decide) ?_
  exact zs_goto C dX12_trade_190 (by decide) (j46)
def xX12_trade_181 (s_X12_isGuest : zq_Sp) (s_X12_laysTable : zq_Sp) (s_X12_enters : zq_Sp) (J46 : zq_P) (J58 : zq_P) (Q : zq_Q) (ls : zq_L) (st : List Value) (h : zq_H) : Prop := (zi_iinc 8 1 (J58)) ls st h
theorem kX12_trade_181 {X : zq_X} {d : Nat} (C : zq_C X cX12_trade 11 RX12 d) {d_X12_isGuest : Nat} {s_X12_isGuest : zq_Sp} (h_X12_isGuest : zq_M yX12_isGuest cX12_isGuest 2 (some .boolean) 1 d_X12_isGuest s_X12_isGuest) (g_X12_isGuest : d_X12_isGuest + 1 ≤ d) {d_X12_laysTable : Nat} {s_X12_laysTable : zq_Sp} (h_X12_laysTable : zq_M yX12_laysTable cX12_laysTable 3 none 0 d_X12_laysTable s_X12_laysTable) (g_X12_laysTable : d_X12_laysTable + 1 ≤ d) {d_X12_enters : Nat} {s_X12_enters : zq_Sp} (h_X12_enters : zq_M yX12_enters cX12_enters 3 none 0 d_X12_enters s_X12_enters) (g_X12_enters : d_X12_enters + 1 ≤ d) {J46 : zq_P} (j46 : zq_ok X 11 46 J46) {J58 : zq_P} (j58 : zq_ok X 11 58 J58) {Q : zq_Q} (hq : zq_R X (some .int) 1 Q) : zq_ok X 11 181 (xX12_trade_181 s_X12_isGuest s_X12_laysTable s_X12_enters J46 J58 Q) := by
  refine zs_iinc C dX12_trade_181 (by decide) (by decide) ?_
  exact zs_goto C dX12_trade_184 (by decide) (j58)
def xX12_trade_166 (s_X12_isGuest : zq_Sp) (s_X12_laysTable : zq_Sp) (s_X12_enters : zq_Sp) (J46 : zq_P) (J58 : zq_P) (Q : zq_Q) (ls : zq_L) (st : List Value) (h : zq_H) : Prop := (zi_iload 9 (zi_iload 10 (zi_i2 (fun x y => x + y) (zi_istore 4 (zi_iload 7 (zi_istore 5 (zi_iload 8 (zi_istore 6 ((xX12_trade_181 s_X12_isGuest s_X12_laysTable s_X12_enters J46 J58 Q)))))))))) ls st h
theorem kX12_trade_166 {X : zq_X} {d : Nat} (C : zq_C X cX12_trade 11 RX12 d) {d_X12_isGuest : Nat} {s_X12_isGuest : zq_Sp} (h_X12_isGuest : zq_M yX12_isGuest cX12_isGuest 2 (some .boolean) 1 d_X12_isGuest s_X12_isGuest) (g_X12_isGuest : d_X12_isGuest + 1 ≤ d) {d_X12_laysTable : Nat} {s_X12_laysTable : zq_Sp} (h_X12_laysTable : zq_M yX12_laysTable cX12_laysTable 3 none 0 d_X12_laysTable s_X12_laysTable) (g_X12_laysTable : d_X12_laysTable + 1 ≤ d) {d_X12_enters : Nat} {s_X12_enters : zq_Sp} (h_X12_enters : zq_M yX12_enters cX12_enters 3 none 0 d_X12_enters s_X12_enters) (g_X12_enters : d_X12_enters + 1 ≤ d) {J46 : zq_P} (j46 : zq_ok X 11 46 J46) {J58 : zq_P} (j58 : zq_ok X 11 58 J58) {Q : zq_Q} (hq : zq_R X (some .int) 1 Q) : zq_ok X 11 166 (xX12_trade_166 s_X12_isGuest s_X12_laysTable s_X12_enters J46 J58 Q) := by
  refine zs_iload C dX12_trade_166 ?_
  refine zs_iload C dX12_trade_168 ?_
  refine zs_iadd C dX12_trade_170 ?_
  refine zs_istore C dX12_trade_171 (by decide) ?_
  refine zs_iload C dX12_trade_173 ?_
  refine zs_istore C dX12_trade_175 (by decide) ?_
  refine zs_iload C dX12_trade_177 ?_
  refine zs_istore C dX12_trade_179 (by decide) ?_
  exact kX12_trade_181 C h_X12_isGuest g_X12_isGuest h_X12_laysTable g_X12_laysTable h_X12_enters g_X12_enters j46 j58 hq
def xX12_trade_153 (s_X12_isGuest : zq_Sp) (s_X12_laysTable : zq_Sp) (s_X12_enters : zq_Sp) (J46 : zq_P) (J58 : zq_P) (Q : zq_Q) (ls : zq_L) (st : List Value) (h : zq_H) : Prop := (zi_iinc 3 1 (zi_iload 9 (zi_iload 10 (zi_i2 (fun x y => x + y) (zi_iload 4 (zi_if2 (fun x y => x ≤ y) (xX12_trade_181 s_X12_isGuest s_X12_laysTable s_X12_enters J46 J58 Q) (xX12_trade_166 s_X12_isGuest s_X12_laysTable s_X12_enters J46 J58 Q))))))) ls st h
theorem kX12_trade_153 {X : zq_X} {d : Nat} (C : zq_C X cX12_trade 11 RX12 d) {d_X12_isGuest : Nat} {s_X12_isGuest : zq_Sp} (h_X12_isGuest : zq_M yX12_isGuest cX12_isGuest 2 (some .boolean) 1 d_X12_isGuest s_X12_isGuest) (g_X12_isGuest : d_X12_isGuest + 1 ≤ d) {d_X12_laysTable : Nat} {s_X12_laysTable : zq_Sp} (h_X12_laysTable : zq_M yX12_laysTable cX12_laysTable 3 none 0 d_X12_laysTable s_X12_laysTable) (g_X12_laysTable : d_X12_laysTable + 1 ≤ d) {d_X12_enters : Nat} {s_X12_enters : zq_Sp} (h_X12_enters : zq_M yX12_enters cX12_enters 3 none 0 d_X12_enters s_X12_enters) (g_X12_enters : d_X12_enters + 1 ≤ d) {J46 : zq_P} (j46 : zq_ok X 11 46 J46) {J58 : zq_P} (j58 : zq_ok X 11 58 J58) {Q : zq_Q} (hq : zq_R X (some .int) 1 Q) : zq_ok X 11 153 (xX12_trade_153 s_X12_isGuest s_X12_laysTable s_X12_enters J46 J58 Q) := by
  refine zs_iinc C dX12_trade_153 (by decide) (by decide) ?_
  refine zs_iload C dX12_trade_156 ?_
  refine zs_iload C dX12_trade_158 ?_
  refine zs_iadd C dX12_trade_160 ?_
  refine zs_iload C dX12_trade_161 ?_
  exact zs_icmp_le C dX12_trade_163 (by decide) (kX12_trade_181 C h_X12_isGuest g_X12_isGuest h_X12_laysTable g_X12_laysTable h_X12_enters g_X12_enters j46 j58 hq) (kX12_trade_166 C h_X12_isGuest g_X12_isGuest h_X12_laysTable g_X12_laysTable h_X12_enters g_X12_enters j46 j58 hq)
def xX12_trade_148 (s_X12_isGuest : zq_Sp) (s_X12_laysTable : zq_Sp) (s_X12_enters : zq_Sp) (J46 : zq_P) (J58 : zq_P) (Q : zq_Q) (ls : zq_L) (st : List Value) (h : zq_H) : Prop := (zi_iload 10 (zi_if1 (fun x => x ≤ 0) (xX12_trade_181 s_X12_isGuest s_X12_laysTable s_X12_enters J46 J58 Q) (xX12_trade_153 s_X12_isGuest s_X12_laysTable s_X12_enters J46 J58 Q))) ls st h
theorem kX12_trade_148 {X : zq_X} {d : Nat} (C : zq_C X cX12_trade 11 RX12 d) {d_X12_isGuest : Nat} {s_X12_isGuest : zq_Sp} (h_X12_isGuest : zq_M yX12_isGuest cX12_isGuest 2 (some .boolean) 1 d_X12_isGuest s_X12_isGuest) (g_X12_isGuest : d_X12_isGuest + 1 ≤ d) {d_X12_laysTable : Nat} {s_X12_laysTable : zq_Sp} (h_X12_laysTable : zq_M yX12_laysTable cX12_laysTable 3 none 0 d_X12_laysTable s_X12_laysTable) (g_X12_laysTable : d_X12_laysTable + 1 ≤ d) {d_X12_enters : Nat} {s_X12_enters : zq_Sp} (h_X12_enters : zq_M yX12_enters cX12_enters 3 none 0 d_X12_enters s_X12_enters) (g_X12_enters : d_X12_enters + 1 ≤ d) {J46 : zq_P} (j46 : zq_ok X 11 46 J46) {J58 : zq_P} (j58 : zq_ok X 11 58 J58) {Q : zq_Q} (hq : zq_R X (some .int) 1 Q) : zq_ok X 11 148 (xX12_trade_148 s_X12_isGuest s_X12_laysTable s_X12_enters J46 J58 Q) := by
  refine zs_iload C dX12_trade_148 ?_
  exact zs_if_le C dX12_trade_150 (by decide) (kX12_trade_181 C h_X12_isGuest g_X12_isGuest h_X12_laysTable g_X12_laysTable h_X12_enters g_X12_enters j46 j58 hq) (kX12_trade_153 C h_X12_isGuest g_X12_isGuest h_X12_laysTable g_X12_laysTable h_X12_enters g_X12_enters j46 j58 hq)
def xX12_trade_89 (s_X12_isGuest : zq_Sp) (s_X12_laysTable : zq_Sp) (s_X12_enters : zq_Sp) (J46 : zq_P) (J58 : zq_P) (Q : zq_Q) (ls : zq_L) (st : List Value) (h : zq_H) : Prop := (zi_aload 0 (zi_getR 56 74 (zi_push (.int 16) (zi_iload 1 (zi_i2 (fun x y => x * y) (zi_iload 8 (zi_i2 (fun x y => x + y) (zi_aldI 74 96 (zi_aload 0 (zi_getR 56 74 (zi_push (.int 16) (zi_iload 1 (zi_i2 (fun x y => x * y) (zi_iload 7 (zi_i2 (fun x y => x + y) (zi_aldI 74 96 (zi_i2 (fun x y => x - y) (zi_istore 9 (zi_aload 0 (zi_getR 56 74 (zi_push (.int 16) (zi_iload 2 (zi_i2 (fun x y => x * y) (zi_iload 7 (zi_i2 (fun x y => x + y) (zi_aldI 74 96 (zi_aload 0 (zi_getR 56 74 (zi_push (.int 16) (zi_iload 2 (zi_i2 (fun x y => x * y) (zi_iload 8 (zi_i2 (fun x y => x + y) (zi_aldI 74 96 (zi_i2 (fun x y => x - y) (zi_istore 10 (zi_iload 9 (zi_if1 (fun x => x ≤ 0) (xX12_trade_181 s_X12_isGuest s_X12_laysTable s_X12_enters J46 J58 Q) (xX12_trade_148 s_X12_isGuest s_X12_laysTable s_X12_enters J46 J58 Q))))))))))))))))))))))))))))))))))))))) ls st h
theorem kX12_trade_89 {X : zq_X} {d : Nat} (C : zq_C X cX12_trade 11 RX12 d) {d_X12_isGuest : Nat} {s_X12_isGuest : zq_Sp} (h_X12_isGuest : zq_M yX12_isGuest cX12_isGuest 2 (some .boolean) 1 d_X12_isGuest s_X12_isGuest) (g_X12_isGuest : d_X12_isGuest + 1 ≤ d) {d_X12_laysTable : Nat} {s_X12_laysTable : zq_Sp} (h_X12_laysTable : zq_M yX12_laysTable cX12_laysTable 3 none 0 d_X12_laysTable s_X12_laysTable) (g_X12_laysTable : d_X12_laysTable + 1 ≤ d) {d_X12_enters : Nat} {s_X12_enters : zq_Sp} (h_X12_enters : zq_M yX12_enters cX12_enters 3 none 0 d_X12_enters s_X12_enters) (g_X12_enters : d_X12_enters + 1 ≤ d) {J46 : zq_P} (j46 : zq_ok X 11 46 J46) {J58 : zq_P} (j58 : zq_ok X 11 58 J58) {Q : zq_Q} (hq : zq_R X (some .int) 1 Q) : zq_ok X 11 89 (xX12_trade_89 s_X12_isGuest s_X12_laysTable s_X12_enters J46 J58 Q) := by
  refine zs_aload_n C dX12_trade_89 rfl ?_
  refine zs_getR C zp_56 zF12 (j := 29) ⟨by decide, rfl⟩ zw_1125 dX12_trade_90 ?_
  refine zs_bipush C dX12_trade_93 (by decide) ?_
  refine zs_iload_n C dX12_trade_95 rfl ?_
  refine zs_imul C dX12_trade_96 ?_
  refine zs_iload C dX12_trade_97 ?_
  refine zs_iadd C dX12_trade_99 ?_
  refine zs_iaload C zp_74 dX12_trade_100 ?_
  refine zs_aload_n C dX12_trade_101 rfl ?_
  refine zs_getR C zp_56 zF12 (j := 29) ⟨by decide, rfl⟩ zw_1125 dX12_trade_102 ?_
  refine zs_bipush C dX12_trade_105 (by decide) ?_
  refine zs_iload_n C dX12_trade_107 rfl ?_
  refine zs_imul C dX12_trade_108 ?_
  refine zs_iload C dX12_trade_109 ?_
  refine zs_iadd C dX12_trade_111 ?_
  refine zs_iaload C zp_74 dX12_trade_112 ?_
  refine zs_isub C dX12_trade_113 ?_
  refine zs_istore C dX12_trade_114 (by decide) ?_
  refine zs_aload_n C dX12_trade_116 rfl ?_
  refine zs_getR C zp_56 zF12 (j := 29) ⟨by decide, rfl⟩ zw_1125 dX12_trade_117 ?_
  refine zs_bipush C dX12_trade_120 (by decide) ?_
  refine zs_iload_n C dX12_trade_122 rfl ?_
  refine zs_imul C dX12_trade_123 ?_
  refine zs_iload C dX12_trade_124 ?_
  refine zs_iadd C dX12_trade_126 ?_
  refine zs_iaload C zp_74 dX12_trade_127 ?_
  refine zs_aload_n C dX12_trade_128 rfl ?_
  refine zs_getR C zp_56 zF12 (j := 29) ⟨by decide, rfl⟩ zw_1125 dX12_trade_129 ?_
  refine zs_bipush C dX12_trade_132 (by decide) ?_
  refine zs_iload_n C dX12_trade_134 rfl ?_
  refine zs_imul C dX12_trade_135 ?_
  refine zs_iload C dX12_trade_136 ?_
  refine zs_iadd C dX12_trade_138 ?_
  refine zs_iaload C zp_74 dX12_trade_139 ?_
  refine zs_isub C dX12_trade_140 ?_
  refine zs_istore C dX12_trade_141 (by decide) ?_
  refine zs_iload C dX12_trade_143 ?_
  exact zs_if_le C dX12_trade_145 (by decide) (kX12_trade_181 C h_X12_isGuest g_X12_isGuest h_X12_laysTable g_X12_laysTable h_X12_enters g_X12_enters j46 j58 hq) (kX12_trade_148 C h_X12_isGuest g_X12_isGuest h_X12_laysTable g_X12_laysTable h_X12_enters g_X12_enters j46 j58 hq)
def xX12_trade_78 (s_X12_isGuest : zq_Sp) (s_X12_laysTable : zq_Sp) (s_X12_enters : zq_Sp) (J46 : zq_P) (J58 : zq_P) (Q : zq_Q) (ls : zq_L) (st : List Value) (h : zq_H) : Prop := (zi_aload 0 (zi_getR 56 63 (zi_iload 8 (zi_aldI 63 16 (zi_iload 2 (zi_if2 (fun x y => x = y) (xX12_trade_89 s_X12_isGuest s_X12_laysTable s_X12_enters J46 J58 Q) (xX12_trade_181 s_X12_isGuest s_X12_laysTable s_X12_enters J46 J58 Q))))))) ls st h
theorem kX12_trade_78 {X : zq_X} {d : Nat} (C : zq_C X cX12_trade 11 RX12 d) {d_X12_isGuest : Nat} {s_X12_isGuest : zq_Sp} (h_X12_isGuest : zq_M yX12_isGuest cX12_isGuest 2 (some .boolean) 1 d_X12_isGuest s_X12_isGuest) (g_X12_isGuest : d_X12_isGuest + 1 ≤ d) {d_X12_laysTable : Nat} {s_X12_laysTable : zq_Sp} (h_X12_laysTable : zq_M yX12_laysTable cX12_laysTable 3 none 0 d_X12_laysTable s_X12_laysTable) (g_X12_laysTable : d_X12_laysTable + 1 ≤ d) {d_X12_enters : Nat} {s_X12_enters : zq_Sp} (h_X12_enters : zq_M yX12_enters cX12_enters 3 none 0 d_X12_enters s_X12_enters) (g_X12_enters : d_X12_enters + 1 ≤ d) {J46 : zq_P} (j46 : zq_ok X 11 46 J46) {J58 : zq_P} (j58 : zq_ok X 11 58 J58) {Q : zq_Q} (hq : zq_R X (some .int) 1 Q) : zq_ok X 11 78 (xX12_trade_78 s_X12_isGuest s_X12_laysTable s_X12_enters J46 J58 Q) := by
  refine zs_aload_n C dX12_trade_78 rfl ?_
  refine zs_getR C zp_56 zF12 (j := 11) ⟨by decide, rfl⟩ zw_1107 dX12_trade_79 ?_
  refine zs_iload C dX12_trade_82 ?_
  refine zs_iaload C zp_63 dX12_trade_84 ?_
  refine zs_iload_n C dX12_trade_85 rfl ?_
  exact zs_icmp_ne C dX12_trade_86 (by decide) (kX12_trade_181 C h_X12_isGuest g_X12_isGuest h_X12_laysTable g_X12_laysTable h_X12_enters g_X12_enters j46 j58 hq) (kX12_trade_89 C h_X12_isGuest g_X12_isGuest h_X12_laysTable g_X12_laysTable h_X12_enters g_X12_enters j46 j58 hq)
def xX12_trade_67 (s_X12_isGuest : zq_Sp) (s_X12_laysTable : zq_Sp) (s_X12_enters : zq_Sp) (J46 : zq_P) (J58 : zq_P) (Q : zq_Q) (ls : zq_L) (st : List Value) (h : zq_H) : Prop := (zi_aload 0 (zi_getR 56 63 (zi_iload 7 (zi_aldI 63 16 (zi_iload 1 (zi_if2 (fun x y => x = y) (xX12_trade_78 s_X12_isGuest s_X12_laysTable s_X12_enters J46 J58 Q) (xX12_trade_181 s_X12_isGuest s_X12_laysTable s_X12_enters J46 J58 Q))))))) ls st h
theorem kX12_trade_67 {X : zq_X} {d : Nat} (C : zq_C X cX12_trade 11 RX12 d) {d_X12_isGuest : Nat} {s_X12_isGuest : zq_Sp} (h_X12_isGuest : zq_M yX12_isGuest cX12_isGuest 2 (some .boolean) 1 d_X12_isGuest s_X12_isGuest) (g_X12_isGuest : d_X12_isGuest + 1 ≤ d) {d_X12_laysTable : Nat} {s_X12_laysTable : zq_Sp} (h_X12_laysTable : zq_M yX12_laysTable cX12_laysTable 3 none 0 d_X12_laysTable s_X12_laysTable) (g_X12_laysTable : d_X12_laysTable + 1 ≤ d) {d_X12_enters : Nat} {s_X12_enters : zq_Sp} (h_X12_enters : zq_M yX12_enters cX12_enters 3 none 0 d_X12_enters s_X12_enters) (g_X12_enters : d_X12_enters + 1 ≤ d) {J46 : zq_P} (j46 : zq_ok X 11 46 J46) {J58 : zq_P} (j58 : zq_ok X 11 58 J58) {Q : zq_Q} (hq : zq_R X (some .int) 1 Q) : zq_ok X 11 67 (xX12_trade_67 s_X12_isGuest s_X12_laysTable s_X12_enters J46 J58 Q) := by
  refine zs_aload_n C dX12_trade_67 rfl ?_
  refine zs_getR C zp_56 zF12 (j := 11) ⟨by decide, rfl⟩ zw_1107 dX12_trade_68 ?_
  refine zs_iload C dX12_trade_71 ?_
  refine zs_iaload C zp_63 dX12_trade_73 ?_
  refine zs_iload_n C dX12_trade_74 rfl ?_
  exact zs_icmp_ne C dX12_trade_75 (by decide) (kX12_trade_181 C h_X12_isGuest g_X12_isGuest h_X12_laysTable g_X12_laysTable h_X12_enters g_X12_enters j46 j58 hq) (kX12_trade_78 C h_X12_isGuest g_X12_isGuest h_X12_laysTable g_X12_laysTable h_X12_enters g_X12_enters j46 j58 hq)
def xX12_trade_58 (s_X12_isGuest : zq_Sp) (s_X12_laysTable : zq_Sp) (s_X12_enters : zq_Sp) (J46 : zq_P) (J58 : zq_P) (Q : zq_Q) (ls : zq_L) (st : List Value) (h : zq_H) : Prop := (zi_iload 8 (zi_aload 0 (zi_getI 56 3 (zi_if2 (fun x y => y ≤ x) (xX12_trade_187 s_X12_isGuest s_X12_laysTable s_X12_enters J46 J58 Q) (xX12_trade_67 s_X12_isGuest s_X12_laysTable s_X12_enters J46 J58 Q))))) ls st h
theorem kX12_trade_58 {X : zq_X} {d : Nat} (C : zq_C X cX12_trade 11 RX12 d) {d_X12_isGuest : Nat} {s_X12_isGuest : zq_Sp} (h_X12_isGuest : zq_M yX12_isGuest cX12_isGuest 2 (some .boolean) 1 d_X12_isGuest s_X12_isGuest) (g_X12_isGuest : d_X12_isGuest + 1 ≤ d) {d_X12_laysTable : Nat} {s_X12_laysTable : zq_Sp} (h_X12_laysTable : zq_M yX12_laysTable cX12_laysTable 3 none 0 d_X12_laysTable s_X12_laysTable) (g_X12_laysTable : d_X12_laysTable + 1 ≤ d) {d_X12_enters : Nat} {s_X12_enters : zq_Sp} (h_X12_enters : zq_M yX12_enters cX12_enters 3 none 0 d_X12_enters s_X12_enters) (g_X12_enters : d_X12_enters + 1 ≤ d) {J46 : zq_P} (j46 : zq_ok X 11 46 J46) {J58 : zq_P} (j58 : zq_ok X 11 58 J58) {Q : zq_Q} (hq : zq_R X (some .int) 1 Q) : zq_ok X 11 58 (xX12_trade_58 s_X12_isGuest s_X12_laysTable s_X12_enters J46 J58 Q) := by
  refine zs_iload C dX12_trade_58 ?_
  refine zs_aload_n C dX12_trade_60 rfl ?_
  refine zs_getI C zp_56 zF12 (j := 3) ⟨by decide, rfl⟩ zw_1099 dX12_trade_61 ?_
  exact zs_icmp_ge C dX12_trade_64 (by decide) (kX12_trade_187 C h_X12_isGuest g_X12_isGuest h_X12_laysTable g_X12_laysTable h_X12_enters g_X12_enters j46 j58 hq) (kX12_trade_67 C h_X12_isGuest g_X12_isGuest h_X12_laysTable g_X12_laysTable h_X12_enters g_X12_enters j46 j58 hq)
def xX12_trade_55 (s_X12_isGuest : zq_Sp) (s_X12_laysTable : zq_Sp) (s_X12_enters : zq_Sp) (J46 : zq_P) (J58 : zq_P) (Q : zq_Q) (ls : zq_L) (st : List Value) (h : zq_H) : Prop := (zi_push (.int 0) (zi_istore 8 (J58))) ls st h
theorem kX12_trade_55 {X : zq_X} {d : Nat} (C : zq_C X cX12_trade 11 RX12 d) {d_X12_isGuest : Nat} {s_X12_isGuest : zq_Sp} (h_X12_isGuest : zq_M yX12_isGuest cX12_isGuest 2 (some .boolean) 1 d_X12_isGuest s_X12_isGuest) (g_X12_isGuest : d_X12_isGuest + 1 ≤ d) {d_X12_laysTable : Nat} {s_X12_laysTable : zq_Sp} (h_X12_laysTable : zq_M yX12_laysTable cX12_laysTable 3 none 0 d_X12_laysTable s_X12_laysTable) (g_X12_laysTable : d_X12_laysTable + 1 ≤ d) {d_X12_enters : Nat} {s_X12_enters : zq_Sp} (h_X12_enters : zq_M yX12_enters cX12_enters 3 none 0 d_X12_enters s_X12_enters) (g_X12_enters : d_X12_enters + 1 ≤ d) {J46 : zq_P} (j46 : zq_ok X 11 46 J46) {J58 : zq_P} (j58 : zq_ok X 11 58 J58) {Q : zq_Q} (hq : zq_R X (some .int) 1 Q) : zq_ok X 11 55 (xX12_trade_55 s_X12_isGuest s_X12_laysTable s_X12_enters J46 J58 Q) := by
  refine zs_iconst C dX12_trade_55 (by decide) ?_
  refine zs_istore C dX12_trade_56 (by decide) ?_
  exact j58
def xX12_trade_46 (s_X12_isGuest : zq_Sp) (s_X12_laysTable : zq_Sp) (s_X12_enters : zq_Sp) (J46 : zq_P) (J58 : zq_P) (Q : zq_Q) (ls : zq_L) (st : List Value) (h : zq_H) : Prop := (zi_iload 7 (zi_aload 0 (zi_getI 56 3 (zi_if2 (fun x y => y ≤ x) (xX12_trade_193 s_X12_isGuest s_X12_laysTable s_X12_enters J46 J58 Q) (xX12_trade_55 s_X12_isGuest s_X12_laysTable s_X12_enters J46 J58 Q))))) ls st h
theorem kX12_trade_46 {X : zq_X} {d : Nat} (C : zq_C X cX12_trade 11 RX12 d) {d_X12_isGuest : Nat} {s_X12_isGuest : zq_Sp} (h_X12_isGuest : zq_M yX12_isGuest cX12_isGuest 2 (some .boolean) 1 d_X12_isGuest s_X12_isGuest) (g_X12_isGuest : d_X12_isGuest + 1 ≤ d) {d_X12_laysTable : Nat} {s_X12_laysTable : zq_Sp} (h_X12_laysTable : zq_M yX12_laysTable cX12_laysTable 3 none 0 d_X12_laysTable s_X12_laysTable) (g_X12_laysTable : d_X12_laysTable + 1 ≤ d) {d_X12_enters : Nat} {s_X12_enters : zq_Sp} (h_X12_enters : zq_M yX12_enters cX12_enters 3 none 0 d_X12_enters s_X12_enters) (g_X12_enters : d_X12_enters + 1 ≤ d) {J46 : zq_P} (j46 : zq_ok X 11 46 J46) {J58 : zq_P} (j58 : zq_ok X 11 58 J58) {Q : zq_Q} (hq : zq_R X (some .int) 1 Q) : zq_ok X 11 46 (xX12_trade_46 s_X12_isGuest s_X12_laysTable s_X12_enters J46 J58 Q) := by
  refine zs_iload C dX12_trade_46 ?_
  refine zs_aload_n C dX12_trade_48 rfl ?_
  refine zs_getI C zp_56 zF12 (j := 3) ⟨by decide, rfl⟩ zw_1099 dX12_trade_49 ?_
  exact zs_icmp_ge C dX12_trade_52 (by decide) (kX12_trade_193 C h_X12_isGuest g_X12_isGuest h_X12_laysTable g_X12_laysTable h_X12_enters g_X12_enters j46 j58 hq) (kX12_trade_55 C h_X12_isGuest g_X12_isGuest h_X12_laysTable g_X12_laysTable h_X12_enters g_X12_enters j46 j58 hq)
def xX12_trade_28 (s_X12_isGuest : zq_Sp) (s_X12_laysTable : zq_Sp) (s_X12_enters : zq_Sp) (J46 : zq_P) (J58 : zq_P) (Q : zq_Q) (ls : zq_L) (st : List Value) (h : zq_H) : Prop := (zi_aload 0 (zi_callV 0 56 s_X12_laysTable (zi_push (.int 0) (zi_istore 3 (zi_push (.int 0) (zi_istore 4 (zi_push (.int (-1)) (zi_istore 5 (zi_push (.int (-1)) (zi_istore 6 (zi_push (.int 0) (zi_istore 7 (J46))))))))))))) ls st h
theorem kX12_trade_28 {X : zq_X} {d : Nat} (C : zq_C X cX12_trade 11 RX12 d) {d_X12_isGuest : Nat} {s_X12_isGuest : zq_Sp} (h_X12_isGuest : zq_M yX12_isGuest cX12_isGuest 2 (some .boolean) 1 d_X12_isGuest s_X12_isGuest) (g_X12_isGuest : d_X12_isGuest + 1 ≤ d) {d_X12_laysTable : Nat} {s_X12_laysTable : zq_Sp} (h_X12_laysTable : zq_M yX12_laysTable cX12_laysTable 3 none 0 d_X12_laysTable s_X12_laysTable) (g_X12_laysTable : d_X12_laysTable + 1 ≤ d) {d_X12_enters : Nat} {s_X12_enters : zq_Sp} (h_X12_enters : zq_M yX12_enters cX12_enters 3 none 0 d_X12_enters s_X12_enters) (g_X12_enters : d_X12_enters + 1 ≤ d) {J46 : zq_P} (j46 : zq_ok X 11 46 J46) {J58 : zq_P} (j58 : zq_ok X 11 58 J58) {Q : zq_Q} (hq : zq_R X (some .int) 1 Q) : zq_ok X 11 28 (xX12_trade_28 s_X12_isGuest s_X12_laysTable s_X12_enters J46 J58 Q) := by
  refine zs_aload_n C dX12_trade_28 rfl ?_
  refine zs_callV C h_X12_laysTable g_X12_laysTable zy_X12_laysTable zp_56 (show vwCl[12]? = some (RX12, TX12, 67) from rfl) zw_1471 zw_1473 zs9_X12_laysTable dX12_trade_29 ?_
  refine zs_iconst C dX12_trade_32 (by decide) ?_
  refine zs_istore_n C dX12_trade_33 rfl (by decide) ?_
  refine zs_iconst C dX12_trade_34 (by decide) ?_
  refine zs_istore C dX12_trade_35 (by decide) ?_
  refine zs_iconst C dX12_trade_37 (by decide) ?_
  refine zs_istore C dX12_trade_38 (by decide) ?_
  refine zs_iconst C dX12_trade_40 (by decide) ?_
  refine zs_istore C dX12_trade_41 (by decide) ?_
  refine zs_iconst C dX12_trade_43 (by decide) ?_
  refine zs_istore C dX12_trade_44 (by decide) ?_
  exact j46
def xX12_trade_26 (s_X12_isGuest : zq_Sp) (s_X12_laysTable : zq_Sp) (s_X12_enters : zq_Sp) (J46 : zq_P) (J58 : zq_P) (Q : zq_Q) (ls : zq_L) (st : List Value) (h : zq_H) : Prop := (zi_push (.int (-1)) (zi_iret Q)) ls st h
theorem kX12_trade_26 {X : zq_X} {d : Nat} (C : zq_C X cX12_trade 11 RX12 d) {d_X12_isGuest : Nat} {s_X12_isGuest : zq_Sp} (h_X12_isGuest : zq_M yX12_isGuest cX12_isGuest 2 (some .boolean) 1 d_X12_isGuest s_X12_isGuest) (g_X12_isGuest : d_X12_isGuest + 1 ≤ d) {d_X12_laysTable : Nat} {s_X12_laysTable : zq_Sp} (h_X12_laysTable : zq_M yX12_laysTable cX12_laysTable 3 none 0 d_X12_laysTable s_X12_laysTable) (g_X12_laysTable : d_X12_laysTable + 1 ≤ d) {d_X12_enters : Nat} {s_X12_enters : zq_Sp} (h_X12_enters : zq_M yX12_enters cX12_enters 3 none 0 d_X12_enters s_X12_enters) (g_X12_enters : d_X12_enters + 1 ≤ d) {J46 : zq_P} (j46 : zq_ok X 11 46 J46) {J58 : zq_P} (j58 : zq_ok X 11 58 J58) {Q : zq_Q} (hq : zq_R X (some .int) 1 Q) : zq_ok X 11 26 (xX12_trade_26 s_X12_isGuest s_X12_laysTable s_X12_enters J46 J58 Q) := by
  refine zs_iconst C dX12_trade_26 (by decide) ?_
  exact zs_iret C hq dX12_trade_27
def xX12_trade_21 (s_X12_isGuest : zq_Sp) (s_X12_laysTable : zq_Sp) (s_X12_enters : zq_Sp) (J46 : zq_P) (J58 : zq_P) (Q : zq_Q) (ls : zq_L) (st : List Value) (h : zq_H) : Prop := (zi_iload 1 (zi_iload 2 (zi_if2 (fun x y => x = y) (xX12_trade_26 s_X12_isGuest s_X12_laysTable s_X12_enters J46 J58 Q) (xX12_trade_28 s_X12_isGuest s_X12_laysTable s_X12_enters J46 J58 Q)))) ls st h
theorem kX12_trade_21 {X : zq_X} {d : Nat} (C : zq_C X cX12_trade 11 RX12 d) {d_X12_isGuest : Nat} {s_X12_isGuest : zq_Sp} (h_X12_isGuest : zq_M yX12_isGuest cX12_isGuest 2 (some .boolean) 1 d_X12_isGuest s_X12_isGuest) (g_X12_isGuest : d_X12_isGuest + 1 ≤ d) {d_X12_laysTable : Nat} {s_X12_laysTable : zq_Sp} (h_X12_laysTable : zq_M yX12_laysTable cX12_laysTable 3 none 0 d_X12_laysTable s_X12_laysTable) (g_X12_laysTable : d_X12_laysTable + 1 ≤ d) {d_X12_enters : Nat} {s_X12_enters : zq_Sp} (h_X12_enters : zq_M yX12_enters cX12_enters 3 none 0 d_X12_enters s_X12_enters) (g_X12_enters : d_X12_enters + 1 ≤ d) {J46 : zq_P} (j46 : zq_ok X 11 46 J46) {J58 : zq_P} (j58 : zq_ok X 11 58 J58) {Q : zq_Q} (hq : zq_R X (some .int) 1 Q) : zq_ok X 11 21 (xX12_trade_21 s_X12_isGuest s_X12_laysTable s_X12_enters J46 J58 Q) := by
  refine zs_iload_n C dX12_trade_21 rfl ?_
  refine zs_iload_n C dX12_trade_22 rfl ?_
  exact zs_icmp_ne C dX12_trade_23 (by decide) (kX12_trade_28 C h_X12_isGuest g_X12_isGuest h_X12_laysTable g_X12_laysTable h_X12_enters g_X12_enters j46 j58 hq) (kX12_trade_26 C h_X12_isGuest g_X12_isGuest h_X12_laysTable g_X12_laysTable h_X12_enters g_X12_enters j46 j58 hq)
def xX12_trade_13 (s_X12_isGuest : zq_Sp) (s_X12_laysTable : zq_Sp) (s_X12_enters : zq_Sp) (J46 : zq_P) (J58 : zq_P) (Q : zq_Q) (ls : zq_L) (st : List Value) (h : zq_H) : Prop := (zi_aload 0 (zi_iload 2 (zi_callV 1 56 s_X12_isGuest (zi_if1 (fun x => x = 0) (xX12_trade_26 s_X12_isGuest s_X12_laysTable s_X12_enters J46 J58 Q) (xX12_trade_21 s_X12_isGuest s_X12_laysTable s_X12_enters J46 J58 Q))))) ls st h
theorem kX12_trade_13 {X : zq_X} {d : Nat} (C : zq_C X cX12_trade 11 RX12 d) {d_X12_isGuest : Nat} {s_X12_isGuest : zq_Sp} (h_X12_isGuest : zq_M yX12_isGuest cX12_isGuest 2 (some .boolean) 1 d_X12_isGuest s_X12_isGuest) (g_X12_isGuest : d_X12_isGuest + 1 ≤ d) {d_X12_laysTable : Nat} {s_X12_laysTable : zq_Sp} (h_X12_laysTable : zq_M yX12_laysTable cX12_laysTable 3 none 0 d_X12_laysTable s_X12_laysTable) (g_X12_laysTable : d_X12_laysTable + 1 ≤ d) {d_X12_enters : Nat} {s_X12_enters : zq_Sp} (h_X12_enters : zq_M yX12_enters cX12_enters 3 none 0 d_X12_enters s_X12_enters) (g_X12_enters : d_X12_enters + 1 ≤ d) {J46 : zq_P} (j46 : zq_ok X 11 46 J46) {J58 : zq_P} (j58 : zq_ok X 11 58 J58) {Q : zq_Q} (hq : zq_R X (some .int) 1 Q) : zq_ok X 11 13 (xX12_trade_13 s_X12_isGuest s_X12_laysTable s_X12_enters J46 J58 Q) := by
  refine zs_aload_n C dX12_trade_13 rfl ?_
  refine zs_iload_n C dX12_trade_14 rfl ?_
  refine zs_callV C h_X12_isGuest g_X12_isGuest zy_X12_isGuest zp_56 (show vwCl[12]? = some (RX12, TX12, 67) from rfl) zw_1466 zw_1468 zs9_X12_isGuest dX12_trade_15 ?_
  exact zs_if_eq C dX12_trade_18 (by decide) (kX12_trade_26 C h_X12_isGuest g_X12_isGuest h_X12_laysTable g_X12_laysTable h_X12_enters g_X12_enters j46 j58 hq) (kX12_trade_21 C h_X12_isGuest g_X12_isGuest h_X12_laysTable g_X12_laysTable h_X12_enters g_X12_enters j46 j58 hq)
def xX12_trade_0 (s_X12_isGuest : zq_Sp) (s_X12_laysTable : zq_Sp) (s_X12_enters : zq_Sp) (J46 : zq_P) (J58 : zq_P) (Q : zq_Q) (ls : zq_L) (st : List Value) (h : zq_H) : Prop := (zi_aload 0 (zi_push (.int 0) (zi_putI 56 0 (zi_aload 0 (zi_iload 1 (zi_callV 1 56 s_X12_isGuest (zi_if1 (fun x => x = 0) (xX12_trade_26 s_X12_isGuest s_X12_laysTable s_X12_enters J46 J58 Q) (xX12_trade_13 s_X12_isGuest s_X12_laysTable s_X12_enters J46 J58 Q)))))))) ls st h
theorem kX12_trade_0 {X : zq_X} {d : Nat} (C : zq_C X cX12_trade 11 RX12 d) {d_X12_isGuest : Nat} {s_X12_isGuest : zq_Sp} (h_X12_isGuest : zq_M yX12_isGuest cX12_isGuest 2 (some .boolean) 1 d_X12_isGuest s_X12_isGuest) (g_X12_isGuest : d_X12_isGuest + 1 ≤ d) {d_X12_laysTable : Nat} {s_X12_laysTable : zq_Sp} (h_X12_laysTable : zq_M yX12_laysTable cX12_laysTable 3 none 0 d_X12_laysTable s_X12_laysTable) (g_X12_laysTable : d_X12_laysTable + 1 ≤ d) {d_X12_enters : Nat} {s_X12_enters : zq_Sp} (h_X12_enters : zq_M yX12_enters cX12_enters 3 none 0 d_X12_enters s_X12_enters) (g_X12_enters : d_X12_enters + 1 ≤ d) {J46 : zq_P} (j46 : zq_ok X 11 46 J46) {J58 : zq_P} (j58 : zq_ok X 11 58 J58) {Q : zq_Q} (hq : zq_R X (some .int) 1 Q) : zq_ok X 11 0 (xX12_trade_0 s_X12_isGuest s_X12_laysTable s_X12_enters J46 J58 Q) := by
  refine zs_aload_n C dX12_trade_0 rfl ?_
  refine zs_iconst C dX12_trade_1 (by decide) ?_
  refine zs_putI C zp_56 zF12 (j := 0) ⟨by decide, rfl⟩ ⟨rfl, by decide +kernel⟩ zw_1096 dX12_trade_2 ?_
  refine zs_aload_n C dX12_trade_5 rfl ?_
  refine zs_iload_n C dX12_trade_6 rfl ?_
  refine zs_callV C h_X12_isGuest g_X12_isGuest zy_X12_isGuest zp_56 (show vwCl[12]? = some (RX12, TX12, 67) from rfl) zw_1466 zw_1468 zs9_X12_isGuest dX12_trade_7 ?_
  exact zs_if_eq C dX12_trade_10 (by decide) (kX12_trade_26 C h_X12_isGuest g_X12_isGuest h_X12_laysTable g_X12_laysTable h_X12_enters g_X12_enters j46 j58 hq) (kX12_trade_13 C h_X12_isGuest g_X12_isGuest h_X12_laysTable g_X12_laysTable h_X12_enters g_X12_enters j46 j58 hq)
theorem mX12_trade {d : Nat} {spec : zq_Sp} {σ46 : Type} {σ58 : Type} {d_X12_isGuest : Nat} {s_X12_isGuest : zq_Sp} (h_X12_isGuest : zq_M yX12_isGuest cX12_isGuest 2 (some .boolean) 1 d_X12_isGuest s_X12_isGuest) (g_X12_isGuest : d_X12_isGuest + 1 ≤ d) {d_X12_laysTable : Nat} {s_X12_laysTable : zq_Sp} (h_X12_laysTable : zq_M yX12_laysTable cX12_laysTable 3 none 0 d_X12_laysTable s_X12_laysTable) (g_X12_laysTable : d_X12_laysTable + 1 ≤ d) {d_X12_enters : Nat} {s_X12_enters : zq_Sp} (h_X12_enters : zq_M yX12_enters cX12_enters 3 none 0 d_X12_enters s_X12_enters) (g_X12_enters : d_X12_enters + 1 ≤ d) (μ46 : σ46 → Nat) (I46 : zq_Q → σ46 → zq_P) (μ58 : σ58 → Nat) (I58 : zq_Q → σ58 → zq_P) (v : ∀ args h Q, spec args h Q → (zq_a args).length ≤ 11 ∧ xX12_trade_0 s_X12_isGuest s_X12_laysTable s_X12_enters (fun ls st h => ∃ b, I46 Q b ls st h) (fun ls st h => ∃ b, I58 Q b ls st h) Q (zq_l0 11 args) [] h) (v46 : ∀ Q a ls st h, I46 Q a ls st h → xX12_trade_46 s_X12_isGuest s_X12_laysTable s_X12_enters (fun ls st h => ∃ b, μ46 b < μ46 a ∧ I46 Q b ls st h) (fun ls st h => ∃ b, μ58 b < μ46 a ∧ I58 Q b ls st h) Q ls st h) (v58 : ∀ Q a ls st h, I58 Q a ls st h → xX12_trade_58 s_X12_isGuest s_X12_laysTable s_X12_enters (fun ls st h => ∃ b, μ46 b < μ58 a ∧ I46 Q b ls st h) (fun ls st h => ∃ b, μ58 b < μ58 a ∧ I58 Q b ls st h) Q ls st h) : zq_M yX12_trade cX12_trade 11 (some .int) 1 d spec := by
  refine zq_met (by decide +kernel) (by decide) (fun X Q args h C hq hs => ⟨(v args h Q hs).1, _, ?_, (v args h Q hs).2⟩)
  have hl := zq_loop2 (X := X) (nL := 11) (pc1 := 46) (pc2 := 58) μ46 μ58 (I46 Q) (I58 Q) (fun J46 J58 => xX12_trade_46 s_X12_isGuest s_X12_laysTable s_X12_enters J46 J58 Q) (fun J46 J58 => xX12_trade_58 s_X12_isGuest s_X12_laysTable s_X12_enters J46 J58 Q) (fun j46 j58 => kX12_trade_46 C h_X12_isGuest g_X12_isGuest h_X12_laysTable g_X12_laysTable h_X12_enters g_X12_enters j46 j58 hq) (fun j46 j58 => kX12_trade_58 C h_X12_isGuest g_X12_isGuest h_X12_laysTable g_X12_laysTable h_X12_enters g_X12_enters j46 j58 hq) (v46 Q) (v58 Q)
  exact kX12_trade_0 C h_X12_isGuest g_X12_isGuest h_X12_laysTable g_X12_laysTable h_X12_enters g_X12_enters hl.1 hl.2 hq
/-! ToOneCrumbModel.endFor(III)I -/
theorem dX12_endFor_0 : decode cX12_endFor 0 = .ok (.lconst 0, 1) := by decide +kernel
theorem dX12_endFor_1 : decode cX12_endFor 1 = .ok (.lstore 4, 2) := by decide +kernel
theorem dX12_endFor_3 : decode cX12_endFor 3 = .ok (.iload_n 2, 1) := by decide +kernel
theorem dX12_endFor_4 : decode cX12_endFor 4 = .ok (.istore 6, 2) := by decide +kernel
theorem dX12_endFor_6 : decode cX12_endFor 6 = .ok (.aload_n 0, 1) := by decide +kernel
theorem dX12_endFor_7 : decode cX12_endFor 7 = .ok (.iload_n 1, 1) := by decide +kernel
theorem dX12_endFor_8 : decode cX12_endFor 8 = .ok (.lload 4, 2) := by decide +kernel
theorem dX12_endFor_10 : decode cX12_endFor 10 = .ok (.iload_n 3, 1) := by decide +kernel
theorem dX12_endFor_11 : decode cX12_endFor 11 = .ok (.invokevirtual 327, 3) := by decide +kernel
theorem dX12_endFor_14 : decode cX12_endFor 14 = .ok (.ifCond .ne 40, 3) := by decide +kernel
theorem dX12_endFor_17 : decode cX12_endFor 17 = .ok (.iload 6, 2) := by decide +kernel
theorem dX12_endFor_19 : decode cX12_endFor 19 = .ok (.aload_n 0, 1) := by decide +kernel
theorem dX12_endFor_20 : decode cX12_endFor 20 = .ok (.getfield 158, 3) := by decide +kernel
theorem dX12_endFor_23 : decode cX12_endFor 23 = .ok (.if_icmp .ne 7, 3) := by decide +kernel
theorem dX12_endFor_26 : decode cX12_endFor 26 = .ok (.sipush 1000, 3) := by decide +kernel
theorem dX12_endFor_29 : decode cX12_endFor 29 = .ok (.ireturn, 1) := by decide +kernel
theorem dX12_endFor_30 : decode cX12_endFor 30 = .ok (.lload 4, 2) := by decide +kernel
theorem dX12_endFor_32 : decode cX12_endFor 32 = .ok (.aload_n 0, 1) := by decide +kernel
theorem dX12_endFor_33 : decode cX12_endFor 33 = .ok (.getfield 63, 3) := by decide +kernel
theorem dX12_endFor_36 : decode cX12_endFor 36 = .ok (.bipush 16, 2) := by decide +kernel
theorem dX12_endFor_38 : decode cX12_endFor 38 = .ok (.iload_n 1, 1) := by decide +kernel
theorem dX12_endFor_39 : decode cX12_endFor 39 = .ok (.imul, 1) := by decide +kernel
theorem dX12_endFor_40 : decode cX12_endFor 40 = .ok (.iload 6, 2) := by decide +kernel
theorem dX12_endFor_42 : decode cX12_endFor 42 = .ok (.iadd, 1) := by decide +kernel
theorem dX12_endFor_43 : decode cX12_endFor 43 = .ok (.iaload, 1) := by decide +kernel
theorem dX12_endFor_44 : decode cX12_endFor 44 = .ok (.i2l, 1) := by decide +kernel
theorem dX12_endFor_45 : decode cX12_endFor 45 = .ok (.ladd, 1) := by decide +kernel
theorem dX12_endFor_46 : decode cX12_endFor 46 = .ok (.lstore 4, 2) := by decide +kernel
theorem dX12_endFor_48 : decode cX12_endFor 48 = .ok (.iinc 6 1, 3) := by decide +kernel
theorem dX12_endFor_51 : decode cX12_endFor 51 = .ok (.goto (-45), 3) := by decide +kernel
theorem dX12_endFor_54 : decode cX12_endFor 54 = .ok (.iload 6, 2) := by decide +kernel
theorem dX12_endFor_56 : decode cX12_endFor 56 = .ok (.ireturn, 1) := by decide +kernel
def xX12_endFor_54 (s_X12_isDue : zq_Sp) (J6 : zq_P) (Q : zq_Q) (ls : zq_L) (st : List Value) (h : zq_H) : Prop := (zi_iload 6 (zi_iret Q)) ls st h
theorem kX12_endFor_54 {X : zq_X} {d : Nat} (C : zq_C X cX12_endFor 7 RX12 d) {d_X12_isDue : Nat} {s_X12_isDue : zq_Sp} (h_X12_isDue : zq_M yX12_isDue cX12_isDue 5 (some .boolean) 1 d_X12_isDue s_X12_isDue) (g_X12_isDue : d_X12_isDue + 1 ≤ d) {J6 : zq_P} (j6 : zq_ok X 7 6 J6) {Q : zq_Q} (hq : zq_R X (some .int) 1 Q) : zq_ok X 7 54 (xX12_endFor_54 s_X12_isDue J6 Q) := by
  refine zs_iload C dX12_endFor_54 ?_
  exact zs_iret C hq dX12_endFor_56
def xX12_endFor_30 (s_X12_isDue : zq_Sp) (J6 : zq_P) (Q : zq_Q) (ls : zq_L) (st : List Value) (h : zq_H) : Prop := (zi_lload 4 (zi_aload 0 (zi_getR 56 74 (zi_push (.int 16) (zi_iload 1 (zi_i2 (fun x y => x * y) (zi_iload 6 (zi_i2 (fun x y => x + y) (zi_aldI 74 96 (zi_i2l (zi_l2 (fun x y => x + y) (zi_lstore 4 (zi_iinc 6 1 (J6)))))))))))))) ls st h
theorem kX12_endFor_30 {X : zq_X} {d : Nat} (C : zq_C X cX12_endFor 7 RX12 d) {d_X12_isDue : Nat} {s_X12_isDue : zq_Sp} (h_X12_isDue : zq_M yX12_isDue cX12_isDue 5 (some .boolean) 1 d_X12_isDue s_X12_isDue) (g_X12_isDue : d_X12_isDue + 1 ≤ d) {J6 : zq_P} (j6 : zq_ok X 7 6 J6) {Q : zq_Q} (hq : zq_R X (some .int) 1 Q) : zq_ok X 7 30 (xX12_endFor_30 s_X12_isDue J6 Q) := by
  refine zs_lload C dX12_endFor_30 ?_
  refine zs_aload_n C dX12_endFor_32 rfl ?_
  refine zs_getR C zp_56 zF12 (j := 29) ⟨by decide, rfl⟩ zw_1125 dX12_endFor_33 ?_
  refine zs_bipush C dX12_endFor_36 (by decide) ?_
  refine zs_iload_n C dX12_endFor_38 rfl ?_
  refine zs_imul C dX12_endFor_39 ?_
  refine zs_iload C dX12_endFor_40 ?_
  refine zs_iadd C dX12_endFor_42 ?_
  refine zs_iaload C zp_74 dX12_endFor_43 ?_
  refine zs_i2l C dX12_endFor_44 ?_
  refine zs_ladd C dX12_endFor_45 ?_
  refine zs_lstore C dX12_endFor_46 (by decide) ?_
  refine zs_iinc C dX12_endFor_48 (by decide) (by decide) ?_
  exact zs_goto C dX12_endFor_51 (by decide) (j6)
def xX12_endFor_26 (s_X12_isDue : zq_Sp) (J6 : zq_P) (Q : zq_Q) (ls : zq_L) (st : List Value) (h : zq_H) : Prop := (zi_push (.int 1000) (zi_iret Q)) ls st h
theorem kX12_endFor_26 {X : zq_X} {d : Nat} (C : zq_C X cX12_endFor 7 RX12 d) {d_X12_isDue : Nat} {s_X12_isDue : zq_Sp} (h_X12_isDue : zq_M yX12_isDue cX12_isDue 5 (some .boolean) 1 d_X12_isDue s_X12_isDue) (g_X12_isDue : d_X12_isDue + 1 ≤ d) {J6 : zq_P} (j6 : zq_ok X 7 6 J6) {Q : zq_Q} (hq : zq_R X (some .int) 1 Q) : zq_ok X 7 26 (xX12_endFor_26 s_X12_isDue J6 Q) := by
  refine zs_sipush C dX12_endFor_26 (by decide) ?_
  exact zs_iret C hq dX12_endFor_29
def xX12_endFor_17 (s_X12_isDue : zq_Sp) (J6 : zq_P) (Q : zq_Q) (ls : zq_L) (st : List Value) (h : zq_H) : Prop := (zi_iload 6 (zi_aload 0 (zi_getI 56 3 (zi_if2 (fun x y => x = y) (xX12_endFor_26 s_X12_isDue J6 Q) (xX12_endFor_30 s_X12_isDue J6 Q))))) ls st h
theorem kX12_endFor_17 {X : zq_X} {d : Nat} (C : zq_C X cX12_endFor 7 RX12 d) {d_X12_isDue : Nat} {s_X12_isDue : zq_Sp} (h_X12_isDue : zq_M yX12_isDue cX12_isDue 5 (some .boolean) 1 d_X12_isDue s_X12_isDue) (g_X12_isDue : d_X12_isDue + 1 ≤ d) {J6 : zq_P} (j6 : zq_ok X 7 6 J6) {Q : zq_Q} (hq : zq_R X (some .int) 1 Q) : zq_ok X 7 17 (xX12_endFor_17 s_X12_isDue J6 Q) := by
  refine zs_iload C dX12_endFor_17 ?_
  refine zs_aload_n C dX12_endFor_19 rfl ?_
  refine zs_getI C zp_56 zF12 (j := 3) ⟨by decide, rfl⟩ zw_1099 dX12_endFor_20 ?_
  exact zs_icmp_ne C dX12_endFor_23 (by decide) (kX12_endFor_30 C h_X12_isDue g_X12_isDue j6 hq) (kX12_endFor_26 C h_X12_isDue g_X12_isDue j6 hq)
def xX12_endFor_6 (s_X12_isDue : zq_Sp) (J6 : zq_P) (Q : zq_Q) (ls : zq_L) (st : List Value) (h : zq_H) : Prop := (zi_aload 0 (zi_iload 1 (zi_lload 4 (zi_iload 3 (zi_callV 3 56 s_X12_isDue (zi_if1 (fun x => x = 0) (xX12_endFor_17 s_X12_isDue J6 Q) (xX12_endFor_54 s_X12_isDue J6 Q))))))) ls st h
theorem kX12_endFor_6 {X : zq_X} {d : Nat} (C : zq_C X cX12_endFor 7 RX12 d) {d_X12_isDue : Nat} {s_X12_isDue : zq_Sp} (h_X12_isDue : zq_M yX12_isDue cX12_isDue 5 (some .boolean) 1 d_X12_isDue s_X12_isDue) (g_X12_isDue : d_X12_isDue + 1 ≤ d) {J6 : zq_P} (j6 : zq_ok X 7 6 J6) {Q : zq_Q} (hq : zq_R X (some .int) 1 Q) : zq_ok X 7 6 (xX12_endFor_6 s_X12_isDue J6 Q) := by
  refine zs_aload_n C dX12_endFor_6 rfl ?_
  refine zs_iload_n C dX12_endFor_7 rfl ?_
  refine zs_lload C dX12_endFor_8 ?_
  refine zs_iload_n C dX12_endFor_10 rfl ?_
  refine zs_callV C h_X12_isDue g_X12_isDue zy_X12_isDue zp_56 (show vwCl[12]? = some (RX12, TX12, 67) from rfl) zw_1498 zw_1500 zs9_X12_isDue dX12_endFor_11 ?_
  exact zs_if_ne C dX12_endFor_14 (by decide) (kX12_endFor_54 C h_X12_isDue g_X12_isDue j6 hq) (kX12_endFor_17 C h_X12_isDue g_X12_isDue j6 hq)
def xX12_endFor_0 (s_X12_isDue : zq_Sp) (J6 : zq_P) (Q : zq_Q) (ls : zq_L) (st : List Value) (h : zq_H) : Prop := (zi_push (.long 0) (zi_lstore 4 (zi_iload 2 (zi_istore 6 (J6))))) ls st h
theorem kX12_endFor_0 {X : zq_X} {d : Nat} (C : zq_C X cX12_endFor 7 RX12 d) {d_X12_isDue : Nat} {s_X12_isDue : zq_Sp} (h_X12_isDue : zq_M yX12_isDue cX12_isDue 5 (some .boolean) 1 d_X12_isDue s_X12_isDue) (g_X12_isDue : d_X12_isDue + 1 ≤ d) {J6 : zq_P} (j6 : zq_ok X 7 6 J6) {Q : zq_Q} (hq : zq_R X (some .int) 1 Q) : zq_ok X 7 0 (xX12_endFor_0 s_X12_isDue J6 Q) := by
  refine zs_lconst C dX12_endFor_0 (by decide) ?_
  refine zs_lstore C dX12_endFor_1 (by decide) ?_
  refine zs_iload_n C dX12_endFor_3 rfl ?_
  refine zs_istore C dX12_endFor_4 (by decide) ?_
  exact j6
theorem mX12_endFor {d : Nat} {spec : zq_Sp} {σ6 : Type} {d_X12_isDue : Nat} {s_X12_isDue : zq_Sp} (h_X12_isDue : zq_M yX12_isDue cX12_isDue 5 (some .boolean) 1 d_X12_isDue s_X12_isDue) (g_X12_isDue : d_X12_isDue + 1 ≤ d) (μ6 : σ6 → Nat) (I6 : zq_Q → σ6 → zq_P) (v : ∀ args h Q, spec args h Q → (zq_a args).length ≤ 7 ∧ xX12_endFor_0 s_X12_isDue (fun ls st h => ∃ b, I6 Q b ls st h) Q (zq_l0 7 args) [] h) (v6 : ∀ Q a ls st h, I6 Q a ls st h → xX12_endFor_6 s_X12_isDue (fun ls st h => ∃ b, μ6 b < μ6 a ∧ I6 Q b ls st h) Q ls st h) : zq_M yX12_endFor cX12_endFor 7 (some .int) 1 d spec := by
  refine zq_met (by decide +kernel) (by decide) (fun X Q args h C hq hs => ⟨(v args h Q hs).1, _, ?_, (v args h Q hs).2⟩)
  have hl := zq_loop1 (X := X) (nL := 7) (pc1 := 6) μ6 (I6 Q) (fun J6 => xX12_endFor_6 s_X12_isDue J6 Q) (fun j6 => kX12_endFor_6 C h_X12_isDue g_X12_isDue j6 hq) (v6 Q)
  exact kX12_endFor_0 C h_X12_isDue g_X12_isDue hl hq
/-! ToOneCrumbModel.isTurnLess(I)Z -/
theorem dX12_isTurnLess_0 : decode cX12_isTurnLess 0 = .ok (.iconst 0, 1) := by decide +kernel
theorem dX12_isTurnLess_1 : decode cX12_isTurnLess 1 = .ok (.istore_n 2, 1) := by decide +kernel
theorem dX12_isTurnLess_2 : decode cX12_isTurnLess 2 = .ok (.iload_n 2, 1) := by decide +kernel
theorem dX12_isTurnLess_3 : decode cX12_isTurnLess 3 = .ok (.iload_n 1, 1) := by decide +kernel
theorem dX12_isTurnLess_4 : decode cX12_isTurnLess 4 = .ok (.if_icmp .ge 45, 3) := by decide +kernel
theorem dX12_isTurnLess_7 : decode cX12_isTurnLess 7 = .ok (.aload_n 0, 1) := by decide +kernel
theorem dX12_isTurnLess_8 : decode cX12_isTurnLess 8 = .ok (.getfield 84, 3) := by decide +kernel
theorem dX12_isTurnLess_11 : decode cX12_isTurnLess 11 = .ok (.iload_n 2, 1) := by decide +kernel
theorem dX12_isTurnLess_12 : decode cX12_isTurnLess 12 = .ok (.iaload, 1) := by decide +kernel
theorem dX12_isTurnLess_13 : decode cX12_isTurnLess 13 = .ok (.aload_n 0, 1) := by decide +kernel
theorem dX12_isTurnLess_14 : decode cX12_isTurnLess 14 = .ok (.getfield 87, 3) := by decide +kernel
theorem dX12_isTurnLess_17 : decode cX12_isTurnLess 17 = .ok (.iload_n 2, 1) := by decide +kernel
theorem dX12_isTurnLess_18 : decode cX12_isTurnLess 18 = .ok (.iaload, 1) := by decide +kernel
theorem dX12_isTurnLess_19 : decode cX12_isTurnLess 19 = .ok (.if_icmp .eq 24, 3) := by decide +kernel
theorem dX12_isTurnLess_22 : decode cX12_isTurnLess 22 = .ok (.aload_n 0, 1) := by decide +kernel
theorem dX12_isTurnLess_23 : decode cX12_isTurnLess 23 = .ok (.getfield 84, 3) := by decide +kernel
theorem dX12_isTurnLess_26 : decode cX12_isTurnLess 26 = .ok (.iload_n 2, 1) := by decide +kernel
theorem dX12_isTurnLess_27 : decode cX12_isTurnLess 27 = .ok (.iaload, 1) := by decide +kernel
theorem dX12_isTurnLess_28 : decode cX12_isTurnLess 28 = .ok (.aload_n 0, 1) := by decide +kernel
theorem dX12_isTurnLess_29 : decode cX12_isTurnLess 29 = .ok (.getfield 87, 3) := by decide +kernel
theorem dX12_isTurnLess_32 : decode cX12_isTurnLess 32 = .ok (.iload_n 2, 1) := by decide +kernel
theorem dX12_isTurnLess_33 : decode cX12_isTurnLess 33 = .ok (.iaload, 1) := by decide +kernel
theorem dX12_isTurnLess_34 : decode cX12_isTurnLess 34 = .ok (.if_icmp .ge 7, 3) := by decide +kernel
theorem dX12_isTurnLess_37 : decode cX12_isTurnLess 37 = .ok (.iconst 1, 1) := by decide +kernel
theorem dX12_isTurnLess_38 : decode cX12_isTurnLess 38 = .ok (.goto 4, 3) := by decide +kernel
theorem dX12_isTurnLess_41 : decode cX12_isTurnLess 41 = .ok (.iconst 0, 1) := by decide +kernel
theorem dX12_isTurnLess_42 : decode cX12_isTurnLess 42 = .ok (.ireturn, 1) := by decide +kernel
theorem dX12_isTurnLess_43 : decode cX12_isTurnLess 43 = .ok (.iinc 2 1, 3) := by decide +kernel
theorem dX12_isTurnLess_46 : decode cX12_isTurnLess 46 = .ok (.goto (-44), 3) := by decide +kernel
theorem dX12_isTurnLess_49 : decode cX12_isTurnLess 49 = .ok (.iconst 0, 1) := by decide +kernel
theorem dX12_isTurnLess_50 : decode cX12_isTurnLess 50 = .ok (.ireturn, 1) := by decide +kernel
def xX12_isTurnLess_49 (J2 : zq_P) (Q : zq_Q) (ls : zq_L) (st : List Value) (h : zq_H) : Prop := (zi_push (.int 0) (zi_zret Q)) ls st h
theorem kX12_isTurnLess_49 {X : zq_X} {d : Nat} (C : zq_C X cX12_isTurnLess 3 RX12 d) {J2 : zq_P} (j2 : zq_ok X 3 2 J2) {Q : zq_Q} (hq : zq_R X (some .boolean) 1 Q) : zq_ok X 3 49 (xX12_isTurnLess_49 J2 Q) := by
  refine zs_iconst C dX12_isTurnLess_49 (by decide) ?_
  exact zs_zret C hq dX12_isTurnLess_50
def xX12_isTurnLess_43 (J2 : zq_P) (Q : zq_Q) (ls : zq_L) (st : List Value) (h : zq_H) : Prop := (zi_iinc 2 1 (J2)) ls st h
theorem kX12_isTurnLess_43 {X : zq_X} {d : Nat} (C : zq_C X cX12_isTurnLess 3 RX12 d) {J2 : zq_P} (j2 : zq_ok X 3 2 J2) {Q : zq_Q} (hq : zq_R X (some .boolean) 1 Q) : zq_ok X 3 43 (xX12_isTurnLess_43 J2 Q) := by
  refine zs_iinc C dX12_isTurnLess_43 (by decide) (by decide) ?_
  exact zs_goto C dX12_isTurnLess_46 (by decide) (j2)
def xX12_isTurnLess_42 (J2 : zq_P) (Q : zq_Q) (ls : zq_L) (st : List Value) (h : zq_H) : Prop := (zi_zret Q) ls st h
theorem kX12_isTurnLess_42 {X : zq_X} {d : Nat} (C : zq_C X cX12_isTurnLess 3 RX12 d) {J2 : zq_P} (j2 : zq_ok X 3 2 J2) {Q : zq_Q} (hq : zq_R X (some .boolean) 1 Q) : zq_ok X 3 42 (xX12_isTurnLess_42 J2 Q) := by
  exact zs_zret C hq dX12_isTurnLess_42
def xX12_isTurnLess_41 (J2 : zq_P) (Q : zq_Q) (ls : zq_L) (st : List Value) (h : zq_H) : Prop := (zi_push (.int 0) ((xX12_isTurnLess_42 J2 Q))) ls st h
theorem kX12_isTurnLess_41 {X : zq_X} {d : Nat} (C : zq_C X cX12_isTurnLess 3 RX12 d) {J2 : zq_P} (j2 : zq_ok X 3 2 J2) {Q : zq_Q} (hq : zq_R X (some .boolean) 1 Q) : zq_ok X 3 41 (xX12_isTurnLess_41 J2 Q) := by
  refine zs_iconst C dX12_isTurnLess_41 (by decide) ?_
  exact kX12_isTurnLess_42 C j2 hq
def xX12_isTurnLess_37 (J2 : zq_P) (Q : zq_Q) (ls : zq_L) (st : List Value) (h : zq_H) : Prop := (zi_push (.int 1) ((xX12_isTurnLess_42 J2 Q))) ls st h
theorem kX12_isTurnLess_37 {X : zq_X} {d : Nat} (C : zq_C X cX12_isTurnLess 3 RX12 d) {J2 : zq_P} (j2 : zq_ok X 3 2 J2) {Q : zq_Q} (hq : zq_R X (some .boolean) 1 Q) : zq_ok X 3 37 (xX12_isTurnLess_37 J2 Q) := by
  refine zs_iconst C dX12_isTurnLess_37 (by decide) ?_
  exact zs_goto C dX12_isTurnLess_38 (by decide) (kX12_isTurnLess_42 C j2 hq)
def xX12_isTurnLess_22 (J2 : zq_P) (Q : zq_Q) (ls : zq_L) (st : List Value) (h : zq_H) : Prop := (zi_aload 0 (zi_getR 56 81 (zi_iload 2 (zi_aldI 81 12 (zi_aload 0 (zi_getR 56 82 (zi_iload 2 (zi_aldI 82 12 (zi_if2 (fun x y => y ≤ x) (xX12_isTurnLess_41 J2 Q) (xX12_isTurnLess_37 J2 Q)))))))))) ls st h
theorem kX12_isTurnLess_22 {X : zq_X} {d : Nat} (C : zq_C X cX12_isTurnLess 3 RX12 d) {J2 : zq_P} (j2 : zq_ok X 3 2 J2) {Q : zq_Q} (hq : zq_R X (some .boolean) 1 Q) : zq_ok X 3 22 (xX12_isTurnLess_22 J2 Q) := by
  refine zs_aload_n C dX12_isTurnLess_22 rfl ?_
  refine zs_getR C zp_56 zF12 (j := 38) ⟨by decide, rfl⟩ zw_1134 dX12_isTurnLess_23 ?_
  refine zs_iload_n C dX12_isTurnLess_26 rfl ?_
  refine zs_iaload C zp_81 dX12_isTurnLess_27 ?_
  refine zs_aload_n C dX12_isTurnLess_28 rfl ?_
  refine zs_getR C zp_56 zF12 (j := 39) ⟨by decide, rfl⟩ zw_1135 dX12_isTurnLess_29 ?_
  refine zs_iload_n C dX12_isTurnLess_32 rfl ?_
  refine zs_iaload C zp_82 dX12_isTurnLess_33 ?_
  exact zs_icmp_ge C dX12_isTurnLess_34 (by decide) (kX12_isTurnLess_41 C j2 hq) (kX12_isTurnLess_37 C j2 hq)
def xX12_isTurnLess_7 (J2 : zq_P) (Q : zq_Q) (ls : zq_L) (st : List Value) (h : zq_H) : Prop := (zi_aload 0 (zi_getR 56 81 (zi_iload 2 (zi_aldI 81 12 (zi_aload 0 (zi_getR 56 82 (zi_iload 2 (zi_aldI 82 12 (zi_if2 (fun x y => x = y) (xX12_isTurnLess_43 J2 Q) (xX12_isTurnLess_22 J2 Q)))))))))) ls st h
theorem kX12_isTurnLess_7 {X : zq_X} {d : Nat} (C : zq_C X cX12_isTurnLess 3 RX12 d) {J2 : zq_P} (j2 : zq_ok X 3 2 J2) {Q : zq_Q} (hq : zq_R X (some .boolean) 1 Q) : zq_ok X 3 7 (xX12_isTurnLess_7 J2 Q) := by
  refine zs_aload_n C dX12_isTurnLess_7 rfl ?_
  refine zs_getR C zp_56 zF12 (j := 38) ⟨by decide, rfl⟩ zw_1134 dX12_isTurnLess_8 ?_
  refine zs_iload_n C dX12_isTurnLess_11 rfl ?_
  refine zs_iaload C zp_81 dX12_isTurnLess_12 ?_
  refine zs_aload_n C dX12_isTurnLess_13 rfl ?_
  refine zs_getR C zp_56 zF12 (j := 39) ⟨by decide, rfl⟩ zw_1135 dX12_isTurnLess_14 ?_
  refine zs_iload_n C dX12_isTurnLess_17 rfl ?_
  refine zs_iaload C zp_82 dX12_isTurnLess_18 ?_
  exact zs_icmp_eq C dX12_isTurnLess_19 (by decide) (kX12_isTurnLess_43 C j2 hq) (kX12_isTurnLess_22 C j2 hq)
def xX12_isTurnLess_2 (J2 : zq_P) (Q : zq_Q) (ls : zq_L) (st : List Value) (h : zq_H) : Prop := (zi_iload 2 (zi_iload 1 (zi_if2 (fun x y => y ≤ x) (xX12_isTurnLess_49 J2 Q) (xX12_isTurnLess_7 J2 Q)))) ls st h
theorem kX12_isTurnLess_2 {X : zq_X} {d : Nat} (C : zq_C X cX12_isTurnLess 3 RX12 d) {J2 : zq_P} (j2 : zq_ok X 3 2 J2) {Q : zq_Q} (hq : zq_R X (some .boolean) 1 Q) : zq_ok X 3 2 (xX12_isTurnLess_2 J2 Q) := by
  refine zs_iload_n C dX12_isTurnLess_2 rfl ?_
  refine zs_iload_n C dX12_isTurnLess_3 rfl ?_
  exact zs_icmp_ge C dX12_isTurnLess_4 (by decide) (kX12_isTurnLess_49 C j2 hq) (kX12_isTurnLess_7 C j2 hq)
def xX12_isTurnLess_0 (J2 : zq_P) (Q : zq_Q) (ls : zq_L) (st : List Value) (h : zq_H) : Prop := (zi_push (.int 0) (zi_istore 2 (J2))) ls st h
theorem kX12_isTurnLess_0 {X : zq_X} {d : Nat} (C : zq_C X cX12_isTurnLess 3 RX12 d) {J2 : zq_P} (j2 : zq_ok X 3 2 J2) {Q : zq_Q} (hq : zq_R X (some .boolean) 1 Q) : zq_ok X 3 0 (xX12_isTurnLess_0 J2 Q) := by
  refine zs_iconst C dX12_isTurnLess_0 (by decide) ?_
  refine zs_istore_n C dX12_isTurnLess_1 rfl (by decide) ?_
  exact j2
theorem mX12_isTurnLess {d : Nat} {spec : zq_Sp} {σ2 : Type} (μ2 : σ2 → Nat) (I2 : zq_Q → σ2 → zq_P) (v : ∀ args h Q, spec args h Q → (zq_a args).length ≤ 3 ∧ xX12_isTurnLess_0 (fun ls st h => ∃ b, I2 Q b ls st h) Q (zq_l0 3 args) [] h) (v2 : ∀ Q a ls st h, I2 Q a ls st h → xX12_isTurnLess_2 (fun ls st h => ∃ b, μ2 b < μ2 a ∧ I2 Q b ls st h) Q ls st h) : zq_M yX12_isTurnLess cX12_isTurnLess 3 (some .boolean) 1 d spec := by
  refine zq_met (by decide +kernel) (by decide) (fun X Q args h C hq hs => ⟨(v args h Q hs).1, _, ?_, (v args h Q hs).2⟩)
  have hl := zq_loop1 (X := X) (nL := 3) (pc1 := 2) μ2 (I2 Q) (fun J2 => xX12_isTurnLess_2 J2 Q) (fun j2 => kX12_isTurnLess_2 C j2 hq) (v2 Q)
  exact kX12_isTurnLess_0 C hl hq
/-! ToOneCrumbModel.serves(IIII)V -/
theorem dX12_serves_0 : decode cX12_serves 0 = .ok (.iload_n 1, 1) := by decide +kernel
theorem dX12_serves_1 : decode cX12_serves 1 = .ok (.ifCond .ne 66, 3) := by decide +kernel
theorem dX12_serves_4 : decode cX12_serves 4 = .ok (.iload_n 2, 1) := by decide +kernel
theorem dX12_serves_5 : decode cX12_serves 5 = .ok (.aload_n 0, 1) := by decide +kernel
theorem dX12_serves_6 : decode cX12_serves 6 = .ok (.getfield 377, 3) := by decide +kernel
theorem dX12_serves_9 : decode cX12_serves 9 = .ok (.if_icmp .lt 21, 3) := by decide +kernel
theorem dX12_serves_12 : decode cX12_serves 12 = .ok (.iload_n 2, 1) := by decide +kernel
theorem dX12_serves_13 : decode cX12_serves 13 = .ok (.aload_n 0, 1) := by decide +kernel
theorem dX12_serves_14 : decode cX12_serves 14 = .ok (.getfield 377, 3) := by decide +kernel
theorem dX12_serves_17 : decode cX12_serves 17 = .ok (.if_icmp .ne 49, 3) := by decide +kernel
theorem dX12_serves_20 : decode cX12_serves 20 = .ok (.aload_n 0, 1) := by decide +kernel
theorem dX12_serves_21 : decode cX12_serves 21 = .ok (.iconst 2, 1) := by decide +kernel
theorem dX12_serves_22 : decode cX12_serves 22 = .ok (.iload_n 3, 1) := by decide +kernel
theorem dX12_serves_23 : decode cX12_serves 23 = .ok (.imul, 1) := by decide +kernel
theorem dX12_serves_24 : decode cX12_serves 24 = .ok (.invokevirtual 380, 3) := by decide +kernel
theorem dX12_serves_27 : decode cX12_serves 27 = .ok (.ifCond .eq 39, 3) := by decide +kernel
theorem dX12_serves_30 : decode cX12_serves 30 = .ok (.aload_n 0, 1) := by decide +kernel
theorem dX12_serves_31 : decode cX12_serves 31 = .ok (.iload_n 2, 1) := by decide +kernel
theorem dX12_serves_32 : decode cX12_serves 32 = .ok (.putfield 377, 3) := by decide +kernel
theorem dX12_serves_35 : decode cX12_serves 35 = .ok (.iconst 0, 1) := by decide +kernel
theorem dX12_serves_36 : decode cX12_serves 36 = .ok (.istore 5, 2) := by decide +kernel
theorem dX12_serves_38 : decode cX12_serves 38 = .ok (.iload 5, 2) := by decide +kernel
theorem dX12_serves_40 : decode cX12_serves 40 = .ok (.iconst 2, 1) := by decide +kernel
theorem dX12_serves_41 : decode cX12_serves 41 = .ok (.iload_n 3, 1) := by decide +kernel
theorem dX12_serves_42 : decode cX12_serves 42 = .ok (.imul, 1) := by decide +kernel
theorem dX12_serves_43 : decode cX12_serves 43 = .ok (.if_icmp .ge 23, 3) := by decide +kernel
theorem dX12_serves_46 : decode cX12_serves 46 = .ok (.aload_n 0, 1) := by decide +kernel
theorem dX12_serves_47 : decode cX12_serves 47 = .ok (.getfield 87, 3) := by decide +kernel
theorem dX12_serves_50 : decode cX12_serves 50 = .ok (.iload 5, 2) := by decide +kernel
theorem dX12_serves_52 : decode cX12_serves 52 = .ok (.aload_n 0, 1) := by decide +kernel
theorem dX12_serves_53 : decode cX12_serves 53 = .ok (.getfield 84, 3) := by decide +kernel
theorem dX12_serves_56 : decode cX12_serves 56 = .ok (.iload 5, 2) := by decide +kernel
theorem dX12_serves_58 : decode cX12_serves 58 = .ok (.iaload, 1) := by decide +kernel
theorem dX12_serves_59 : decode cX12_serves 59 = .ok (.iastore, 1) := by decide +kernel
theorem dX12_serves_60 : decode cX12_serves 60 = .ok (.iinc 5 1, 3) := by decide +kernel
theorem dX12_serves_63 : decode cX12_serves 63 = .ok (.goto (-25), 3) := by decide +kernel
theorem dX12_serves_66 : decode cX12_serves 66 = .ok (.return_, 1) := by decide +kernel
theorem dX12_serves_67 : decode cX12_serves 67 = .ok (.iconst 0, 1) := by decide +kernel
theorem dX12_serves_68 : decode cX12_serves 68 = .ok (.istore 5, 2) := by decide +kernel
theorem dX12_serves_70 : decode cX12_serves 70 = .ok (.iload 5, 2) := by decide +kernel
theorem dX12_serves_72 : decode cX12_serves 72 = .ok (.aload_n 0, 1) := by decide +kernel
theorem dX12_serves_73 : decode cX12_serves 73 = .ok (.getfield 165, 3) := by decide +kernel
theorem dX12_serves_76 : decode cX12_serves 76 = .ok (.if_icmp .ge 91, 3) := by decide +kernel
theorem dX12_serves_79 : decode cX12_serves 79 = .ok (.iload_n 1, 1) := by decide +kernel
theorem dX12_serves_80 : decode cX12_serves 80 = .ok (.iload 5, 2) := by decide +kernel
theorem dX12_serves_82 : decode cX12_serves 82 = .ok (.invokestatic 383, 3) := by decide +kernel
theorem dX12_serves_85 : decode cX12_serves 85 = .ok (.ifCond .eq 76, 3) := by decide +kernel
theorem dX12_serves_88 : decode cX12_serves 88 = .ok (.aload_n 0, 1) := by decide +kernel
theorem dX12_serves_89 : decode cX12_serves 89 = .ok (.iload 5, 2) := by decide +kernel
theorem dX12_serves_91 : decode cX12_serves 91 = .ok (.iload_n 2, 1) := by decide +kernel
theorem dX12_serves_92 : decode cX12_serves 92 = .ok (.iload 4, 2) := by decide +kernel
theorem dX12_serves_94 : decode cX12_serves 94 = .ok (.invokevirtual 385, 3) := by decide +kernel
theorem dX12_serves_97 : decode cX12_serves 97 = .ok (.istore 6, 2) := by decide +kernel
theorem dX12_serves_99 : decode cX12_serves 99 = .ok (.iload 6, 2) := by decide +kernel
theorem dX12_serves_101 : decode cX12_serves 101 = .ok (.aload_n 0, 1) := by decide +kernel
theorem dX12_serves_102 : decode cX12_serves 102 = .ok (.getfield 158, 3) := by decide +kernel
theorem dX12_serves_105 : decode cX12_serves 105 = .ok (.if_icmp .gt 56, 3) := by decide +kernel
theorem dX12_serves_108 : decode cX12_serves 108 = .ok (.aload_n 0, 1) := by decide +kernel
theorem dX12_serves_109 : decode cX12_serves 109 = .ok (.getfield 84, 3) := by decide +kernel
theorem dX12_serves_112 : decode cX12_serves 112 = .ok (.iconst 2, 1) := by decide +kernel
theorem dX12_serves_113 : decode cX12_serves 113 = .ok (.iload_n 3, 1) := by decide +kernel
theorem dX12_serves_114 : decode cX12_serves 114 = .ok (.imul, 1) := by decide +kernel
theorem dX12_serves_115 : decode cX12_serves 115 = .ok (.iload 5, 2) := by decide +kernel
theorem dX12_serves_117 : decode cX12_serves 117 = .ok (.iastore, 1) := by decide +kernel
theorem dX12_serves_118 : decode cX12_serves 118 = .ok (.aload_n 0, 1) := by decide +kernel
theorem dX12_serves_119 : decode cX12_serves 119 = .ok (.getfield 84, 3) := by decide +kernel
theorem dX12_serves_122 : decode cX12_serves 122 = .ok (.iconst 2, 1) := by decide +kernel
theorem dX12_serves_123 : decode cX12_serves 123 = .ok (.iload_n 3, 1) := by decide +kernel
theorem dX12_serves_124 : decode cX12_serves 124 = .ok (.imul, 1) := by decide +kernel
theorem dX12_serves_125 : decode cX12_serves 125 = .ok (.iconst 1, 1) := by decide +kernel
theorem dX12_serves_126 : decode cX12_serves 126 = .ok (.iadd, 1) := by decide +kernel
theorem dX12_serves_127 : decode cX12_serves 127 = .ok (.iload 6, 2) := by decide +kernel
theorem dX12_serves_129 : decode cX12_serves 129 = .ok (.iload_n 2, 1) := by decide +kernel
theorem dX12_serves_130 : decode cX12_serves 130 = .ok (.if_icmp .ne 7, 3) := by decide +kernel
theorem dX12_serves_133 : decode cX12_serves 133 = .ok (.iconst (-1), 1) := by decide +kernel
theorem dX12_serves_134 : decode cX12_serves 134 = .ok (.goto 7, 3) := by decide +kernel
theorem dX12_serves_137 : decode cX12_serves 137 = .ok (.iload 6, 2) := by decide +kernel
theorem dX12_serves_139 : decode cX12_serves 139 = .ok (.iconst 1, 1) := by decide +kernel
theorem dX12_serves_140 : decode cX12_serves 140 = .ok (.isub, 1) := by decide +kernel
theorem dX12_serves_141 : decode cX12_serves 141 = .ok (.iastore, 1) := by decide +kernel
theorem dX12_serves_142 : decode cX12_serves 142 = .ok (.aload_n 0, 1) := by decide +kernel
theorem dX12_serves_143 : decode cX12_serves 143 = .ok (.iload_n 1, 1) := by decide +kernel
theorem dX12_serves_144 : decode cX12_serves 144 = .ok (.iconst 1, 1) := by decide +kernel
theorem dX12_serves_145 : decode cX12_serves 145 = .ok (.iload 5, 2) := by decide +kernel
theorem dX12_serves_147 : decode cX12_serves 147 = .ok (.ishl, 1) := by decide +kernel
theorem dX12_serves_148 : decode cX12_serves 148 = .ok (.iconst (-1), 1) := by decide +kernel
theorem dX12_serves_149 : decode cX12_serves 149 = .ok (.ixor, 1) := by decide +kernel
theorem dX12_serves_150 : decode cX12_serves 150 = .ok (.iand, 1) := by decide +kernel
theorem dX12_serves_151 : decode cX12_serves 151 = .ok (.iload 6, 2) := by decide +kernel
theorem dX12_serves_153 : decode cX12_serves 153 = .ok (.iload_n 3, 1) := by decide +kernel
theorem dX12_serves_154 : decode cX12_serves 154 = .ok (.iconst 1, 1) := by decide +kernel
theorem dX12_serves_155 : decode cX12_serves 155 = .ok (.iadd, 1) := by decide +kernel
theorem dX12_serves_156 : decode cX12_serves 156 = .ok (.iload 4, 2) := by decide +kernel
theorem dX12_serves_158 : decode cX12_serves 158 = .ok (.invokevirtual 388, 3) := by decide +kernel
theorem dX12_serves_161 : decode cX12_serves 161 = .ok (.iinc 5 1, 3) := by decide +kernel
theorem dX12_serves_164 : decode cX12_serves 164 = .ok (.goto (-94), 3) := by decide +kernel
theorem dX12_serves_167 : decode cX12_serves 167 = .ok (.return_, 1) := by decide +kernel
def xX12_serves_167 (s_X12_isTurnLess : zq_Sp) (s_X12_has : zq_Sp) (s_X12_endFor : zq_Sp) (s_X12_serves : zq_Sp) (J38 : zq_P) (J70 : zq_P) (Q : zq_Q) (ls : zq_L) (st : List Value) (h : zq_H) : Prop := (zi_vret Q) ls st h
theorem kX12_serves_167 {X : zq_X} {d : Nat} (C : zq_C X cX12_serves 7 RX12 d) {d_X12_isTurnLess : Nat} {s_X12_isTurnLess : zq_Sp} (h_X12_isTurnLess : zq_M yX12_isTurnLess cX12_isTurnLess 3 (some .boolean) 1 d_X12_isTurnLess s_X12_isTurnLess) (g_X12_isTurnLess : d_X12_isTurnLess + 1 ≤ d) {d_X12_has : Nat} {s_X12_has : zq_Sp} (h_X12_has : zq_M yX12_has cX12_has 2 (some .boolean) 1 d_X12_has s_X12_has) (g_X12_has : d_X12_has + 1 ≤ d) {d_X12_endFor : Nat} {s_X12_endFor : zq_Sp} (h_X12_endFor : zq_M yX12_endFor cX12_endFor 7 (some .int) 1 d_X12_endFor s_X12_endFor) (g_X12_endFor : d_X12_endFor + 1 ≤ d) {d_X12_serves : Nat} {s_X12_serves : zq_Sp} (h_X12_serves : zq_M yX12_serves cX12_serves 7 none 0 d_X12_serves s_X12_serves) (g_X12_serves : d_X12_serves + 1 ≤ d) {J38 : zq_P} (j38 : zq_ok X 7 38 J38) {J70 : zq_P} (j70 : zq_ok X 7 70 J70) {Q : zq_Q} (hq : zq_R X none 0 Q) : zq_ok X 7 167 (xX12_serves_167 s_X12_isTurnLess s_X12_has s_X12_endFor s_X12_serves J38 J70 Q) := by
  exact zs_vret C hq dX12_serves_167
def xX12_serves_161 (s_X12_isTurnLess : zq_Sp) (s_X12_has : zq_Sp) (s_X12_endFor : zq_Sp) (s_X12_serves : zq_Sp) (J38 : zq_P) (J70 : zq_P) (Q : zq_Q) (ls : zq_L) (st : List Value) (h : zq_H) : Prop := (zi_iinc 5 1 (J70)) ls st h
theorem kX12_serves_161 {X : zq_X} {d : Nat} (C : zq_C X cX12_serves 7 RX12 d) {d_X12_isTurnLess : Nat} {s_X12_isTurnLess : zq_Sp} (h_X12_isTurnLess : zq_M yX12_isTurnLess cX12_isTurnLess 3 (some .boolean) 1 d_X12_isTurnLess s_X12_isTurnLess) (g_X12_isTurnLess : d_X12_isTurnLess + 1 ≤ d) {d_X12_has : Nat} {s_X12_has : zq_Sp} (h_X12_has : zq_M yX12_has cX12_has 2 (some .boolean) 1 d_X12_has s_X12_has) (g_X12_has : d_X12_has + 1 ≤ d) {d_X12_endFor : Nat} {s_X12_endFor : zq_Sp} (h_X12_endFor : zq_M yX12_endFor cX12_endFor 7 (some .int) 1 d_X12_endFor s_X12_endFor) (g_X12_endFor : d_X12_endFor + 1 ≤ d) {d_X12_serves : Nat} {s_X12_serves : zq_Sp} (h_X12_serves : zq_M yX12_serves cX12_serves 7 none 0 d_X12_serves s_X12_serves) (g_X12_serves : d_X12_serves + 1 ≤ d) {J38 : zq_P} (j38 : zq_ok X 7 38 J38) {J70 : zq_P} (j70 : zq_ok X 7 70 J70) {Q : zq_Q} (hq : zq_R X none 0 Q) : zq_ok X 7 161 (xX12_serves_161 s_X12_isTurnLess s_X12_has s_X12_endFor s_X12_serves J38 J70 Q) := by
  refine zs_iinc C dX12_serves_161 (by decide) (by decide) ?_
  exact zs_goto C dX12_serves_164 (by decide) (j70)
def xX12_serves_141 (s_X12_isTurnLess : zq_Sp) (s_X12_has : zq_Sp) (s_X12_endFor : zq_Sp) (s_X12_serves : zq_Sp) (J38 : zq_P) (J70 : zq_P) (Q : zq_Q) (ls : zq_L) (st : List Value) (h : zq_H) : Prop := (zi_astI 81 12 (zi_aload 0 (zi_iload 1 (zi_push (.int 1) (zi_iload 5 (zi_i2 zf_shl (zi_push (.int (-1)) (zi_i2 (fun x y => x ^^^ y) (zi_i2 (fun x y => x &&& y) (zi_iload 6 (zi_iload 3 (zi_push (.int 1) (zi_i2 (fun x y => x + y) (zi_iload 4 (zi_callV 4 56 s_X12_serves ((xX12_serves_161 s_X12_isTurnLess s_X12_has s_X12_endFor s_X12_serves J38 J70 Q))))))))))))))))) ls st h
theorem kX12_serves_141 {X : zq_X} {d : Nat} (C : zq_C X cX12_serves 7 RX12 d) {d_X12_isTurnLess : Nat} {s_X12_isTurnLess : zq_Sp} (h_X12_isTurnLess : zq_M yX12_isTurnLess cX12_isTurnLess 3 (some .boolean) 1 d_X12_isTurnLess s_X12_isTurnLess) (g_X12_isTurnLess : d_X12_isTurnLess + 1 ≤ d) {d_X12_has : Nat} {s_X12_has : zq_Sp} (h_X12_has : zq_M yX12_has cX12_has 2 (some .boolean) 1 d_X12_has s_X12_has) (g_X12_has : d_X12_has + 1 ≤ d) {d_X12_endFor : Nat} {s_X12_endFor : zq_Sp} (h_X12_endFor : zq_M yX12_endFor cX12_endFor 7 (some .int) 1 d_X12_endFor s_X12_endFor) (g_X12_endFor : d_X12_endFor + 1 ≤ d) {d_X12_serves : Nat} {s_X12_serves : zq_Sp} (h_X12_serves : zq_M yX12_serves cX12_serves 7 none 0 d_X12_serves s_X12_serves) (g_X12_serves : d_X12_serves + 1 ≤ d) {J38 : zq_P} (j38 : zq_ok X 7 38 J38) {J70 : zq_P} (j70 : zq_ok X 7 70 J70) {Q : zq_Q} (hq : zq_R X none 0 Q) : zq_ok X 7 141 (xX12_serves_141 s_X12_isTurnLess s_X12_has s_X12_endFor s_X12_serves J38 J70 Q) := by
  refine zs_iastore C zp_81 dX12_serves_141 ?_
  refine zs_aload_n C dX12_serves_142 rfl ?_
  refine zs_iload_n C dX12_serves_143 rfl ?_
  refine zs_iconst C dX12_serves_144 (by decide) ?_
  refine zs_iload C dX12_serves_145 ?_
  refine zs_ishl C dX12_serves_147 ?_
  refine zs_iconst C dX12_serves_148 (by decide) ?_
  refine zs_ixor C dX12_serves_149 ?_
  refine zs_iand C dX12_serves_150 ?_
  refine zs_iload C dX12_serves_151 ?_
  refine zs_iload_n C dX12_serves_153 rfl ?_
  refine zs_iconst C dX12_serves_154 (by decide) ?_
  refine zs_iadd C dX12_serves_155 ?_
  refine zs_iload C dX12_serves_156 ?_
  refine zs_callV C h_X12_serves g_X12_serves zy_X12_serves zp_56 (show vwCl[12]? = some (RX12, TX12, 67) from rfl) zw_1618 zw_1620 zs9_X12_serves dX12_serves_158 ?_
  exact kX12_serves_161 C h_X12_isTurnLess g_X12_isTurnLess h_X12_has g_X12_has h_X12_endFor g_X12_endFor h_X12_serves g_X12_serves j38 j70 hq
def xX12_serves_137 (s_X12_isTurnLess : zq_Sp) (s_X12_has : zq_Sp) (s_X12_endFor : zq_Sp) (s_X12_serves : zq_Sp) (J38 : zq_P) (J70 : zq_P) (Q : zq_Q) (ls : zq_L) (st : List Value) (h : zq_H) : Prop := (zi_iload 6 (zi_push (.int 1) (zi_i2 (fun x y => x - y) ((xX12_serves_141 s_X12_isTurnLess s_X12_has s_X12_endFor s_X12_serves J38 J70 Q))))) ls st h
theorem kX12_serves_137 {X : zq_X} {d : Nat} (C : zq_C X cX12_serves 7 RX12 d) {d_X12_isTurnLess : Nat} {s_X12_isTurnLess : zq_Sp} (h_X12_isTurnLess : zq_M yX12_isTurnLess cX12_isTurnLess 3 (some .boolean) 1 d_X12_isTurnLess s_X12_isTurnLess) (g_X12_isTurnLess : d_X12_isTurnLess + 1 ≤ d) {d_X12_has : Nat} {s_X12_has : zq_Sp} (h_X12_has : zq_M yX12_has cX12_has 2 (some .boolean) 1 d_X12_has s_X12_has) (g_X12_has : d_X12_has + 1 ≤ d) {d_X12_endFor : Nat} {s_X12_endFor : zq_Sp} (h_X12_endFor : zq_M yX12_endFor cX12_endFor 7 (some .int) 1 d_X12_endFor s_X12_endFor) (g_X12_endFor : d_X12_endFor + 1 ≤ d) {d_X12_serves : Nat} {s_X12_serves : zq_Sp} (h_X12_serves : zq_M yX12_serves cX12_serves 7 none 0 d_X12_serves s_X12_serves) (g_X12_serves : d_X12_serves + 1 ≤ d) {J38 : zq_P} (j38 : zq_ok X 7 38 J38) {J70 : zq_P} (j70 : zq_ok X 7 70 J70) {Q : zq_Q} (hq : zq_R X none 0 Q) : zq_ok X 7 137 (xX12_serves_137 s_X12_isTurnLess s_X12_has s_X12_endFor s_X12_serves J38 J70 Q) := by
  refine zs_iload C dX12_serves_137 ?_
  refine zs_iconst C dX12_serves_139 (by decide) ?_
  refine zs_isub C dX12_serves_140 ?_
  exact kX12_serves_141 C h_X12_isTurnLess g_X12_isTurnLess h_X12_has g_X12_has h_X12_endFor g_X12_endFor h_X12_serves g_X12_serves j38 j70 hq
def xX12_serves_133 (s_X12_isTurnLess : zq_Sp) (s_X12_has : zq_Sp) (s_X12_endFor : zq_Sp) (s_X12_serves : zq_Sp) (J38 : zq_P) (J70 : zq_P) (Q : zq_Q) (ls : zq_L) (st : List Value) (h : zq_H) : Prop := (zi_push (.int (-1)) ((xX12_serves_141 s_X12_isTurnLess s_X12_has s_X12_endFor s_X12_serves J38 J70 Q))) ls st h
theorem kX12_serves_133 {X : zq_X} {d : Nat} (C : zq_C X cX12_serves 7 RX12 d) {d_X12_isTurnLess : Nat} {s_X12_isTurnLess : zq_Sp} (h_X12_isTurnLess : zq_M yX12_isTurnLess cX12_isTurnLess 3 (some .boolean) 1 d_X12_isTurnLess s_X12_isTurnLess) (g_X12_isTurnLess : d_X12_isTurnLess + 1 ≤ d) {d_X12_has : Nat} {s_X12_has : zq_Sp} (h_X12_has : zq_M yX12_has cX12_has 2 (some .boolean) 1 d_X12_has s_X12_has) (g_X12_has : d_X12_has + 1 ≤ d) {d_X12_endFor : Nat} {s_X12_endFor : zq_Sp} (h_X12_endFor : zq_M yX12_endFor cX12_endFor 7 (some .int) 1 d_X12_endFor s_X12_endFor) (g_X12_endFor : d_X12_endFor + 1 ≤ d) {d_X12_serves : Nat} {s_X12_serves : zq_Sp} (h_X12_serves : zq_M yX12_serves cX12_serves 7 none 0 d_X12_serves s_X12_serves) (g_X12_serves : d_X12_serves + 1 ≤ d) {J38 : zq_P} (j38 : zq_ok X 7 38 J38) {J70 : zq_P} (j70 : zq_ok X 7 70 J70) {Q : zq_Q} (hq : zq_R X none 0 Q) : zq_ok X 7 133 (xX12_serves_133 s_X12_isTurnLess s_X12_has s_X12_endFor s_X12_serves J38 J70 Q) := by
  refine zs_iconst C dX12_serves_133 (by decide) ?_
  exact zs_goto C dX12_serves_134 (by decide) (kX12_serves_141 C h_X12_isTurnLess g_X12_isTurnLess h_X12_has g_X12_has h_X12_endFor g_X12_endFor h_X12_serves g_X12_serves j38 j70 hq)
def xX12_serves_108 (s_X12_isTurnLess : zq_Sp) (s_X12_has : zq_Sp) (s_X12_endFor : zq_Sp) (s_X12_serves : zq_Sp) (J38 : zq_P) (J70 : zq_P) (Q : zq_Q) (ls : zq_L) (st : List Value) (h : zq_H) : Prop := (zi_aload 0 (zi_getR 56 81 (zi_push (.int 2) (zi_iload 3 (zi_i2 (fun x y => x * y) (zi_iload 5 (zi_astI 81 12 (zi_aload 0 (zi_getR 56 81 (zi_push (.int 2) (zi_iload 3 (zi_i2 (fun x y => x * y) (zi_push (.int 1) (zi_i2 (fun x y => x + y) (zi_iload 6 (zi_iload 2 (zi_if2 (fun x y => x = y) (xX12_serves_133 s_X12_isTurnLess s_X12_has s_X12_endFor s_X12_serves J38 J70 Q) (xX12_serves_137 s_X12_isTurnLess s_X12_has s_X12_endFor s_X12_serves J38 J70 Q)))))))))))))))))) ls st h
theorem kX12_serves_108 {X : zq_X} {d : Nat} (C : zq_C X cX12_serves 7 RX12 d) {d_X12_isTurnLess : Nat} {s_X12_isTurnLess : zq_Sp} (h_X12_isTurnLess : zq_M yX12_isTurnLess cX12_isTurnLess 3 (some .boolean) 1 d_X12_isTurnLess s_X12_isTurnLess) (g_X12_isTurnLess : d_X12_isTurnLess + 1 ≤ d) {d_X12_has : Nat} {s_X12_has : zq_Sp} (h_X12_has : zq_M yX12_has cX12_has 2 (some .boolean) 1 d_X12_has s_X12_has) (g_X12_has : d_X12_has + 1 ≤ d) {d_X12_endFor : Nat} {s_X12_endFor : zq_Sp} (h_X12_endFor : zq_M yX12_endFor cX12_endFor 7 (some .int) 1 d_X12_endFor s_X12_endFor) (g_X12_endFor : d_X12_endFor + 1 ≤ d) {d_X12_serves : Nat} {s_X12_serves : zq_Sp} (h_X12_serves : zq_M yX12_serves cX12_serves 7 none 0 d_X12_serves s_X12_serves) (g_X12_serves : d_X12_serves + 1 ≤ d) {J38 : zq_P} (j38 : zq_ok X 7 38 J38) {J70 : zq_P} (j70 : zq_ok X 7 70 J70) {Q : zq_Q} (hq : zq_R X none 0 Q) : zq_ok X 7 108 (xX12_serves_108 s_X12_isTurnLess s_X12_has s_X12_endFor s_X12_serves J38 J70 Q) := by
  refine zs_aload_n C dX12_serves_108 rfl ?_
  refine zs_getR C zp_56 zF12 (j := 38) ⟨by decide, rfl⟩ zw_1134 dX12_serves_109 ?_
  refine zs_iconst C dX12_serves_112 (by decide) ?_
  refine zs_iload_n C dX12_serves_113 rfl ?_
  refine zs_imul C dX12_serves_114 ?_
  refine zs_iload C dX12_serves_115 ?_
  refine zs_iastore C zp_81 dX12_serves_117 ?_
  refine zs_aload_n C dX12_serves_118 rfl ?_
  refine zs_getR C zp_56 zF12 (j := 38) ⟨by decide, rfl⟩ zw_1134 dX12_serves_119 ?_
  refine zs_iconst C dX12_serves_122 (by decide) ?_
  refine zs_iload_n C dX12_serves_123 rfl ?_
  refine zs_imul C dX12_serves_124 ?_
  refine zs_iconst C dX12_serves_125 (by decide) ?_
  refine zs_iadd C dX12_serves_126 ?_
  refine zs_iload C dX12_serves_127 ?_
  refine zs_iload_n C dX12_serves_129 rfl ?_
  exact zs_icmp_ne C dX12_serves_130 (by decide) (kX12_serves_137 C h_X12_isTurnLess g_X12_isTurnLess h_X12_has g_X12_has h_X12_endFor g_X12_endFor h_X12_serves g_X12_serves j38 j70 hq) (kX12_serves_133 C h_X12_isTurnLess g_X12_isTurnLess h_X12_has g_X12_has h_X12_endFor g_X12_endFor h_X12_serves g_X12_serves j38 j70 hq)
def xX12_serves_88 (s_X12_isTurnLess : zq_Sp) (s_X12_has : zq_Sp) (s_X12_endFor : zq_Sp) (s_X12_serves : zq_Sp) (J38 : zq_P) (J70 : zq_P) (Q : zq_Q) (ls : zq_L) (st : List Value) (h : zq_H) : Prop := (zi_aload 0 (zi_iload 5 (zi_iload 2 (zi_iload 4 (zi_callV 3 56 s_X12_endFor (zi_istore 6 (zi_iload 6 (zi_aload 0 (zi_getI 56 3 (zi_if2 (fun x y => y < x) (xX12_serves_161 s_X12_isTurnLess s_X12_has s_X12_endFor s_X12_serves J38 J70 Q) (xX12_serves_108 s_X12_isTurnLess s_X12_has s_X12_endFor s_X12_serves J38 J70 Q))))))))))) ls st h
theorem kX12_serves_88 {X : zq_X} {d : Nat} (C : zq_C X cX12_serves 7 RX12 d) {d_X12_isTurnLess : Nat} {s_X12_isTurnLess : zq_Sp} (h_X12_isTurnLess : zq_M yX12_isTurnLess cX12_isTurnLess 3 (some .boolean) 1 d_X12_isTurnLess s_X12_isTurnLess) (g_X12_isTurnLess : d_X12_isTurnLess + 1 ≤ d) {d_X12_has : Nat} {s_X12_has : zq_Sp} (h_X12_has : zq_M yX12_has cX12_has 2 (some .boolean) 1 d_X12_has s_X12_has) (g_X12_has : d_X12_has + 1 ≤ d) {d_X12_endFor : Nat} {s_X12_endFor : zq_Sp} (h_X12_endFor : zq_M yX12_endFor cX12_endFor 7 (some .int) 1 d_X12_endFor s_X12_endFor) (g_X12_endFor : d_X12_endFor + 1 ≤ d) {d_X12_serves : Nat} {s_X12_serves : zq_Sp} (h_X12_serves : zq_M yX12_serves cX12_serves 7 none 0 d_X12_serves s_X12_serves) (g_X12_serves : d_X12_serves + 1 ≤ d) {J38 : zq_P} (j38 : zq_ok X 7 38 J38) {J70 : zq_P} (j70 : zq_ok X 7 70 J70) {Q : zq_Q} (hq : zq_R X none 0 Q) : zq_ok X 7 88 (xX12_serves_88 s_X12_isTurnLess s_X12_has s_X12_endFor s_X12_serves J38 J70 Q) := by
  refine zs_aload_n C dX12_serves_88 rfl ?_
  refine zs_iload C dX12_serves_89 ?_
  refine zs_iload_n C dX12_serves_91 rfl ?_
  refine zs_iload C dX12_serves_92 ?_
  refine zs_callV C h_X12_endFor g_X12_endFor zy_X12_endFor zp_56 (show vwCl[12]? = some (RX12, TX12, 67) from rfl) zw_1629 zw_1631 zs9_X12_endFor dX12_serves_94 ?_
  refine zs_istore C dX12_serves_97 (by decide) ?_
  refine zs_iload C dX12_serves_99 ?_
  refine zs_aload_n C dX12_serves_101 rfl ?_
  refine zs_getI C zp_56 zF12 (j := 3) ⟨by decide, rfl⟩ zw_1099 dX12_serves_102 ?_
  exact zs_icmp_gt C dX12_serves_105 (by decide) (kX12_serves_161 C h_X12_isTurnLess g_X12_isTurnLess h_X12_has g_X12_has h_X12_endFor g_X12_endFor h_X12_serves g_X12_serves j38 j70 hq) (kX12_serves_108 C h_X12_isTurnLess g_X12_isTurnLess h_X12_has g_X12_has h_X12_endFor g_X12_endFor h_X12_serves g_X12_serves j38 j70 hq)
def xX12_serves_79 (s_X12_isTurnLess : zq_Sp) (s_X12_has : zq_Sp) (s_X12_endFor : zq_Sp) (s_X12_serves : zq_Sp) (J38 : zq_P) (J70 : zq_P) (Q : zq_Q) (ls : zq_L) (st : List Value) (h : zq_H) : Prop := (zi_iload 1 (zi_iload 5 (zi_callS 2 s_X12_has (zi_if1 (fun x => x = 0) (xX12_serves_161 s_X12_isTurnLess s_X12_has s_X12_endFor s_X12_serves J38 J70 Q) (xX12_serves_88 s_X12_isTurnLess s_X12_has s_X12_endFor s_X12_serves J38 J70 Q))))) ls st h
theorem kX12_serves_79 {X : zq_X} {d : Nat} (C : zq_C X cX12_serves 7 RX12 d) {d_X12_isTurnLess : Nat} {s_X12_isTurnLess : zq_Sp} (h_X12_isTurnLess : zq_M yX12_isTurnLess cX12_isTurnLess 3 (some .boolean) 1 d_X12_isTurnLess s_X12_isTurnLess) (g_X12_isTurnLess : d_X12_isTurnLess + 1 ≤ d) {d_X12_has : Nat} {s_X12_has : zq_Sp} (h_X12_has : zq_M yX12_has cX12_has 2 (some .boolean) 1 d_X12_has s_X12_has) (g_X12_has : d_X12_has + 1 ≤ d) {d_X12_endFor : Nat} {s_X12_endFor : zq_Sp} (h_X12_endFor : zq_M yX12_endFor cX12_endFor 7 (some .int) 1 d_X12_endFor s_X12_endFor) (g_X12_endFor : d_X12_endFor + 1 ≤ d) {d_X12_serves : Nat} {s_X12_serves : zq_Sp} (h_X12_serves : zq_M yX12_serves cX12_serves 7 none 0 d_X12_serves s_X12_serves) (g_X12_serves : d_X12_serves + 1 ≤ d) {J38 : zq_P} (j38 : zq_ok X 7 38 J38) {J70 : zq_P} (j70 : zq_ok X 7 70 J70) {Q : zq_Q} (hq : zq_R X none 0 Q) : zq_ok X 7 79 (xX12_serves_79 s_X12_isTurnLess s_X12_has s_X12_endFor s_X12_serves J38 J70 Q) := by
  refine zs_iload_n C dX12_serves_79 rfl ?_
  refine zs_iload C dX12_serves_80 ?_
  refine zs_callS C h_X12_has g_X12_has zy_X12_has zw_1626 zw_1627 dX12_serves_82 ?_
  exact zs_if_eq C dX12_serves_85 (by decide) (kX12_serves_161 C h_X12_isTurnLess g_X12_isTurnLess h_X12_has g_X12_has h_X12_endFor g_X12_endFor h_X12_serves g_X12_serves j38 j70 hq) (kX12_serves_88 C h_X12_isTurnLess g_X12_isTurnLess h_X12_has g_X12_has h_X12_endFor g_X12_endFor h_X12_serves g_X12_serves j38 j70 hq)
def xX12_serves_70 (s_X12_isTurnLess : zq_Sp) (s_X12_has : zq_Sp) (s_X12_endFor : zq_Sp) (s_X12_serves : zq_Sp) (J38 : zq_P) (J70 : zq_P) (Q : zq_Q) (ls : zq_L) (st : List Value) (h : zq_H) : Prop := (zi_iload 5 (zi_aload 0 (zi_getI 56 4 (zi_if2 (fun x y => y ≤ x) (xX12_serves_167 s_X12_isTurnLess s_X12_has s_X12_endFor s_X12_serves J38 J70 Q) (xX12_serves_79 s_X12_isTurnLess s_X12_has s_X12_endFor s_X12_serves J38 J70 Q))))) ls st h
theorem kX12_serves_70 {X : zq_X} {d : Nat} (C : zq_C X cX12_serves 7 RX12 d) {d_X12_isTurnLess : Nat} {s_X12_isTurnLess : zq_Sp} (h_X12_isTurnLess : zq_M yX12_isTurnLess cX12_isTurnLess 3 (some .boolean) 1 d_X12_isTurnLess s_X12_isTurnLess) (g_X12_isTurnLess : d_X12_isTurnLess + 1 ≤ d) {d_X12_has : Nat} {s_X12_has : zq_Sp} (h_X12_has : zq_M yX12_has cX12_has 2 (some .boolean) 1 d_X12_has s_X12_has) (g_X12_has : d_X12_has + 1 ≤ d) {d_X12_endFor : Nat} {s_X12_endFor : zq_Sp} (h_X12_endFor : zq_M yX12_endFor cX12_endFor 7 (some .int) 1 d_X12_endFor s_X12_endFor) (g_X12_endFor : d_X12_endFor + 1 ≤ d) {d_X12_serves : Nat} {s_X12_serves : zq_Sp} (h_X12_serves : zq_M yX12_serves cX12_serves 7 none 0 d_X12_serves s_X12_serves) (g_X12_serves : d_X12_serves + 1 ≤ d) {J38 : zq_P} (j38 : zq_ok X 7 38 J38) {J70 : zq_P} (j70 : zq_ok X 7 70 J70) {Q : zq_Q} (hq : zq_R X none 0 Q) : zq_ok X 7 70 (xX12_serves_70 s_X12_isTurnLess s_X12_has s_X12_endFor s_X12_serves J38 J70 Q) := by
  refine zs_iload C dX12_serves_70 ?_
  refine zs_aload_n C dX12_serves_72 rfl ?_
  refine zs_getI C zp_56 zF12 (j := 4) ⟨by decide, rfl⟩ zw_1100 dX12_serves_73 ?_
  exact zs_icmp_ge C dX12_serves_76 (by decide) (kX12_serves_167 C h_X12_isTurnLess g_X12_isTurnLess h_X12_has g_X12_has h_X12_endFor g_X12_endFor h_X12_serves g_X12_serves j38 j70 hq) (kX12_serves_79 C h_X12_isTurnLess g_X12_isTurnLess h_X12_has g_X12_has h_X12_endFor g_X12_endFor h_X12_serves g_X12_serves j38 j70 hq)
def xX12_serves_67 (s_X12_isTurnLess : zq_Sp) (s_X12_has : zq_Sp) (s_X12_endFor : zq_Sp) (s_X12_serves : zq_Sp) (J38 : zq_P) (J70 : zq_P) (Q : zq_Q) (ls : zq_L) (st : List Value) (h : zq_H) : Prop := (zi_push (.int 0) (zi_istore 5 (J70))) ls st h
theorem kX12_serves_67 {X : zq_X} {d : Nat} (C : zq_C X cX12_serves 7 RX12 d) {d_X12_isTurnLess : Nat} {s_X12_isTurnLess : zq_Sp} (h_X12_isTurnLess : zq_M yX12_isTurnLess cX12_isTurnLess 3 (some .boolean) 1 d_X12_isTurnLess s_X12_isTurnLess) (g_X12_isTurnLess : d_X12_isTurnLess + 1 ≤ d) {d_X12_has : Nat} {s_X12_has : zq_Sp} (h_X12_has : zq_M yX12_has cX12_has 2 (some .boolean) 1 d_X12_has s_X12_has) (g_X12_has : d_X12_has + 1 ≤ d) {d_X12_endFor : Nat} {s_X12_endFor : zq_Sp} (h_X12_endFor : zq_M yX12_endFor cX12_endFor 7 (some .int) 1 d_X12_endFor s_X12_endFor) (g_X12_endFor : d_X12_endFor + 1 ≤ d) {d_X12_serves : Nat} {s_X12_serves : zq_Sp} (h_X12_serves : zq_M yX12_serves cX12_serves 7 none 0 d_X12_serves s_X12_serves) (g_X12_serves : d_X12_serves + 1 ≤ d) {J38 : zq_P} (j38 : zq_ok X 7 38 J38) {J70 : zq_P} (j70 : zq_ok X 7 70 J70) {Q : zq_Q} (hq : zq_R X none 0 Q) : zq_ok X 7 67 (xX12_serves_67 s_X12_isTurnLess s_X12_has s_X12_endFor s_X12_serves J38 J70 Q) := by
  refine zs_iconst C dX12_serves_67 (by decide) ?_
  refine zs_istore C dX12_serves_68 (by decide) ?_
  exact j70
def xX12_serves_66 (s_X12_isTurnLess : zq_Sp) (s_X12_has : zq_Sp) (s_X12_endFor : zq_Sp) (s_X12_serves : zq_Sp) (J38 : zq_P) (J70 : zq_P) (Q : zq_Q) (ls : zq_L) (st : List Value) (h : zq_H) : Prop := (zi_vret Q) ls st h
theorem kX12_serves_66 {X : zq_X} {d : Nat} (C : zq_C X cX12_serves 7 RX12 d) {d_X12_isTurnLess : Nat} {s_X12_isTurnLess : zq_Sp} (h_X12_isTurnLess : zq_M yX12_isTurnLess cX12_isTurnLess 3 (some .boolean) 1 d_X12_isTurnLess s_X12_isTurnLess) (g_X12_isTurnLess : d_X12_isTurnLess + 1 ≤ d) {d_X12_has : Nat} {s_X12_has : zq_Sp} (h_X12_has : zq_M yX12_has cX12_has 2 (some .boolean) 1 d_X12_has s_X12_has) (g_X12_has : d_X12_has + 1 ≤ d) {d_X12_endFor : Nat} {s_X12_endFor : zq_Sp} (h_X12_endFor : zq_M yX12_endFor cX12_endFor 7 (some .int) 1 d_X12_endFor s_X12_endFor) (g_X12_endFor : d_X12_endFor + 1 ≤ d) {d_X12_serves : Nat} {s_X12_serves : zq_Sp} (h_X12_serves : zq_M yX12_serves cX12_serves 7 none 0 d_X12_serves s_X12_serves) (g_X12_serves : d_X12_serves + 1 ≤ d) {J38 : zq_P} (j38 : zq_ok X 7 38 J38) {J70 : zq_P} (j70 : zq_ok X 7 70 J70) {Q : zq_Q} (hq : zq_R X none 0 Q) : zq_ok X 7 66 (xX12_serves_66 s_X12_isTurnLess s_X12_has s_X12_endFor s_X12_serves J38 J70 Q) := by
  exact zs_vret C hq dX12_serves_66
def xX12_serves_46 (s_X12_isTurnLess : zq_Sp) (s_X12_has : zq_Sp) (s_X12_endFor : zq_Sp) (s_X12_serves : zq_Sp) (J38 : zq_P) (J70 : zq_P) (Q : zq_Q) (ls : zq_L) (st : List Value) (h : zq_H) : Prop := (zi_aload 0 (zi_getR 56 82 (zi_iload 5 (zi_aload 0 (zi_getR 56 81 (zi_iload 5 (zi_aldI 81 12 (zi_astI 82 12 (zi_iinc 5 1 (J38)))))))))) ls st h
theorem kX12_serves_46 {X : zq_X} {d : Nat} (C : zq_C X cX12_serves 7 RX12 d) {d_X12_isTurnLess : Nat} {s_X12_isTurnLess : zq_Sp} (h_X12_isTurnLess : zq_M yX12_isTurnLess cX12_isTurnLess 3 (some .boolean) 1 d_X12_isTurnLess s_X12_isTurnLess) (g_X12_isTurnLess : d_X12_isTurnLess + 1 ≤ d) {d_X12_has : Nat} {s_X12_has : zq_Sp} (h_X12_has : zq_M yX12_has cX12_has 2 (some .boolean) 1 d_X12_has s_X12_has) (g_X12_has : d_X12_has + 1 ≤ d) {d_X12_endFor : Nat} {s_X12_endFor : zq_Sp} (h_X12_endFor : zq_M yX12_endFor cX12_endFor 7 (some .int) 1 d_X12_endFor s_X12_endFor) (g_X12_endFor : d_X12_endFor + 1 ≤ d) {d_X12_serves : Nat} {s_X12_serves : zq_Sp} (h_X12_serves : zq_M yX12_serves cX12_serves 7 none 0 d_X12_serves s_X12_serves) (g_X12_serves : d_X12_serves + 1 ≤ d) {J38 : zq_P} (j38 : zq_ok X 7 38 J38) {J70 : zq_P} (j70 : zq_ok X 7 70 J70) {Q : zq_Q} (hq : zq_R X none 0 Q) : zq_ok X 7 46 (xX12_serves_46 s_X12_isTurnLess s_X12_has s_X12_endFor s_X12_serves J38 J70 Q) := by
  refine zs_aload_n C dX12_serves_46 rfl ?_
  refine zs_getR C zp_56 zF12 (j := 39) ⟨by decide, rfl⟩ zw_1135 dX12_serves_47 ?_
  refine zs_iload C dX12_serves_50 ?_
  refine zs_aload_n C dX12_serves_52 rfl ?_
  refine zs_getR C zp_56 zF12 (j := 38) ⟨by decide, rfl⟩ zw_1134 dX12_serves_53 ?_
  refine zs_iload C dX12_serves_56 ?_
  refine zs_iaload C zp_81 dX12_serves_58 ?_
  refine zs_iastore C zp_82 dX12_serves_59 ?_
  refine zs_iinc C dX12_serves_60 (by decide) (by decide) ?_
  exact zs_goto C dX12_serves_63 (by decide) (j38)
def xX12_serves_38 (s_X12_isTurnLess : zq_Sp) (s_X12_has : zq_Sp) (s_X12_endFor : zq_Sp) (s_X12_serves : zq_Sp) (J38 : zq_P) (J70 : zq_P) (Q : zq_Q) (ls : zq_L) (st : List Value) (h : zq_H) : Prop := (zi_iload 5 (zi_push (.int 2) (zi_iload 3 (zi_i2 (fun x y => x * y) (zi_if2 (fun x y => y ≤ x) (xX12_serves_66 s_X12_isTurnLess s_X12_has s_X12_endFor s_X12_serves J38 J70 Q) (xX12_serves_46 s_X12_isTurnLess s_X12_has s_X12_endFor s_X12_serves J38 J70 Q)))))) ls st h
theorem kX12_serves_38 {X : zq_X} {d : Nat} (C : zq_C X cX12_serves 7 RX12 d) {d_X12_isTurnLess : Nat} {s_X12_isTurnLess : zq_Sp} (h_X12_isTurnLess : zq_M yX12_isTurnLess cX12_isTurnLess 3 (some .boolean) 1 d_X12_isTurnLess s_X12_isTurnLess) (g_X12_isTurnLess : d_X12_isTurnLess + 1 ≤ d) {d_X12_has : Nat} {s_X12_has : zq_Sp} (h_X12_has : zq_M yX12_has cX12_has 2 (some .boolean) 1 d_X12_has s_X12_has) (g_X12_has : d_X12_has + 1 ≤ d) {d_X12_endFor : Nat} {s_X12_endFor : zq_Sp} (h_X12_endFor : zq_M yX12_endFor cX12_endFor 7 (some .int) 1 d_X12_endFor s_X12_endFor) (g_X12_endFor : d_X12_endFor + 1 ≤ d) {d_X12_serves : Nat} {s_X12_serves : zq_Sp} (h_X12_serves : zq_M yX12_serves cX12_serves 7 none 0 d_X12_serves s_X12_serves) (g_X12_serves : d_X12_serves + 1 ≤ d) {J38 : zq_P} (j38 : zq_ok X 7 38 J38) {J70 : zq_P} (j70 : zq_ok X 7 70 J70) {Q : zq_Q} (hq : zq_R X none 0 Q) : zq_ok X 7 38 (xX12_serves_38 s_X12_isTurnLess s_X12_has s_X12_endFor s_X12_serves J38 J70 Q) := by
  refine zs_iload C dX12_serves_38 ?_
  refine zs_iconst C dX12_serves_40 (by decide) ?_
  refine zs_iload_n C dX12_serves_41 rfl ?_
  refine zs_imul C dX12_serves_42 ?_
  exact zs_icmp_ge C dX12_serves_43 (by decide) (kX12_serves_66 C h_X12_isTurnLess g_X12_isTurnLess h_X12_has g_X12_has h_X12_endFor g_X12_endFor h_X12_serves g_X12_serves j38 j70 hq) (kX12_serves_46 C h_X12_isTurnLess g_X12_isTurnLess h_X12_has g_X12_has h_X12_endFor g_X12_endFor h_X12_serves g_X12_serves j38 j70 hq)
def xX12_serves_30 (s_X12_isTurnLess : zq_Sp) (s_X12_has : zq_Sp) (s_X12_endFor : zq_Sp) (s_X12_serves : zq_Sp) (J38 : zq_P) (J70 : zq_P) (Q : zq_Q) (ls : zq_L) (st : List Value) (h : zq_H) : Prop := (zi_aload 0 (zi_iload 2 (zi_putI 56 40 (zi_push (.int 0) (zi_istore 5 (J38)))))) ls st h
theorem kX12_serves_30 {X : zq_X} {d : Nat} (C : zq_C X cX12_serves 7 RX12 d) {d_X12_isTurnLess : Nat} {s_X12_isTurnLess : zq_Sp} (h_X12_isTurnLess : zq_M yX12_isTurnLess cX12_isTurnLess 3 (some .boolean) 1 d_X12_isTurnLess s_X12_isTurnLess) (g_X12_isTurnLess : d_X12_isTurnLess + 1 ≤ d) {d_X12_has : Nat} {s_X12_has : zq_Sp} (h_X12_has : zq_M yX12_has cX12_has 2 (some .boolean) 1 d_X12_has s_X12_has) (g_X12_has : d_X12_has + 1 ≤ d) {d_X12_endFor : Nat} {s_X12_endFor : zq_Sp} (h_X12_endFor : zq_M yX12_endFor cX12_endFor 7 (some .int) 1 d_X12_endFor s_X12_endFor) (g_X12_endFor : d_X12_endFor + 1 ≤ d) {d_X12_serves : Nat} {s_X12_serves : zq_Sp} (h_X12_serves : zq_M yX12_serves cX12_serves 7 none 0 d_X12_serves s_X12_serves) (g_X12_serves : d_X12_serves + 1 ≤ d) {J38 : zq_P} (j38 : zq_ok X 7 38 J38) {J70 : zq_P} (j70 : zq_ok X 7 70 J70) {Q : zq_Q} (hq : zq_R X none 0 Q) : zq_ok X 7 30 (xX12_serves_30 s_X12_isTurnLess s_X12_has s_X12_endFor s_X12_serves J38 J70 Q) := by
  refine zs_aload_n C dX12_serves_30 rfl ?_
  refine zs_iload_n C dX12_serves_31 rfl ?_
  refine zs_putI C zp_56 zF12 (j := 40) ⟨by decide, rfl⟩ ⟨rfl, by decide +kernel⟩ zw_1136 dX12_serves_32 ?_
  refine zs_iconst C dX12_serves_35 (by decide) ?_
  refine zs_istore C dX12_serves_36 (by decide) ?_
  exact j38
def xX12_serves_20 (s_X12_isTurnLess : zq_Sp) (s_X12_has : zq_Sp) (s_X12_endFor : zq_Sp) (s_X12_serves : zq_Sp) (J38 : zq_P) (J70 : zq_P) (Q : zq_Q) (ls : zq_L) (st : List Value) (h : zq_H) : Prop := (zi_aload 0 (zi_push (.int 2) (zi_iload 3 (zi_i2 (fun x y => x * y) (zi_callV 1 56 s_X12_isTurnLess (zi_if1 (fun x => x = 0) (xX12_serves_66 s_X12_isTurnLess s_X12_has s_X12_endFor s_X12_serves J38 J70 Q) (xX12_serves_30 s_X12_isTurnLess s_X12_has s_X12_endFor s_X12_serves J38 J70 Q))))))) ls st h
theorem kX12_serves_20 {X : zq_X} {d : Nat} (C : zq_C X cX12_serves 7 RX12 d) {d_X12_isTurnLess : Nat} {s_X12_isTurnLess : zq_Sp} (h_X12_isTurnLess : zq_M yX12_isTurnLess cX12_isTurnLess 3 (some .boolean) 1 d_X12_isTurnLess s_X12_isTurnLess) (g_X12_isTurnLess : d_X12_isTurnLess + 1 ≤ d) {d_X12_has : Nat} {s_X12_has : zq_Sp} (h_X12_has : zq_M yX12_has cX12_has 2 (some .boolean) 1 d_X12_has s_X12_has) (g_X12_has : d_X12_has + 1 ≤ d) {d_X12_endFor : Nat} {s_X12_endFor : zq_Sp} (h_X12_endFor : zq_M yX12_endFor cX12_endFor 7 (some .int) 1 d_X12_endFor s_X12_endFor) (g_X12_endFor : d_X12_endFor + 1 ≤ d) {d_X12_serves : Nat} {s_X12_serves : zq_Sp} (h_X12_serves : zq_M yX12_serves cX12_serves 7 none 0 d_X12_serves s_X12_serves) (g_X12_serves : d_X12_serves + 1 ≤ d) {J38 : zq_P} (j38 : zq_ok X 7 38 J38) {J70 : zq_P} (j70 : zq_ok X 7 70 J70) {Q : zq_Q} (hq : zq_R X none 0 Q) : zq_ok X 7 20 (xX12_serves_20 s_X12_isTurnLess s_X12_has s_X12_endFor s_X12_serves J38 J70 Q) := by
  refine zs_aload_n C dX12_serves_20 rfl ?_
  refine zs_iconst C dX12_serves_21 (by decide) ?_
  refine zs_iload_n C dX12_serves_22 rfl ?_
  refine zs_imul C dX12_serves_23 ?_
  refine zs_callV C h_X12_isTurnLess g_X12_isTurnLess zy_X12_isTurnLess zp_56 (show vwCl[12]? = some (RX12, TX12, 67) from rfl) zw_1622 zw_1624 zs9_X12_isTurnLess dX12_serves_24 ?_
  exact zs_if_eq C dX12_serves_27 (by decide) (kX12_serves_66 C h_X12_isTurnLess g_X12_isTurnLess h_X12_has g_X12_has h_X12_endFor g_X12_endFor h_X12_serves g_X12_serves j38 j70 hq) (kX12_serves_30 C h_X12_isTurnLess g_X12_isTurnLess h_X12_has g_X12_has h_X12_endFor g_X12_endFor h_X12_serves g_X12_serves j38 j70 hq)
def xX12_serves_12 (s_X12_isTurnLess : zq_Sp) (s_X12_has : zq_Sp) (s_X12_endFor : zq_Sp) (s_X12_serves : zq_Sp) (J38 : zq_P) (J70 : zq_P) (Q : zq_Q) (ls : zq_L) (st : List Value) (h : zq_H) : Prop := (zi_iload 2 (zi_aload 0 (zi_getI 56 40 (zi_if2 (fun x y => x = y) (xX12_serves_20 s_X12_isTurnLess s_X12_has s_X12_endFor s_X12_serves J38 J70 Q) (xX12_serves_66 s_X12_isTurnLess s_X12_has s_X12_endFor s_X12_serves J38 J70 Q))))) ls st h
theorem kX12_serves_12 {X : zq_X} {d : Nat} (C : zq_C X cX12_serves 7 RX12 d) {d_X12_isTurnLess : Nat} {s_X12_isTurnLess : zq_Sp} (h_X12_isTurnLess : zq_M yX12_isTurnLess cX12_isTurnLess 3 (some .boolean) 1 d_X12_isTurnLess s_X12_isTurnLess) (g_X12_isTurnLess : d_X12_isTurnLess + 1 ≤ d) {d_X12_has : Nat} {s_X12_has : zq_Sp} (h_X12_has : zq_M yX12_has cX12_has 2 (some .boolean) 1 d_X12_has s_X12_has) (g_X12_has : d_X12_has + 1 ≤ d) {d_X12_endFor : Nat} {s_X12_endFor : zq_Sp} (h_X12_endFor : zq_M yX12_endFor cX12_endFor 7 (some .int) 1 d_X12_endFor s_X12_endFor) (g_X12_endFor : d_X12_endFor + 1 ≤ d) {d_X12_serves : Nat} {s_X12_serves : zq_Sp} (h_X12_serves : zq_M yX12_serves cX12_serves 7 none 0 d_X12_serves s_X12_serves) (g_X12_serves : d_X12_serves + 1 ≤ d) {J38 : zq_P} (j38 : zq_ok X 7 38 J38) {J70 : zq_P} (j70 : zq_ok X 7 70 J70) {Q : zq_Q} (hq : zq_R X none 0 Q) : zq_ok X 7 12 (xX12_serves_12 s_X12_isTurnLess s_X12_has s_X12_endFor s_X12_serves J38 J70 Q) := by
  refine zs_iload_n C dX12_serves_12 rfl ?_
  refine zs_aload_n C dX12_serves_13 rfl ?_
  refine zs_getI C zp_56 zF12 (j := 40) ⟨by decide, rfl⟩ zw_1136 dX12_serves_14 ?_
  exact zs_icmp_ne C dX12_serves_17 (by decide) (kX12_serves_66 C h_X12_isTurnLess g_X12_isTurnLess h_X12_has g_X12_has h_X12_endFor g_X12_endFor h_X12_serves g_X12_serves j38 j70 hq) (kX12_serves_20 C h_X12_isTurnLess g_X12_isTurnLess h_X12_has g_X12_has h_X12_endFor g_X12_endFor h_X12_serves g_X12_serves j38 j70 hq)
def xX12_serves_4 (s_X12_isTurnLess : zq_Sp) (s_X12_has : zq_Sp) (s_X12_endFor : zq_Sp) (s_X12_serves : zq_Sp) (J38 : zq_P) (J70 : zq_P) (Q : zq_Q) (ls : zq_L) (st : List Value) (h : zq_H) : Prop := (zi_iload 2 (zi_aload 0 (zi_getI 56 40 (zi_if2 (fun x y => x < y) (xX12_serves_30 s_X12_isTurnLess s_X12_has s_X12_endFor s_X12_serves J38 J70 Q) (xX12_serves_12 s_X12_isTurnLess s_X12_has s_X12_endFor s_X12_serves J38 J70 Q))))) ls st h
theorem kX12_serves_4 {X : zq_X} {d : Nat} (C : zq_C X cX12_serves 7 RX12 d) {d_X12_isTurnLess : Nat} {s_X12_isTurnLess : zq_Sp} (h_X12_isTurnLess : zq_M yX12_isTurnLess cX12_isTurnLess 3 (some .boolean) 1 d_X12_isTurnLess s_X12_isTurnLess) (g_X12_isTurnLess : d_X12_isTurnLess + 1 ≤ d) {d_X12_has : Nat} {s_X12_has : zq_Sp} (h_X12_has : zq_M yX12_has cX12_has 2 (some .boolean) 1 d_X12_has s_X12_has) (g_X12_has : d_X12_has + 1 ≤ d) {d_X12_endFor : Nat} {s_X12_endFor : zq_Sp} (h_X12_endFor : zq_M yX12_endFor cX12_endFor 7 (some .int) 1 d_X12_endFor s_X12_endFor) (g_X12_endFor : d_X12_endFor + 1 ≤ d) {d_X12_serves : Nat} {s_X12_serves : zq_Sp} (h_X12_serves : zq_M yX12_serves cX12_serves 7 none 0 d_X12_serves s_X12_serves) (g_X12_serves : d_X12_serves + 1 ≤ d) {J38 : zq_P} (j38 : zq_ok X 7 38 J38) {J70 : zq_P} (j70 : zq_ok X 7 70 J70) {Q : zq_Q} (hq : zq_R X none 0 Q) : zq_ok X 7 4 (xX12_serves_4 s_X12_isTurnLess s_X12_has s_X12_endFor s_X12_serves J38 J70 Q) := by
  refine zs_iload_n C dX12_serves_4 rfl ?_
  refine zs_aload_n C dX12_serves_5 rfl ?_
  refine zs_getI C zp_56 zF12 (j := 40) ⟨by decide, rfl⟩ zw_1136 dX12_serves_6 ?_
  exact zs_icmp_lt C dX12_serves_9 (by decide) (kX12_serves_30 C h_X12_isTurnLess g_X12_isTurnLess h_X12_has g_X12_has h_X12_endFor g_X12_endFor h_X12_serves g_X12_serves j38 j70 hq) (kX12_serves_12 C h_X12_isTurnLess g_X12_isTurnLess h_X12_has g_X12_has h_X12_endFor g_X12_endFor h_X12_serves g_X12_serves j38 j70 hq)
def xX12_serves_0 (s_X12_isTurnLess : zq_Sp) (s_X12_has : zq_Sp) (s_X12_endFor : zq_Sp) (s_X12_serves : zq_Sp) (J38 : zq_P) (J70 : zq_P) (Q : zq_Q) (ls : zq_L) (st : List Value) (h : zq_H) : Prop := (zi_iload 1 (zi_if1 (fun x => x = 0) (xX12_serves_4 s_X12_isTurnLess s_X12_has s_X12_endFor s_X12_serves J38 J70 Q) (xX12_serves_67 s_X12_isTurnLess s_X12_has s_X12_endFor s_X12_serves J38 J70 Q))) ls st h
theorem kX12_serves_0 {X : zq_X} {d : Nat} (C : zq_C X cX12_serves 7 RX12 d) {d_X12_isTurnLess : Nat} {s_X12_isTurnLess : zq_Sp} (h_X12_isTurnLess : zq_M yX12_isTurnLess cX12_isTurnLess 3 (some .boolean) 1 d_X12_isTurnLess s_X12_isTurnLess) (g_X12_isTurnLess : d_X12_isTurnLess + 1 ≤ d) {d_X12_has : Nat} {s_X12_has : zq_Sp} (h_X12_has : zq_M yX12_has cX12_has 2 (some .boolean) 1 d_X12_has s_X12_has) (g_X12_has : d_X12_has + 1 ≤ d) {d_X12_endFor : Nat} {s_X12_endFor : zq_Sp} (h_X12_endFor : zq_M yX12_endFor cX12_endFor 7 (some .int) 1 d_X12_endFor s_X12_endFor) (g_X12_endFor : d_X12_endFor + 1 ≤ d) {d_X12_serves : Nat} {s_X12_serves : zq_Sp} (h_X12_serves : zq_M yX12_serves cX12_serves 7 none 0 d_X12_serves s_X12_serves) (g_X12_serves : d_X12_serves + 1 ≤ d) {J38 : zq_P} (j38 : zq_ok X 7 38 J38) {J70 : zq_P} (j70 : zq_ok X 7 70 J70) {Q : zq_Q} (hq : zq_R X none 0 Q) : zq_ok X 7 0 (xX12_serves_0 s_X12_isTurnLess s_X12_has s_X12_endFor s_X12_serves J38 J70 Q) := by
  refine zs_iload_n C dX12_serves_0 rfl ?_
  exact zs_if_ne C dX12_serves_1 (by decide) (kX12_serves_67 C h_X12_isTurnLess g_X12_isTurnLess h_X12_has g_X12_has h_X12_endFor g_X12_endFor h_X12_serves g_X12_serves j38 j70 hq) (kX12_serves_4 C h_X12_isTurnLess g_X12_isTurnLess h_X12_has g_X12_has h_X12_endFor g_X12_endFor h_X12_serves g_X12_serves j38 j70 hq)
theorem mX12_serves {d : Nat} {spec : zq_Sp} {σ38 : Type} {σ70 : Type} {d_X12_isTurnLess : Nat} {s_X12_isTurnLess : zq_Sp} (h_X12_isTurnLess : zq_M yX12_isTurnLess cX12_isTurnLess 3 (some .boolean) 1 d_X12_isTurnLess s_X12_isTurnLess) (g_X12_isTurnLess : d_X12_isTurnLess + 1 ≤ d) {d_X12_has : Nat} {s_X12_has : zq_Sp} (h_X12_has : zq_M yX12_has cX12_has 2 (some .boolean) 1 d_X12_has s_X12_has) (g_X12_has : d_X12_has + 1 ≤ d) {d_X12_endFor : Nat} {s_X12_endFor : zq_Sp} (h_X12_endFor : zq_M yX12_endFor cX12_endFor 7 (some .int) 1 d_X12_endFor s_X12_endFor) (g_X12_endFor : d_X12_endFor + 1 ≤ d) {d_X12_serves : Nat} {s_X12_serves : zq_Sp} (h_X12_serves : zq_M yX12_serves cX12_serves 7 none 0 d_X12_serves s_X12_serves) (g_X12_serves : d_X12_serves + 1 ≤ d) (μ38 : σ38 → Nat) (I38 : zq_Q → σ38 → zq_P) (μ70 : σ70 → Nat) (I70 : zq_Q → σ70 → zq_P) (v : ∀ args h Q, spec args h Q → (zq_a args).length ≤ 7 ∧ xX12_serves_0 s_X12_isTurnLess s_X12_has s_X12_endFor s_X12_serves (fun ls st h => ∃ b, I38 Q b ls st h) (fun ls st h => ∃ b, I70 Q b ls st h) Q (zq_l0 7 args) [] h) (v38 : ∀ Q a ls st h, I38 Q a ls st h → xX12_serves_38 s_X12_isTurnLess s_X12_has s_X12_endFor s_X12_serves (fun ls st h => ∃ b, μ38 b < μ38 a ∧ I38 Q b ls st h) (fun ls st h => ∃ b, μ70 b < μ38 a ∧ I70 Q b ls st h) Q ls st h) (v70 : ∀ Q a ls st h, I70 Q a ls st h → xX12_serves_70 s_X12_isTurnLess s_X12_has s_X12_endFor s_X12_serves (fun ls st h => ∃ b, μ38 b < μ70 a ∧ I38 Q b ls st h) (fun ls st h => ∃ b, μ70 b < μ70 a ∧ I70 Q b ls st h) Q ls st h) : zq_M yX12_serves cX12_serves 7 none 0 d spec := by
  refine zq_met (by decide +kernel) (by decide) (fun X Q args h C hq hs => ⟨(v args h Q hs).1, _, ?_, (v args h Q hs).2⟩)
  have hl := zq_loop2 (X := X) (nL := 7) (pc1 := 38) (pc2 := 70) μ38 μ70 (I38 Q) (I70 Q) (fun J38 J70 => xX12_serves_38 s_X12_isTurnLess s_X12_has s_X12_endFor s_X12_serves J38 J70 Q) (fun J38 J70 => xX12_serves_70 s_X12_isTurnLess s_X12_has s_X12_endFor s_X12_serves J38 J70 Q) (fun j38 j70 => kX12_serves_38 C h_X12_isTurnLess g_X12_isTurnLess h_X12_has g_X12_has h_X12_endFor g_X12_endFor h_X12_serves g_X12_serves j38 j70 hq) (fun j38 j70 => kX12_serves_70 C h_X12_isTurnLess g_X12_isTurnLess h_X12_has g_X12_has h_X12_endFor g_X12_endFor h_X12_serves g_X12_serves j38 j70 hq) (v38 Q) (v70 Q)
  exact kX12_serves_0 C h_X12_isTurnLess g_X12_isTurnLess h_X12_has g_X12_has h_X12_endFor g_X12_endFor h_X12_serves g_X12_serves hl.1 hl.2 hq
/-! ToOneCrumbModel.canServe(II)Z -/
theorem dX12_canServe_0 : decode cX12_canServe 0 = .ok (.aload_n 0, 1) := by decide +kernel
theorem dX12_canServe_1 : decode cX12_canServe 1 = .ok (.sipush 1000, 3) := by decide +kernel
theorem dX12_canServe_4 : decode cX12_canServe 4 = .ok (.putfield 377, 3) := by decide +kernel
theorem dX12_canServe_7 : decode cX12_canServe 7 = .ok (.aload_n 0, 1) := by decide +kernel
theorem dX12_canServe_8 : decode cX12_canServe 8 = .ok (.iload_n 1, 1) := by decide +kernel
theorem dX12_canServe_9 : decode cX12_canServe 9 = .ok (.iconst 0, 1) := by decide +kernel
theorem dX12_canServe_10 : decode cX12_canServe 10 = .ok (.iconst 0, 1) := by decide +kernel
theorem dX12_canServe_11 : decode cX12_canServe 11 = .ok (.iload_n 2, 1) := by decide +kernel
theorem dX12_canServe_12 : decode cX12_canServe 12 = .ok (.invokevirtual 388, 3) := by decide +kernel
theorem dX12_canServe_15 : decode cX12_canServe 15 = .ok (.aload_n 0, 1) := by decide +kernel
theorem dX12_canServe_16 : decode cX12_canServe 16 = .ok (.getfield 377, 3) := by decide +kernel
theorem dX12_canServe_19 : decode cX12_canServe 19 = .ok (.sipush 1000, 3) := by decide +kernel
theorem dX12_canServe_22 : decode cX12_canServe 22 = .ok (.if_icmp .ge 7, 3) := by decide +kernel
theorem dX12_canServe_25 : decode cX12_canServe 25 = .ok (.iconst 1, 1) := by decide +kernel
theorem dX12_canServe_26 : decode cX12_canServe 26 = .ok (.goto 4, 3) := by decide +kernel
theorem dX12_canServe_29 : decode cX12_canServe 29 = .ok (.iconst 0, 1) := by decide +kernel
theorem dX12_canServe_30 : decode cX12_canServe 30 = .ok (.ireturn, 1) := by decide +kernel
def xX12_canServe_30 (s_X12_serves : zq_Sp) (Q : zq_Q) (ls : zq_L) (st : List Value) (h : zq_H) : Prop := (zi_zret Q) ls st h
theorem kX12_canServe_30 {X : zq_X} {d : Nat} (C : zq_C X cX12_canServe 3 RX12 d) {d_X12_serves : Nat} {s_X12_serves : zq_Sp} (h_X12_serves : zq_M yX12_serves cX12_serves 7 none 0 d_X12_serves s_X12_serves) (g_X12_serves : d_X12_serves + 1 ≤ d) {Q : zq_Q} (hq : zq_R X (some .boolean) 1 Q) : zq_ok X 3 30 (xX12_canServe_30 s_X12_serves Q) := by
  exact zs_zret C hq dX12_canServe_30
def xX12_canServe_29 (s_X12_serves : zq_Sp) (Q : zq_Q) (ls : zq_L) (st : List Value) (h : zq_H) : Prop := (zi_push (.int 0) ((xX12_canServe_30 s_X12_serves Q))) ls st h
theorem kX12_canServe_29 {X : zq_X} {d : Nat} (C : zq_C X cX12_canServe 3 RX12 d) {d_X12_serves : Nat} {s_X12_serves : zq_Sp} (h_X12_serves : zq_M yX12_serves cX12_serves 7 none 0 d_X12_serves s_X12_serves) (g_X12_serves : d_X12_serves + 1 ≤ d) {Q : zq_Q} (hq : zq_R X (some .boolean) 1 Q) : zq_ok X 3 29 (xX12_canServe_29 s_X12_serves Q) := by
  refine zs_iconst C dX12_canServe_29 (by decide) ?_
  exact kX12_canServe_30 C h_X12_serves g_X12_serves hq
def xX12_canServe_25 (s_X12_serves : zq_Sp) (Q : zq_Q) (ls : zq_L) (st : List Value) (h : zq_H) : Prop := (zi_push (.int 1) ((xX12_canServe_30 s_X12_serves Q))) ls st h
theorem kX12_canServe_25 {X : zq_X} {d : Nat} (C : zq_C X cX12_canServe 3 RX12 d) {d_X12_serves : Nat} {s_X12_serves : zq_Sp} (h_X12_serves : zq_M yX12_serves cX12_serves 7 none 0 d_X12_serves s_X12_serves) (g_X12_serves : d_X12_serves + 1 ≤ d) {Q : zq_Q} (hq : zq_R X (some .boolean) 1 Q) : zq_ok X 3 25 (xX12_canServe_25 s_X12_serves Q) := by
  refine zs_iconst C dX12_canServe_25 (by decide) ?_
  exact zs_goto C dX12_canServe_26 (by decide) (kX12_canServe_30 C h_X12_serves g_X12_serves hq)
def xX12_canServe_0 (s_X12_serves : zq_Sp) (Q : zq_Q) (ls : zq_L) (st : List Value) (h : zq_H) : Prop := (zi_aload 0 (zi_push (.int 1000) (zi_putI 56 40 (zi_aload 0 (zi_iload 1 (zi_push (.int 0) (zi_push (.int 0) (zi_iload 2 (zi_callV 4 56 s_X12_serves (zi_aload 0 (zi_getI 56 40 (zi_push (.int 1000) (zi_if2 (fun x y => y ≤ x) (xX12_canServe_29 s_X12_serves Q) (xX12_canServe_25 s_X12_serves Q)))))))))))))) ls st h
theorem kX12_canServe_0 {X : zq_X} {d : Nat} (C : zq_C X cX12_canServe 3 RX12 d) {d_X12_serves : Nat} {s_X12_serves : zq_Sp} (h_X12_serves : zq_M yX12_serves cX12_serves 7 none 0 d_X12_serves s_X12_serves) (g_X12_serves : d_X12_serves + 1 ≤ d) {Q : zq_Q} (hq : zq_R X (some .boolean) 1 Q) : zq_ok X 3 0 (xX12_canServe_0 s_X12_serves Q) := by
  refine zs_aload_n C dX12_canServe_0 rfl ?_
  refine zs_sipush C dX12_canServe_1 (by decide) ?_
  refine zs_putI C zp_56 zF12 (j := 40) ⟨by decide, rfl⟩ ⟨rfl, by decide +kernel⟩ zw_1136 dX12_canServe_4 ?_
  refine zs_aload_n C dX12_canServe_7 rfl ?_
  refine zs_iload_n C dX12_canServe_8 rfl ?_
  refine zs_iconst C dX12_canServe_9 (by decide) ?_
  refine zs_iconst C dX12_canServe_10 (by decide) ?_
  refine zs_iload_n C dX12_canServe_11 rfl ?_
  refine zs_callV C h_X12_serves g_X12_serves zy_X12_serves zp_56 (show vwCl[12]? = some (RX12, TX12, 67) from rfl) zw_1618 zw_1620 zs9_X12_serves dX12_canServe_12 ?_
  refine zs_aload_n C dX12_canServe_15 rfl ?_
  refine zs_getI C zp_56 zF12 (j := 40) ⟨by decide, rfl⟩ zw_1136 dX12_canServe_16 ?_
  refine zs_sipush C dX12_canServe_19 (by decide) ?_
  exact zs_icmp_ge C dX12_canServe_22 (by decide) (kX12_canServe_29 C h_X12_serves g_X12_serves hq) (kX12_canServe_25 C h_X12_serves g_X12_serves hq)
theorem mX12_canServe {d : Nat} {spec : zq_Sp} {d_X12_serves : Nat} {s_X12_serves : zq_Sp} (h_X12_serves : zq_M yX12_serves cX12_serves 7 none 0 d_X12_serves s_X12_serves) (g_X12_serves : d_X12_serves + 1 ≤ d) (v : ∀ args h Q, spec args h Q → (zq_a args).length ≤ 3 ∧ xX12_canServe_0 s_X12_serves Q (zq_l0 3 args) [] h) : zq_M yX12_canServe cX12_canServe 3 (some .boolean) 1 d spec := by
  refine zq_met (by decide +kernel) (by decide) (fun X Q args h C hq hs => ⟨(v args h Q hs).1, _, ?_, (v args h Q hs).2⟩)
  exact kX12_canServe_0 C h_X12_serves g_X12_serves hq
/-! ToOneCrumbModel.slices(I)I -/
theorem dX12_slices_0 : decode cX12_slices 0 = .ok (.aload_n 0, 1) := by decide +kernel
theorem dX12_slices_1 : decode cX12_slices 1 = .ok (.iconst 0, 1) := by decide +kernel
theorem dX12_slices_2 : decode cX12_slices 2 = .ok (.putfield 147, 3) := by decide +kernel
theorem dX12_slices_5 : decode cX12_slices 5 = .ok (.iload_n 1, 1) := by decide +kernel
theorem dX12_slices_6 : decode cX12_slices 6 = .ok (.i2l, 1) := by decide +kernel
theorem dX12_slices_7 : decode cX12_slices 7 = .ok (.lconst 0, 1) := by decide +kernel
theorem dX12_slices_8 : decode cX12_slices 8 = .ok (.aload_n 0, 1) := by decide +kernel
theorem dX12_slices_9 : decode cX12_slices 9 = .ok (.invokevirtual 392, 3) := by decide +kernel
theorem dX12_slices_12 : decode cX12_slices 12 = .ok (.i2l, 1) := by decide +kernel
theorem dX12_slices_13 : decode cX12_slices 13 = .ok (.invokestatic 161, 3) := by decide +kernel
theorem dX12_slices_16 : decode cX12_slices 16 = .ok (.ifCond .ne 5, 3) := by decide +kernel
theorem dX12_slices_19 : decode cX12_slices 19 = .ok (.iconst (-1), 1) := by decide +kernel
theorem dX12_slices_20 : decode cX12_slices 20 = .ok (.ireturn, 1) := by decide +kernel
theorem dX12_slices_21 : decode cX12_slices 21 = .ok (.aload_n 0, 1) := by decide +kernel
theorem dX12_slices_22 : decode cX12_slices 22 = .ok (.invokevirtual 318, 3) := by decide +kernel
theorem dX12_slices_25 : decode cX12_slices 25 = .ok (.aload_n 0, 1) := by decide +kernel
theorem dX12_slices_26 : decode cX12_slices 26 = .ok (.iload_n 1, 1) := by decide +kernel
theorem dX12_slices_27 : decode cX12_slices 27 = .ok (.bipush 100, 2) := by decide +kernel
theorem dX12_slices_29 : decode cX12_slices 29 = .ok (.invokevirtual 395, 3) := by decide +kernel
theorem dX12_slices_32 : decode cX12_slices 32 = .ok (.ifCond .ne 6, 3) := by decide +kernel
theorem dX12_slices_35 : decode cX12_slices 35 = .ok (.bipush (-2), 2) := by decide +kernel
theorem dX12_slices_37 : decode cX12_slices 37 = .ok (.ireturn, 1) := by decide +kernel
theorem dX12_slices_38 : decode cX12_slices 38 = .ok (.aload_n 0, 1) := by decide +kernel
theorem dX12_slices_39 : decode cX12_slices 39 = .ok (.iconst 0, 1) := by decide +kernel
theorem dX12_slices_40 : decode cX12_slices 40 = .ok (.putfield 155, 3) := by decide +kernel
theorem dX12_slices_43 : decode cX12_slices 43 = .ok (.iconst 0, 1) := by decide +kernel
theorem dX12_slices_44 : decode cX12_slices 44 = .ok (.istore_n 2, 1) := by decide +kernel
theorem dX12_slices_45 : decode cX12_slices 45 = .ok (.iload_n 2, 1) := by decide +kernel
theorem dX12_slices_46 : decode cX12_slices 46 = .ok (.iconst 2, 1) := by decide +kernel
theorem dX12_slices_47 : decode cX12_slices 47 = .ok (.iload_n 1, 1) := by decide +kernel
theorem dX12_slices_48 : decode cX12_slices 48 = .ok (.invokestatic 372, 3) := by decide +kernel
theorem dX12_slices_51 : decode cX12_slices 51 = .ok (.imul, 1) := by decide +kernel
theorem dX12_slices_52 : decode cX12_slices 52 = .ok (.if_icmp .ge 20, 3) := by decide +kernel
theorem dX12_slices_55 : decode cX12_slices 55 = .ok (.aload_n 0, 1) := by decide +kernel
theorem dX12_slices_56 : decode cX12_slices 56 = .ok (.aload_n 0, 1) := by decide +kernel
theorem dX12_slices_57 : decode cX12_slices 57 = .ok (.getfield 87, 3) := by decide +kernel
theorem dX12_slices_60 : decode cX12_slices 60 = .ok (.iload_n 2, 1) := by decide +kernel
theorem dX12_slices_61 : decode cX12_slices 61 = .ok (.iaload, 1) := by decide +kernel
theorem dX12_slices_62 : decode cX12_slices 62 = .ok (.i2l, 1) := by decide +kernel
theorem dX12_slices_63 : decode cX12_slices 63 = .ok (.invokevirtual 368, 3) := by decide +kernel
theorem dX12_slices_66 : decode cX12_slices 66 = .ok (.iinc 2 1, 3) := by decide +kernel
theorem dX12_slices_69 : decode cX12_slices 69 = .ok (.goto (-24), 3) := by decide +kernel
theorem dX12_slices_72 : decode cX12_slices 72 = .ok (.aload_n 0, 1) := by decide +kernel
theorem dX12_slices_73 : decode cX12_slices 73 = .ok (.getfield 377, 3) := by decide +kernel
theorem dX12_slices_76 : decode cX12_slices 76 = .ok (.ireturn, 1) := by decide +kernel
def xX12_slices_72 (s_X12_all : zq_Sp) (s_X12_in : zq_Sp) (s_X12_laysTable : zq_Sp) (s_X12_canServe : zq_Sp) (s_J6_bitCount_0f7a4 : zq_Sp) (s_X12_enters : zq_Sp) (J45 : zq_P) (Q : zq_Q) (ls : zq_L) (st : List Value) (h : zq_H) : Prop := (zi_aload 0 (zi_getI 56 40 (zi_iret Q))) ls st h
theorem kX12_slices_72 {X : zq_X} {d : Nat} (C : zq_C X cX12_slices 3 RX12 d) {d_X12_all : Nat} {s_X12_all : zq_Sp} (h_X12_all : zq_M yX12_all cX12_all 1 (some .int) 1 d_X12_all s_X12_all) (g_X12_all : d_X12_all + 1 ≤ d) {d_X12_in : Nat} {s_X12_in : zq_Sp} (h_X12_in : zq_M yX12_in cX12_in 6 (some .boolean) 1 d_X12_in s_X12_in) (g_X12_in : d_X12_in + 1 ≤ d) {d_X12_laysTable : Nat} {s_X12_laysTable : zq_Sp} (h_X12_laysTable : zq_M yX12_laysTable cX12_laysTable 3 none 0 d_X12_laysTable s_X12_laysTable) (g_X12_laysTable : d_X12_laysTable + 1 ≤ d) {d_X12_canServe : Nat} {s_X12_canServe : zq_Sp} (h_X12_canServe : zq_M yX12_canServe cX12_canServe 3 (some .boolean) 1 d_X12_canServe s_X12_canServe) (g_X12_canServe : d_X12_canServe + 1 ≤ d) {d_J6_bitCount_0f7a4 : Nat} {s_J6_bitCount_0f7a4 : zq_Sp} (h_J6_bitCount_0f7a4 : zq_M yJ6_bitCount_0f7a4 cJ6_bitCount_0f7a4 1 (some .int) 1 d_J6_bitCount_0f7a4 s_J6_bitCount_0f7a4) (g_J6_bitCount_0f7a4 : d_J6_bitCount_0f7a4 + 1 ≤ d) {d_X12_enters : Nat} {s_X12_enters : zq_Sp} (h_X12_enters : zq_M yX12_enters cX12_enters 3 none 0 d_X12_enters s_X12_enters) (g_X12_enters : d_X12_enters + 1 ≤ d) {J45 : zq_P} (j45 : zq_ok X 3 45 J45) {Q : zq_Q} (hq : zq_R X (some .int) 1 Q) : zq_ok X 3 72 (xX12_slices_72 s_X12_all s_X12_in s_X12_laysTable s_X12_canServe s_J6_bitCount_0f7a4 s_X12_enters J45 Q) := by
  refine zs_aload_n C dX12_slices_72 rfl ?_
  refine zs_getI C zp_56 zF12 (j := 40) ⟨by decide, rfl⟩ zw_1136 dX12_slices_73 ?_
  exact zs_iret C hq dX12_slices_76
def xX12_slices_55 (s_X12_all : zq_Sp) (s_X12_in : zq_Sp) (s_X12_laysTable : zq_Sp) (s_X12_canServe : zq_Sp) (s_J6_bitCount_0f7a4 : zq_Sp) (s_X12_enters : zq_Sp) (J45 : zq_P) (Q : zq_Q) (ls : zq_L) (st : List Value) (h : zq_H) : Prop := (zi_aload 0 (zi_aload 0 (zi_getR 56 82 (zi_iload 2 (zi_aldI 82 12 (zi_i2l (zi_callV 1 56 s_X12_enters (zi_iinc 2 1 (J45))))))))) ls st h
theorem kX12_slices_55 {X : zq_X} {d : Nat} (C : zq_C X cX12_slices 3 RX12 d) {d_X12_all : Nat} {s_X12_all : zq_Sp} (h_X12_all : zq_M yX12_all cX12_all 1 (some .int) 1 d_X12_all s_X12_all) (g_X12_all : d_X12_all + 1 ≤ d) {d_X12_in : Nat} {s_X12_in : zq_Sp} (h_X12_in : zq_M yX12_in cX12_in 6 (some .boolean) 1 d_X12_in s_X12_in) (g_X12_in : d_X12_in + 1 ≤ d) {d_X12_laysTable : Nat} {s_X12_laysTable : zq_Sp} (h_X12_laysTable : zq_M yX12_laysTable cX12_laysTable 3 none 0 d_X12_laysTable s_X12_laysTable) (g_X12_laysTable : d_X12_laysTable + 1 ≤ d) {d_X12_canServe : Nat} {s_X12_canServe : zq_Sp} (h_X12_canServe : zq_M yX12_canServe cX12_canServe 3 (some .boolean) 1 d_X12_canServe s_X12_canServe) (g_X12_canServe : d_X12_canServe + 1 ≤ d) {d_J6_bitCount_0f7a4 : Nat} {s_J6_bitCount_0f7a4 : zq_Sp} (h_J6_bitCount_0f7a4 : zq_M yJ6_bitCount_0f7a4 cJ6_bitCount_0f7a4 1 (some .int) 1 d_J6_bitCount_0f7a4 s_J6_bitCount_0f7a4) (g_J6_bitCount_0f7a4 : d_J6_bitCount_0f7a4 + 1 ≤ d) {d_X12_enters : Nat} {s_X12_enters : zq_Sp} (h_X12_enters : zq_M yX12_enters cX12_enters 3 none 0 d_X12_enters s_X12_enters) (g_X12_enters : d_X12_enters + 1 ≤ d) {J45 : zq_P} (j45 : zq_ok X 3 45 J45) {Q : zq_Q} (hq : zq_R X (some .int) 1 Q) : zq_ok X 3 55 (xX12_slices_55 s_X12_all s_X12_in s_X12_laysTable s_X12_canServe s_J6_bitCount_0f7a4 s_X12_enters J45 Q) := by
  refine zs_aload_n C dX12_slices_55 rfl ?_
  refine zs_aload_n C dX12_slices_56 rfl ?_
  refine zs_getR C zp_56 zF12 (j := 39) ⟨by decide, rfl⟩ zw_1135 dX12_slices_57 ?_
  refine zs_iload_n C dX12_slices_60 rfl ?_
  refine zs_iaload C zp_82 dX12_slices_61 ?_
  refine zs_i2l C dX12_slices_62 ?_
  refine zs_callV C h_X12_enters g_X12_enters zy_X12_enters zp_56 (show vwCl[12]? = some (RX12, TX12, 67) from rfl) zw_1574 zw_1576 zs9_X12_enters dX12_slices_63 ?_
  refine zs_iinc C dX12_slices_66 (by decide) (by decide) ?_
  exact zs_goto C dX12_slices_69 (by decide) (j45)
def xX12_slices_45 (s_X12_all : zq_Sp) (s_X12_in : zq_Sp) (s_X12_laysTable : zq_Sp) (s_X12_canServe : zq_Sp) (s_J6_bitCount_0f7a4 : zq_Sp) (s_X12_enters : zq_Sp) (J45 : zq_P) (Q : zq_Q) (ls : zq_L) (st : List Value) (h : zq_H) : Prop := (zi_iload 2 (zi_push (.int 2) (zi_iload 1 (zi_callS 1 s_J6_bitCount_0f7a4 (zi_i2 (fun x y => x * y) (zi_if2 (fun x y => y ≤ x) (xX12_slices_72 s_X12_all s_X12_in s_X12_laysTable s_X12_canServe s_J6_bitCount_0f7a4 s_X12_enters J45 Q) (xX12_slices_55 s_X12_all s_X12_in s_X12_laysTable s_X12_canServe s_J6_bitCount_0f7a4 s_X12_enters J45 Q))))))) ls st h
theorem kX12_slices_45 {X : zq_X} {d : Nat} (C : zq_C X cX12_slices 3 RX12 d) {d_X12_all : Nat} {s_X12_all : zq_Sp} (h_X12_all : zq_M yX12_all cX12_all 1 (some .int) 1 d_X12_all s_X12_all) (g_X12_all : d_X12_all + 1 ≤ d) {d_X12_in : Nat} {s_X12_in : zq_Sp} (h_X12_in : zq_M yX12_in cX12_in 6 (some .boolean) 1 d_X12_in s_X12_in) (g_X12_in : d_X12_in + 1 ≤ d) {d_X12_laysTable : Nat} {s_X12_laysTable : zq_Sp} (h_X12_laysTable : zq_M yX12_laysTable cX12_laysTable 3 none 0 d_X12_laysTable s_X12_laysTable) (g_X12_laysTable : d_X12_laysTable + 1 ≤ d) {d_X12_canServe : Nat} {s_X12_canServe : zq_Sp} (h_X12_canServe : zq_M yX12_canServe cX12_canServe 3 (some .boolean) 1 d_X12_canServe s_X12_canServe) (g_X12_canServe : d_X12_canServe + 1 ≤ d) {d_J6_bitCount_0f7a4 : Nat} {s_J6_bitCount_0f7a4 : zq_Sp} (h_J6_bitCount_0f7a4 : zq_M yJ6_bitCount_0f7a4 cJ6_bitCount_0f7a4 1 (some .int) 1 d_J6_bitCount_0f7a4 s_J6_bitCount_0f7a4) (g_J6_bitCount_0f7a4 : d_J6_bitCount_0f7a4 + 1 ≤ d) {d_X12_enters : Nat} {s_X12_enters : zq_Sp} (h_X12_enters : zq_M yX12_enters cX12_enters 3 none 0 d_X12_enters s_X12_enters) (g_X12_enters : d_X12_enters + 1 ≤ d) {J45 : zq_P} (j45 : zq_ok X 3 45 J45) {Q : zq_Q} (hq : zq_R X (some .int) 1 Q) : zq_ok X 3 45 (xX12_slices_45 s_X12_all s_X12_in s_X12_laysTable s_X12_canServe s_J6_bitCount_0f7a4 s_X12_enters J45 Q) := by
  refine zs_iload_n C dX12_slices_45 rfl ?_
  refine zs_iconst C dX12_slices_46 (by decide) ?_
  refine zs_iload_n C dX12_slices_47 rfl ?_
  refine zs_callS C h_J6_bitCount_0f7a4 g_J6_bitCount_0f7a4 zy_J6_bitCount_0f7a4 zw_1590 zw_696 dX12_slices_48 ?_
  refine zs_imul C dX12_slices_51 ?_
  exact zs_icmp_ge C dX12_slices_52 (by decide) (kX12_slices_72 C h_X12_all g_X12_all h_X12_in g_X12_in h_X12_laysTable g_X12_laysTable h_X12_canServe g_X12_canServe h_J6_bitCount_0f7a4 g_J6_bitCount_0f7a4 h_X12_enters g_X12_enters j45 hq) (kX12_slices_55 C h_X12_all g_X12_all h_X12_in g_X12_in h_X12_laysTable g_X12_laysTable h_X12_canServe g_X12_canServe h_J6_bitCount_0f7a4 g_J6_bitCount_0f7a4 h_X12_enters g_X12_enters j45 hq)
def xX12_slices_38 (s_X12_all : zq_Sp) (s_X12_in : zq_Sp) (s_X12_laysTable : zq_Sp) (s_X12_canServe : zq_Sp) (s_J6_bitCount_0f7a4 : zq_Sp) (s_X12_enters : zq_Sp) (J45 : zq_P) (Q : zq_Q) (ls : zq_L) (st : List Value) (h : zq_H) : Prop := (zi_aload 0 (zi_push (.int 0) (zi_putI 56 1 (zi_push (.int 0) (zi_istore 2 (J45)))))) ls st h
theorem kX12_slices_38 {X : zq_X} {d : Nat} (C : zq_C X cX12_slices 3 RX12 d) {d_X12_all : Nat} {s_X12_all : zq_Sp} (h_X12_all : zq_M yX12_all cX12_all 1 (some .int) 1 d_X12_all s_X12_all) (g_X12_all : d_X12_all + 1 ≤ d) {d_X12_in : Nat} {s_X12_in : zq_Sp} (h_X12_in : zq_M yX12_in cX12_in 6 (some .boolean) 1 d_X12_in s_X12_in) (g_X12_in : d_X12_in + 1 ≤ d) {d_X12_laysTable : Nat} {s_X12_laysTable : zq_Sp} (h_X12_laysTable : zq_M yX12_laysTable cX12_laysTable 3 none 0 d_X12_laysTable s_X12_laysTable) (g_X12_laysTable : d_X12_laysTable + 1 ≤ d) {d_X12_canServe : Nat} {s_X12_canServe : zq_Sp} (h_X12_canServe : zq_M yX12_canServe cX12_canServe 3 (some .boolean) 1 d_X12_canServe s_X12_canServe) (g_X12_canServe : d_X12_canServe + 1 ≤ d) {d_J6_bitCount_0f7a4 : Nat} {s_J6_bitCount_0f7a4 : zq_Sp} (h_J6_bitCount_0f7a4 : zq_M yJ6_bitCount_0f7a4 cJ6_bitCount_0f7a4 1 (some .int) 1 d_J6_bitCount_0f7a4 s_J6_bitCount_0f7a4) (g_J6_bitCount_0f7a4 : d_J6_bitCount_0f7a4 + 1 ≤ d) {d_X12_enters : Nat} {s_X12_enters : zq_Sp} (h_X12_enters : zq_M yX12_enters cX12_enters 3 none 0 d_X12_enters s_X12_enters) (g_X12_enters : d_X12_enters + 1 ≤ d) {J45 : zq_P} (j45 : zq_ok X 3 45 J45) {Q : zq_Q} (hq : zq_R X (some .int) 1 Q) : zq_ok X 3 38 (xX12_slices_38 s_X12_all s_X12_in s_X12_laysTable s_X12_canServe s_J6_bitCount_0f7a4 s_X12_enters J45 Q) := by
  refine zs_aload_n C dX12_slices_38 rfl ?_
  refine zs_iconst C dX12_slices_39 (by decide) ?_
  refine zs_putI C zp_56 zF12 (j := 1) ⟨by decide, rfl⟩ ⟨rfl, by decide +kernel⟩ zw_1097 dX12_slices_40 ?_
  refine zs_iconst C dX12_slices_43 (by decide) ?_
  refine zs_istore_n C dX12_slices_44 rfl (by decide) ?_
  exact j45
def xX12_slices_35 (s_X12_all : zq_Sp) (s_X12_in : zq_Sp) (s_X12_laysTable : zq_Sp) (s_X12_canServe : zq_Sp) (s_J6_bitCount_0f7a4 : zq_Sp) (s_X12_enters : zq_Sp) (J45 : zq_P) (Q : zq_Q) (ls : zq_L) (st : List Value) (h : zq_H) : Prop := (zi_push (.int (-2)) (zi_iret Q)) ls st h
theorem kX12_slices_35 {X : zq_X} {d : Nat} (C : zq_C X cX12_slices 3 RX12 d) {d_X12_all : Nat} {s_X12_all : zq_Sp} (h_X12_all : zq_M yX12_all cX12_all 1 (some .int) 1 d_X12_all s_X12_all) (g_X12_all : d_X12_all + 1 ≤ d) {d_X12_in : Nat} {s_X12_in : zq_Sp} (h_X12_in : zq_M yX12_in cX12_in 6 (some .boolean) 1 d_X12_in s_X12_in) (g_X12_in : d_X12_in + 1 ≤ d) {d_X12_laysTable : Nat} {s_X12_laysTable : zq_Sp} (h_X12_laysTable : zq_M yX12_laysTable cX12_laysTable 3 none 0 d_X12_laysTable s_X12_laysTable) (g_X12_laysTable : d_X12_laysTable + 1 ≤ d) {d_X12_canServe : Nat} {s_X12_canServe : zq_Sp} (h_X12_canServe : zq_M yX12_canServe cX12_canServe 3 (some .boolean) 1 d_X12_canServe s_X12_canServe) (g_X12_canServe : d_X12_canServe + 1 ≤ d) {d_J6_bitCount_0f7a4 : Nat} {s_J6_bitCount_0f7a4 : zq_Sp} (h_J6_bitCount_0f7a4 : zq_M yJ6_bitCount_0f7a4 cJ6_bitCount_0f7a4 1 (some .int) 1 d_J6_bitCount_0f7a4 s_J6_bitCount_0f7a4) (g_J6_bitCount_0f7a4 : d_J6_bitCount_0f7a4 + 1 ≤ d) {d_X12_enters : Nat} {s_X12_enters : zq_Sp} (h_X12_enters : zq_M yX12_enters cX12_enters 3 none 0 d_X12_enters s_X12_enters) (g_X12_enters : d_X12_enters + 1 ≤ d) {J45 : zq_P} (j45 : zq_ok X 3 45 J45) {Q : zq_Q} (hq : zq_R X (some .int) 1 Q) : zq_ok X 3 35 (xX12_slices_35 s_X12_all s_X12_in s_X12_laysTable s_X12_canServe s_J6_bitCount_0f7a4 s_X12_enters J45 Q) := by
  refine zs_bipush C dX12_slices_35 (by decide) ?_
  exact zs_iret C hq dX12_slices_37
def xX12_slices_21 (s_X12_all : zq_Sp) (s_X12_in : zq_Sp) (s_X12_laysTable : zq_Sp) (s_X12_canServe : zq_Sp) (s_J6_bitCount_0f7a4 : zq_Sp) (s_X12_enters : zq_Sp) (J45 : zq_P) (Q : zq_Q) (ls : zq_L) (st : List Value) (h : zq_H) : Prop := (zi_aload 0 (zi_callV 0 56 s_X12_laysTable (zi_aload 0 (zi_iload 1 (zi_push (.int 100) (zi_callV 2 56 s_X12_canServe (zi_if1 (fun x => x = 0) (xX12_slices_35 s_X12_all s_X12_in s_X12_laysTable s_X12_canServe s_J6_bitCount_0f7a4 s_X12_enters J45 Q) (xX12_slices_38 s_X12_all s_X12_in s_X12_laysTable s_X12_canServe s_J6_bitCount_0f7a4 s_X12_enters J45 Q)))))))) ls st h
theorem kX12_slices_21 {X : zq_X} {d : Nat} (C : zq_C X cX12_slices 3 RX12 d) {d_X12_all : Nat} {s_X12_all : zq_Sp} (h_X12_all : zq_M yX12_all cX12_all 1 (some .int) 1 d_X12_all s_X12_all) (g_X12_all : d_X12_all + 1 ≤ d) {d_X12_in : Nat} {s_X12_in : zq_Sp} (h_X12_in : zq_M yX12_in cX12_in 6 (some .boolean) 1 d_X12_in s_X12_in) (g_X12_in : d_X12_in + 1 ≤ d) {d_X12_laysTable : Nat} {s_X12_laysTable : zq_Sp} (h_X12_laysTable : zq_M yX12_laysTable cX12_laysTable 3 none 0 d_X12_laysTable s_X12_laysTable) (g_X12_laysTable : d_X12_laysTable + 1 ≤ d) {d_X12_canServe : Nat} {s_X12_canServe : zq_Sp} (h_X12_canServe : zq_M yX12_canServe cX12_canServe 3 (some .boolean) 1 d_X12_canServe s_X12_canServe) (g_X12_canServe : d_X12_canServe + 1 ≤ d) {d_J6_bitCount_0f7a4 : Nat} {s_J6_bitCount_0f7a4 : zq_Sp} (h_J6_bitCount_0f7a4 : zq_M yJ6_bitCount_0f7a4 cJ6_bitCount_0f7a4 1 (some .int) 1 d_J6_bitCount_0f7a4 s_J6_bitCount_0f7a4) (g_J6_bitCount_0f7a4 : d_J6_bitCount_0f7a4 + 1 ≤ d) {d_X12_enters : Nat} {s_X12_enters : zq_Sp} (h_X12_enters : zq_M yX12_enters cX12_enters 3 none 0 d_X12_enters s_X12_enters) (g_X12_enters : d_X12_enters + 1 ≤ d) {J45 : zq_P} (j45 : zq_ok X 3 45 J45) {Q : zq_Q} (hq : zq_R X (some .int) 1 Q) : zq_ok X 3 21 (xX12_slices_21 s_X12_all s_X12_in s_X12_laysTable s_X12_canServe s_J6_bitCount_0f7a4 s_X12_enters J45 Q) := by
  refine zs_aload_n C dX12_slices_21 rfl ?_
  refine zs_callV C h_X12_laysTable g_X12_laysTable zy_X12_laysTable zp_56 (show vwCl[12]? = some (RX12, TX12, 67) from rfl) zw_1471 zw_1473 zs9_X12_laysTable dX12_slices_22 ?_
  refine zs_aload_n C dX12_slices_25 rfl ?_
  refine zs_iload_n C dX12_slices_26 rfl ?_
  refine zs_bipush C dX12_slices_27 (by decide) ?_
  refine zs_callV C h_X12_canServe g_X12_canServe zy_X12_canServe zp_56 (show vwCl[12]? = some (RX12, TX12, 67) from rfl) zw_1614 zw_1616 zs9_X12_canServe dX12_slices_29 ?_
  exact zs_if_ne C dX12_slices_32 (by decide) (kX12_slices_38 C h_X12_all g_X12_all h_X12_in g_X12_in h_X12_laysTable g_X12_laysTable h_X12_canServe g_X12_canServe h_J6_bitCount_0f7a4 g_J6_bitCount_0f7a4 h_X12_enters g_X12_enters j45 hq) (kX12_slices_35 C h_X12_all g_X12_all h_X12_in g_X12_in h_X12_laysTable g_X12_laysTable h_X12_canServe g_X12_canServe h_J6_bitCount_0f7a4 g_J6_bitCount_0f7a4 h_X12_enters g_X12_enters j45 hq)
def xX12_slices_19 (s_X12_all : zq_Sp) (s_X12_in : zq_Sp) (s_X12_laysTable : zq_Sp) (s_X12_canServe : zq_Sp) (s_J6_bitCount_0f7a4 : zq_Sp) (s_X12_enters : zq_Sp) (J45 : zq_P) (Q : zq_Q) (ls : zq_L) (st : List Value) (h : zq_H) : Prop := (zi_push (.int (-1)) (zi_iret Q)) ls st h
theorem kX12_slices_19 {X : zq_X} {d : Nat} (C : zq_C X cX12_slices 3 RX12 d) {d_X12_all : Nat} {s_X12_all : zq_Sp} (h_X12_all : zq_M yX12_all cX12_all 1 (some .int) 1 d_X12_all s_X12_all) (g_X12_all : d_X12_all + 1 ≤ d) {d_X12_in : Nat} {s_X12_in : zq_Sp} (h_X12_in : zq_M yX12_in cX12_in 6 (some .boolean) 1 d_X12_in s_X12_in) (g_X12_in : d_X12_in + 1 ≤ d) {d_X12_laysTable : Nat} {s_X12_laysTable : zq_Sp} (h_X12_laysTable : zq_M yX12_laysTable cX12_laysTable 3 none 0 d_X12_laysTable s_X12_laysTable) (g_X12_laysTable : d_X12_laysTable + 1 ≤ d) {d_X12_canServe : Nat} {s_X12_canServe : zq_Sp} (h_X12_canServe : zq_M yX12_canServe cX12_canServe 3 (some .boolean) 1 d_X12_canServe s_X12_canServe) (g_X12_canServe : d_X12_canServe + 1 ≤ d) {d_J6_bitCount_0f7a4 : Nat} {s_J6_bitCount_0f7a4 : zq_Sp} (h_J6_bitCount_0f7a4 : zq_M yJ6_bitCount_0f7a4 cJ6_bitCount_0f7a4 1 (some .int) 1 d_J6_bitCount_0f7a4 s_J6_bitCount_0f7a4) (g_J6_bitCount_0f7a4 : d_J6_bitCount_0f7a4 + 1 ≤ d) {d_X12_enters : Nat} {s_X12_enters : zq_Sp} (h_X12_enters : zq_M yX12_enters cX12_enters 3 none 0 d_X12_enters s_X12_enters) (g_X12_enters : d_X12_enters + 1 ≤ d) {J45 : zq_P} (j45 : zq_ok X 3 45 J45) {Q : zq_Q} (hq : zq_R X (some .int) 1 Q) : zq_ok X 3 19 (xX12_slices_19 s_X12_all s_X12_in s_X12_laysTable s_X12_canServe s_J6_bitCount_0f7a4 s_X12_enters J45 Q) := by
  refine zs_iconst C dX12_slices_19 (by decide) ?_
  exact zs_iret C hq dX12_slices_20
def xX12_slices_0 (s_X12_all : zq_Sp) (s_X12_in : zq_Sp) (s_X12_laysTable : zq_Sp) (s_X12_canServe : zq_Sp) (s_J6_bitCount_0f7a4 : zq_Sp) (s_X12_enters : zq_Sp) (J45 : zq_P) (Q : zq_Q) (ls : zq_L) (st : List Value) (h : zq_H) : Prop := (zi_aload 0 (zi_push (.int 0) (zi_putI 56 0 (zi_iload 1 (zi_i2l (zi_push (.long 0) (zi_aload 0 (zi_callV 0 56 s_X12_all (zi_i2l (zi_callS 3 s_X12_in (zi_if1 (fun x => x = 0) (xX12_slices_19 s_X12_all s_X12_in s_X12_laysTable s_X12_canServe s_J6_bitCount_0f7a4 s_X12_enters J45 Q) (xX12_slices_21 s_X12_all s_X12_in s_X12_laysTable s_X12_canServe s_J6_bitCount_0f7a4 s_X12_enters J45 Q)))))))))))) ls st h
theorem kX12_slices_0 {X : zq_X} {d : Nat} (C : zq_C X cX12_slices 3 RX12 d) {d_X12_all : Nat} {s_X12_all : zq_Sp} (h_X12_all : zq_M yX12_all cX12_all 1 (some .int) 1 d_X12_all s_X12_all) (g_X12_all : d_X12_all + 1 ≤ d) {d_X12_in : Nat} {s_X12_in : zq_Sp} (h_X12_in : zq_M yX12_in cX12_in 6 (some .boolean) 1 d_X12_in s_X12_in) (g_X12_in : d_X12_in + 1 ≤ d) {d_X12_laysTable : Nat} {s_X12_laysTable : zq_Sp} (h_X12_laysTable : zq_M yX12_laysTable cX12_laysTable 3 none 0 d_X12_laysTable s_X12_laysTable) (g_X12_laysTable : d_X12_laysTable + 1 ≤ d) {d_X12_canServe : Nat} {s_X12_canServe : zq_Sp} (h_X12_canServe : zq_M yX12_canServe cX12_canServe 3 (some .boolean) 1 d_X12_canServe s_X12_canServe) (g_X12_canServe : d_X12_canServe + 1 ≤ d) {d_J6_bitCount_0f7a4 : Nat} {s_J6_bitCount_0f7a4 : zq_Sp} (h_J6_bitCount_0f7a4 : zq_M yJ6_bitCount_0f7a4 cJ6_bitCount_0f7a4 1 (some .int) 1 d_J6_bitCount_0f7a4 s_J6_bitCount_0f7a4) (g_J6_bitCount_0f7a4 : d_J6_bitCount_0f7a4 + 1 ≤ d) {d_X12_enters : Nat} {s_X12_enters : zq_Sp} (h_X12_enters : zq_M yX12_enters cX12_enters 3 none 0 d_X12_enters s_X12_enters) (g_X12_enters : d_X12_enters + 1 ≤ d) {J45 : zq_P} (j45 : zq_ok X 3 45 J45) {Q : zq_Q} (hq : zq_R X (some .int) 1 Q) : zq_ok X 3 0 (xX12_slices_0 s_X12_all s_X12_in s_X12_laysTable s_X12_canServe s_J6_bitCount_0f7a4 s_X12_enters J45 Q) := by
  refine zs_aload_n C dX12_slices_0 rfl ?_
  refine zs_iconst C dX12_slices_1 (by decide) ?_
  refine zs_putI C zp_56 zF12 (j := 0) ⟨by decide, rfl⟩ ⟨rfl, by decide +kernel⟩ zw_1096 dX12_slices_2 ?_
  refine zs_iload_n C dX12_slices_5 rfl ?_
  refine zs_i2l C dX12_slices_6 ?_
  refine zs_lconst C dX12_slices_7 (by decide) ?_
  refine zs_aload_n C dX12_slices_8 rfl ?_
  refine zs_callV C h_X12_all g_X12_all zy_X12_all zp_56 (show vwCl[12]? = some (RX12, TX12, 67) from rfl) zw_1610 zw_1612 zs9_X12_all dX12_slices_9 ?_
  refine zs_i2l C dX12_slices_12 ?_
  refine zs_callS C h_X12_in g_X12_in zy_X12_in zw_1311 zw_1312 dX12_slices_13 ?_
  exact zs_if_ne C dX12_slices_16 (by decide) (kX12_slices_21 C h_X12_all g_X12_all h_X12_in g_X12_in h_X12_laysTable g_X12_laysTable h_X12_canServe g_X12_canServe h_J6_bitCount_0f7a4 g_J6_bitCount_0f7a4 h_X12_enters g_X12_enters j45 hq) (kX12_slices_19 C h_X12_all g_X12_all h_X12_in g_X12_in h_X12_laysTable g_X12_laysTable h_X12_canServe g_X12_canServe h_J6_bitCount_0f7a4 g_J6_bitCount_0f7a4 h_X12_enters g_X12_enters j45 hq)
theorem mX12_slices {d : Nat} {spec : zq_Sp} {σ45 : Type} {d_X12_all : Nat} {s_X12_all : zq_Sp} (h_X12_all : zq_M yX12_all cX12_all 1 (some .int) 1 d_X12_all s_X12_all) (g_X12_all : d_X12_all + 1 ≤ d) {d_X12_in : Nat} {s_X12_in : zq_Sp} (h_X12_in : zq_M yX12_in cX12_in 6 (some .boolean) 1 d_X12_in s_X12_in) (g_X12_in : d_X12_in + 1 ≤ d) {d_X12_laysTable : Nat} {s_X12_laysTable : zq_Sp} (h_X12_laysTable : zq_M yX12_laysTable cX12_laysTable 3 none 0 d_X12_laysTable s_X12_laysTable) (g_X12_laysTable : d_X12_laysTable + 1 ≤ d) {d_X12_canServe : Nat} {s_X12_canServe : zq_Sp} (h_X12_canServe : zq_M yX12_canServe cX12_canServe 3 (some .boolean) 1 d_X12_canServe s_X12_canServe) (g_X12_canServe : d_X12_canServe + 1 ≤ d) {d_J6_bitCount_0f7a4 : Nat} {s_J6_bitCount_0f7a4 : zq_Sp} (h_J6_bitCount_0f7a4 : zq_M yJ6_bitCount_0f7a4 cJ6_bitCount_0f7a4 1 (some .int) 1 d_J6_bitCount_0f7a4 s_J6_bitCount_0f7a4) (g_J6_bitCount_0f7a4 : d_J6_bitCount_0f7a4 + 1 ≤ d) {d_X12_enters : Nat} {s_X12_enters : zq_Sp} (h_X12_enters : zq_M yX12_enters cX12_enters 3 none 0 d_X12_enters s_X12_enters) (g_X12_enters : d_X12_enters + 1 ≤ d) (μ45 : σ45 → Nat) (I45 : zq_Q → σ45 → zq_P) (v : ∀ args h Q, spec args h Q → (zq_a args).length ≤ 3 ∧ xX12_slices_0 s_X12_all s_X12_in s_X12_laysTable s_X12_canServe s_J6_bitCount_0f7a4 s_X12_enters (fun ls st h => ∃ b, I45 Q b ls st h) Q (zq_l0 3 args) [] h) (v45 : ∀ Q a ls st h, I45 Q a ls st h → xX12_slices_45 s_X12_all s_X12_in s_X12_laysTable s_X12_canServe s_J6_bitCount_0f7a4 s_X12_enters (fun ls st h => ∃ b, μ45 b < μ45 a ∧ I45 Q b ls st h) Q ls st h) : zq_M yX12_slices cX12_slices 3 (some .int) 1 d spec := by
  refine zq_met (by decide +kernel) (by decide) (fun X Q args h C hq hs => ⟨(v args h Q hs).1, _, ?_, (v args h Q hs).2⟩)
  have hl := zq_loop1 (X := X) (nL := 3) (pc1 := 45) μ45 (I45 Q) (fun J45 => xX12_slices_45 s_X12_all s_X12_in s_X12_laysTable s_X12_canServe s_J6_bitCount_0f7a4 s_X12_enters J45 Q) (fun j45 => kX12_slices_45 C h_X12_all g_X12_all h_X12_in g_X12_in h_X12_laysTable g_X12_laysTable h_X12_canServe g_X12_canServe h_J6_bitCount_0f7a4 g_J6_bitCount_0f7a4 h_X12_enters g_X12_enters j45 hq) (v45 Q)
  exact kX12_slices_0 C h_X12_all g_X12_all h_X12_in g_X12_in h_X12_laysTable g_X12_laysTable h_X12_canServe g_X12_canServe h_J6_bitCount_0f7a4 g_J6_bitCount_0f7a4 h_X12_enters g_X12_enters hl hq
/-! ToOneCrumbModel.quarrel()I -/
theorem dX12_quarrel_0 : decode cX12_quarrel 0 = .ok (.aload_n 0, 1) := by decide +kernel
theorem dX12_quarrel_1 : decode cX12_quarrel 1 = .ok (.iconst 0, 1) := by decide +kernel
theorem dX12_quarrel_2 : decode cX12_quarrel 2 = .ok (.putfield 147, 3) := by decide +kernel
theorem dX12_quarrel_5 : decode cX12_quarrel 5 = .ok (.aload_n 0, 1) := by decide +kernel
theorem dX12_quarrel_6 : decode cX12_quarrel 6 = .ok (.invokevirtual 318, 3) := by decide +kernel
theorem dX12_quarrel_9 : decode cX12_quarrel 9 = .ok (.bipush (-2), 2) := by decide +kernel
theorem dX12_quarrel_11 : decode cX12_quarrel 11 = .ok (.istore_n 1, 1) := by decide +kernel
theorem dX12_quarrel_12 : decode cX12_quarrel 12 = .ok (.iconst 1, 1) := by decide +kernel
theorem dX12_quarrel_13 : decode cX12_quarrel 13 = .ok (.istore_n 2, 1) := by decide +kernel
theorem dX12_quarrel_14 : decode cX12_quarrel 14 = .ok (.iload_n 2, 1) := by decide +kernel
theorem dX12_quarrel_15 : decode cX12_quarrel 15 = .ok (.aload_n 0, 1) := by decide +kernel
theorem dX12_quarrel_16 : decode cX12_quarrel 16 = .ok (.invokevirtual 392, 3) := by decide +kernel
theorem dX12_quarrel_19 : decode cX12_quarrel 19 = .ok (.if_icmp .gt 50, 3) := by decide +kernel
theorem dX12_quarrel_22 : decode cX12_quarrel 22 = .ok (.iload_n 1, 1) := by decide +kernel
theorem dX12_quarrel_23 : decode cX12_quarrel 23 = .ok (.ifCond .lt 14, 3) := by decide +kernel
theorem dX12_quarrel_26 : decode cX12_quarrel 26 = .ok (.iload_n 2, 1) := by decide +kernel
theorem dX12_quarrel_27 : decode cX12_quarrel 27 = .ok (.invokestatic 372, 3) := by decide +kernel
theorem dX12_quarrel_30 : decode cX12_quarrel 30 = .ok (.iload_n 1, 1) := by decide +kernel
theorem dX12_quarrel_31 : decode cX12_quarrel 31 = .ok (.invokestatic 372, 3) := by decide +kernel
theorem dX12_quarrel_34 : decode cX12_quarrel 34 = .ok (.if_icmp .ge 7, 3) := by decide +kernel
theorem dX12_quarrel_37 : decode cX12_quarrel 37 = .ok (.iconst 1, 1) := by decide +kernel
theorem dX12_quarrel_38 : decode cX12_quarrel 38 = .ok (.goto 4, 3) := by decide +kernel
theorem dX12_quarrel_41 : decode cX12_quarrel 41 = .ok (.iconst 0, 1) := by decide +kernel
theorem dX12_quarrel_42 : decode cX12_quarrel 42 = .ok (.istore_n 3, 1) := by decide +kernel
theorem dX12_quarrel_43 : decode cX12_quarrel 43 = .ok (.iload_n 3, 1) := by decide +kernel
theorem dX12_quarrel_44 : decode cX12_quarrel 44 = .ok (.ifCond .eq 17, 3) := by decide +kernel
theorem dX12_quarrel_47 : decode cX12_quarrel 47 = .ok (.aload_n 0, 1) := by decide +kernel
theorem dX12_quarrel_48 : decode cX12_quarrel 48 = .ok (.iload_n 2, 1) := by decide +kernel
theorem dX12_quarrel_49 : decode cX12_quarrel 49 = .ok (.bipush 100, 2) := by decide +kernel
theorem dX12_quarrel_51 : decode cX12_quarrel 51 = .ok (.invokevirtual 395, 3) := by decide +kernel
theorem dX12_quarrel_54 : decode cX12_quarrel 54 = .ok (.ifCond .ne 7, 3) := by decide +kernel
theorem dX12_quarrel_57 : decode cX12_quarrel 57 = .ok (.iload_n 2, 1) := by decide +kernel
theorem dX12_quarrel_58 : decode cX12_quarrel 58 = .ok (.goto 4, 3) := by decide +kernel
theorem dX12_quarrel_61 : decode cX12_quarrel 61 = .ok (.iload_n 1, 1) := by decide +kernel
theorem dX12_quarrel_62 : decode cX12_quarrel 62 = .ok (.istore_n 1, 1) := by decide +kernel
theorem dX12_quarrel_63 : decode cX12_quarrel 63 = .ok (.iinc 2 1, 3) := by decide +kernel
theorem dX12_quarrel_66 : decode cX12_quarrel 66 = .ok (.goto (-52), 3) := by decide +kernel
theorem dX12_quarrel_69 : decode cX12_quarrel 69 = .ok (.iload_n 1, 1) := by decide +kernel
theorem dX12_quarrel_70 : decode cX12_quarrel 70 = .ok (.ifCond .ge 6, 3) := by decide +kernel
theorem dX12_quarrel_73 : decode cX12_quarrel 73 = .ok (.bipush (-2), 2) := by decide +kernel
theorem dX12_quarrel_75 : decode cX12_quarrel 75 = .ok (.ireturn, 1) := by decide +kernel
theorem dX12_quarrel_76 : decode cX12_quarrel 76 = .ok (.aload_n 0, 1) := by decide +kernel
theorem dX12_quarrel_77 : decode cX12_quarrel 77 = .ok (.iconst 0, 1) := by decide +kernel
theorem dX12_quarrel_78 : decode cX12_quarrel 78 = .ok (.putfield 155, 3) := by decide +kernel
theorem dX12_quarrel_81 : decode cX12_quarrel 81 = .ok (.aload_n 0, 1) := by decide +kernel
theorem dX12_quarrel_82 : decode cX12_quarrel 82 = .ok (.iload_n 1, 1) := by decide +kernel
theorem dX12_quarrel_83 : decode cX12_quarrel 83 = .ok (.invokestatic 372, 3) := by decide +kernel
theorem dX12_quarrel_86 : decode cX12_quarrel 86 = .ok (.i2l, 1) := by decide +kernel
theorem dX12_quarrel_87 : decode cX12_quarrel 87 = .ok (.invokevirtual 368, 3) := by decide +kernel
theorem dX12_quarrel_90 : decode cX12_quarrel 90 = .ok (.iload_n 1, 1) := by decide +kernel
theorem dX12_quarrel_91 : decode cX12_quarrel 91 = .ok (.ireturn, 1) := by decide +kernel
def xX12_quarrel_76 (s_X12_laysTable : zq_Sp) (s_X12_all : zq_Sp) (s_J6_bitCount_0f7a4 : zq_Sp) (s_X12_canServe : zq_Sp) (s_X12_enters : zq_Sp) (J14 : zq_P) (Q : zq_Q) (ls : zq_L) (st : List Value) (h : zq_H) : Prop := (zi_aload 0 (zi_push (.int 0) (zi_putI 56 1 (zi_aload 0 (zi_iload 1 (zi_callS 1 s_J6_bitCount_0f7a4 (zi_i2l (zi_callV 1 56 s_X12_enters (zi_iload 1 (zi_iret Q)))))))))) ls st h
theorem kX12_quarrel_76 {X : zq_X} {d : Nat} (C : zq_C X cX12_quarrel 4 RX12 d) {d_X12_laysTable : Nat} {s_X12_laysTable : zq_Sp} (h_X12_laysTable : zq_M yX12_laysTable cX12_laysTable 3 none 0 d_X12_laysTable s_X12_laysTable) (g_X12_laysTable : d_X12_laysTable + 1 ≤ d) {d_X12_all : Nat} {s_X12_all : zq_Sp} (h_X12_all : zq_M yX12_all cX12_all 1 (some .int) 1 d_X12_all s_X12_all) (g_X12_all : d_X12_all + 1 ≤ d) {d_J6_bitCount_0f7a4 : Nat} {s_J6_bitCount_0f7a4 : zq_Sp} (h_J6_bitCount_0f7a4 : zq_M yJ6_bitCount_0f7a4 cJ6_bitCount_0f7a4 1 (some .int) 1 d_J6_bitCount_0f7a4 s_J6_bitCount_0f7a4) (g_J6_bitCount_0f7a4 : d_J6_bitCount_0f7a4 + 1 ≤ d) {d_X12_canServe : Nat} {s_X12_canServe : zq_Sp} (h_X12_canServe : zq_M yX12_canServe cX12_canServe 3 (some .boolean) 1 d_X12_canServe s_X12_canServe) (g_X12_canServe : d_X12_canServe + 1 ≤ d) {d_X12_enters : Nat} {s_X12_enters : zq_Sp} (h_X12_enters : zq_M yX12_enters cX12_enters 3 none 0 d_X12_enters s_X12_enters) (g_X12_enters : d_X12_enters + 1 ≤ d) {J14 : zq_P} (j14 : zq_ok X 4 14 J14) {Q : zq_Q} (hq : zq_R X (some .int) 1 Q) : zq_ok X 4 76 (xX12_quarrel_76 s_X12_laysTable s_X12_all s_J6_bitCount_0f7a4 s_X12_canServe s_X12_enters J14 Q) := by
  refine zs_aload_n C dX12_quarrel_76 rfl ?_
  refine zs_iconst C dX12_quarrel_77 (by decide) ?_
  refine zs_putI C zp_56 zF12 (j := 1) ⟨by decide, rfl⟩ ⟨rfl, by decide +kernel⟩ zw_1097 dX12_quarrel_78 ?_
  refine zs_aload_n C dX12_quarrel_81 rfl ?_
  refine zs_iload_n C dX12_quarrel_82 rfl ?_
  refine zs_callS C h_J6_bitCount_0f7a4 g_J6_bitCount_0f7a4 zy_J6_bitCount_0f7a4 zw_1590 zw_696 dX12_quarrel_83 ?_
  refine zs_i2l C dX12_quarrel_86 ?_
  refine zs_callV C h_X12_enters g_X12_enters zy_X12_enters zp_56 (show vwCl[12]? = some (RX12, TX12, 67) from rfl) zw_1574 zw_1576 zs9_X12_enters dX12_quarrel_87 ?_
  refine zs_iload_n C dX12_quarrel_90 rfl ?_
  exact zs_iret C hq dX12_quarrel_91
def xX12_quarrel_73 (s_X12_laysTable : zq_Sp) (s_X12_all : zq_Sp) (s_J6_bitCount_0f7a4 : zq_Sp) (s_X12_canServe : zq_Sp) (s_X12_enters : zq_Sp) (J14 : zq_P) (Q : zq_Q) (ls : zq_L) (st : List Value) (h : zq_H) : Prop := (zi_push (.int (-2)) (zi_iret Q)) ls st h
theorem kX12_quarrel_73 {X : zq_X} {d : Nat} (C : zq_C X cX12_quarrel 4 RX12 d) {d_X12_laysTable : Nat} {s_X12_laysTable : zq_Sp} (h_X12_laysTable : zq_M yX12_laysTable cX12_laysTable 3 none 0 d_X12_laysTable s_X12_laysTable) (g_X12_laysTable : d_X12_laysTable + 1 ≤ d) {d_X12_all : Nat} {s_X12_all : zq_Sp} (h_X12_all : zq_M yX12_all cX12_all 1 (some .int) 1 d_X12_all s_X12_all) (g_X12_all : d_X12_all + 1 ≤ d) {d_J6_bitCount_0f7a4 : Nat} {s_J6_bitCount_0f7a4 : zq_Sp} (h_J6_bitCount_0f7a4 : zq_M yJ6_bitCount_0f7a4 cJ6_bitCount_0f7a4 1 (some .int) 1 d_J6_bitCount_0f7a4 s_J6_bitCount_0f7a4) (g_J6_bitCount_0f7a4 : d_J6_bitCount_0f7a4 + 1 ≤ d) {d_X12_canServe : Nat} {s_X12_canServe : zq_Sp} (h_X12_canServe : zq_M yX12_canServe cX12_canServe 3 (some .boolean) 1 d_X12_canServe s_X12_canServe) (g_X12_canServe : d_X12_canServe + 1 ≤ d) {d_X12_enters : Nat} {s_X12_enters : zq_Sp} (h_X12_enters : zq_M yX12_enters cX12_enters 3 none 0 d_X12_enters s_X12_enters) (g_X12_enters : d_X12_enters + 1 ≤ d) {J14 : zq_P} (j14 : zq_ok X 4 14 J14) {Q : zq_Q} (hq : zq_R X (some .int) 1 Q) : zq_ok X 4 73 (xX12_quarrel_73 s_X12_laysTable s_X12_all s_J6_bitCount_0f7a4 s_X12_canServe s_X12_enters J14 Q) := by
  refine zs_bipush C dX12_quarrel_73 (by decide) ?_
  exact zs_iret C hq dX12_quarrel_75
def xX12_quarrel_69 (s_X12_laysTable : zq_Sp) (s_X12_all : zq_Sp) (s_J6_bitCount_0f7a4 : zq_Sp) (s_X12_canServe : zq_Sp) (s_X12_enters : zq_Sp) (J14 : zq_P) (Q : zq_Q) (ls : zq_L) (st : List Value) (h : zq_H) : Prop := (zi_iload 1 (zi_if1 (fun x => 0 ≤ x) (xX12_quarrel_76 s_X12_laysTable s_X12_all s_J6_bitCount_0f7a4 s_X12_canServe s_X12_enters J14 Q) (xX12_quarrel_73 s_X12_laysTable s_X12_all s_J6_bitCount_0f7a4 s_X12_canServe s_X12_enters J14 Q))) ls st h
theorem kX12_quarrel_69 {X : zq_X} {d : Nat} (C : zq_C X cX12_quarrel 4 RX12 d) {d_X12_laysTable : Nat} {s_X12_laysTable : zq_Sp} (h_X12_laysTable : zq_M yX12_laysTable cX12_laysTable 3 none 0 d_X12_laysTable s_X12_laysTable) (g_X12_laysTable : d_X12_laysTable + 1 ≤ d) {d_X12_all : Nat} {s_X12_all : zq_Sp} (h_X12_all : zq_M yX12_all cX12_all 1 (some .int) 1 d_X12_all s_X12_all) (g_X12_all : d_X12_all + 1 ≤ d) {d_J6_bitCount_0f7a4 : Nat} {s_J6_bitCount_0f7a4 : zq_Sp} (h_J6_bitCount_0f7a4 : zq_M yJ6_bitCount_0f7a4 cJ6_bitCount_0f7a4 1 (some .int) 1 d_J6_bitCount_0f7a4 s_J6_bitCount_0f7a4) (g_J6_bitCount_0f7a4 : d_J6_bitCount_0f7a4 + 1 ≤ d) {d_X12_canServe : Nat} {s_X12_canServe : zq_Sp} (h_X12_canServe : zq_M yX12_canServe cX12_canServe 3 (some .boolean) 1 d_X12_canServe s_X12_canServe) (g_X12_canServe : d_X12_canServe + 1 ≤ d) {d_X12_enters : Nat} {s_X12_enters : zq_Sp} (h_X12_enters : zq_M yX12_enters cX12_enters 3 none 0 d_X12_enters s_X12_enters) (g_X12_enters : d_X12_enters + 1 ≤ d) {J14 : zq_P} (j14 : zq_ok X 4 14 J14) {Q : zq_Q} (hq : zq_R X (some .int) 1 Q) : zq_ok X 4 69 (xX12_quarrel_69 s_X12_laysTable s_X12_all s_J6_bitCount_0f7a4 s_X12_canServe s_X12_enters J14 Q) := by
  refine zs_iload_n C dX12_quarrel_69 rfl ?_
  exact zs_if_ge C dX12_quarrel_70 (by decide) (kX12_quarrel_76 C h_X12_laysTable g_X12_laysTable h_X12_all g_X12_all h_J6_bitCount_0f7a4 g_J6_bitCount_0f7a4 h_X12_canServe g_X12_canServe h_X12_enters g_X12_enters j14 hq) (kX12_quarrel_73 C h_X12_laysTable g_X12_laysTable h_X12_all g_X12_all h_J6_bitCount_0f7a4 g_J6_bitCount_0f7a4 h_X12_canServe g_X12_canServe h_X12_enters g_X12_enters j14 hq)
def xX12_quarrel_62 (s_X12_laysTable : zq_Sp) (s_X12_all : zq_Sp) (s_J6_bitCount_0f7a4 : zq_Sp) (s_X12_canServe : zq_Sp) (s_X12_enters : zq_Sp) (J14 : zq_P) (Q : zq_Q) (ls : zq_L) (st : List Value) (h : zq_H) : Prop := (zi_istore 1 (zi_iinc 2 1 (J14))) ls st h
theorem kX12_quarrel_62 {X : zq_X} {d : Nat} (C : zq_C X cX12_quarrel 4 RX12 d) {d_X12_laysTable : Nat} {s_X12_laysTable : zq_Sp} (h_X12_laysTable : zq_M yX12_laysTable cX12_laysTable 3 none 0 d_X12_laysTable s_X12_laysTable) (g_X12_laysTable : d_X12_laysTable + 1 ≤ d) {d_X12_all : Nat} {s_X12_all : zq_Sp} (h_X12_all : zq_M yX12_all cX12_all 1 (some .int) 1 d_X12_all s_X12_all) (g_X12_all : d_X12_all + 1 ≤ d) {d_J6_bitCount_0f7a4 : Nat} {s_J6_bitCount_0f7a4 : zq_Sp} (h_J6_bitCount_0f7a4 : zq_M yJ6_bitCount_0f7a4 cJ6_bitCount_0f7a4 1 (some .int) 1 d_J6_bitCount_0f7a4 s_J6_bitCount_0f7a4) (g_J6_bitCount_0f7a4 : d_J6_bitCount_0f7a4 + 1 ≤ d) {d_X12_canServe : Nat} {s_X12_canServe : zq_Sp} (h_X12_canServe : zq_M yX12_canServe cX12_canServe 3 (some .boolean) 1 d_X12_canServe s_X12_canServe) (g_X12_canServe : d_X12_canServe + 1 ≤ d) {d_X12_enters : Nat} {s_X12_enters : zq_Sp} (h_X12_enters : zq_M yX12_enters cX12_enters 3 none 0 d_X12_enters s_X12_enters) (g_X12_enters : d_X12_enters + 1 ≤ d) {J14 : zq_P} (j14 : zq_ok X 4 14 J14) {Q : zq_Q} (hq : zq_R X (some .int) 1 Q) : zq_ok X 4 62 (xX12_quarrel_62 s_X12_laysTable s_X12_all s_J6_bitCount_0f7a4 s_X12_canServe s_X12_enters J14 Q) := by
  refine zs_istore_n C dX12_quarrel_62 rfl (by decide) ?_
  refine zs_iinc C dX12_quarrel_63 (by decide) (by decide) ?_
  exact zs_goto C dX12_quarrel_66 (by decide) (j14)
def xX12_quarrel_61 (s_X12_laysTable : zq_Sp) (s_X12_all : zq_Sp) (s_J6_bitCount_0f7a4 : zq_Sp) (s_X12_canServe : zq_Sp) (s_X12_enters : zq_Sp) (J14 : zq_P) (Q : zq_Q) (ls : zq_L) (st : List Value) (h : zq_H) : Prop := (zi_iload 1 ((xX12_quarrel_62 s_X12_laysTable s_X12_all s_J6_bitCount_0f7a4 s_X12_canServe s_X12_enters J14 Q))) ls st h
theorem kX12_quarrel_61 {X : zq_X} {d : Nat} (C : zq_C X cX12_quarrel 4 RX12 d) {d_X12_laysTable : Nat} {s_X12_laysTable : zq_Sp} (h_X12_laysTable : zq_M yX12_laysTable cX12_laysTable 3 none 0 d_X12_laysTable s_X12_laysTable) (g_X12_laysTable : d_X12_laysTable + 1 ≤ d) {d_X12_all : Nat} {s_X12_all : zq_Sp} (h_X12_all : zq_M yX12_all cX12_all 1 (some .int) 1 d_X12_all s_X12_all) (g_X12_all : d_X12_all + 1 ≤ d) {d_J6_bitCount_0f7a4 : Nat} {s_J6_bitCount_0f7a4 : zq_Sp} (h_J6_bitCount_0f7a4 : zq_M yJ6_bitCount_0f7a4 cJ6_bitCount_0f7a4 1 (some .int) 1 d_J6_bitCount_0f7a4 s_J6_bitCount_0f7a4) (g_J6_bitCount_0f7a4 : d_J6_bitCount_0f7a4 + 1 ≤ d) {d_X12_canServe : Nat} {s_X12_canServe : zq_Sp} (h_X12_canServe : zq_M yX12_canServe cX12_canServe 3 (some .boolean) 1 d_X12_canServe s_X12_canServe) (g_X12_canServe : d_X12_canServe + 1 ≤ d) {d_X12_enters : Nat} {s_X12_enters : zq_Sp} (h_X12_enters : zq_M yX12_enters cX12_enters 3 none 0 d_X12_enters s_X12_enters) (g_X12_enters : d_X12_enters + 1 ≤ d) {J14 : zq_P} (j14 : zq_ok X 4 14 J14) {Q : zq_Q} (hq : zq_R X (some .int) 1 Q) : zq_ok X 4 61 (xX12_quarrel_61 s_X12_laysTable s_X12_all s_J6_bitCount_0f7a4 s_X12_canServe s_X12_enters J14 Q) := by
  refine zs_iload_n C dX12_quarrel_61 rfl ?_
  exact kX12_quarrel_62 C h_X12_laysTable g_X12_laysTable h_X12_all g_X12_all h_J6_bitCount_0f7a4 g_J6_bitCount_0f7a4 h_X12_canServe g_X12_canServe h_X12_enters g_X12_enters j14 hq
def xX12_quarrel_57 (s_X12_laysTable : zq_Sp) (s_X12_all : zq_Sp) (s_J6_bitCount_0f7a4 : zq_Sp) (s_X12_canServe : zq_Sp) (s_X12_enters : zq_Sp) (J14 : zq_P) (Q : zq_Q) (ls : zq_L) (st : List Value) (h : zq_H) : Prop := (zi_iload 2 ((xX12_quarrel_62 s_X12_laysTable s_X12_all s_J6_bitCount_0f7a4 s_X12_canServe s_X12_enters J14 Q))) ls st h
theorem kX12_quarrel_57 {X : zq_X} {d : Nat} (C : zq_C X cX12_quarrel 4 RX12 d) {d_X12_laysTable : Nat} {s_X12_laysTable : zq_Sp} (h_X12_laysTable : zq_M yX12_laysTable cX12_laysTable 3 none 0 d_X12_laysTable s_X12_laysTable) (g_X12_laysTable : d_X12_laysTable + 1 ≤ d) {d_X12_all : Nat} {s_X12_all : zq_Sp} (h_X12_all : zq_M yX12_all cX12_all 1 (some .int) 1 d_X12_all s_X12_all) (g_X12_all : d_X12_all + 1 ≤ d) {d_J6_bitCount_0f7a4 : Nat} {s_J6_bitCount_0f7a4 : zq_Sp} (h_J6_bitCount_0f7a4 : zq_M yJ6_bitCount_0f7a4 cJ6_bitCount_0f7a4 1 (some .int) 1 d_J6_bitCount_0f7a4 s_J6_bitCount_0f7a4) (g_J6_bitCount_0f7a4 : d_J6_bitCount_0f7a4 + 1 ≤ d) {d_X12_canServe : Nat} {s_X12_canServe : zq_Sp} (h_X12_canServe : zq_M yX12_canServe cX12_canServe 3 (some .boolean) 1 d_X12_canServe s_X12_canServe) (g_X12_canServe : d_X12_canServe + 1 ≤ d) {d_X12_enters : Nat} {s_X12_enters : zq_Sp} (h_X12_enters : zq_M yX12_enters cX12_enters 3 none 0 d_X12_enters s_X12_enters) (g_X12_enters : d_X12_enters + 1 ≤ d) {J14 : zq_P} (j14 : zq_ok X 4 14 J14) {Q : zq_Q} (hq : zq_R X (some .int) 1 Q) : zq_ok X 4 57 (xX12_quarrel_57 s_X12_laysTable s_X12_all s_J6_bitCount_0f7a4 s_X12_canServe s_X12_enters J14 Q) := by
  refine zs_iload_n C dX12_quarrel_57 rfl ?_
  exact zs_goto C dX12_quarrel_58 (by decide) (kX12_quarrel_62 C h_X12_laysTable g_X12_laysTable h_X12_all g_X12_all h_J6_bitCount_0f7a4 g_J6_bitCount_0f7a4 h_X12_canServe g_X12_canServe h_X12_enters g_X12_enters j14 hq)
def xX12_quarrel_47 (s_X12_laysTable : zq_Sp) (s_X12_all : zq_Sp) (s_J6_bitCount_0f7a4 : zq_Sp) (s_X12_canServe : zq_Sp) (s_X12_enters : zq_Sp) (J14 : zq_P) (Q : zq_Q) (ls : zq_L) (st : List Value) (h : zq_H) : Prop := (zi_aload 0 (zi_iload 2 (zi_push (.int 100) (zi_callV 2 56 s_X12_canServe (zi_if1 (fun x => x = 0) (xX12_quarrel_57 s_X12_laysTable s_X12_all s_J6_bitCount_0f7a4 s_X12_canServe s_X12_enters J14 Q) (xX12_quarrel_61 s_X12_laysTable s_X12_all s_J6_bitCount_0f7a4 s_X12_canServe s_X12_enters J14 Q)))))) ls st h
theorem kX12_quarrel_47 {X : zq_X} {d : Nat} (C : zq_C X cX12_quarrel 4 RX12 d) {d_X12_laysTable : Nat} {s_X12_laysTable : zq_Sp} (h_X12_laysTable : zq_M yX12_laysTable cX12_laysTable 3 none 0 d_X12_laysTable s_X12_laysTable) (g_X12_laysTable : d_X12_laysTable + 1 ≤ d) {d_X12_all : Nat} {s_X12_all : zq_Sp} (h_X12_all : zq_M yX12_all cX12_all 1 (some .int) 1 d_X12_all s_X12_all) (g_X12_all : d_X12_all + 1 ≤ d) {d_J6_bitCount_0f7a4 : Nat} {s_J6_bitCount_0f7a4 : zq_Sp} (h_J6_bitCount_0f7a4 : zq_M yJ6_bitCount_0f7a4 cJ6_bitCount_0f7a4 1 (some .int) 1 d_J6_bitCount_0f7a4 s_J6_bitCount_0f7a4) (g_J6_bitCount_0f7a4 : d_J6_bitCount_0f7a4 + 1 ≤ d) {d_X12_canServe : Nat} {s_X12_canServe : zq_Sp} (h_X12_canServe : zq_M yX12_canServe cX12_canServe 3 (some .boolean) 1 d_X12_canServe s_X12_canServe) (g_X12_canServe : d_X12_canServe + 1 ≤ d) {d_X12_enters : Nat} {s_X12_enters : zq_Sp} (h_X12_enters : zq_M yX12_enters cX12_enters 3 none 0 d_X12_enters s_X12_enters) (g_X12_enters : d_X12_enters + 1 ≤ d) {J14 : zq_P} (j14 : zq_ok X 4 14 J14) {Q : zq_Q} (hq : zq_R X (some .int) 1 Q) : zq_ok X 4 47 (xX12_quarrel_47 s_X12_laysTable s_X12_all s_J6_bitCount_0f7a4 s_X12_canServe s_X12_enters J14 Q) := by
  refine zs_aload_n C dX12_quarrel_47 rfl ?_
  refine zs_iload_n C dX12_quarrel_48 rfl ?_
  refine zs_bipush C dX12_quarrel_49 (by decide) ?_
  refine zs_callV C h_X12_canServe g_X12_canServe zy_X12_canServe zp_56 (show vwCl[12]? = some (RX12, TX12, 67) from rfl) zw_1614 zw_1616 zs9_X12_canServe dX12_quarrel_51 ?_
  exact zs_if_ne C dX12_quarrel_54 (by decide) (kX12_quarrel_61 C h_X12_laysTable g_X12_laysTable h_X12_all g_X12_all h_J6_bitCount_0f7a4 g_J6_bitCount_0f7a4 h_X12_canServe g_X12_canServe h_X12_enters g_X12_enters j14 hq) (kX12_quarrel_57 C h_X12_laysTable g_X12_laysTable h_X12_all g_X12_all h_J6_bitCount_0f7a4 g_J6_bitCount_0f7a4 h_X12_canServe g_X12_canServe h_X12_enters g_X12_enters j14 hq)
def xX12_quarrel_42 (s_X12_laysTable : zq_Sp) (s_X12_all : zq_Sp) (s_J6_bitCount_0f7a4 : zq_Sp) (s_X12_canServe : zq_Sp) (s_X12_enters : zq_Sp) (J14 : zq_P) (Q : zq_Q) (ls : zq_L) (st : List Value) (h : zq_H) : Prop := (zi_istore 3 (zi_iload 3 (zi_if1 (fun x => x = 0) (xX12_quarrel_61 s_X12_laysTable s_X12_all s_J6_bitCount_0f7a4 s_X12_canServe s_X12_enters J14 Q) (xX12_quarrel_47 s_X12_laysTable s_X12_all s_J6_bitCount_0f7a4 s_X12_canServe s_X12_enters J14 Q)))) ls st h
theorem kX12_quarrel_42 {X : zq_X} {d : Nat} (C : zq_C X cX12_quarrel 4 RX12 d) {d_X12_laysTable : Nat} {s_X12_laysTable : zq_Sp} (h_X12_laysTable : zq_M yX12_laysTable cX12_laysTable 3 none 0 d_X12_laysTable s_X12_laysTable) (g_X12_laysTable : d_X12_laysTable + 1 ≤ d) {d_X12_all : Nat} {s_X12_all : zq_Sp} (h_X12_all : zq_M yX12_all cX12_all 1 (some .int) 1 d_X12_all s_X12_all) (g_X12_all : d_X12_all + 1 ≤ d) {d_J6_bitCount_0f7a4 : Nat} {s_J6_bitCount_0f7a4 : zq_Sp} (h_J6_bitCount_0f7a4 : zq_M yJ6_bitCount_0f7a4 cJ6_bitCount_0f7a4 1 (some .int) 1 d_J6_bitCount_0f7a4 s_J6_bitCount_0f7a4) (g_J6_bitCount_0f7a4 : d_J6_bitCount_0f7a4 + 1 ≤ d) {d_X12_canServe : Nat} {s_X12_canServe : zq_Sp} (h_X12_canServe : zq_M yX12_canServe cX12_canServe 3 (some .boolean) 1 d_X12_canServe s_X12_canServe) (g_X12_canServe : d_X12_canServe + 1 ≤ d) {d_X12_enters : Nat} {s_X12_enters : zq_Sp} (h_X12_enters : zq_M yX12_enters cX12_enters 3 none 0 d_X12_enters s_X12_enters) (g_X12_enters : d_X12_enters + 1 ≤ d) {J14 : zq_P} (j14 : zq_ok X 4 14 J14) {Q : zq_Q} (hq : zq_R X (some .int) 1 Q) : zq_ok X 4 42 (xX12_quarrel_42 s_X12_laysTable s_X12_all s_J6_bitCount_0f7a4 s_X12_canServe s_X12_enters J14 Q) := by
  refine zs_istore_n C dX12_quarrel_42 rfl (by decide) ?_
  refine zs_iload_n C dX12_quarrel_43 rfl ?_
  exact zs_if_eq C dX12_quarrel_44 (by decide) (kX12_quarrel_61 C h_X12_laysTable g_X12_laysTable h_X12_all g_X12_all h_J6_bitCount_0f7a4 g_J6_bitCount_0f7a4 h_X12_canServe g_X12_canServe h_X12_enters g_X12_enters j14 hq) (kX12_quarrel_47 C h_X12_laysTable g_X12_laysTable h_X12_all g_X12_all h_J6_bitCount_0f7a4 g_J6_bitCount_0f7a4 h_X12_canServe g_X12_canServe h_X12_enters g_X12_enters j14 hq)
def xX12_quarrel_41 (s_X12_laysTable : zq_Sp) (s_X12_all : zq_Sp) (s_J6_bitCount_0f7a4 : zq_Sp) (s_X12_canServe : zq_Sp) (s_X12_enters : zq_Sp) (J14 : zq_P) (Q : zq_Q) (ls : zq_L) (st : List Value) (h : zq_H) : Prop := (zi_push (.int 0) ((xX12_quarrel_42 s_X12_laysTable s_X12_all s_J6_bitCount_0f7a4 s_X12_canServe s_X12_enters J14 Q))) ls st h
theorem kX12_quarrel_41 {X : zq_X} {d : Nat} (C : zq_C X cX12_quarrel 4 RX12 d) {d_X12_laysTable : Nat} {s_X12_laysTable : zq_Sp} (h_X12_laysTable : zq_M yX12_laysTable cX12_laysTable 3 none 0 d_X12_laysTable s_X12_laysTable) (g_X12_laysTable : d_X12_laysTable + 1 ≤ d) {d_X12_all : Nat} {s_X12_all : zq_Sp} (h_X12_all : zq_M yX12_all cX12_all 1 (some .int) 1 d_X12_all s_X12_all) (g_X12_all : d_X12_all + 1 ≤ d) {d_J6_bitCount_0f7a4 : Nat} {s_J6_bitCount_0f7a4 : zq_Sp} (h_J6_bitCount_0f7a4 : zq_M yJ6_bitCount_0f7a4 cJ6_bitCount_0f7a4 1 (some .int) 1 d_J6_bitCount_0f7a4 s_J6_bitCount_0f7a4) (g_J6_bitCount_0f7a4 : d_J6_bitCount_0f7a4 + 1 ≤ d) {d_X12_canServe : Nat} {s_X12_canServe : zq_Sp} (h_X12_canServe : zq_M yX12_canServe cX12_canServe 3 (some .boolean) 1 d_X12_canServe s_X12_canServe) (g_X12_canServe : d_X12_canServe + 1 ≤ d) {d_X12_enters : Nat} {s_X12_enters : zq_Sp} (h_X12_enters : zq_M yX12_enters cX12_enters 3 none 0 d_X12_enters s_X12_enters) (g_X12_enters : d_X12_enters + 1 ≤ d) {J14 : zq_P} (j14 : zq_ok X 4 14 J14) {Q : zq_Q} (hq : zq_R X (some .int) 1 Q) : zq_ok X 4 41 (xX12_quarrel_41 s_X12_laysTable s_X12_all s_J6_bitCount_0f7a4 s_X12_canServe s_X12_enters J14 Q) := by
  refine zs_iconst C dX12_quarrel_41 (by decide) ?_
  exact kX12_quarrel_42 C h_X12_laysTable g_X12_laysTable h_X12_all g_X12_all h_J6_bitCount_0f7a4 g_J6_bitCount_0f7a4 h_X12_canServe g_X12_canServe h_X12_enters g_X12_enters j14 hq
def xX12_quarrel_37 (s_X12_laysTable : zq_Sp) (s_X12_all : zq_Sp) (s_J6_bitCount_0f7a4 : zq_Sp) (s_X12_canServe : zq_Sp) (s_X12_enters : zq_Sp) (J14 : zq_P) (Q : zq_Q) (ls : zq_L) (st : List Value) (h : zq_H) : Prop := (zi_push (.int 1) ((xX12_quarrel_42 s_X12_laysTable s_X12_all s_J6_bitCount_0f7a4 s_X12_canServe s_X12_enters J14 Q))) ls st h
theorem kX12_quarrel_37 {X : zq_X} {d : Nat} (C : zq_C X cX12_quarrel 4 RX12 d) {d_X12_laysTable : Nat} {s_X12_laysTable : zq_Sp} (h_X12_laysTable : zq_M yX12_laysTable cX12_laysTable 3 none 0 d_X12_laysTable s_X12_laysTable) (g_X12_laysTable : d_X12_laysTable + 1 ≤ d) {d_X12_all : Nat} {s_X12_all : zq_Sp} (h_X12_all : zq_M yX12_all cX12_all 1 (some .int) 1 d_X12_all s_X12_all) (g_X12_all : d_X12_all + 1 ≤ d) {d_J6_bitCount_0f7a4 : Nat} {s_J6_bitCount_0f7a4 : zq_Sp} (h_J6_bitCount_0f7a4 : zq_M yJ6_bitCount_0f7a4 cJ6_bitCount_0f7a4 1 (some .int) 1 d_J6_bitCount_0f7a4 s_J6_bitCount_0f7a4) (g_J6_bitCount_0f7a4 : d_J6_bitCount_0f7a4 + 1 ≤ d) {d_X12_canServe : Nat} {s_X12_canServe : zq_Sp} (h_X12_canServe : zq_M yX12_canServe cX12_canServe 3 (some .boolean) 1 d_X12_canServe s_X12_canServe) (g_X12_canServe : d_X12_canServe + 1 ≤ d) {d_X12_enters : Nat} {s_X12_enters : zq_Sp} (h_X12_enters : zq_M yX12_enters cX12_enters 3 none 0 d_X12_enters s_X12_enters) (g_X12_enters : d_X12_enters + 1 ≤ d) {J14 : zq_P} (j14 : zq_ok X 4 14 J14) {Q : zq_Q} (hq : zq_R X (some .int) 1 Q) : zq_ok X 4 37 (xX12_quarrel_37 s_X12_laysTable s_X12_all s_J6_bitCount_0f7a4 s_X12_canServe s_X12_enters J14 Q) := by
  refine zs_iconst C dX12_quarrel_37 (by decide) ?_
  exact zs_goto C dX12_quarrel_38 (by decide) (kX12_quarrel_42 C h_X12_laysTable g_X12_laysTable h_X12_all g_X12_all h_J6_bitCount_0f7a4 g_J6_bitCount_0f7a4 h_X12_canServe g_X12_canServe h_X12_enters g_X12_enters j14 hq)
def xX12_quarrel_26 (s_X12_laysTable : zq_Sp) (s_X12_all : zq_Sp) (s_J6_bitCount_0f7a4 : zq_Sp) (s_X12_canServe : zq_Sp) (s_X12_enters : zq_Sp) (J14 : zq_P) (Q : zq_Q) (ls : zq_L) (st : List Value) (h : zq_H) : Prop := (zi_iload 2 (zi_callS 1 s_J6_bitCount_0f7a4 (zi_iload 1 (zi_callS 1 s_J6_bitCount_0f7a4 (zi_if2 (fun x y => y ≤ x) (xX12_quarrel_41 s_X12_laysTable s_X12_all s_J6_bitCount_0f7a4 s_X12_canServe s_X12_enters J14 Q) (xX12_quarrel_37 s_X12_laysTable s_X12_all s_J6_bitCount_0f7a4 s_X12_canServe s_X12_enters J14 Q)))))) ls st h
theorem kX12_quarrel_26 {X : zq_X} {d : Nat} (C : zq_C X cX12_quarrel 4 RX12 d) {d_X12_laysTable : Nat} {s_X12_laysTable : zq_Sp} (h_X12_laysTable : zq_M yX12_laysTable cX12_laysTable 3 none 0 d_X12_laysTable s_X12_laysTable) (g_X12_laysTable : d_X12_laysTable + 1 ≤ d) {d_X12_all : Nat} {s_X12_all : zq_Sp} (h_X12_all : zq_M yX12_all cX12_all 1 (some .int) 1 d_X12_all s_X12_all) (g_X12_all : d_X12_all + 1 ≤ d) {d_J6_bitCount_0f7a4 : Nat} {s_J6_bitCount_0f7a4 : zq_Sp} (h_J6_bitCount_0f7a4 : zq_M yJ6_bitCount_0f7a4 cJ6_bitCount_0f7a4 1 (some .int) 1 d_J6_bitCount_0f7a4 s_J6_bitCount_0f7a4) (g_J6_bitCount_0f7a4 : d_J6_bitCount_0f7a4 + 1 ≤ d) {d_X12_canServe : Nat} {s_X12_canServe : zq_Sp} (h_X12_canServe : zq_M yX12_canServe cX12_canServe 3 (some .boolean) 1 d_X12_canServe s_X12_canServe) (g_X12_canServe : d_X12_canServe + 1 ≤ d) {d_X12_enters : Nat} {s_X12_enters : zq_Sp} (h_X12_enters : zq_M yX12_enters cX12_enters 3 none 0 d_X12_enters s_X12_enters) (g_X12_enters : d_X12_enters + 1 ≤ d) {J14 : zq_P} (j14 : zq_ok X 4 14 J14) {Q : zq_Q} (hq : zq_R X (some .int) 1 Q) : zq_ok X 4 26 (xX12_quarrel_26 s_X12_laysTable s_X12_all s_J6_bitCount_0f7a4 s_X12_canServe s_X12_enters J14 Q) := by
  refine zs_iload_n C dX12_quarrel_26 rfl ?_
  refine zs_callS C h_J6_bitCount_0f7a4 g_J6_bitCount_0f7a4 zy_J6_bitCount_0f7a4 zw_1590 zw_696 dX12_quarrel_27 ?_
  refine zs_iload_n C dX12_quarrel_30 rfl ?_
  refine zs_callS C h_J6_bitCount_0f7a4 g_J6_bitCount_0f7a4 zy_J6_bitCount_0f7a4 zw_1590 zw_696 dX12_quarrel_31 ?_
  exact zs_icmp_ge C dX12_quarrel_34 (by decide) (kX12_quarrel_41 C h_X12_laysTable g_X12_laysTable h_X12_all g_X12_all h_J6_bitCount_0f7a4 g_J6_bitCount_0f7a4 h_X12_canServe g_X12_canServe h_X12_enters g_X12_enters j14 hq) (kX12_quarrel_37 C h_X12_laysTable g_X12_laysTable h_X12_all g_X12_all h_J6_bitCount_0f7a4 g_J6_bitCount_0f7a4 h_X12_canServe g_X12_canServe h_X12_enters g_X12_enters j14 hq)
def xX12_quarrel_22 (s_X12_laysTable : zq_Sp) (s_X12_all : zq_Sp) (s_J6_bitCount_0f7a4 : zq_Sp) (s_X12_canServe : zq_Sp) (s_X12_enters : zq_Sp) (J14 : zq_P) (Q : zq_Q) (ls : zq_L) (st : List Value) (h : zq_H) : Prop := (zi_iload 1 (zi_if1 (fun x => x < 0) (xX12_quarrel_37 s_X12_laysTable s_X12_all s_J6_bitCount_0f7a4 s_X12_canServe s_X12_enters J14 Q) (xX12_quarrel_26 s_X12_laysTable s_X12_all s_J6_bitCount_0f7a4 s_X12_canServe s_X12_enters J14 Q))) ls st h
theorem kX12_quarrel_22 {X : zq_X} {d : Nat} (C : zq_C X cX12_quarrel 4 RX12 d) {d_X12_laysTable : Nat} {s_X12_laysTable : zq_Sp} (h_X12_laysTable : zq_M yX12_laysTable cX12_laysTable 3 none 0 d_X12_laysTable s_X12_laysTable) (g_X12_laysTable : d_X12_laysTable + 1 ≤ d) {d_X12_all : Nat} {s_X12_all : zq_Sp} (h_X12_all : zq_M yX12_all cX12_all 1 (some .int) 1 d_X12_all s_X12_all) (g_X12_all : d_X12_all + 1 ≤ d) {d_J6_bitCount_0f7a4 : Nat} {s_J6_bitCount_0f7a4 : zq_Sp} (h_J6_bitCount_0f7a4 : zq_M yJ6_bitCount_0f7a4 cJ6_bitCount_0f7a4 1 (some .int) 1 d_J6_bitCount_0f7a4 s_J6_bitCount_0f7a4) (g_J6_bitCount_0f7a4 : d_J6_bitCount_0f7a4 + 1 ≤ d) {d_X12_canServe : Nat} {s_X12_canServe : zq_Sp} (h_X12_canServe : zq_M yX12_canServe cX12_canServe 3 (some .boolean) 1 d_X12_canServe s_X12_canServe) (g_X12_canServe : d_X12_canServe + 1 ≤ d) {d_X12_enters : Nat} {s_X12_enters : zq_Sp} (h_X12_enters : zq_M yX12_enters cX12_enters 3 none 0 d_X12_enters s_X12_enters) (g_X12_enters : d_X12_enters + 1 ≤ d) {J14 : zq_P} (j14 : zq_ok X 4 14 J14) {Q : zq_Q} (hq : zq_R X (some .int) 1 Q) : zq_ok X 4 22 (xX12_quarrel_22 s_X12_laysTable s_X12_all s_J6_bitCount_0f7a4 s_X12_canServe s_X12_enters J14 Q) := by
  refine zs_iload_n C dX12_quarrel_22 rfl ?_
  exact zs_if_lt C dX12_quarrel_23 (by decide) (kX12_quarrel_37 C h_X12_laysTable g_X12_laysTable h_X12_all g_X12_all h_J6_bitCount_0f7a4 g_J6_bitCount_0f7a4 h_X12_canServe g_X12_canServe h_X12_enters g_X12_enters j14 hq) (kX12_quarrel_26 C h_X12_laysTable g_X12_laysTable h_X12_all g_X12_all h_J6_bitCount_0f7a4 g_J6_bitCount_0f7a4 h_X12_canServe g_X12_canServe h_X12_enters g_X12_enters j14 hq)
def xX12_quarrel_14 (s_X12_laysTable : zq_Sp) (s_X12_all : zq_Sp) (s_J6_bitCount_0f7a4 : zq_Sp) (s_X12_canServe : zq_Sp) (s_X12_enters : zq_Sp) (J14 : zq_P) (Q : zq_Q) (ls : zq_L) (st : List Value) (h : zq_H) : Prop := (zi_iload 2 (zi_aload 0 (zi_callV 0 56 s_X12_all (zi_if2 (fun x y => y < x) (xX12_quarrel_69 s_X12_laysTable s_X12_all s_J6_bitCount_0f7a4 s_X12_canServe s_X12_enters J14 Q) (xX12_quarrel_22 s_X12_laysTable s_X12_all s_J6_bitCount_0f7a4 s_X12_canServe s_X12_enters J14 Q))))) ls st h
theorem kX12_quarrel_14 {X : zq_X} {d : Nat} (C : zq_C X cX12_quarrel 4 RX12 d) {d_X12_laysTable : Nat} {s_X12_laysTable : zq_Sp} (h_X12_laysTable : zq_M yX12_laysTable cX12_laysTable 3 none 0 d_X12_laysTable s_X12_laysTable) (g_X12_laysTable : d_X12_laysTable + 1 ≤ d) {d_X12_all : Nat} {s_X12_all : zq_Sp} (h_X12_all : zq_M yX12_all cX12_all 1 (some .int) 1 d_X12_all s_X12_all) (g_X12_all : d_X12_all + 1 ≤ d) {d_J6_bitCount_0f7a4 : Nat} {s_J6_bitCount_0f7a4 : zq_Sp} (h_J6_bitCount_0f7a4 : zq_M yJ6_bitCount_0f7a4 cJ6_bitCount_0f7a4 1 (some .int) 1 d_J6_bitCount_0f7a4 s_J6_bitCount_0f7a4) (g_J6_bitCount_0f7a4 : d_J6_bitCount_0f7a4 + 1 ≤ d) {d_X12_canServe : Nat} {s_X12_canServe : zq_Sp} (h_X12_canServe : zq_M yX12_canServe cX12_canServe 3 (some .boolean) 1 d_X12_canServe s_X12_canServe) (g_X12_canServe : d_X12_canServe + 1 ≤ d) {d_X12_enters : Nat} {s_X12_enters : zq_Sp} (h_X12_enters : zq_M yX12_enters cX12_enters 3 none 0 d_X12_enters s_X12_enters) (g_X12_enters : d_X12_enters + 1 ≤ d) {J14 : zq_P} (j14 : zq_ok X 4 14 J14) {Q : zq_Q} (hq : zq_R X (some .int) 1 Q) : zq_ok X 4 14 (xX12_quarrel_14 s_X12_laysTable s_X12_all s_J6_bitCount_0f7a4 s_X12_canServe s_X12_enters J14 Q) := by
  refine zs_iload_n C dX12_quarrel_14 rfl ?_
  refine zs_aload_n C dX12_quarrel_15 rfl ?_
  refine zs_callV C h_X12_all g_X12_all zy_X12_all zp_56 (show vwCl[12]? = some (RX12, TX12, 67) from rfl) zw_1610 zw_1612 zs9_X12_all dX12_quarrel_16 ?_
  exact zs_icmp_gt C dX12_quarrel_19 (by decide) (kX12_quarrel_69 C h_X12_laysTable g_X12_laysTable h_X12_all g_X12_all h_J6_bitCount_0f7a4 g_J6_bitCount_0f7a4 h_X12_canServe g_X12_canServe h_X12_enters g_X12_enters j14 hq) (kX12_quarrel_22 C h_X12_laysTable g_X12_laysTable h_X12_all g_X12_all h_J6_bitCount_0f7a4 g_J6_bitCount_0f7a4 h_X12_canServe g_X12_canServe h_X12_enters g_X12_enters j14 hq)
def xX12_quarrel_0 (s_X12_laysTable : zq_Sp) (s_X12_all : zq_Sp) (s_J6_bitCount_0f7a4 : zq_Sp) (s_X12_canServe : zq_Sp) (s_X12_enters : zq_Sp) (J14 : zq_P) (Q : zq_Q) (ls : zq_L) (st : List Value) (h : zq_H) : Prop := (zi_aload 0 (zi_push (.int 0) (zi_putI 56 0 (zi_aload 0 (zi_callV 0 56 s_X12_laysTable (zi_push (.int (-2)) (zi_istore 1 (zi_push (.int 1) (zi_istore 2 (J14)))))))))) ls st h
theorem kX12_quarrel_0 {X : zq_X} {d : Nat} (C : zq_C X cX12_quarrel 4 RX12 d) {d_X12_laysTable : Nat} {s_X12_laysTable : zq_Sp} (h_X12_laysTable : zq_M yX12_laysTable cX12_laysTable 3 none 0 d_X12_laysTable s_X12_laysTable) (g_X12_laysTable : d_X12_laysTable + 1 ≤ d) {d_X12_all : Nat} {s_X12_all : zq_Sp} (h_X12_all : zq_M yX12_all cX12_all 1 (some .int) 1 d_X12_all s_X12_all) (g_X12_all : d_X12_all + 1 ≤ d) {d_J6_bitCount_0f7a4 : Nat} {s_J6_bitCount_0f7a4 : zq_Sp} (h_J6_bitCount_0f7a4 : zq_M yJ6_bitCount_0f7a4 cJ6_bitCount_0f7a4 1 (some .int) 1 d_J6_bitCount_0f7a4 s_J6_bitCount_0f7a4) (g_J6_bitCount_0f7a4 : d_J6_bitCount_0f7a4 + 1 ≤ d) {d_X12_canServe : Nat} {s_X12_canServe : zq_Sp} (h_X12_canServe : zq_M yX12_canServe cX12_canServe 3 (some .boolean) 1 d_X12_canServe s_X12_canServe) (g_X12_canServe : d_X12_canServe + 1 ≤ d) {d_X12_enters : Nat} {s_X12_enters : zq_Sp} (h_X12_enters : zq_M yX12_enters cX12_enters 3 none 0 d_X12_enters s_X12_enters) (g_X12_enters : d_X12_enters + 1 ≤ d) {J14 : zq_P} (j14 : zq_ok X 4 14 J14) {Q : zq_Q} (hq : zq_R X (some .int) 1 Q) : zq_ok X 4 0 (xX12_quarrel_0 s_X12_laysTable s_X12_all s_J6_bitCount_0f7a4 s_X12_canServe s_X12_enters J14 Q) := by
  refine zs_aload_n C dX12_quarrel_0 rfl ?_
  refine zs_iconst C dX12_quarrel_1 (by decide) ?_
  refine zs_putI C zp_56 zF12 (j := 0) ⟨by decide, rfl⟩ ⟨rfl, by decide +kernel⟩ zw_1096 dX12_quarrel_2 ?_
  refine zs_aload_n C dX12_quarrel_5 rfl ?_
  refine zs_callV C h_X12_laysTable g_X12_laysTable zy_X12_laysTable zp_56 (show vwCl[12]? = some (RX12, TX12, 67) from rfl) zw_1471 zw_1473 zs9_X12_laysTable dX12_quarrel_6 ?_
  refine zs_bipush C dX12_quarrel_9 (by decide) ?_
  refine zs_istore_n C dX12_quarrel_11 rfl (by decide) ?_
  refine zs_iconst C dX12_quarrel_12 (by decide) ?_
  refine zs_istore_n C dX12_quarrel_13 rfl (by decide) ?_
  exact j14
theorem mX12_quarrel {d : Nat} {spec : zq_Sp} {σ14 : Type} {d_X12_laysTable : Nat} {s_X12_laysTable : zq_Sp} (h_X12_laysTable : zq_M yX12_laysTable cX12_laysTable 3 none 0 d_X12_laysTable s_X12_laysTable) (g_X12_laysTable : d_X12_laysTable + 1 ≤ d) {d_X12_all : Nat} {s_X12_all : zq_Sp} (h_X12_all : zq_M yX12_all cX12_all 1 (some .int) 1 d_X12_all s_X12_all) (g_X12_all : d_X12_all + 1 ≤ d) {d_J6_bitCount_0f7a4 : Nat} {s_J6_bitCount_0f7a4 : zq_Sp} (h_J6_bitCount_0f7a4 : zq_M yJ6_bitCount_0f7a4 cJ6_bitCount_0f7a4 1 (some .int) 1 d_J6_bitCount_0f7a4 s_J6_bitCount_0f7a4) (g_J6_bitCount_0f7a4 : d_J6_bitCount_0f7a4 + 1 ≤ d) {d_X12_canServe : Nat} {s_X12_canServe : zq_Sp} (h_X12_canServe : zq_M yX12_canServe cX12_canServe 3 (some .boolean) 1 d_X12_canServe s_X12_canServe) (g_X12_canServe : d_X12_canServe + 1 ≤ d) {d_X12_enters : Nat} {s_X12_enters : zq_Sp} (h_X12_enters : zq_M yX12_enters cX12_enters 3 none 0 d_X12_enters s_X12_enters) (g_X12_enters : d_X12_enters + 1 ≤ d) (μ14 : σ14 → Nat) (I14 : zq_Q → σ14 → zq_P) (v : ∀ args h Q, spec args h Q → (zq_a args).length ≤ 4 ∧ xX12_quarrel_0 s_X12_laysTable s_X12_all s_J6_bitCount_0f7a4 s_X12_canServe s_X12_enters (fun ls st h => ∃ b, I14 Q b ls st h) Q (zq_l0 4 args) [] h) (v14 : ∀ Q a ls st h, I14 Q a ls st h → xX12_quarrel_14 s_X12_laysTable s_X12_all s_J6_bitCount_0f7a4 s_X12_canServe s_X12_enters (fun ls st h => ∃ b, μ14 b < μ14 a ∧ I14 Q b ls st h) Q ls st h) : zq_M yX12_quarrel cX12_quarrel 4 (some .int) 1 d spec := by
  refine zq_met (by decide +kernel) (by decide) (fun X Q args h C hq hs => ⟨(v args h Q hs).1, _, ?_, (v args h Q hs).2⟩)
  have hl := zq_loop1 (X := X) (nL := 4) (pc1 := 14) μ14 (I14 Q) (fun J14 => xX12_quarrel_14 s_X12_laysTable s_X12_all s_J6_bitCount_0f7a4 s_X12_canServe s_X12_enters J14 Q) (fun j14 => kX12_quarrel_14 C h_X12_laysTable g_X12_laysTable h_X12_all g_X12_all h_J6_bitCount_0f7a4 g_J6_bitCount_0f7a4 h_X12_canServe g_X12_canServe h_X12_enters g_X12_enters j14 hq) (v14 Q)
  exact kX12_quarrel_0 C h_X12_laysTable g_X12_laysTable h_X12_all g_X12_all h_J6_bitCount_0f7a4 g_J6_bitCount_0f7a4 h_X12_canServe g_X12_canServe h_X12_enters g_X12_enters hl hq
/-! ToOneCrumbModel.stretch()I -/
theorem dX12_stretch_0 : decode cX12_stretch 0 = .ok (.aload_n 0, 1) := by decide +kernel
theorem dX12_stretch_1 : decode cX12_stretch 1 = .ok (.iconst 0, 1) := by decide +kernel
theorem dX12_stretch_2 : decode cX12_stretch 2 = .ok (.putfield 147, 3) := by decide +kernel
theorem dX12_stretch_5 : decode cX12_stretch 5 = .ok (.aload_n 0, 1) := by decide +kernel
theorem dX12_stretch_6 : decode cX12_stretch 6 = .ok (.getfield 165, 3) := by decide +kernel
theorem dX12_stretch_9 : decode cX12_stretch 9 = .ok (.ifCond .ne 6, 3) := by decide +kernel
theorem dX12_stretch_12 : decode cX12_stretch 12 = .ok (.bipush (-2), 2) := by decide +kernel
theorem dX12_stretch_14 : decode cX12_stretch 14 = .ok (.ireturn, 1) := by decide +kernel
theorem dX12_stretch_15 : decode cX12_stretch 15 = .ok (.aload_n 0, 1) := by decide +kernel
theorem dX12_stretch_16 : decode cX12_stretch 16 = .ok (.invokevirtual 318, 3) := by decide +kernel
theorem dX12_stretch_19 : decode cX12_stretch 19 = .ok (.iconst 0, 1) := by decide +kernel
theorem dX12_stretch_20 : decode cX12_stretch 20 = .ok (.istore_n 1, 1) := by decide +kernel
theorem dX12_stretch_21 : decode cX12_stretch 21 = .ok (.iload_n 1, 1) := by decide +kernel
theorem dX12_stretch_22 : decode cX12_stretch 22 = .ok (.sipush 200, 3) := by decide +kernel
theorem dX12_stretch_25 : decode cX12_stretch 25 = .ok (.if_icmp .ge 23, 3) := by decide +kernel
theorem dX12_stretch_28 : decode cX12_stretch 28 = .ok (.aload_n 0, 1) := by decide +kernel
theorem dX12_stretch_29 : decode cX12_stretch 29 = .ok (.aload_n 0, 1) := by decide +kernel
theorem dX12_stretch_30 : decode cX12_stretch 30 = .ok (.invokevirtual 392, 3) := by decide +kernel
theorem dX12_stretch_33 : decode cX12_stretch 33 = .ok (.iload_n 1, 1) := by decide +kernel
theorem dX12_stretch_34 : decode cX12_stretch 34 = .ok (.iconst 1, 1) := by decide +kernel
theorem dX12_stretch_35 : decode cX12_stretch 35 = .ok (.iadd, 1) := by decide +kernel
theorem dX12_stretch_36 : decode cX12_stretch 36 = .ok (.invokevirtual 395, 3) := by decide +kernel
theorem dX12_stretch_39 : decode cX12_stretch 39 = .ok (.ifCond .eq 9, 3) := by decide +kernel
theorem dX12_stretch_42 : decode cX12_stretch 42 = .ok (.iinc 1 1, 3) := by decide +kernel
theorem dX12_stretch_45 : decode cX12_stretch 45 = .ok (.goto (-24), 3) := by decide +kernel
theorem dX12_stretch_48 : decode cX12_stretch 48 = .ok (.iload_n 1, 1) := by decide +kernel
theorem dX12_stretch_49 : decode cX12_stretch 49 = .ok (.ireturn, 1) := by decide +kernel
def xX12_stretch_48 (s_X12_laysTable : zq_Sp) (s_X12_all : zq_Sp) (s_X12_canServe : zq_Sp) (J21 : zq_P) (Q : zq_Q) (ls : zq_L) (st : List Value) (h : zq_H) : Prop := (zi_iload 1 (zi_iret Q)) ls st h
theorem kX12_stretch_48 {X : zq_X} {d : Nat} (C : zq_C X cX12_stretch 2 RX12 d) {d_X12_laysTable : Nat} {s_X12_laysTable : zq_Sp} (h_X12_laysTable : zq_M yX12_laysTable cX12_laysTable 3 none 0 d_X12_laysTable s_X12_laysTable) (g_X12_laysTable : d_X12_laysTable + 1 ≤ d) {d_X12_all : Nat} {s_X12_all : zq_Sp} (h_X12_all : zq_M yX12_all cX12_all 1 (some .int) 1 d_X12_all s_X12_all) (g_X12_all : d_X12_all + 1 ≤ d) {d_X12_canServe : Nat} {s_X12_canServe : zq_Sp} (h_X12_canServe : zq_M yX12_canServe cX12_canServe 3 (some .boolean) 1 d_X12_canServe s_X12_canServe) (g_X12_canServe : d_X12_canServe + 1 ≤ d) {J21 : zq_P} (j21 : zq_ok X 2 21 J21) {Q : zq_Q} (hq : zq_R X (some .int) 1 Q) : zq_ok X 2 48 (xX12_stretch_48 s_X12_laysTable s_X12_all s_X12_canServe J21 Q) := by
  refine zs_iload_n C dX12_stretch_48 rfl ?_
  exact zs_iret C hq dX12_stretch_49
def xX12_stretch_42 (s_X12_laysTable : zq_Sp) (s_X12_all : zq_Sp) (s_X12_canServe : zq_Sp) (J21 : zq_P) (Q : zq_Q) (ls : zq_L) (st : List Value) (h : zq_H) : Prop := (zi_iinc 1 1 (J21)) ls st h
theorem kX12_stretch_42 {X : zq_X} {d : Nat} (C : zq_C X cX12_stretch 2 RX12 d) {d_X12_laysTable : Nat} {s_X12_laysTable : zq_Sp} (h_X12_laysTable : zq_M yX12_laysTable cX12_laysTable 3 none 0 d_X12_laysTable s_X12_laysTable) (g_X12_laysTable : d_X12_laysTable + 1 ≤ d) {d_X12_all : Nat} {s_X12_all : zq_Sp} (h_X12_all : zq_M yX12_all cX12_all 1 (some .int) 1 d_X12_all s_X12_all) (g_X12_all : d_X12_all + 1 ≤ d) {d_X12_canServe : Nat} {s_X12_canServe : zq_Sp} (h_X12_canServe : zq_M yX12_canServe cX12_canServe 3 (some .boolean) 1 d_X12_canServe s_X12_canServe) (g_X12_canServe : d_X12_canServe + 1 ≤ d) {J21 : zq_P} (j21 : zq_ok X 2 21 J21) {Q : zq_Q} (hq : zq_R X (some .int) 1 Q) : zq_ok X 2 42 (xX12_stretch_42 s_X12_laysTable s_X12_all s_X12_canServe J21 Q) := by
  refine zs_iinc C dX12_stretch_42 (by decide) (by decide) ?_
  exact zs_goto C dX12_stretch_45 (by decide) (j21)
def xX12_stretch_28 (s_X12_laysTable : zq_Sp) (s_X12_all : zq_Sp) (s_X12_canServe : zq_Sp) (J21 : zq_P) (Q : zq_Q) (ls : zq_L) (st : List Value) (h : zq_H) : Prop := (zi_aload 0 (zi_aload 0 (zi_callV 0 56 s_X12_all (zi_iload 1 (zi_push (.int 1) (zi_i2 (fun x y => x + y) (zi_callV 2 56 s_X12_canServe (zi_if1 (fun x => x = 0) (xX12_stretch_48 s_X12_laysTable s_X12_all s_X12_canServe J21 Q) (xX12_stretch_42 s_X12_laysTable s_X12_all s_X12_canServe J21 Q))))))))) ls st h
theorem kX12_stretch_28 {X : zq_X} {d : Nat} (C : zq_C X cX12_stretch 2 RX12 d) {d_X12_laysTable : Nat} {s_X12_laysTable : zq_Sp} (h_X12_laysTable : zq_M yX12_laysTable cX12_laysTable 3 none 0 d_X12_laysTable s_X12_laysTable) (g_X12_laysTable : d_X12_laysTable + 1 ≤ d) {d_X12_all : Nat} {s_X12_all : zq_Sp} (h_X12_all : zq_M yX12_all cX12_all 1 (some .int) 1 d_X12_all s_X12_all) (g_X12_all : d_X12_all + 1 ≤ d) {d_X12_canServe : Nat} {s_X12_canServe : zq_Sp} (h_X12_canServe : zq_M yX12_canServe cX12_canServe 3 (some .boolean) 1 d_X12_canServe s_X12_canServe) (g_X12_canServe : d_X12_canServe + 1 ≤ d) {J21 : zq_P} (j21 : zq_ok X 2 21 J21) {Q : zq_Q} (hq : zq_R X (some .int) 1 Q) : zq_ok X 2 28 (xX12_stretch_28 s_X12_laysTable s_X12_all s_X12_canServe J21 Q) := by
  refine zs_aload_n C dX12_stretch_28 rfl ?_
  refine zs_aload_n C dX12_stretch_29 rfl ?_
  refine zs_callV C h_X12_all g_X12_all zy_X12_all zp_56 (show vwCl[12]? = some (RX12, TX12, 67) from rfl) zw_1610 zw_1612 zs9_X12_all dX12_stretch_30 ?_
  refine zs_iload_n C dX12_stretch_33 rfl ?_
  refine zs_iconst C dX12_stretch_34 (by decide) ?_
  refine zs_iadd C dX12_stretch_35 ?_
  refine zs_callV C h_X12_canServe g_X12_canServe zy_X12_canServe zp_56 (show vwCl[12]? = some (RX12, TX12, 67) from rfl) zw_1614 zw_1616 zs9_X12_canServe dX12_stretch_36 ?_
  exact zs_if_eq C dX12_stretch_39 (by decide) (kX12_stretch_48 C h_X12_laysTable g_X12_laysTable h_X12_all g_X12_all h_X12_canServe g_X12_canServe j21 hq) (kX12_stretch_42 C h_X12_laysTable g_X12_laysTable h_X12_all g_X12_all h_X12_canServe g_X12_canServe j21 hq)
def xX12_stretch_21 (s_X12_laysTable : zq_Sp) (s_X12_all : zq_Sp) (s_X12_canServe : zq_Sp) (J21 : zq_P) (Q : zq_Q) (ls : zq_L) (st : List Value) (h : zq_H) : Prop := (zi_iload 1 (zi_push (.int 200) (zi_if2 (fun x y => y ≤ x) (xX12_stretch_48 s_X12_laysTable s_X12_all s_X12_canServe J21 Q) (xX12_stretch_28 s_X12_laysTable s_X12_all s_X12_canServe J21 Q)))) ls st h
theorem kX12_stretch_21 {X : zq_X} {d : Nat} (C : zq_C X cX12_stretch 2 RX12 d) {d_X12_laysTable : Nat} {s_X12_laysTable : zq_Sp} (h_X12_laysTable : zq_M yX12_laysTable cX12_laysTable 3 none 0 d_X12_laysTable s_X12_laysTable) (g_X12_laysTable : d_X12_laysTable + 1 ≤ d) {d_X12_all : Nat} {s_X12_all : zq_Sp} (h_X12_all : zq_M yX12_all cX12_all 1 (some .int) 1 d_X12_all s_X12_all) (g_X12_all : d_X12_all + 1 ≤ d) {d_X12_canServe : Nat} {s_X12_canServe : zq_Sp} (h_X12_canServe : zq_M yX12_canServe cX12_canServe 3 (some .boolean) 1 d_X12_canServe s_X12_canServe) (g_X12_canServe : d_X12_canServe + 1 ≤ d) {J21 : zq_P} (j21 : zq_ok X 2 21 J21) {Q : zq_Q} (hq : zq_R X (some .int) 1 Q) : zq_ok X 2 21 (xX12_stretch_21 s_X12_laysTable s_X12_all s_X12_canServe J21 Q) := by
  refine zs_iload_n C dX12_stretch_21 rfl ?_
  refine zs_sipush C dX12_stretch_22 (by decide) ?_
  exact zs_icmp_ge C dX12_stretch_25 (by decide) (kX12_stretch_48 C h_X12_laysTable g_X12_laysTable h_X12_all g_X12_all h_X12_canServe g_X12_canServe j21 hq) (kX12_stretch_28 C h_X12_laysTable g_X12_laysTable h_X12_all g_X12_all h_X12_canServe g_X12_canServe j21 hq)
def xX12_stretch_15 (s_X12_laysTable : zq_Sp) (s_X12_all : zq_Sp) (s_X12_canServe : zq_Sp) (J21 : zq_P) (Q : zq_Q) (ls : zq_L) (st : List Value) (h : zq_H) : Prop := (zi_aload 0 (zi_callV 0 56 s_X12_laysTable (zi_push (.int 0) (zi_istore 1 (J21))))) ls st h
theorem kX12_stretch_15 {X : zq_X} {d : Nat} (C : zq_C X cX12_stretch 2 RX12 d) {d_X12_laysTable : Nat} {s_X12_laysTable : zq_Sp} (h_X12_laysTable : zq_M yX12_laysTable cX12_laysTable 3 none 0 d_X12_laysTable s_X12_laysTable) (g_X12_laysTable : d_X12_laysTable + 1 ≤ d) {d_X12_all : Nat} {s_X12_all : zq_Sp} (h_X12_all : zq_M yX12_all cX12_all 1 (some .int) 1 d_X12_all s_X12_all) (g_X12_all : d_X12_all + 1 ≤ d) {d_X12_canServe : Nat} {s_X12_canServe : zq_Sp} (h_X12_canServe : zq_M yX12_canServe cX12_canServe 3 (some .boolean) 1 d_X12_canServe s_X12_canServe) (g_X12_canServe : d_X12_canServe + 1 ≤ d) {J21 : zq_P} (j21 : zq_ok X 2 21 J21) {Q : zq_Q} (hq : zq_R X (some .int) 1 Q) : zq_ok X 2 15 (xX12_stretch_15 s_X12_laysTable s_X12_all s_X12_canServe J21 Q) := by
  refine zs_aload_n C dX12_stretch_15 rfl ?_
  refine zs_callV C h_X12_laysTable g_X12_laysTable zy_X12_laysTable zp_56 (show vwCl[12]? = some (RX12, TX12, 67) from rfl) zw_1471 zw_1473 zs9_X12_laysTable dX12_stretch_16 ?_
  refine zs_iconst C dX12_stretch_19 (by decide) ?_
  refine zs_istore_n C dX12_stretch_20 rfl (by decide) ?_
  exact j21
def xX12_stretch_12 (s_X12_laysTable : zq_Sp) (s_X12_all : zq_Sp) (s_X12_canServe : zq_Sp) (J21 : zq_P) (Q : zq_Q) (ls : zq_L) (st : List Value) (h : zq_H) : Prop := (zi_push (.int (-2)) (zi_iret Q)) ls st h
theorem kX12_stretch_12 {X : zq_X} {d : Nat} (C : zq_C X cX12_stretch 2 RX12 d) {d_X12_laysTable : Nat} {s_X12_laysTable : zq_Sp} (h_X12_laysTable : zq_M yX12_laysTable cX12_laysTable 3 none 0 d_X12_laysTable s_X12_laysTable) (g_X12_laysTable : d_X12_laysTable + 1 ≤ d) {d_X12_all : Nat} {s_X12_all : zq_Sp} (h_X12_all : zq_M yX12_all cX12_all 1 (some .int) 1 d_X12_all s_X12_all) (g_X12_all : d_X12_all + 1 ≤ d) {d_X12_canServe : Nat} {s_X12_canServe : zq_Sp} (h_X12_canServe : zq_M yX12_canServe cX12_canServe 3 (some .boolean) 1 d_X12_canServe s_X12_canServe) (g_X12_canServe : d_X12_canServe + 1 ≤ d) {J21 : zq_P} (j21 : zq_ok X 2 21 J21) {Q : zq_Q} (hq : zq_R X (some .int) 1 Q) : zq_ok X 2 12 (xX12_stretch_12 s_X12_laysTable s_X12_all s_X12_canServe J21 Q) := by
  refine zs_bipush C dX12_stretch_12 (by decide) ?_
  exact zs_iret C hq dX12_stretch_14
def xX12_stretch_0 (s_X12_laysTable : zq_Sp) (s_X12_all : zq_Sp) (s_X12_canServe : zq_Sp) (J21 : zq_P) (Q : zq_Q) (ls : zq_L) (st : List Value) (h : zq_H) : Prop := (zi_aload 0 (zi_push (.int 0) (zi_putI 56 0 (zi_aload 0 (zi_getI 56 4 (zi_if1 (fun x => x = 0) (xX12_stretch_12 s_X12_laysTable s_X12_all s_X12_canServe J21 Q) (xX12_stretch_15 s_X12_laysTable s_X12_all s_X12_canServe J21 Q))))))) ls st h
theorem kX12_stretch_0 {X : zq_X} {d : Nat} (C : zq_C X cX12_stretch 2 RX12 d) {d_X12_laysTable : Nat} {s_X12_laysTable : zq_Sp} (h_X12_laysTable : zq_M yX12_laysTable cX12_laysTable 3 none 0 d_X12_laysTable s_X12_laysTable) (g_X12_laysTable : d_X12_laysTable + 1 ≤ d) {d_X12_all : Nat} {s_X12_all : zq_Sp} (h_X12_all : zq_M yX12_all cX12_all 1 (some .int) 1 d_X12_all s_X12_all) (g_X12_all : d_X12_all + 1 ≤ d) {d_X12_canServe : Nat} {s_X12_canServe : zq_Sp} (h_X12_canServe : zq_M yX12_canServe cX12_canServe 3 (some .boolean) 1 d_X12_canServe s_X12_canServe) (g_X12_canServe : d_X12_canServe + 1 ≤ d) {J21 : zq_P} (j21 : zq_ok X 2 21 J21) {Q : zq_Q} (hq : zq_R X (some .int) 1 Q) : zq_ok X 2 0 (xX12_stretch_0 s_X12_laysTable s_X12_all s_X12_canServe J21 Q) := by
  refine zs_aload_n C dX12_stretch_0 rfl ?_
  refine zs_iconst C dX12_stretch_1 (by decide) ?_
  refine zs_putI C zp_56 zF12 (j := 0) ⟨by decide, rfl⟩ ⟨rfl, by decide +kernel⟩ zw_1096 dX12_stretch_2 ?_
  refine zs_aload_n C dX12_stretch_5 rfl ?_
  refine zs_getI C zp_56 zF12 (j := 4) ⟨by decide, rfl⟩ zw_1100 dX12_stretch_6 ?_
  exact zs_if_ne C dX12_stretch_9 (by decide) (kX12_stretch_15 C h_X12_laysTable g_X12_laysTable h_X12_all g_X12_all h_X12_canServe g_X12_canServe j21 hq) (kX12_stretch_12 C h_X12_laysTable g_X12_laysTable h_X12_all g_X12_all h_X12_canServe g_X12_canServe j21 hq)
theorem mX12_stretch {d : Nat} {spec : zq_Sp} {σ21 : Type} {d_X12_laysTable : Nat} {s_X12_laysTable : zq_Sp} (h_X12_laysTable : zq_M yX12_laysTable cX12_laysTable 3 none 0 d_X12_laysTable s_X12_laysTable) (g_X12_laysTable : d_X12_laysTable + 1 ≤ d) {d_X12_all : Nat} {s_X12_all : zq_Sp} (h_X12_all : zq_M yX12_all cX12_all 1 (some .int) 1 d_X12_all s_X12_all) (g_X12_all : d_X12_all + 1 ≤ d) {d_X12_canServe : Nat} {s_X12_canServe : zq_Sp} (h_X12_canServe : zq_M yX12_canServe cX12_canServe 3 (some .boolean) 1 d_X12_canServe s_X12_canServe) (g_X12_canServe : d_X12_canServe + 1 ≤ d) (μ21 : σ21 → Nat) (I21 : zq_Q → σ21 → zq_P) (v : ∀ args h Q, spec args h Q → (zq_a args).length ≤ 2 ∧ xX12_stretch_0 s_X12_laysTable s_X12_all s_X12_canServe (fun ls st h => ∃ b, I21 Q b ls st h) Q (zq_l0 2 args) [] h) (v21 : ∀ Q a ls st h, I21 Q a ls st h → xX12_stretch_21 s_X12_laysTable s_X12_all s_X12_canServe (fun ls st h => ∃ b, μ21 b < μ21 a ∧ I21 Q b ls st h) Q ls st h) : zq_M yX12_stretch cX12_stretch 2 (some .int) 1 d spec := by
  refine zq_met (by decide +kernel) (by decide) (fun X Q args h C hq hs => ⟨(v args h Q hs).1, _, ?_, (v args h Q hs).2⟩)
  have hl := zq_loop1 (X := X) (nL := 2) (pc1 := 21) μ21 (I21 Q) (fun J21 => xX12_stretch_21 s_X12_laysTable s_X12_all s_X12_canServe J21 Q) (fun j21 => kX12_stretch_21 C h_X12_laysTable g_X12_laysTable h_X12_all g_X12_all h_X12_canServe g_X12_canServe j21 hq) (v21 Q)
  exact kX12_stretch_0 C h_X12_laysTable g_X12_laysTable h_X12_all g_X12_all h_X12_canServe g_X12_canServe hl hq
