/-! ToOneCrumb.sign(I)I -/
theorem dX11_sign_0 : decode cX11_sign 0 = .ok (.aload_n 0, 1) := by decide +kernel
theorem dX11_sign_1 : decode cX11_sign 1 = .ok (.getfield 10, 3) := by decide +kernel
theorem dX11_sign_4 : decode cX11_sign 4 = .ok (.iload_n 1, 1) := by decide +kernel
theorem dX11_sign_5 : decode cX11_sign 5 = .ok (.invokevirtual 99, 3) := by decide +kernel
theorem dX11_sign_8 : decode cX11_sign 8 = .ok (.ireturn, 1) := by decide +kernel
def xX11_sign_0 (s_X8_addFour : zq_Sp) (Q : zq_Q) (ls : zq_L) (st : List Value) (h : zq_H) : Prop := (zi_aload 0 (zi_getR 0 1 (zi_iload 1 (zi_callV 1 1 s_X8_addFour (zi_iret Q))))) ls st h
theorem kX11_sign_0 {X : zq_X} {d : Nat} (C : zq_C X cX11_sign 2 RX11 d) {d_X8_addFour : Nat} {s_X8_addFour : zq_Sp} (h_X8_addFour : zq_M yX8_addFour cX8_addFour 3 (some .int) 1 d_X8_addFour s_X8_addFour) (g_X8_addFour : d_X8_addFour + 1 ≤ d) {Q : zq_Q} (hq : zq_R X (some .int) 1 Q) : zq_ok X 2 0 (xX11_sign_0 s_X8_addFour Q) := by
  refine zs_aload_n C dX11_sign_0 rfl ?_
  refine zs_getR C zp_0 zF11 (j := 0) ⟨by decide, rfl⟩ zw_315 dX11_sign_1 ?_
  refine zs_iload_n C dX11_sign_4 rfl ?_
  refine zs_callV C h_X8_addFour g_X8_addFour zy_X8_addFour zp_1 (show vwCl[8]? = some (RX8, TX8, 4) from rfl) zw_368 zw_369 zs9_X8_addFour dX11_sign_5 ?_
  exact zs_iret C hq dX11_sign_8
theorem mX11_sign {d : Nat} {spec : zq_Sp} {d_X8_addFour : Nat} {s_X8_addFour : zq_Sp} (h_X8_addFour : zq_M yX8_addFour cX8_addFour 3 (some .int) 1 d_X8_addFour s_X8_addFour) (g_X8_addFour : d_X8_addFour + 1 ≤ d) (v : ∀ args h Q, spec args h Q → (zq_a args).length ≤ 2 ∧ xX11_sign_0 s_X8_addFour Q (zq_l0 2 args) [] h) : zq_M yX11_sign cX11_sign 2 (some .int) 1 d spec := by
  refine zq_met (by decide +kernel) (by decide) (fun X Q args h C hq hs => ⟨(v args h Q hs).1, _, ?_, (v args h Q hs).2⟩)
  exact kX11_sign_0 C h_X8_addFour g_X8_addFour hq
/-! ToOneCrumb.end(I)Z -/
theorem dX11_end_0 : decode cX11_end 0 = .ok (.aload_n 0, 1) := by decide +kernel
theorem dX11_end_1 : decode cX11_end 1 = .ok (.getfield 10, 3) := by decide +kernel
theorem dX11_end_4 : decode cX11_end 4 = .ok (.iload_n 1, 1) := by decide +kernel
theorem dX11_end_5 : decode cX11_end 5 = .ok (.invokevirtual 103, 3) := by decide +kernel
theorem dX11_end_8 : decode cX11_end 8 = .ok (.ireturn, 1) := by decide +kernel
def xX11_end_0 (s_X8_shorten : zq_Sp) (Q : zq_Q) (ls : zq_L) (st : List Value) (h : zq_H) : Prop := (zi_aload 0 (zi_getR 0 1 (zi_iload 1 (zi_callV 1 1 s_X8_shorten (zi_zret Q))))) ls st h
theorem kX11_end_0 {X : zq_X} {d : Nat} (C : zq_C X cX11_end 2 RX11 d) {d_X8_shorten : Nat} {s_X8_shorten : zq_Sp} (h_X8_shorten : zq_M yX8_shorten cX8_shorten 2 (some .boolean) 1 d_X8_shorten s_X8_shorten) (g_X8_shorten : d_X8_shorten + 1 ≤ d) {Q : zq_Q} (hq : zq_R X (some .boolean) 1 Q) : zq_ok X 2 0 (xX11_end_0 s_X8_shorten Q) := by
  refine zs_aload_n C dX11_end_0 rfl ?_
  refine zs_getR C zp_0 zF11 (j := 0) ⟨by decide, rfl⟩ zw_315 dX11_end_1 ?_
  refine zs_iload_n C dX11_end_4 rfl ?_
  refine zs_callV C h_X8_shorten g_X8_shorten zy_X8_shorten zp_1 (show vwCl[8]? = some (RX8, TX8, 4) from rfl) zw_376 zw_377 zs9_X8_shorten dX11_end_5 ?_
  exact zs_zret C hq dX11_end_8
theorem mX11_end {d : Nat} {spec : zq_Sp} {d_X8_shorten : Nat} {s_X8_shorten : zq_Sp} (h_X8_shorten : zq_M yX8_shorten cX8_shorten 2 (some .boolean) 1 d_X8_shorten s_X8_shorten) (g_X8_shorten : d_X8_shorten + 1 ≤ d) (v : ∀ args h Q, spec args h Q → (zq_a args).length ≤ 2 ∧ xX11_end_0 s_X8_shorten Q (zq_l0 2 args) [] h) : zq_M yX11_end cX11_end 2 (some .boolean) 1 d spec := by
  refine zq_met (by decide +kernel) (by decide) (fun X Q args h C hq hs => ⟨(v args h Q hs).1, _, ?_, (v args h Q hs).2⟩)
  exact kX11_end_0 C h_X8_shorten g_X8_shorten hq
/-! ToOneCrumb.loaf()I -/
theorem dX11_loaf_0 : decode cX11_loaf 0 = .ok (.aload_n 0, 1) := by decide +kernel
theorem dX11_loaf_1 : decode cX11_loaf 1 = .ok (.getfield 86, 3) := by decide +kernel
theorem dX11_loaf_4 : decode cX11_loaf 4 = .ok (.aload_n 0, 1) := by decide +kernel
theorem dX11_loaf_5 : decode cX11_loaf 5 = .ok (.getfield 10, 3) := by decide +kernel
theorem dX11_loaf_8 : decode cX11_loaf 8 = .ok (.invokevirtual 107, 3) := by decide +kernel
theorem dX11_loaf_11 : decode cX11_loaf 11 = .ok (.istore_n 1, 1) := by decide +kernel
theorem dX11_loaf_12 : decode cX11_loaf 12 = .ok (.aload_n 0, 1) := by decide +kernel
theorem dX11_loaf_13 : decode cX11_loaf 13 = .ok (.getfield 10, 3) := by decide +kernel
theorem dX11_loaf_16 : decode cX11_loaf 16 = .ok (.invokevirtual 111, 3) := by decide +kernel
theorem dX11_loaf_19 : decode cX11_loaf 19 = .ok (.iload_n 1, 1) := by decide +kernel
theorem dX11_loaf_20 : decode cX11_loaf 20 = .ok (.ifCond .ne 11, 3) := by decide +kernel
theorem dX11_loaf_23 : decode cX11_loaf 23 = .ok (.aload_n 0, 1) := by decide +kernel
theorem dX11_loaf_24 : decode cX11_loaf 24 = .ok (.getfield 10, 3) := by decide +kernel
theorem dX11_loaf_27 : decode cX11_loaf 27 = .ok (.invokevirtual 114, 3) := by decide +kernel
theorem dX11_loaf_30 : decode cX11_loaf 30 = .ok (.ireturn, 1) := by decide +kernel
theorem dX11_loaf_31 : decode cX11_loaf 31 = .ok (.aload_n 0, 1) := by decide +kernel
theorem dX11_loaf_32 : decode cX11_loaf 32 = .ok (.getfield 82, 3) := by decide +kernel
theorem dX11_loaf_35 : decode cX11_loaf 35 = .ok (.astore_n 2, 1) := by decide +kernel
theorem dX11_loaf_36 : decode cX11_loaf 36 = .ok (.aload_n 0, 1) := by decide +kernel
theorem dX11_loaf_37 : decode cX11_loaf 37 = .ok (.aload_n 0, 1) := by decide +kernel
theorem dX11_loaf_38 : decode cX11_loaf 38 = .ok (.getfield 86, 3) := by decide +kernel
theorem dX11_loaf_41 : decode cX11_loaf 41 = .ok (.putfield 82, 3) := by decide +kernel
theorem dX11_loaf_44 : decode cX11_loaf 44 = .ok (.aload_n 0, 1) := by decide +kernel
theorem dX11_loaf_45 : decode cX11_loaf 45 = .ok (.aload_n 2, 1) := by decide +kernel
theorem dX11_loaf_46 : decode cX11_loaf 46 = .ok (.putfield 86, 3) := by decide +kernel
theorem dX11_loaf_49 : decode cX11_loaf 49 = .ok (.aload_n 0, 1) := by decide +kernel
theorem dX11_loaf_50 : decode cX11_loaf 50 = .ok (.getfield 40, 3) := by decide +kernel
theorem dX11_loaf_53 : decode cX11_loaf 53 = .ok (.invokevirtual 118, 3) := by decide +kernel
theorem dX11_loaf_56 : decode cX11_loaf 56 = .ok (.aload_n 0, 1) := by decide +kernel
theorem dX11_loaf_57 : decode cX11_loaf 57 = .ok (.getfield 47, 3) := by decide +kernel
theorem dX11_loaf_60 : decode cX11_loaf 60 = .ok (.iconst 0, 1) := by decide +kernel
theorem dX11_loaf_61 : decode cX11_loaf 61 = .ok (.putfield 121, 3) := by decide +kernel
theorem dX11_loaf_64 : decode cX11_loaf 64 = .ok (.aload_n 0, 1) := by decide +kernel
theorem dX11_loaf_65 : decode cX11_loaf 65 = .ok (.invokevirtual 125, 3) := by decide +kernel
theorem dX11_loaf_68 : decode cX11_loaf 68 = .ok (.aload_n 0, 1) := by decide +kernel
theorem dX11_loaf_69 : decode cX11_loaf 69 = .ok (.getfield 82, 3) := by decide +kernel
theorem dX11_loaf_72 : decode cX11_loaf 72 = .ok (.getfield 128, 3) := by decide +kernel
theorem dX11_loaf_75 : decode cX11_loaf 75 = .ok (.ireturn, 1) := by decide +kernel
def xX11_loaf_31 (s_X2_read : zq_Sp) (s_X8_clear : zq_Sp) (s_X8_fault : zq_Sp) (J41 : zq_P) (Q : zq_Q) (ls : zq_L) (st : List Value) (h : zq_H) : Prop := (zi_aload 0 (zi_getR 0 40 (zi_astore 2 (zi_aload 0 (zi_aload 0 (zi_getR 0 44 (J41))))))) ls st h
theorem kX11_loaf_31 {X : zq_X} {d : Nat} (C : zq_C X cX11_loaf 3 RX11 d) {d_X2_read : Nat} {s_X2_read : zq_Sp} (h_X2_read : zq_M yX2_read cX2_read 4 (some .boolean) 1 d_X2_read s_X2_read) (g_X2_read : d_X2_read + 1 ≤ d) {d_X8_clear : Nat} {s_X8_clear : zq_Sp} (h_X8_clear : zq_M yX8_clear cX8_clear 1 none 0 d_X8_clear s_X8_clear) (g_X8_clear : d_X8_clear + 1 ≤ d) {d_X8_fault : Nat} {s_X8_fault : zq_Sp} (h_X8_fault : zq_M yX8_fault cX8_fault 1 (some .int) 1 d_X8_fault s_X8_fault) (g_X8_fault : d_X8_fault + 1 ≤ d) {J41 : zq_P} (j41 : zq_ok X 3 41 J41) {Q : zq_Q} (hq : zq_R X (some .int) 1 Q) : zq_ok X 3 31 (xX11_loaf_31 s_X2_read s_X8_clear s_X8_fault J41 Q) := by
  refine zs_aload_n C dX11_loaf_31 rfl ?_
  refine zs_getR C zp_0 zF11 (j := 11) ⟨by decide, rfl⟩ zw_326 dX11_loaf_32 ?_
  refine zs_astore_n C dX11_loaf_35 rfl (by decide) ?_
  refine zs_aload_n C dX11_loaf_36 rfl ?_
  refine zs_aload_n C dX11_loaf_37 rfl ?_
  refine zs_getR C zp_0 zF11 (j := 12) ⟨by decide, rfl⟩ zw_327 dX11_loaf_38 ?_
  exact j41
def xX11_loaf_23 (s_X2_read : zq_Sp) (s_X8_clear : zq_Sp) (s_X8_fault : zq_Sp) (J41 : zq_P) (Q : zq_Q) (ls : zq_L) (st : List Value) (h : zq_H) : Prop := (zi_aload 0 (zi_getR 0 1 (zi_callV 0 1 s_X8_fault (zi_iret Q)))) ls st h
theorem kX11_loaf_23 {X : zq_X} {d : Nat} (C : zq_C X cX11_loaf 3 RX11 d) {d_X2_read : Nat} {s_X2_read : zq_Sp} (h_X2_read : zq_M yX2_read cX2_read 4 (some .boolean) 1 d_X2_read s_X2_read) (g_X2_read : d_X2_read + 1 ≤ d) {d_X8_clear : Nat} {s_X8_clear : zq_Sp} (h_X8_clear : zq_M yX8_clear cX8_clear 1 none 0 d_X8_clear s_X8_clear) (g_X8_clear : d_X8_clear + 1 ≤ d) {d_X8_fault : Nat} {s_X8_fault : zq_Sp} (h_X8_fault : zq_M yX8_fault cX8_fault 1 (some .int) 1 d_X8_fault s_X8_fault) (g_X8_fault : d_X8_fault + 1 ≤ d) {J41 : zq_P} (j41 : zq_ok X 3 41 J41) {Q : zq_Q} (hq : zq_R X (some .int) 1 Q) : zq_ok X 3 23 (xX11_loaf_23 s_X2_read s_X8_clear s_X8_fault J41 Q) := by
  refine zs_aload_n C dX11_loaf_23 rfl ?_
  refine zs_getR C zp_0 zF11 (j := 0) ⟨by decide, rfl⟩ zw_315 dX11_loaf_24 ?_
  refine zs_callV C h_X8_fault g_X8_fault zy_X8_fault zp_1 (show vwCl[8]? = some (RX8, TX8, 4) from rfl) zw_419 zw_420 zs9_X8_fault dX11_loaf_27 ?_
  exact zs_iret C hq dX11_loaf_30
def xX11_loaf_0 (s_X2_read : zq_Sp) (s_X8_clear : zq_Sp) (s_X8_fault : zq_Sp) (J41 : zq_P) (Q : zq_Q) (ls : zq_L) (st : List Value) (h : zq_H) : Prop := (zi_aload 0 (zi_getR 0 44 (zi_aload 0 (zi_getR 0 1 (zi_callV 1 44 s_X2_read (zi_istore 1 (zi_aload 0 (zi_getR 0 1 (zi_callV 0 1 s_X8_clear (zi_iload 1 (zi_if1 (fun x => x = 0) (xX11_loaf_23 s_X2_read s_X8_clear s_X8_fault J41 Q) (xX11_loaf_31 s_X2_read s_X8_clear s_X8_fault J41 Q)))))))))))) ls st h
theorem kX11_loaf_0 {X : zq_X} {d : Nat} (C : zq_C X cX11_loaf 3 RX11 d) {d_X2_read : Nat} {s_X2_read : zq_Sp} (h_X2_read : zq_M yX2_read cX2_read 4 (some .boolean) 1 d_X2_read s_X2_read) (g_X2_read : d_X2_read + 1 ≤ d) {d_X8_clear : Nat} {s_X8_clear : zq_Sp} (h_X8_clear : zq_M yX8_clear cX8_clear 1 none 0 d_X8_clear s_X8_clear) (g_X8_clear : d_X8_clear + 1 ≤ d) {d_X8_fault : Nat} {s_X8_fault : zq_Sp} (h_X8_fault : zq_M yX8_fault cX8_fault 1 (some .int) 1 d_X8_fault s_X8_fault) (g_X8_fault : d_X8_fault + 1 ≤ d) {J41 : zq_P} (j41 : zq_ok X 3 41 J41) {Q : zq_Q} (hq : zq_R X (some .int) 1 Q) : zq_ok X 3 0 (xX11_loaf_0 s_X2_read s_X8_clear s_X8_fault J41 Q) := by
  refine zs_aload_n C dX11_loaf_0 rfl ?_
  refine zs_getR C zp_0 zF11 (j := 12) ⟨by decide, rfl⟩ zw_327 dX11_loaf_1 ?_
  refine zs_aload_n C dX11_loaf_4 rfl ?_
  refine zs_getR C zp_0 zF11 (j := 0) ⟨by decide, rfl⟩ zw_315 dX11_loaf_5 ?_
  refine zs_callV C h_X2_read g_X2_read zy_X2_read zp_44 (show vwCl[2]? = some (RX2, TX2, 4) from rfl) zw_384 zw_385 zs9_X2_read dX11_loaf_8 ?_
  refine zs_istore_n C dX11_loaf_11 rfl (by decide) ?_
  refine zs_aload_n C dX11_loaf_12 rfl ?_
  refine zs_getR C zp_0 zF11 (j := 0) ⟨by decide, rfl⟩ zw_315 dX11_loaf_13 ?_
  refine zs_callV C h_X8_clear g_X8_clear zy_X8_clear zp_1 (show vwCl[8]? = some (RX8, TX8, 4) from rfl) zw_415 zw_416 zs9_X8_clear dX11_loaf_16 ?_
  refine zs_iload_n C dX11_loaf_19 rfl ?_
  exact zs_if_ne C dX11_loaf_20 (by decide) (kX11_loaf_31 C h_X2_read g_X2_read h_X8_clear g_X8_clear h_X8_fault g_X8_fault j41 hq) (kX11_loaf_23 C h_X2_read g_X2_read h_X8_clear g_X8_clear h_X8_fault g_X8_fault j41 hq)
/-! ToOneCrumb.guests()I -/
theorem dX11_guests_0 : decode cX11_guests 0 = .ok (.aload_n 0, 1) := by decide +kernel
theorem dX11_guests_1 : decode cX11_guests 1 = .ok (.getfield 26, 3) := by decide +kernel
theorem dX11_guests_4 : decode cX11_guests 4 = .ok (.aload_n 0, 1) := by decide +kernel
theorem dX11_guests_5 : decode cX11_guests 5 = .ok (.getfield 10, 3) := by decide +kernel
theorem dX11_guests_8 : decode cX11_guests 8 = .ok (.invokevirtual 131, 3) := by decide +kernel
theorem dX11_guests_11 : decode cX11_guests 11 = .ok (.istore_n 1, 1) := by decide +kernel
theorem dX11_guests_12 : decode cX11_guests 12 = .ok (.aload_n 0, 1) := by decide +kernel
theorem dX11_guests_13 : decode cX11_guests 13 = .ok (.getfield 10, 3) := by decide +kernel
theorem dX11_guests_16 : decode cX11_guests 16 = .ok (.invokevirtual 111, 3) := by decide +kernel
theorem dX11_guests_19 : decode cX11_guests 19 = .ok (.iload_n 1, 1) := by decide +kernel
theorem dX11_guests_20 : decode cX11_guests 20 = .ok (.ifCond .ge 11, 3) := by decide +kernel
theorem dX11_guests_23 : decode cX11_guests 23 = .ok (.aload_n 0, 1) := by decide +kernel
theorem dX11_guests_24 : decode cX11_guests 24 = .ok (.getfield 10, 3) := by decide +kernel
theorem dX11_guests_27 : decode cX11_guests 27 = .ok (.invokevirtual 114, 3) := by decide +kernel
theorem dX11_guests_30 : decode cX11_guests 30 = .ok (.ireturn, 1) := by decide +kernel
theorem dX11_guests_31 : decode cX11_guests 31 = .ok (.aload_n 0, 1) := by decide +kernel
theorem dX11_guests_32 : decode cX11_guests 32 = .ok (.getfield 26, 3) := by decide +kernel
theorem dX11_guests_35 : decode cX11_guests 35 = .ok (.iload_n 1, 1) := by decide +kernel
theorem dX11_guests_36 : decode cX11_guests 36 = .ok (.invokevirtual 135, 3) := by decide +kernel
theorem dX11_guests_39 : decode cX11_guests 39 = .ok (.aload_n 0, 1) := by decide +kernel
theorem dX11_guests_40 : decode cX11_guests 40 = .ok (.invokevirtual 125, 3) := by decide +kernel
theorem dX11_guests_43 : decode cX11_guests 43 = .ok (.iload_n 1, 1) := by decide +kernel
theorem dX11_guests_44 : decode cX11_guests 44 = .ok (.ireturn, 1) := by decide +kernel
def xX11_guests_31 (s_X3_readLines : zq_Sp) (s_X8_clear : zq_Sp) (s_X8_fault : zq_Sp) (s_X3_admit : zq_Sp) (s_X11_renewWorths : zq_Sp) (Q : zq_Q) (ls : zq_L) (st : List Value) (h : zq_H) : Prop := (zi_aload 0 (zi_getR 0 5 (zi_iload 1 (zi_callV 1 5 s_X3_admit (zi_aload 0 (zi_callV 0 0 s_X11_renewWorths (zi_iload 1 (zi_iret Q)))))))) ls st h
theorem kX11_guests_31 {X : zq_X} {d : Nat} (C : zq_C X cX11_guests 2 RX11 d) {d_X3_readLines : Nat} {s_X3_readLines : zq_Sp} (h_X3_readLines : zq_M yX3_readLines cX3_readLines 5 (some .int) 1 d_X3_readLines s_X3_readLines) (g_X3_readLines : d_X3_readLines + 1 ≤ d) {d_X8_clear : Nat} {s_X8_clear : zq_Sp} (h_X8_clear : zq_M yX8_clear cX8_clear 1 none 0 d_X8_clear s_X8_clear) (g_X8_clear : d_X8_clear + 1 ≤ d) {d_X8_fault : Nat} {s_X8_fault : zq_Sp} (h_X8_fault : zq_M yX8_fault cX8_fault 1 (some .int) 1 d_X8_fault s_X8_fault) (g_X8_fault : d_X8_fault + 1 ≤ d) {d_X3_admit : Nat} {s_X3_admit : zq_Sp} (h_X3_admit : zq_M yX3_admit cX3_admit 3 none 0 d_X3_admit s_X3_admit) (g_X3_admit : d_X3_admit + 1 ≤ d) {d_X11_renewWorths : Nat} {s_X11_renewWorths : zq_Sp} (h_X11_renewWorths : zq_M yX11_renewWorths cX11_renewWorths 1 none 0 d_X11_renewWorths s_X11_renewWorths) (g_X11_renewWorths : d_X11_renewWorths + 1 ≤ d) {Q : zq_Q} (hq : zq_R X (some .int) 1 Q) : zq_ok X 2 31 (xX11_guests_31 s_X3_readLines s_X8_clear s_X8_fault s_X3_admit s_X11_renewWorths Q) := by
  refine zs_aload_n C dX11_guests_31 rfl ?_
  refine zs_getR C zp_0 zF11 (j := 2) ⟨by decide, rfl⟩ zw_317 dX11_guests_32 ?_
  refine zs_iload_n C dX11_guests_35 rfl ?_
  refine zs_callV C h_X3_admit g_X3_admit zy_X3_admit zp_5 (show vwCl[3]? = some (RX3, TX3, 4) from rfl) zw_468 zw_469 zs9_X3_admit dX11_guests_36 ?_
  refine zs_aload_n C dX11_guests_39 rfl ?_
  refine zs_callV C h_X11_renewWorths g_X11_renewWorths zy_X11_renewWorths zp_0 (show vwCl[11]? = some (RX11, TX11, 16) from rfl) zw_427 zw_429 zs9_X11_renewWorths dX11_guests_40 ?_
  refine zs_iload_n C dX11_guests_43 rfl ?_
  exact zs_iret C hq dX11_guests_44
def xX11_guests_23 (s_X3_readLines : zq_Sp) (s_X8_clear : zq_Sp) (s_X8_fault : zq_Sp) (s_X3_admit : zq_Sp) (s_X11_renewWorths : zq_Sp) (Q : zq_Q) (ls : zq_L) (st : List Value) (h : zq_H) : Prop := (zi_aload 0 (zi_getR 0 1 (zi_callV 0 1 s_X8_fault (zi_iret Q)))) ls st h
theorem kX11_guests_23 {X : zq_X} {d : Nat} (C : zq_C X cX11_guests 2 RX11 d) {d_X3_readLines : Nat} {s_X3_readLines : zq_Sp} (h_X3_readLines : zq_M yX3_readLines cX3_readLines 5 (some .int) 1 d_X3_readLines s_X3_readLines) (g_X3_readLines : d_X3_readLines + 1 ≤ d) {d_X8_clear : Nat} {s_X8_clear : zq_Sp} (h_X8_clear : zq_M yX8_clear cX8_clear 1 none 0 d_X8_clear s_X8_clear) (g_X8_clear : d_X8_clear + 1 ≤ d) {d_X8_fault : Nat} {s_X8_fault : zq_Sp} (h_X8_fault : zq_M yX8_fault cX8_fault 1 (some .int) 1 d_X8_fault s_X8_fault) (g_X8_fault : d_X8_fault + 1 ≤ d) {d_X3_admit : Nat} {s_X3_admit : zq_Sp} (h_X3_admit : zq_M yX3_admit cX3_admit 3 none 0 d_X3_admit s_X3_admit) (g_X3_admit : d_X3_admit + 1 ≤ d) {d_X11_renewWorths : Nat} {s_X11_renewWorths : zq_Sp} (h_X11_renewWorths : zq_M yX11_renewWorths cX11_renewWorths 1 none 0 d_X11_renewWorths s_X11_renewWorths) (g_X11_renewWorths : d_X11_renewWorths + 1 ≤ d) {Q : zq_Q} (hq : zq_R X (some .int) 1 Q) : zq_ok X 2 23 (xX11_guests_23 s_X3_readLines s_X8_clear s_X8_fault s_X3_admit s_X11_renewWorths Q) := by
  refine zs_aload_n C dX11_guests_23 rfl ?_
  refine zs_getR C zp_0 zF11 (j := 0) ⟨by decide, rfl⟩ zw_315 dX11_guests_24 ?_
  refine zs_callV C h_X8_fault g_X8_fault zy_X8_fault zp_1 (show vwCl[8]? = some (RX8, TX8, 4) from rfl) zw_419 zw_420 zs9_X8_fault dX11_guests_27 ?_
  exact zs_iret C hq dX11_guests_30
def xX11_guests_0 (s_X3_readLines : zq_Sp) (s_X8_clear : zq_Sp) (s_X8_fault : zq_Sp) (s_X3_admit : zq_Sp) (s_X11_renewWorths : zq_Sp) (Q : zq_Q) (ls : zq_L) (st : List Value) (h : zq_H) : Prop := (zi_aload 0 (zi_getR 0 5 (zi_aload 0 (zi_getR 0 1 (zi_callV 1 5 s_X3_readLines (zi_istore 1 (zi_aload 0 (zi_getR 0 1 (zi_callV 0 1 s_X8_clear (zi_iload 1 (zi_if1 (fun x => 0 ≤ x) (xX11_guests_31 s_X3_readLines s_X8_clear s_X8_fault s_X3_admit s_X11_renewWorths Q) (xX11_guests_23 s_X3_readLines s_X8_clear s_X8_fault s_X3_admit s_X11_renewWorths Q)))))))))))) ls st h
theorem kX11_guests_0 {X : zq_X} {d : Nat} (C : zq_C X cX11_guests 2 RX11 d) {d_X3_readLines : Nat} {s_X3_readLines : zq_Sp} (h_X3_readLines : zq_M yX3_readLines cX3_readLines 5 (some .int) 1 d_X3_readLines s_X3_readLines) (g_X3_readLines : d_X3_readLines + 1 ≤ d) {d_X8_clear : Nat} {s_X8_clear : zq_Sp} (h_X8_clear : zq_M yX8_clear cX8_clear 1 none 0 d_X8_clear s_X8_clear) (g_X8_clear : d_X8_clear + 1 ≤ d) {d_X8_fault : Nat} {s_X8_fault : zq_Sp} (h_X8_fault : zq_M yX8_fault cX8_fault 1 (some .int) 1 d_X8_fault s_X8_fault) (g_X8_fault : d_X8_fault + 1 ≤ d) {d_X3_admit : Nat} {s_X3_admit : zq_Sp} (h_X3_admit : zq_M yX3_admit cX3_admit 3 none 0 d_X3_admit s_X3_admit) (g_X3_admit : d_X3_admit + 1 ≤ d) {d_X11_renewWorths : Nat} {s_X11_renewWorths : zq_Sp} (h_X11_renewWorths : zq_M yX11_renewWorths cX11_renewWorths 1 none 0 d_X11_renewWorths s_X11_renewWorths) (g_X11_renewWorths : d_X11_renewWorths + 1 ≤ d) {Q : zq_Q} (hq : zq_R X (some .int) 1 Q) : zq_ok X 2 0 (xX11_guests_0 s_X3_readLines s_X8_clear s_X8_fault s_X3_admit s_X11_renewWorths Q) := by
  refine zs_aload_n C dX11_guests_0 rfl ?_
  refine zs_getR C zp_0 zF11 (j := 2) ⟨by decide, rfl⟩ zw_317 dX11_guests_1 ?_
  refine zs_aload_n C dX11_guests_4 rfl ?_
  refine zs_getR C zp_0 zF11 (j := 0) ⟨by decide, rfl⟩ zw_315 dX11_guests_5 ?_
  refine zs_callV C h_X3_readLines g_X3_readLines zy_X3_readLines zp_5 (show vwCl[3]? = some (RX3, TX3, 4) from rfl) zw_460 zw_461 zs9_X3_readLines dX11_guests_8 ?_
  refine zs_istore_n C dX11_guests_11 rfl (by decide) ?_
  refine zs_aload_n C dX11_guests_12 rfl ?_
  refine zs_getR C zp_0 zF11 (j := 0) ⟨by decide, rfl⟩ zw_315 dX11_guests_13 ?_
  refine zs_callV C h_X8_clear g_X8_clear zy_X8_clear zp_1 (show vwCl[8]? = some (RX8, TX8, 4) from rfl) zw_415 zw_416 zs9_X8_clear dX11_guests_16 ?_
  refine zs_iload_n C dX11_guests_19 rfl ?_
  exact zs_if_ge C dX11_guests_20 (by decide) (kX11_guests_31 C h_X3_readLines g_X3_readLines h_X8_clear g_X8_clear h_X8_fault g_X8_fault h_X3_admit g_X3_admit h_X11_renewWorths g_X11_renewWorths hq) (kX11_guests_23 C h_X3_readLines g_X3_readLines h_X8_clear g_X8_clear h_X8_fault g_X8_fault h_X3_admit g_X3_admit h_X11_renewWorths g_X11_renewWorths hq)
theorem mX11_guests {d : Nat} {spec : zq_Sp} {d_X3_readLines : Nat} {s_X3_readLines : zq_Sp} (h_X3_readLines : zq_M yX3_readLines cX3_readLines 5 (some .int) 1 d_X3_readLines s_X3_readLines) (g_X3_readLines : d_X3_readLines + 1 ≤ d) {d_X8_clear : Nat} {s_X8_clear : zq_Sp} (h_X8_clear : zq_M yX8_clear cX8_clear 1 none 0 d_X8_clear s_X8_clear) (g_X8_clear : d_X8_clear + 1 ≤ d) {d_X8_fault : Nat} {s_X8_fault : zq_Sp} (h_X8_fault : zq_M yX8_fault cX8_fault 1 (some .int) 1 d_X8_fault s_X8_fault) (g_X8_fault : d_X8_fault + 1 ≤ d) {d_X3_admit : Nat} {s_X3_admit : zq_Sp} (h_X3_admit : zq_M yX3_admit cX3_admit 3 none 0 d_X3_admit s_X3_admit) (g_X3_admit : d_X3_admit + 1 ≤ d) {d_X11_renewWorths : Nat} {s_X11_renewWorths : zq_Sp} (h_X11_renewWorths : zq_M yX11_renewWorths cX11_renewWorths 1 none 0 d_X11_renewWorths s_X11_renewWorths) (g_X11_renewWorths : d_X11_renewWorths + 1 ≤ d) (v : ∀ args h Q, spec args h Q → (zq_a args).length ≤ 2 ∧ xX11_guests_0 s_X3_readLines s_X8_clear s_X8_fault s_X3_admit s_X11_renewWorths Q (zq_l0 2 args) [] h) : zq_M yX11_guests cX11_guests 2 (some .int) 1 d spec := by
  refine zq_met (by decide +kernel) (by decide) (fun X Q args h C hq hs => ⟨(v args h Q hs).1, _, ?_, (v args h Q hs).2⟩)
  exact kX11_guests_0 C h_X3_readLines g_X3_readLines h_X8_clear g_X8_clear h_X8_fault g_X8_fault h_X3_admit g_X3_admit h_X11_renewWorths g_X11_renewWorths hq
/-! ToOneCrumb.deeds()I -/
theorem dX11_deeds_0 : decode cX11_deeds 0 = .ok (.aload_n 0, 1) := by decide +kernel
theorem dX11_deeds_1 : decode cX11_deeds 1 = .ok (.getfield 26, 3) := by decide +kernel
theorem dX11_deeds_4 : decode cX11_deeds 4 = .ok (.aload_n 0, 1) := by decide +kernel
theorem dX11_deeds_5 : decode cX11_deeds 5 = .ok (.getfield 10, 3) := by decide +kernel
theorem dX11_deeds_8 : decode cX11_deeds 8 = .ok (.invokevirtual 139, 3) := by decide +kernel
theorem dX11_deeds_11 : decode cX11_deeds 11 = .ok (.istore_n 1, 1) := by decide +kernel
theorem dX11_deeds_12 : decode cX11_deeds 12 = .ok (.aload_n 0, 1) := by decide +kernel
theorem dX11_deeds_13 : decode cX11_deeds 13 = .ok (.getfield 10, 3) := by decide +kernel
theorem dX11_deeds_16 : decode cX11_deeds 16 = .ok (.invokevirtual 111, 3) := by decide +kernel
theorem dX11_deeds_19 : decode cX11_deeds 19 = .ok (.iload_n 1, 1) := by decide +kernel
theorem dX11_deeds_20 : decode cX11_deeds 20 = .ok (.ifCond .ne 11, 3) := by decide +kernel
theorem dX11_deeds_23 : decode cX11_deeds 23 = .ok (.aload_n 0, 1) := by decide +kernel
theorem dX11_deeds_24 : decode cX11_deeds 24 = .ok (.getfield 10, 3) := by decide +kernel
theorem dX11_deeds_27 : decode cX11_deeds 27 = .ok (.invokevirtual 114, 3) := by decide +kernel
theorem dX11_deeds_30 : decode cX11_deeds 30 = .ok (.ireturn, 1) := by decide +kernel
theorem dX11_deeds_31 : decode cX11_deeds 31 = .ok (.aload_n 0, 1) := by decide +kernel
theorem dX11_deeds_32 : decode cX11_deeds 32 = .ok (.getfield 26, 3) := by decide +kernel
theorem dX11_deeds_35 : decode cX11_deeds 35 = .ok (.invokevirtual 142, 3) := by decide +kernel
theorem dX11_deeds_38 : decode cX11_deeds 38 = .ok (.aload_n 0, 1) := by decide +kernel
theorem dX11_deeds_39 : decode cX11_deeds 39 = .ok (.getfield 26, 3) := by decide +kernel
theorem dX11_deeds_42 : decode cX11_deeds 42 = .ok (.invokevirtual 145, 3) := by decide +kernel
theorem dX11_deeds_45 : decode cX11_deeds 45 = .ok (.ireturn, 1) := by decide +kernel
def xX11_deeds_31 (s_X3_readDeeds : zq_Sp) (s_X8_clear : zq_Sp) (s_X8_fault : zq_Sp) (s_X3_judge : zq_Sp) (s_X3_allDeserts : zq_Sp) (Q : zq_Q) (ls : zq_L) (st : List Value) (h : zq_H) : Prop := (zi_aload 0 (zi_getR 0 5 (zi_callV 0 5 s_X3_judge (zi_aload 0 (zi_getR 0 5 (zi_callV 0 5 s_X3_allDeserts (zi_iret Q))))))) ls st h
theorem kX11_deeds_31 {X : zq_X} {d : Nat} (C : zq_C X cX11_deeds 2 RX11 d) {d_X3_readDeeds : Nat} {s_X3_readDeeds : zq_Sp} (h_X3_readDeeds : zq_M yX3_readDeeds cX3_readDeeds 3 (some .boolean) 1 d_X3_readDeeds s_X3_readDeeds) (g_X3_readDeeds : d_X3_readDeeds + 1 ≤ d) {d_X8_clear : Nat} {s_X8_clear : zq_Sp} (h_X8_clear : zq_M yX8_clear cX8_clear 1 none 0 d_X8_clear s_X8_clear) (g_X8_clear : d_X8_clear + 1 ≤ d) {d_X8_fault : Nat} {s_X8_fault : zq_Sp} (h_X8_fault : zq_M yX8_fault cX8_fault 1 (some .int) 1 d_X8_fault s_X8_fault) (g_X8_fault : d_X8_fault + 1 ≤ d) {d_X3_judge : Nat} {s_X3_judge : zq_Sp} (h_X3_judge : zq_M yX3_judge cX3_judge 2 none 0 d_X3_judge s_X3_judge) (g_X3_judge : d_X3_judge + 1 ≤ d) {d_X3_allDeserts : Nat} {s_X3_allDeserts : zq_Sp} (h_X3_allDeserts : zq_M yX3_allDeserts cX3_allDeserts 1 (some .int) 1 d_X3_allDeserts s_X3_allDeserts) (g_X3_allDeserts : d_X3_allDeserts + 1 ≤ d) {Q : zq_Q} (hq : zq_R X (some .int) 1 Q) : zq_ok X 2 31 (xX11_deeds_31 s_X3_readDeeds s_X8_clear s_X8_fault s_X3_judge s_X3_allDeserts Q) := by
  refine zs_aload_n C dX11_deeds_31 rfl ?_
  refine zs_getR C zp_0 zF11 (j := 2) ⟨by decide, rfl⟩ zw_317 dX11_deeds_32 ?_
  refine zs_callV C h_X3_judge g_X3_judge zy_X3_judge zp_5 (show vwCl[3]? = some (RX3, TX3, 4) from rfl) zw_489 zw_490 zs9_X3_judge dX11_deeds_35 ?_
  refine zs_aload_n C dX11_deeds_38 rfl ?_
  refine zs_getR C zp_0 zF11 (j := 2) ⟨by decide, rfl⟩ zw_317 dX11_deeds_39 ?_
  refine zs_callV C h_X3_allDeserts g_X3_allDeserts zy_X3_allDeserts zp_5 (show vwCl[3]? = some (RX3, TX3, 4) from rfl) zw_494 zw_495 zs9_X3_allDeserts dX11_deeds_42 ?_
  exact zs_iret C hq dX11_deeds_45
def xX11_deeds_23 (s_X3_readDeeds : zq_Sp) (s_X8_clear : zq_Sp) (s_X8_fault : zq_Sp) (s_X3_judge : zq_Sp) (s_X3_allDeserts : zq_Sp) (Q : zq_Q) (ls : zq_L) (st : List Value) (h : zq_H) : Prop := (zi_aload 0 (zi_getR 0 1 (zi_callV 0 1 s_X8_fault (zi_iret Q)))) ls st h
theorem kX11_deeds_23 {X : zq_X} {d : Nat} (C : zq_C X cX11_deeds 2 RX11 d) {d_X3_readDeeds : Nat} {s_X3_readDeeds : zq_Sp} (h_X3_readDeeds : zq_M yX3_readDeeds cX3_readDeeds 3 (some .boolean) 1 d_X3_readDeeds s_X3_readDeeds) (g_X3_readDeeds : d_X3_readDeeds + 1 ≤ d) {d_X8_clear : Nat} {s_X8_clear : zq_Sp} (h_X8_clear : zq_M yX8_clear cX8_clear 1 none 0 d_X8_clear s_X8_clear) (g_X8_clear : d_X8_clear + 1 ≤ d) {d_X8_fault : Nat} {s_X8_fault : zq_Sp} (h_X8_fault : zq_M yX8_fault cX8_fault 1 (some .int) 1 d_X8_fault s_X8_fault) (g_X8_fault : d_X8_fault + 1 ≤ d) {d_X3_judge : Nat} {s_X3_judge : zq_Sp} (h_X3_judge : zq_M yX3_judge cX3_judge 2 none 0 d_X3_judge s_X3_judge) (g_X3_judge : d_X3_judge + 1 ≤ d) {d_X3_allDeserts : Nat} {s_X3_allDeserts : zq_Sp} (h_X3_allDeserts : zq_M yX3_allDeserts cX3_allDeserts 1 (some .int) 1 d_X3_allDeserts s_X3_allDeserts) (g_X3_allDeserts : d_X3_allDeserts + 1 ≤ d) {Q : zq_Q} (hq : zq_R X (some .int) 1 Q) : zq_ok X 2 23 (xX11_deeds_23 s_X3_readDeeds s_X8_clear s_X8_fault s_X3_judge s_X3_allDeserts Q) := by
  refine zs_aload_n C dX11_deeds_23 rfl ?_
  refine zs_getR C zp_0 zF11 (j := 0) ⟨by decide, rfl⟩ zw_315 dX11_deeds_24 ?_
  refine zs_callV C h_X8_fault g_X8_fault zy_X8_fault zp_1 (show vwCl[8]? = some (RX8, TX8, 4) from rfl) zw_419 zw_420 zs9_X8_fault dX11_deeds_27 ?_
  exact zs_iret C hq dX11_deeds_30
def xX11_deeds_0 (s_X3_readDeeds : zq_Sp) (s_X8_clear : zq_Sp) (s_X8_fault : zq_Sp) (s_X3_judge : zq_Sp) (s_X3_allDeserts : zq_Sp) (Q : zq_Q) (ls : zq_L) (st : List Value) (h : zq_H) : Prop := (zi_aload 0 (zi_getR 0 5 (zi_aload 0 (zi_getR 0 1 (zi_callV 1 5 s_X3_readDeeds (zi_istore 1 (zi_aload 0 (zi_getR 0 1 (zi_callV 0 1 s_X8_clear (zi_iload 1 (zi_if1 (fun x => x = 0) (xX11_deeds_23 s_X3_readDeeds s_X8_clear s_X8_fault s_X3_judge s_X3_allDeserts Q) (xX11_deeds_31 s_X3_readDeeds s_X8_clear s_X8_fault s_X3_judge s_X3_allDeserts Q)))))))))))) ls st h
theorem kX11_deeds_0 {X : zq_X} {d : Nat} (C : zq_C X cX11_deeds 2 RX11 d) {d_X3_readDeeds : Nat} {s_X3_readDeeds : zq_Sp} (h_X3_readDeeds : zq_M yX3_readDeeds cX3_readDeeds 3 (some .boolean) 1 d_X3_readDeeds s_X3_readDeeds) (g_X3_readDeeds : d_X3_readDeeds + 1 ≤ d) {d_X8_clear : Nat} {s_X8_clear : zq_Sp} (h_X8_clear : zq_M yX8_clear cX8_clear 1 none 0 d_X8_clear s_X8_clear) (g_X8_clear : d_X8_clear + 1 ≤ d) {d_X8_fault : Nat} {s_X8_fault : zq_Sp} (h_X8_fault : zq_M yX8_fault cX8_fault 1 (some .int) 1 d_X8_fault s_X8_fault) (g_X8_fault : d_X8_fault + 1 ≤ d) {d_X3_judge : Nat} {s_X3_judge : zq_Sp} (h_X3_judge : zq_M yX3_judge cX3_judge 2 none 0 d_X3_judge s_X3_judge) (g_X3_judge : d_X3_judge + 1 ≤ d) {d_X3_allDeserts : Nat} {s_X3_allDeserts : zq_Sp} (h_X3_allDeserts : zq_M yX3_allDeserts cX3_allDeserts 1 (some .int) 1 d_X3_allDeserts s_X3_allDeserts) (g_X3_allDeserts : d_X3_allDeserts + 1 ≤ d) {Q : zq_Q} (hq : zq_R X (some .int) 1 Q) : zq_ok X 2 0 (xX11_deeds_0 s_X3_readDeeds s_X8_clear s_X8_fault s_X3_judge s_X3_allDeserts Q) := by
  refine zs_aload_n C dX11_deeds_0 rfl ?_
  refine zs_getR C zp_0 zF11 (j := 2) ⟨by decide, rfl⟩ zw_317 dX11_deeds_1 ?_
  refine zs_aload_n C dX11_deeds_4 rfl ?_
  refine zs_getR C zp_0 zF11 (j := 0) ⟨by decide, rfl⟩ zw_315 dX11_deeds_5 ?_
  refine zs_callV C h_X3_readDeeds g_X3_readDeeds zy_X3_readDeeds zp_5 (show vwCl[3]? = some (RX3, TX3, 4) from rfl) zw_476 zw_477 zs9_X3_readDeeds dX11_deeds_8 ?_
  refine zs_istore_n C dX11_deeds_11 rfl (by decide) ?_
  refine zs_aload_n C dX11_deeds_12 rfl ?_
  refine zs_getR C zp_0 zF11 (j := 0) ⟨by decide, rfl⟩ zw_315 dX11_deeds_13 ?_
  refine zs_callV C h_X8_clear g_X8_clear zy_X8_clear zp_1 (show vwCl[8]? = some (RX8, TX8, 4) from rfl) zw_415 zw_416 zs9_X8_clear dX11_deeds_16 ?_
  refine zs_iload_n C dX11_deeds_19 rfl ?_
  exact zs_if_ne C dX11_deeds_20 (by decide) (kX11_deeds_31 C h_X3_readDeeds g_X3_readDeeds h_X8_clear g_X8_clear h_X8_fault g_X8_fault h_X3_judge g_X3_judge h_X3_allDeserts g_X3_allDeserts hq) (kX11_deeds_23 C h_X3_readDeeds g_X3_readDeeds h_X8_clear g_X8_clear h_X8_fault g_X8_fault h_X3_judge g_X3_judge h_X3_allDeserts g_X3_allDeserts hq)
theorem mX11_deeds {d : Nat} {spec : zq_Sp} {d_X3_readDeeds : Nat} {s_X3_readDeeds : zq_Sp} (h_X3_readDeeds : zq_M yX3_readDeeds cX3_readDeeds 3 (some .boolean) 1 d_X3_readDeeds s_X3_readDeeds) (g_X3_readDeeds : d_X3_readDeeds + 1 ≤ d) {d_X8_clear : Nat} {s_X8_clear : zq_Sp} (h_X8_clear : zq_M yX8_clear cX8_clear 1 none 0 d_X8_clear s_X8_clear) (g_X8_clear : d_X8_clear + 1 ≤ d) {d_X8_fault : Nat} {s_X8_fault : zq_Sp} (h_X8_fault : zq_M yX8_fault cX8_fault 1 (some .int) 1 d_X8_fault s_X8_fault) (g_X8_fault : d_X8_fault + 1 ≤ d) {d_X3_judge : Nat} {s_X3_judge : zq_Sp} (h_X3_judge : zq_M yX3_judge cX3_judge 2 none 0 d_X3_judge s_X3_judge) (g_X3_judge : d_X3_judge + 1 ≤ d) {d_X3_allDeserts : Nat} {s_X3_allDeserts : zq_Sp} (h_X3_allDeserts : zq_M yX3_allDeserts cX3_allDeserts 1 (some .int) 1 d_X3_allDeserts s_X3_allDeserts) (g_X3_allDeserts : d_X3_allDeserts + 1 ≤ d) (v : ∀ args h Q, spec args h Q → (zq_a args).length ≤ 2 ∧ xX11_deeds_0 s_X3_readDeeds s_X8_clear s_X8_fault s_X3_judge s_X3_allDeserts Q (zq_l0 2 args) [] h) : zq_M yX11_deeds cX11_deeds 2 (some .int) 1 d spec := by
  refine zq_met (by decide +kernel) (by decide) (fun X Q args h C hq hs => ⟨(v args h Q hs).1, _, ?_, (v args h Q hs).2⟩)
  exact kX11_deeds_0 C h_X3_readDeeds g_X3_readDeeds h_X8_clear g_X8_clear h_X8_fault g_X8_fault h_X3_judge g_X3_judge h_X3_allDeserts g_X3_allDeserts hq
/-! ToOneCrumb.rule()I -/
theorem dX11_rule_0 : decode cX11_rule 0 = .ok (.aload_n 0, 1) := by decide +kernel
theorem dX11_rule_1 : decode cX11_rule 1 = .ok (.getfield 96, 3) := by decide +kernel
theorem dX11_rule_4 : decode cX11_rule 4 = .ok (.aload_n 0, 1) := by decide +kernel
theorem dX11_rule_5 : decode cX11_rule 5 = .ok (.getfield 10, 3) := by decide +kernel
theorem dX11_rule_8 : decode cX11_rule 8 = .ok (.invokevirtual 148, 3) := by decide +kernel
theorem dX11_rule_11 : decode cX11_rule 11 = .ok (.istore_n 1, 1) := by decide +kernel
theorem dX11_rule_12 : decode cX11_rule 12 = .ok (.aload_n 0, 1) := by decide +kernel
theorem dX11_rule_13 : decode cX11_rule 13 = .ok (.getfield 10, 3) := by decide +kernel
theorem dX11_rule_16 : decode cX11_rule 16 = .ok (.invokevirtual 111, 3) := by decide +kernel
theorem dX11_rule_19 : decode cX11_rule 19 = .ok (.iload_n 1, 1) := by decide +kernel
theorem dX11_rule_20 : decode cX11_rule 20 = .ok (.ifCond .ne 11, 3) := by decide +kernel
theorem dX11_rule_23 : decode cX11_rule 23 = .ok (.aload_n 0, 1) := by decide +kernel
theorem dX11_rule_24 : decode cX11_rule 24 = .ok (.getfield 10, 3) := by decide +kernel
theorem dX11_rule_27 : decode cX11_rule 27 = .ok (.invokevirtual 114, 3) := by decide +kernel
theorem dX11_rule_30 : decode cX11_rule 30 = .ok (.ireturn, 1) := by decide +kernel
theorem dX11_rule_31 : decode cX11_rule 31 = .ok (.aload_n 0, 1) := by decide +kernel
theorem dX11_rule_32 : decode cX11_rule 32 = .ok (.getfield 92, 3) := by decide +kernel
theorem dX11_rule_35 : decode cX11_rule 35 = .ok (.astore_n 2, 1) := by decide +kernel
theorem dX11_rule_36 : decode cX11_rule 36 = .ok (.aload_n 0, 1) := by decide +kernel
theorem dX11_rule_37 : decode cX11_rule 37 = .ok (.aload_n 0, 1) := by decide +kernel
theorem dX11_rule_38 : decode cX11_rule 38 = .ok (.getfield 96, 3) := by decide +kernel
theorem dX11_rule_41 : decode cX11_rule 41 = .ok (.putfield 92, 3) := by decide +kernel
theorem dX11_rule_44 : decode cX11_rule 44 = .ok (.aload_n 0, 1) := by decide +kernel
theorem dX11_rule_45 : decode cX11_rule 45 = .ok (.aload_n 2, 1) := by decide +kernel
theorem dX11_rule_46 : decode cX11_rule 46 = .ok (.putfield 96, 3) := by decide +kernel
theorem dX11_rule_49 : decode cX11_rule 49 = .ok (.aload_n 0, 1) := by decide +kernel
theorem dX11_rule_50 : decode cX11_rule 50 = .ok (.invokevirtual 125, 3) := by decide +kernel
theorem dX11_rule_53 : decode cX11_rule 53 = .ok (.iconst 0, 1) := by decide +kernel
theorem dX11_rule_54 : decode cX11_rule 54 = .ok (.ireturn, 1) := by decide +kernel
def xX11_rule_31 (s_X6_read : zq_Sp) (s_X8_clear : zq_Sp) (s_X8_fault : zq_Sp) (J41 : zq_P) (Q : zq_Q) (ls : zq_L) (st : List Value) (h : zq_H) : Prop := (zi_aload 0 (zi_getR 0 48 (zi_astore 2 (zi_aload 0 (zi_aload 0 (zi_getR 0 52 (J41))))))) ls st h
theorem kX11_rule_31 {X : zq_X} {d : Nat} (C : zq_C X cX11_rule 3 RX11 d) {d_X6_read : Nat} {s_X6_read : zq_Sp} (h_X6_read : zq_M yX6_read cX6_read 4 (some .boolean) 1 d_X6_read s_X6_read) (g_X6_read : d_X6_read + 1 ≤ d) {d_X8_clear : Nat} {s_X8_clear : zq_Sp} (h_X8_clear : zq_M yX8_clear cX8_clear 1 none 0 d_X8_clear s_X8_clear) (g_X8_clear : d_X8_clear + 1 ≤ d) {d_X8_fault : Nat} {s_X8_fault : zq_Sp} (h_X8_fault : zq_M yX8_fault cX8_fault 1 (some .int) 1 d_X8_fault s_X8_fault) (g_X8_fault : d_X8_fault + 1 ≤ d) {J41 : zq_P} (j41 : zq_ok X 3 41 J41) {Q : zq_Q} (hq : zq_R X (some .int) 1 Q) : zq_ok X 3 31 (xX11_rule_31 s_X6_read s_X8_clear s_X8_fault J41 Q) := by
  refine zs_aload_n C dX11_rule_31 rfl ?_
  refine zs_getR C zp_0 zF11 (j := 13) ⟨by decide, rfl⟩ zw_328 dX11_rule_32 ?_
  refine zs_astore_n C dX11_rule_35 rfl (by decide) ?_
  refine zs_aload_n C dX11_rule_36 rfl ?_
  refine zs_aload_n C dX11_rule_37 rfl ?_
  refine zs_getR C zp_0 zF11 (j := 14) ⟨by decide, rfl⟩ zw_329 dX11_rule_38 ?_
  exact j41
def xX11_rule_23 (s_X6_read : zq_Sp) (s_X8_clear : zq_Sp) (s_X8_fault : zq_Sp) (J41 : zq_P) (Q : zq_Q) (ls : zq_L) (st : List Value) (h : zq_H) : Prop := (zi_aload 0 (zi_getR 0 1 (zi_callV 0 1 s_X8_fault (zi_iret Q)))) ls st h
theorem kX11_rule_23 {X : zq_X} {d : Nat} (C : zq_C X cX11_rule 3 RX11 d) {d_X6_read : Nat} {s_X6_read : zq_Sp} (h_X6_read : zq_M yX6_read cX6_read 4 (some .boolean) 1 d_X6_read s_X6_read) (g_X6_read : d_X6_read + 1 ≤ d) {d_X8_clear : Nat} {s_X8_clear : zq_Sp} (h_X8_clear : zq_M yX8_clear cX8_clear 1 none 0 d_X8_clear s_X8_clear) (g_X8_clear : d_X8_clear + 1 ≤ d) {d_X8_fault : Nat} {s_X8_fault : zq_Sp} (h_X8_fault : zq_M yX8_fault cX8_fault 1 (some .int) 1 d_X8_fault s_X8_fault) (g_X8_fault : d_X8_fault + 1 ≤ d) {J41 : zq_P} (j41 : zq_ok X 3 41 J41) {Q : zq_Q} (hq : zq_R X (some .int) 1 Q) : zq_ok X 3 23 (xX11_rule_23 s_X6_read s_X8_clear s_X8_fault J41 Q) := by
  refine zs_aload_n C dX11_rule_23 rfl ?_
  refine zs_getR C zp_0 zF11 (j := 0) ⟨by decide, rfl⟩ zw_315 dX11_rule_24 ?_
  refine zs_callV C h_X8_fault g_X8_fault zy_X8_fault zp_1 (show vwCl[8]? = some (RX8, TX8, 4) from rfl) zw_419 zw_420 zs9_X8_fault dX11_rule_27 ?_
  exact zs_iret C hq dX11_rule_30
def xX11_rule_0 (s_X6_read : zq_Sp) (s_X8_clear : zq_Sp) (s_X8_fault : zq_Sp) (J41 : zq_P) (Q : zq_Q) (ls : zq_L) (st : List Value) (h : zq_H) : Prop := (zi_aload 0 (zi_getR 0 52 (zi_aload 0 (zi_getR 0 1 (zi_callV 1 52 s_X6_read (zi_istore 1 (zi_aload 0 (zi_getR 0 1 (zi_callV 0 1 s_X8_clear (zi_iload 1 (zi_if1 (fun x => x = 0) (xX11_rule_23 s_X6_read s_X8_clear s_X8_fault J41 Q) (xX11_rule_31 s_X6_read s_X8_clear s_X8_fault J41 Q)))))))))))) ls st h
theorem kX11_rule_0 {X : zq_X} {d : Nat} (C : zq_C X cX11_rule 3 RX11 d) {d_X6_read : Nat} {s_X6_read : zq_Sp} (h_X6_read : zq_M yX6_read cX6_read 4 (some .boolean) 1 d_X6_read s_X6_read) (g_X6_read : d_X6_read + 1 ≤ d) {d_X8_clear : Nat} {s_X8_clear : zq_Sp} (h_X8_clear : zq_M yX8_clear cX8_clear 1 none 0 d_X8_clear s_X8_clear) (g_X8_clear : d_X8_clear + 1 ≤ d) {d_X8_fault : Nat} {s_X8_fault : zq_Sp} (h_X8_fault : zq_M yX8_fault cX8_fault 1 (some .int) 1 d_X8_fault s_X8_fault) (g_X8_fault : d_X8_fault + 1 ≤ d) {J41 : zq_P} (j41 : zq_ok X 3 41 J41) {Q : zq_Q} (hq : zq_R X (some .int) 1 Q) : zq_ok X 3 0 (xX11_rule_0 s_X6_read s_X8_clear s_X8_fault J41 Q) := by
  refine zs_aload_n C dX11_rule_0 rfl ?_
  refine zs_getR C zp_0 zF11 (j := 14) ⟨by decide, rfl⟩ zw_329 dX11_rule_1 ?_
  refine zs_aload_n C dX11_rule_4 rfl ?_
  refine zs_getR C zp_0 zF11 (j := 0) ⟨by decide, rfl⟩ zw_315 dX11_rule_5 ?_
  refine zs_callV C h_X6_read g_X6_read zy_X6_read zp_52 (show vwCl[6]? = some (RX6, TX6, 8) from rfl) zw_506 zw_507 zs9_X6_read dX11_rule_8 ?_
  refine zs_istore_n C dX11_rule_11 rfl (by decide) ?_
  refine zs_aload_n C dX11_rule_12 rfl ?_
  refine zs_getR C zp_0 zF11 (j := 0) ⟨by decide, rfl⟩ zw_315 dX11_rule_13 ?_
  refine zs_callV C h_X8_clear g_X8_clear zy_X8_clear zp_1 (show vwCl[8]? = some (RX8, TX8, 4) from rfl) zw_415 zw_416 zs9_X8_clear dX11_rule_16 ?_
  refine zs_iload_n C dX11_rule_19 rfl ?_
  exact zs_if_ne C dX11_rule_20 (by decide) (kX11_rule_31 C h_X6_read g_X6_read h_X8_clear g_X8_clear h_X8_fault g_X8_fault j41 hq) (kX11_rule_23 C h_X6_read g_X6_read h_X8_clear g_X8_clear h_X8_fault g_X8_fault j41 hq)
/-! ToOneCrumb.cell(II)I -/
theorem dX11_cell_0 : decode cX11_cell 0 = .ok (.aload_n 0, 1) := by decide +kernel
theorem dX11_cell_1 : decode cX11_cell 1 = .ok (.iload_n 1, 1) := by decide +kernel
theorem dX11_cell_2 : decode cX11_cell 2 = .ok (.invokevirtual 149, 3) := by decide +kernel
theorem dX11_cell_5 : decode cX11_cell 5 = .ok (.ifCond .eq 12, 3) := by decide +kernel
theorem dX11_cell_8 : decode cX11_cell 8 = .ok (.iload_n 2, 1) := by decide +kernel
theorem dX11_cell_9 : decode cX11_cell 9 = .ok (.ifCond .lt 8, 3) := by decide +kernel
theorem dX11_cell_12 : decode cX11_cell 12 = .ok (.iload_n 2, 1) := by decide +kernel
theorem dX11_cell_13 : decode cX11_cell 13 = .ok (.iconst 3, 1) := by decide +kernel
theorem dX11_cell_14 : decode cX11_cell 14 = .ok (.if_icmp .le 13, 3) := by decide +kernel
theorem dX11_cell_17 : decode cX11_cell 17 = .ok (.new 152, 3) := by decide +kernel
theorem dX11_cell_20 : decode cX11_cell 20 = .ok (.dup, 1) := by decide +kernel
theorem dX11_cell_21 : decode cX11_cell 21 = .ok (.ldc 154, 2) := by decide +kernel
theorem dX11_cell_23 : decode cX11_cell 23 = .ok (.invokespecial 156, 3) := by decide +kernel
theorem dX11_cell_26 : decode cX11_cell 26 = .ok (.athrow, 1) := by decide +kernel
theorem dX11_cell_27 : decode cX11_cell 27 = .ok (.iload_n 2, 1) := by decide +kernel
theorem dX11_cell_28 : decode cX11_cell 28 = .ok (.tableswitch 58 0 2 #[28, 38, 48], 28) := by decide +kernel
theorem dX11_cell_56 : decode cX11_cell 56 = .ok (.aload_n 0, 1) := by decide +kernel
theorem dX11_cell_57 : decode cX11_cell 57 = .ok (.getfield 82, 3) := by decide +kernel
theorem dX11_cell_60 : decode cX11_cell 60 = .ok (.getfield 159, 3) := by decide +kernel
theorem dX11_cell_63 : decode cX11_cell 63 = .ok (.iload_n 1, 1) := by decide +kernel
theorem dX11_cell_64 : decode cX11_cell 64 = .ok (.iaload, 1) := by decide +kernel
theorem dX11_cell_65 : decode cX11_cell 65 = .ok (.ireturn, 1) := by decide +kernel
theorem dX11_cell_66 : decode cX11_cell 66 = .ok (.aload_n 0, 1) := by decide +kernel
theorem dX11_cell_67 : decode cX11_cell 67 = .ok (.getfield 82, 3) := by decide +kernel
theorem dX11_cell_70 : decode cX11_cell 70 = .ok (.getfield 162, 3) := by decide +kernel
theorem dX11_cell_73 : decode cX11_cell 73 = .ok (.iload_n 1, 1) := by decide +kernel
theorem dX11_cell_74 : decode cX11_cell 74 = .ok (.iaload, 1) := by decide +kernel
theorem dX11_cell_75 : decode cX11_cell 75 = .ok (.ireturn, 1) := by decide +kernel
theorem dX11_cell_76 : decode cX11_cell 76 = .ok (.aload_n 0, 1) := by decide +kernel
theorem dX11_cell_77 : decode cX11_cell 77 = .ok (.getfield 82, 3) := by decide +kernel
theorem dX11_cell_80 : decode cX11_cell 80 = .ok (.getfield 165, 3) := by decide +kernel
theorem dX11_cell_83 : decode cX11_cell 83 = .ok (.iload_n 1, 1) := by decide +kernel
theorem dX11_cell_84 : decode cX11_cell 84 = .ok (.iaload, 1) := by decide +kernel
theorem dX11_cell_85 : decode cX11_cell 85 = .ok (.ireturn, 1) := by decide +kernel
theorem dX11_cell_86 : decode cX11_cell 86 = .ok (.aload_n 0, 1) := by decide +kernel
theorem dX11_cell_87 : decode cX11_cell 87 = .ok (.getfield 40, 3) := by decide +kernel
theorem dX11_cell_90 : decode cX11_cell 90 = .ok (.iload_n 1, 1) := by decide +kernel
theorem dX11_cell_91 : decode cX11_cell 91 = .ok (.invokevirtual 168, 3) := by decide +kernel
theorem dX11_cell_94 : decode cX11_cell 94 = .ok (.ireturn, 1) := by decide +kernel
def xX11_cell_86 (s_X11_isCell : zq_Sp) (s_X0_holderOf : zq_Sp) (J17 : zq_P) (Q : zq_Q) (ls : zq_L) (st : List Value) (h : zq_H) : Prop := (zi_aload 0 (zi_getR 0 12 (zi_iload 1 (zi_callV 1 12 s_X0_holderOf (zi_iret Q))))) ls st h
theorem kX11_cell_86 {X : zq_X} {d : Nat} (C : zq_C X cX11_cell 3 RX11 d) {d_X11_isCell : Nat} {s_X11_isCell : zq_Sp} (h_X11_isCell : zq_M yX11_isCell cX11_isCell 2 (some .boolean) 1 d_X11_isCell s_X11_isCell) (g_X11_isCell : d_X11_isCell + 1 ≤ d) {d_X0_holderOf : Nat} {s_X0_holderOf : zq_Sp} (h_X0_holderOf : zq_M yX0_holderOf cX0_holderOf 2 (some .int) 1 d_X0_holderOf s_X0_holderOf) (g_X0_holderOf : d_X0_holderOf + 1 ≤ d) {J17 : zq_P} (j17 : zq_ok X 3 17 J17) {Q : zq_Q} (hq : zq_R X (some .int) 1 Q) : zq_ok X 3 86 (xX11_cell_86 s_X11_isCell s_X0_holderOf J17 Q) := by
  refine zs_aload_n C dX11_cell_86 rfl ?_
  refine zs_getR C zp_0 zF11 (j := 4) ⟨by decide, rfl⟩ zw_319 dX11_cell_87 ?_
  refine zs_iload_n C dX11_cell_90 rfl ?_
  refine zs_callV C h_X0_holderOf g_X0_holderOf zy_X0_holderOf zp_12 (show vwCl[0]? = some (RX0, TX0, 5) from rfl) zw_587 zw_588 zs9_X0_holderOf dX11_cell_91 ?_
  exact zs_iret C hq dX11_cell_94
def xX11_cell_76 (s_X11_isCell : zq_Sp) (s_X0_holderOf : zq_Sp) (J17 : zq_P) (Q : zq_Q) (ls : zq_L) (st : List Value) (h : zq_H) : Prop := (zi_aload 0 (zi_getR 0 40 (zi_getR 40 43 (zi_iload 1 (zi_aldI 43 16 (zi_iret Q)))))) ls st h
theorem kX11_cell_76 {X : zq_X} {d : Nat} (C : zq_C X cX11_cell 3 RX11 d) {d_X11_isCell : Nat} {s_X11_isCell : zq_Sp} (h_X11_isCell : zq_M yX11_isCell cX11_isCell 2 (some .boolean) 1 d_X11_isCell s_X11_isCell) (g_X11_isCell : d_X11_isCell + 1 ≤ d) {d_X0_holderOf : Nat} {s_X0_holderOf : zq_Sp} (h_X0_holderOf : zq_M yX0_holderOf cX0_holderOf 2 (some .int) 1 d_X0_holderOf s_X0_holderOf) (g_X0_holderOf : d_X0_holderOf + 1 ≤ d) {J17 : zq_P} (j17 : zq_ok X 3 17 J17) {Q : zq_Q} (hq : zq_R X (some .int) 1 Q) : zq_ok X 3 76 (xX11_cell_76 s_X11_isCell s_X0_holderOf J17 Q) := by
  refine zs_aload_n C dX11_cell_76 rfl ?_
  refine zs_getR C zp_0 zF11 (j := 11) ⟨by decide, rfl⟩ zw_326 dX11_cell_77 ?_
  refine zs_getRN C zp_40 zF2 (j := 2) ⟨by decide, rfl⟩ zw_268 dX11_cell_80 ?_
  refine zs_iload_n C dX11_cell_83 rfl ?_
  refine zs_iaload C zp_43 dX11_cell_84 ?_
  exact zs_iret C hq dX11_cell_85
def xX11_cell_66 (s_X11_isCell : zq_Sp) (s_X0_holderOf : zq_Sp) (J17 : zq_P) (Q : zq_Q) (ls : zq_L) (st : List Value) (h : zq_H) : Prop := (zi_aload 0 (zi_getR 0 40 (zi_getR 40 42 (zi_iload 1 (zi_aldI 42 16 (zi_iret Q)))))) ls st h
theorem kX11_cell_66 {X : zq_X} {d : Nat} (C : zq_C X cX11_cell 3 RX11 d) {d_X11_isCell : Nat} {s_X11_isCell : zq_Sp} (h_X11_isCell : zq_M yX11_isCell cX11_isCell 2 (some .boolean) 1 d_X11_isCell s_X11_isCell) (g_X11_isCell : d_X11_isCell + 1 ≤ d) {d_X0_holderOf : Nat} {s_X0_holderOf : zq_Sp} (h_X0_holderOf : zq_M yX0_holderOf cX0_holderOf 2 (some .int) 1 d_X0_holderOf s_X0_holderOf) (g_X0_holderOf : d_X0_holderOf + 1 ≤ d) {J17 : zq_P} (j17 : zq_ok X 3 17 J17) {Q : zq_Q} (hq : zq_R X (some .int) 1 Q) : zq_ok X 3 66 (xX11_cell_66 s_X11_isCell s_X0_holderOf J17 Q) := by
  refine zs_aload_n C dX11_cell_66 rfl ?_
  refine zs_getR C zp_0 zF11 (j := 11) ⟨by decide, rfl⟩ zw_326 dX11_cell_67 ?_
  refine zs_getRN C zp_40 zF2 (j := 1) ⟨by decide, rfl⟩ zw_265 dX11_cell_70 ?_
  refine zs_iload_n C dX11_cell_73 rfl ?_
  refine zs_iaload C zp_42 dX11_cell_74 ?_
  exact zs_iret C hq dX11_cell_75
def xX11_cell_56 (s_X11_isCell : zq_Sp) (s_X0_holderOf : zq_Sp) (J17 : zq_P) (Q : zq_Q) (ls : zq_L) (st : List Value) (h : zq_H) : Prop := (zi_aload 0 (zi_getR 0 40 (zi_getR 40 41 (zi_iload 1 (zi_aldI 41 16 (zi_iret Q)))))) ls st h
theorem kX11_cell_56 {X : zq_X} {d : Nat} (C : zq_C X cX11_cell 3 RX11 d) {d_X11_isCell : Nat} {s_X11_isCell : zq_Sp} (h_X11_isCell : zq_M yX11_isCell cX11_isCell 2 (some .boolean) 1 d_X11_isCell s_X11_isCell) (g_X11_isCell : d_X11_isCell + 1 ≤ d) {d_X0_holderOf : Nat} {s_X0_holderOf : zq_Sp} (h_X0_holderOf : zq_M yX0_holderOf cX0_holderOf 2 (some .int) 1 d_X0_holderOf s_X0_holderOf) (g_X0_holderOf : d_X0_holderOf + 1 ≤ d) {J17 : zq_P} (j17 : zq_ok X 3 17 J17) {Q : zq_Q} (hq : zq_R X (some .int) 1 Q) : zq_ok X 3 56 (xX11_cell_56 s_X11_isCell s_X0_holderOf J17 Q) := by
  refine zs_aload_n C dX11_cell_56 rfl ?_
  refine zs_getR C zp_0 zF11 (j := 11) ⟨by decide, rfl⟩ zw_326 dX11_cell_57 ?_
  refine zs_getRN C zp_40 zF2 (j := 0) ⟨by decide, rfl⟩ zw_262 dX11_cell_60 ?_
  refine zs_iload_n C dX11_cell_63 rfl ?_
  refine zs_iaload C zp_41 dX11_cell_64 ?_
  exact zs_iret C hq dX11_cell_65
def xX11_cell_27 (s_X11_isCell : zq_Sp) (s_X0_holderOf : zq_Sp) (J17 : zq_P) (Q : zq_Q) (ls : zq_L) (st : List Value) (h : zq_H) : Prop := (zi_iload 2 (zi_sw [(0, (xX11_cell_56 s_X11_isCell s_X0_holderOf J17 Q)), (1, (xX11_cell_66 s_X11_isCell s_X0_holderOf J17 Q)), (2, (xX11_cell_76 s_X11_isCell s_X0_holderOf J17 Q))] (xX11_cell_86 s_X11_isCell s_X0_holderOf J17 Q))) ls st h
theorem kX11_cell_27 {X : zq_X} {d : Nat} (C : zq_C X cX11_cell 3 RX11 d) {d_X11_isCell : Nat} {s_X11_isCell : zq_Sp} (h_X11_isCell : zq_M yX11_isCell cX11_isCell 2 (some .boolean) 1 d_X11_isCell s_X11_isCell) (g_X11_isCell : d_X11_isCell + 1 ≤ d) {d_X0_holderOf : Nat} {s_X0_holderOf : zq_Sp} (h_X0_holderOf : zq_M yX0_holderOf cX0_holderOf 2 (some .int) 1 d_X0_holderOf s_X0_holderOf) (g_X0_holderOf : d_X0_holderOf + 1 ≤ d) {J17 : zq_P} (j17 : zq_ok X 3 17 J17) {Q : zq_Q} (hq : zq_R X (some .int) 1 Q) : zq_ok X 3 27 (xX11_cell_27 s_X11_isCell s_X0_holderOf J17 Q) := by
  refine zs_iload_n C dX11_cell_27 rfl ?_
  exact zs_tsw C dX11_cell_28 (by rfl) ⟨⟨by decide, _, _, rfl, by decide, kX11_cell_56 C h_X11_isCell g_X11_isCell h_X0_holderOf g_X0_holderOf j17 hq⟩, ⟨by decide, _, _, rfl, by decide, kX11_cell_66 C h_X11_isCell g_X11_isCell h_X0_holderOf g_X0_holderOf j17 hq⟩, ⟨by decide, _, _, rfl, by decide, kX11_cell_76 C h_X11_isCell g_X11_isCell h_X0_holderOf g_X0_holderOf j17 hq⟩, trivial⟩ (by decide) (kX11_cell_86 C h_X11_isCell g_X11_isCell h_X0_holderOf g_X0_holderOf j17 hq)
def xX11_cell_17 (s_X11_isCell : zq_Sp) (s_X0_holderOf : zq_Sp) (J17 : zq_P) (Q : zq_Q) (ls : zq_L) (st : List Value) (h : zq_H) : Prop := (J17) ls st h
theorem kX11_cell_17 {X : zq_X} {d : Nat} (C : zq_C X cX11_cell 3 RX11 d) {d_X11_isCell : Nat} {s_X11_isCell : zq_Sp} (h_X11_isCell : zq_M yX11_isCell cX11_isCell 2 (some .boolean) 1 d_X11_isCell s_X11_isCell) (g_X11_isCell : d_X11_isCell + 1 ≤ d) {d_X0_holderOf : Nat} {s_X0_holderOf : zq_Sp} (h_X0_holderOf : zq_M yX0_holderOf cX0_holderOf 2 (some .int) 1 d_X0_holderOf s_X0_holderOf) (g_X0_holderOf : d_X0_holderOf + 1 ≤ d) {J17 : zq_P} (j17 : zq_ok X 3 17 J17) {Q : zq_Q} (hq : zq_R X (some .int) 1 Q) : zq_ok X 3 17 (xX11_cell_17 s_X11_isCell s_X0_holderOf J17 Q) := by
  exact j17
def xX11_cell_12 (s_X11_isCell : zq_Sp) (s_X0_holderOf : zq_Sp) (J17 : zq_P) (Q : zq_Q) (ls : zq_L) (st : List Value) (h : zq_H) : Prop := (zi_iload 2 (zi_push (.int 3) (zi_if2 (fun x y => x ≤ y) (xX11_cell_27 s_X11_isCell s_X0_holderOf J17 Q) (xX11_cell_17 s_X11_isCell s_X0_holderOf J17 Q)))) ls st h
theorem kX11_cell_12 {X : zq_X} {d : Nat} (C : zq_C X cX11_cell 3 RX11 d) {d_X11_isCell : Nat} {s_X11_isCell : zq_Sp} (h_X11_isCell : zq_M yX11_isCell cX11_isCell 2 (some .boolean) 1 d_X11_isCell s_X11_isCell) (g_X11_isCell : d_X11_isCell + 1 ≤ d) {d_X0_holderOf : Nat} {s_X0_holderOf : zq_Sp} (h_X0_holderOf : zq_M yX0_holderOf cX0_holderOf 2 (some .int) 1 d_X0_holderOf s_X0_holderOf) (g_X0_holderOf : d_X0_holderOf + 1 ≤ d) {J17 : zq_P} (j17 : zq_ok X 3 17 J17) {Q : zq_Q} (hq : zq_R X (some .int) 1 Q) : zq_ok X 3 12 (xX11_cell_12 s_X11_isCell s_X0_holderOf J17 Q) := by
  refine zs_iload_n C dX11_cell_12 rfl ?_
  refine zs_iconst C dX11_cell_13 (by decide) ?_
  exact zs_icmp_le C dX11_cell_14 (by decide) (kX11_cell_27 C h_X11_isCell g_X11_isCell h_X0_holderOf g_X0_holderOf j17 hq) (kX11_cell_17 C h_X11_isCell g_X11_isCell h_X0_holderOf g_X0_holderOf j17 hq)
def xX11_cell_8 (s_X11_isCell : zq_Sp) (s_X0_holderOf : zq_Sp) (J17 : zq_P) (Q : zq_Q) (ls : zq_L) (st : List Value) (h : zq_H) : Prop := (zi_iload 2 (zi_if1 (fun x => x < 0) (xX11_cell_17 s_X11_isCell s_X0_holderOf J17 Q) (xX11_cell_12 s_X11_isCell s_X0_holderOf J17 Q))) ls st h
theorem kX11_cell_8 {X : zq_X} {d : Nat} (C : zq_C X cX11_cell 3 RX11 d) {d_X11_isCell : Nat} {s_X11_isCell : zq_Sp} (h_X11_isCell : zq_M yX11_isCell cX11_isCell 2 (some .boolean) 1 d_X11_isCell s_X11_isCell) (g_X11_isCell : d_X11_isCell + 1 ≤ d) {d_X0_holderOf : Nat} {s_X0_holderOf : zq_Sp} (h_X0_holderOf : zq_M yX0_holderOf cX0_holderOf 2 (some .int) 1 d_X0_holderOf s_X0_holderOf) (g_X0_holderOf : d_X0_holderOf + 1 ≤ d) {J17 : zq_P} (j17 : zq_ok X 3 17 J17) {Q : zq_Q} (hq : zq_R X (some .int) 1 Q) : zq_ok X 3 8 (xX11_cell_8 s_X11_isCell s_X0_holderOf J17 Q) := by
  refine zs_iload_n C dX11_cell_8 rfl ?_
  exact zs_if_lt C dX11_cell_9 (by decide) (kX11_cell_17 C h_X11_isCell g_X11_isCell h_X0_holderOf g_X0_holderOf j17 hq) (kX11_cell_12 C h_X11_isCell g_X11_isCell h_X0_holderOf g_X0_holderOf j17 hq)
def xX11_cell_0 (s_X11_isCell : zq_Sp) (s_X0_holderOf : zq_Sp) (J17 : zq_P) (Q : zq_Q) (ls : zq_L) (st : List Value) (h : zq_H) : Prop := (zi_aload 0 (zi_iload 1 (zi_callV 1 0 s_X11_isCell (zi_if1 (fun x => x = 0) (xX11_cell_17 s_X11_isCell s_X0_holderOf J17 Q) (xX11_cell_8 s_X11_isCell s_X0_holderOf J17 Q))))) ls st h
theorem kX11_cell_0 {X : zq_X} {d : Nat} (C : zq_C X cX11_cell 3 RX11 d) {d_X11_isCell : Nat} {s_X11_isCell : zq_Sp} (h_X11_isCell : zq_M yX11_isCell cX11_isCell 2 (some .boolean) 1 d_X11_isCell s_X11_isCell) (g_X11_isCell : d_X11_isCell + 1 ≤ d) {d_X0_holderOf : Nat} {s_X0_holderOf : zq_Sp} (h_X0_holderOf : zq_M yX0_holderOf cX0_holderOf 2 (some .int) 1 d_X0_holderOf s_X0_holderOf) (g_X0_holderOf : d_X0_holderOf + 1 ≤ d) {J17 : zq_P} (j17 : zq_ok X 3 17 J17) {Q : zq_Q} (hq : zq_R X (some .int) 1 Q) : zq_ok X 3 0 (xX11_cell_0 s_X11_isCell s_X0_holderOf J17 Q) := by
  refine zs_aload_n C dX11_cell_0 rfl ?_
  refine zs_iload_n C dX11_cell_1 rfl ?_
  refine zs_callV C h_X11_isCell g_X11_isCell zy_X11_isCell zp_0 (show vwCl[11]? = some (RX11, TX11, 16) from rfl) zw_550 zw_552 zs9_X11_isCell dX11_cell_2 ?_
  exact zs_if_eq C dX11_cell_5 (by decide) (kX11_cell_17 C h_X11_isCell g_X11_isCell h_X0_holderOf g_X0_holderOf j17 hq) (kX11_cell_8 C h_X11_isCell g_X11_isCell h_X0_holderOf g_X0_holderOf j17 hq)
/-! ToOneCrumb.guest(II)I -/
theorem dX11_guest_0 : decode cX11_guest 0 = .ok (.aload_n 0, 1) := by decide +kernel
theorem dX11_guest_1 : decode cX11_guest 1 = .ok (.iload_n 1, 1) := by decide +kernel
theorem dX11_guest_2 : decode cX11_guest 2 = .ok (.invokevirtual 171, 3) := by decide +kernel
theorem dX11_guest_5 : decode cX11_guest 5 = .ok (.ifCond .eq 13, 3) := by decide +kernel
theorem dX11_guest_8 : decode cX11_guest 8 = .ok (.iload_n 2, 1) := by decide +kernel
theorem dX11_guest_9 : decode cX11_guest 9 = .ok (.ifCond .lt 9, 3) := by decide +kernel
theorem dX11_guest_12 : decode cX11_guest 12 = .ok (.iload_n 2, 1) := by decide +kernel
theorem dX11_guest_13 : decode cX11_guest 13 = .ok (.bipush 7, 2) := by decide +kernel
theorem dX11_guest_15 : decode cX11_guest 15 = .ok (.if_icmp .le 13, 3) := by decide +kernel
theorem dX11_guest_18 : decode cX11_guest 18 = .ok (.new 152, 3) := by decide +kernel
theorem dX11_guest_21 : decode cX11_guest 21 = .ok (.dup, 1) := by decide +kernel
theorem dX11_guest_22 : decode cX11_guest 22 = .ok (.ldc 174, 2) := by decide +kernel
theorem dX11_guest_24 : decode cX11_guest 24 = .ok (.invokespecial 156, 3) := by decide +kernel
theorem dX11_guest_27 : decode cX11_guest 27 = .ok (.athrow, 1) := by decide +kernel
theorem dX11_guest_28 : decode cX11_guest 28 = .ok (.iload_n 2, 1) := by decide +kernel
theorem dX11_guest_29 : decode cX11_guest 29 = .ok (.tableswitch 81 3 7 #[35, 45, 51, 58, 67], 35) := by decide +kernel
theorem dX11_guest_64 : decode cX11_guest 64 = .ok (.aload_n 0, 1) := by decide +kernel
theorem dX11_guest_65 : decode cX11_guest 65 = .ok (.getfield 26, 3) := by decide +kernel
theorem dX11_guest_68 : decode cX11_guest 68 = .ok (.getfield 176, 3) := by decide +kernel
theorem dX11_guest_71 : decode cX11_guest 71 = .ok (.iload_n 1, 1) := by decide +kernel
theorem dX11_guest_72 : decode cX11_guest 72 = .ok (.iaload, 1) := by decide +kernel
theorem dX11_guest_73 : decode cX11_guest 73 = .ok (.ireturn, 1) := by decide +kernel
theorem dX11_guest_74 : decode cX11_guest 74 = .ok (.aload_n 0, 1) := by decide +kernel
theorem dX11_guest_75 : decode cX11_guest 75 = .ok (.iload_n 1, 1) := by decide +kernel
theorem dX11_guest_76 : decode cX11_guest 76 = .ok (.invokevirtual 179, 3) := by decide +kernel
theorem dX11_guest_79 : decode cX11_guest 79 = .ok (.ireturn, 1) := by decide +kernel
theorem dX11_guest_80 : decode cX11_guest 80 = .ok (.aload_n 0, 1) := by decide +kernel
theorem dX11_guest_81 : decode cX11_guest 81 = .ok (.iload_n 1, 1) := by decide +kernel
theorem dX11_guest_82 : decode cX11_guest 82 = .ok (.iload_n 1, 1) := by decide +kernel
theorem dX11_guest_83 : decode cX11_guest 83 = .ok (.invokevirtual 182, 3) := by decide +kernel
theorem dX11_guest_86 : decode cX11_guest 86 = .ok (.ireturn, 1) := by decide +kernel
theorem dX11_guest_87 : decode cX11_guest 87 = .ok (.aload_n 0, 1) := by decide +kernel
theorem dX11_guest_88 : decode cX11_guest 88 = .ok (.getfield 33, 3) := by decide +kernel
theorem dX11_guest_91 : decode cX11_guest 91 = .ok (.iload_n 1, 1) := by decide +kernel
theorem dX11_guest_92 : decode cX11_guest 92 = .ok (.invokevirtual 186, 3) := by decide +kernel
theorem dX11_guest_95 : decode cX11_guest 95 = .ok (.ireturn, 1) := by decide +kernel
theorem dX11_guest_96 : decode cX11_guest 96 = .ok (.aload_n 0, 1) := by decide +kernel
theorem dX11_guest_97 : decode cX11_guest 97 = .ok (.iload_n 1, 1) := by decide +kernel
theorem dX11_guest_98 : decode cX11_guest 98 = .ok (.invokevirtual 189, 3) := by decide +kernel
theorem dX11_guest_101 : decode cX11_guest 101 = .ok (.ifCond .eq 7, 3) := by decide +kernel
theorem dX11_guest_104 : decode cX11_guest 104 = .ok (.iconst 1, 1) := by decide +kernel
theorem dX11_guest_105 : decode cX11_guest 105 = .ok (.goto 4, 3) := by decide +kernel
theorem dX11_guest_108 : decode cX11_guest 108 = .ok (.iconst 0, 1) := by decide +kernel
theorem dX11_guest_109 : decode cX11_guest 109 = .ok (.ireturn, 1) := by decide +kernel
theorem dX11_guest_110 : decode cX11_guest 110 = .ok (.aload_n 0, 1) := by decide +kernel
theorem dX11_guest_111 : decode cX11_guest 111 = .ok (.getfield 26, 3) := by decide +kernel
theorem dX11_guest_114 : decode cX11_guest 114 = .ok (.iload_n 1, 1) := by decide +kernel
theorem dX11_guest_115 : decode cX11_guest 115 = .ok (.iload_n 2, 1) := by decide +kernel
theorem dX11_guest_116 : decode cX11_guest 116 = .ok (.invokevirtual 192, 3) := by decide +kernel
theorem dX11_guest_119 : decode cX11_guest 119 = .ok (.ireturn, 1) := by decide +kernel
def xX11_guest_110 (s_X11_isGuest : zq_Sp) (s_X3_tasteOf : zq_Sp) (s_X11_hasDue : zq_Sp) (s_X10_whole : zq_Sp) (s_X11_worthHeld : zq_Sp) (s_X11_cellsWith : zq_Sp) (J18 : zq_P) (Q : zq_Q) (ls : zq_L) (st : List Value) (h : zq_H) : Prop := (zi_aload 0 (zi_getR 0 5 (zi_iload 1 (zi_iload 2 (zi_callV 2 5 s_X3_tasteOf (zi_iret Q)))))) ls st h
theorem kX11_guest_110 {X : zq_X} {d : Nat} (C : zq_C X cX11_guest 3 RX11 d) {d_X11_isGuest : Nat} {s_X11_isGuest : zq_Sp} (h_X11_isGuest : zq_M yX11_isGuest cX11_isGuest 2 (some .boolean) 1 d_X11_isGuest s_X11_isGuest) (g_X11_isGuest : d_X11_isGuest + 1 ≤ d) {d_X3_tasteOf : Nat} {s_X3_tasteOf : zq_Sp} (h_X3_tasteOf : zq_M yX3_tasteOf cX3_tasteOf 3 (some .int) 1 d_X3_tasteOf s_X3_tasteOf) (g_X3_tasteOf : d_X3_tasteOf + 1 ≤ d) {d_X11_hasDue : Nat} {s_X11_hasDue : zq_Sp} (h_X11_hasDue : zq_M yX11_hasDue cX11_hasDue 4 (some .boolean) 1 d_X11_hasDue s_X11_hasDue) (g_X11_hasDue : d_X11_hasDue + 1 ≤ d) {d_X10_whole : Nat} {s_X10_whole : zq_Sp} (h_X10_whole : zq_M yX10_whole cX10_whole 2 (some .int) 1 d_X10_whole s_X10_whole) (g_X10_whole : d_X10_whole + 1 ≤ d) {d_X11_worthHeld : Nat} {s_X11_worthHeld : zq_Sp} (h_X11_worthHeld : zq_M yX11_worthHeld cX11_worthHeld 5 (some .int) 1 d_X11_worthHeld s_X11_worthHeld) (g_X11_worthHeld : d_X11_worthHeld + 1 ≤ d) {d_X11_cellsWith : Nat} {s_X11_cellsWith : zq_Sp} (h_X11_cellsWith : zq_M yX11_cellsWith cX11_cellsWith 4 (some .int) 1 d_X11_cellsWith s_X11_cellsWith) (g_X11_cellsWith : d_X11_cellsWith + 1 ≤ d) {J18 : zq_P} (j18 : zq_ok X 3 18 J18) {Q : zq_Q} (hq : zq_R X (some .int) 1 Q) : zq_ok X 3 110 (xX11_guest_110 s_X11_isGuest s_X3_tasteOf s_X11_hasDue s_X10_whole s_X11_worthHeld s_X11_cellsWith J18 Q) := by
  refine zs_aload_n C dX11_guest_110 rfl ?_
  refine zs_getR C zp_0 zF11 (j := 2) ⟨by decide, rfl⟩ zw_317 dX11_guest_111 ?_
  refine zs_iload_n C dX11_guest_114 rfl ?_
  refine zs_iload_n C dX11_guest_115 rfl ?_
  refine zs_callV C h_X3_tasteOf g_X3_tasteOf zy_X3_tasteOf zp_5 (show vwCl[3]? = some (RX3, TX3, 4) from rfl) zw_562 zw_563 zs9_X3_tasteOf dX11_guest_116 ?_
  exact zs_iret C hq dX11_guest_119
def xX11_guest_109 (s_X11_isGuest : zq_Sp) (s_X3_tasteOf : zq_Sp) (s_X11_hasDue : zq_Sp) (s_X10_whole : zq_Sp) (s_X11_worthHeld : zq_Sp) (s_X11_cellsWith : zq_Sp) (J18 : zq_P) (Q : zq_Q) (ls : zq_L) (st : List Value) (h : zq_H) : Prop := (zi_iret Q) ls st h
theorem kX11_guest_109 {X : zq_X} {d : Nat} (C : zq_C X cX11_guest 3 RX11 d) {d_X11_isGuest : Nat} {s_X11_isGuest : zq_Sp} (h_X11_isGuest : zq_M yX11_isGuest cX11_isGuest 2 (some .boolean) 1 d_X11_isGuest s_X11_isGuest) (g_X11_isGuest : d_X11_isGuest + 1 ≤ d) {d_X3_tasteOf : Nat} {s_X3_tasteOf : zq_Sp} (h_X3_tasteOf : zq_M yX3_tasteOf cX3_tasteOf 3 (some .int) 1 d_X3_tasteOf s_X3_tasteOf) (g_X3_tasteOf : d_X3_tasteOf + 1 ≤ d) {d_X11_hasDue : Nat} {s_X11_hasDue : zq_Sp} (h_X11_hasDue : zq_M yX11_hasDue cX11_hasDue 4 (some .boolean) 1 d_X11_hasDue s_X11_hasDue) (g_X11_hasDue : d_X11_hasDue + 1 ≤ d) {d_X10_whole : Nat} {s_X10_whole : zq_Sp} (h_X10_whole : zq_M yX10_whole cX10_whole 2 (some .int) 1 d_X10_whole s_X10_whole) (g_X10_whole : d_X10_whole + 1 ≤ d) {d_X11_worthHeld : Nat} {s_X11_worthHeld : zq_Sp} (h_X11_worthHeld : zq_M yX11_worthHeld cX11_worthHeld 5 (some .int) 1 d_X11_worthHeld s_X11_worthHeld) (g_X11_worthHeld : d_X11_worthHeld + 1 ≤ d) {d_X11_cellsWith : Nat} {s_X11_cellsWith : zq_Sp} (h_X11_cellsWith : zq_M yX11_cellsWith cX11_cellsWith 4 (some .int) 1 d_X11_cellsWith s_X11_cellsWith) (g_X11_cellsWith : d_X11_cellsWith + 1 ≤ d) {J18 : zq_P} (j18 : zq_ok X 3 18 J18) {Q : zq_Q} (hq : zq_R X (some .int) 1 Q) : zq_ok X 3 109 (xX11_guest_109 s_X11_isGuest s_X3_tasteOf s_X11_hasDue s_X10_whole s_X11_worthHeld s_X11_cellsWith J18 Q) := by
  exact zs_iret C hq dX11_guest_109
def xX11_guest_108 (s_X11_isGuest : zq_Sp) (s_X3_tasteOf : zq_Sp) (s_X11_hasDue : zq_Sp) (s_X10_whole : zq_Sp) (s_X11_worthHeld : zq_Sp) (s_X11_cellsWith : zq_Sp) (J18 : zq_P) (Q : zq_Q) (ls : zq_L) (st : List Value) (h : zq_H) : Prop := (zi_push (.int 0) ((xX11_guest_109 s_X11_isGuest s_X3_tasteOf s_X11_hasDue s_X10_whole s_X11_worthHeld s_X11_cellsWith J18 Q))) ls st h
theorem kX11_guest_108 {X : zq_X} {d : Nat} (C : zq_C X cX11_guest 3 RX11 d) {d_X11_isGuest : Nat} {s_X11_isGuest : zq_Sp} (h_X11_isGuest : zq_M yX11_isGuest cX11_isGuest 2 (some .boolean) 1 d_X11_isGuest s_X11_isGuest) (g_X11_isGuest : d_X11_isGuest + 1 ≤ d) {d_X3_tasteOf : Nat} {s_X3_tasteOf : zq_Sp} (h_X3_tasteOf : zq_M yX3_tasteOf cX3_tasteOf 3 (some .int) 1 d_X3_tasteOf s_X3_tasteOf) (g_X3_tasteOf : d_X3_tasteOf + 1 ≤ d) {d_X11_hasDue : Nat} {s_X11_hasDue : zq_Sp} (h_X11_hasDue : zq_M yX11_hasDue cX11_hasDue 4 (some .boolean) 1 d_X11_hasDue s_X11_hasDue) (g_X11_hasDue : d_X11_hasDue + 1 ≤ d) {d_X10_whole : Nat} {s_X10_whole : zq_Sp} (h_X10_whole : zq_M yX10_whole cX10_whole 2 (some .int) 1 d_X10_whole s_X10_whole) (g_X10_whole : d_X10_whole + 1 ≤ d) {d_X11_worthHeld : Nat} {s_X11_worthHeld : zq_Sp} (h_X11_worthHeld : zq_M yX11_worthHeld cX11_worthHeld 5 (some .int) 1 d_X11_worthHeld s_X11_worthHeld) (g_X11_worthHeld : d_X11_worthHeld + 1 ≤ d) {d_X11_cellsWith : Nat} {s_X11_cellsWith : zq_Sp} (h_X11_cellsWith : zq_M yX11_cellsWith cX11_cellsWith 4 (some .int) 1 d_X11_cellsWith s_X11_cellsWith) (g_X11_cellsWith : d_X11_cellsWith + 1 ≤ d) {J18 : zq_P} (j18 : zq_ok X 3 18 J18) {Q : zq_Q} (hq : zq_R X (some .int) 1 Q) : zq_ok X 3 108 (xX11_guest_108 s_X11_isGuest s_X3_tasteOf s_X11_hasDue s_X10_whole s_X11_worthHeld s_X11_cellsWith J18 Q) := by
  refine zs_iconst C dX11_guest_108 (by decide) ?_
  exact kX11_guest_109 C h_X11_isGuest g_X11_isGuest h_X3_tasteOf g_X3_tasteOf h_X11_hasDue g_X11_hasDue h_X10_whole g_X10_whole h_X11_worthHeld g_X11_worthHeld h_X11_cellsWith g_X11_cellsWith j18 hq
def xX11_guest_104 (s_X11_isGuest : zq_Sp) (s_X3_tasteOf : zq_Sp) (s_X11_hasDue : zq_Sp) (s_X10_whole : zq_Sp) (s_X11_worthHeld : zq_Sp) (s_X11_cellsWith : zq_Sp) (J18 : zq_P) (Q : zq_Q) (ls : zq_L) (st : List Value) (h : zq_H) : Prop := (zi_push (.int 1) ((xX11_guest_109 s_X11_isGuest s_X3_tasteOf s_X11_hasDue s_X10_whole s_X11_worthHeld s_X11_cellsWith J18 Q))) ls st h
theorem kX11_guest_104 {X : zq_X} {d : Nat} (C : zq_C X cX11_guest 3 RX11 d) {d_X11_isGuest : Nat} {s_X11_isGuest : zq_Sp} (h_X11_isGuest : zq_M yX11_isGuest cX11_isGuest 2 (some .boolean) 1 d_X11_isGuest s_X11_isGuest) (g_X11_isGuest : d_X11_isGuest + 1 ≤ d) {d_X3_tasteOf : Nat} {s_X3_tasteOf : zq_Sp} (h_X3_tasteOf : zq_M yX3_tasteOf cX3_tasteOf 3 (some .int) 1 d_X3_tasteOf s_X3_tasteOf) (g_X3_tasteOf : d_X3_tasteOf + 1 ≤ d) {d_X11_hasDue : Nat} {s_X11_hasDue : zq_Sp} (h_X11_hasDue : zq_M yX11_hasDue cX11_hasDue 4 (some .boolean) 1 d_X11_hasDue s_X11_hasDue) (g_X11_hasDue : d_X11_hasDue + 1 ≤ d) {d_X10_whole : Nat} {s_X10_whole : zq_Sp} (h_X10_whole : zq_M yX10_whole cX10_whole 2 (some .int) 1 d_X10_whole s_X10_whole) (g_X10_whole : d_X10_whole + 1 ≤ d) {d_X11_worthHeld : Nat} {s_X11_worthHeld : zq_Sp} (h_X11_worthHeld : zq_M yX11_worthHeld cX11_worthHeld 5 (some .int) 1 d_X11_worthHeld s_X11_worthHeld) (g_X11_worthHeld : d_X11_worthHeld + 1 ≤ d) {d_X11_cellsWith : Nat} {s_X11_cellsWith : zq_Sp} (h_X11_cellsWith : zq_M yX11_cellsWith cX11_cellsWith 4 (some .int) 1 d_X11_cellsWith s_X11_cellsWith) (g_X11_cellsWith : d_X11_cellsWith + 1 ≤ d) {J18 : zq_P} (j18 : zq_ok X 3 18 J18) {Q : zq_Q} (hq : zq_R X (some .int) 1 Q) : zq_ok X 3 104 (xX11_guest_104 s_X11_isGuest s_X3_tasteOf s_X11_hasDue s_X10_whole s_X11_worthHeld s_X11_cellsWith J18 Q) := by
  refine zs_iconst C dX11_guest_104 (by decide) ?_
  exact zs_goto C dX11_guest_105 (by decide) (kX11_guest_109 C h_X11_isGuest g_X11_isGuest h_X3_tasteOf g_X3_tasteOf h_X11_hasDue g_X11_hasDue h_X10_whole g_X10_whole h_X11_worthHeld g_X11_worthHeld h_X11_cellsWith g_X11_cellsWith j18 hq)
def xX11_guest_96 (s_X11_isGuest : zq_Sp) (s_X3_tasteOf : zq_Sp) (s_X11_hasDue : zq_Sp) (s_X10_whole : zq_Sp) (s_X11_worthHeld : zq_Sp) (s_X11_cellsWith : zq_Sp) (J18 : zq_P) (Q : zq_Q) (ls : zq_L) (st : List Value) (h : zq_H) : Prop := (zi_aload 0 (zi_iload 1 (zi_callV 1 0 s_X11_hasDue (zi_if1 (fun x => x = 0) (xX11_guest_108 s_X11_isGuest s_X3_tasteOf s_X11_hasDue s_X10_whole s_X11_worthHeld s_X11_cellsWith J18 Q) (xX11_guest_104 s_X11_isGuest s_X3_tasteOf s_X11_hasDue s_X10_whole s_X11_worthHeld s_X11_cellsWith J18 Q))))) ls st h
theorem kX11_guest_96 {X : zq_X} {d : Nat} (C : zq_C X cX11_guest 3 RX11 d) {d_X11_isGuest : Nat} {s_X11_isGuest : zq_Sp} (h_X11_isGuest : zq_M yX11_isGuest cX11_isGuest 2 (some .boolean) 1 d_X11_isGuest s_X11_isGuest) (g_X11_isGuest : d_X11_isGuest + 1 ≤ d) {d_X3_tasteOf : Nat} {s_X3_tasteOf : zq_Sp} (h_X3_tasteOf : zq_M yX3_tasteOf cX3_tasteOf 3 (some .int) 1 d_X3_tasteOf s_X3_tasteOf) (g_X3_tasteOf : d_X3_tasteOf + 1 ≤ d) {d_X11_hasDue : Nat} {s_X11_hasDue : zq_Sp} (h_X11_hasDue : zq_M yX11_hasDue cX11_hasDue 4 (some .boolean) 1 d_X11_hasDue s_X11_hasDue) (g_X11_hasDue : d_X11_hasDue + 1 ≤ d) {d_X10_whole : Nat} {s_X10_whole : zq_Sp} (h_X10_whole : zq_M yX10_whole cX10_whole 2 (some .int) 1 d_X10_whole s_X10_whole) (g_X10_whole : d_X10_whole + 1 ≤ d) {d_X11_worthHeld : Nat} {s_X11_worthHeld : zq_Sp} (h_X11_worthHeld : zq_M yX11_worthHeld cX11_worthHeld 5 (some .int) 1 d_X11_worthHeld s_X11_worthHeld) (g_X11_worthHeld : d_X11_worthHeld + 1 ≤ d) {d_X11_cellsWith : Nat} {s_X11_cellsWith : zq_Sp} (h_X11_cellsWith : zq_M yX11_cellsWith cX11_cellsWith 4 (some .int) 1 d_X11_cellsWith s_X11_cellsWith) (g_X11_cellsWith : d_X11_cellsWith + 1 ≤ d) {J18 : zq_P} (j18 : zq_ok X 3 18 J18) {Q : zq_Q} (hq : zq_R X (some .int) 1 Q) : zq_ok X 3 96 (xX11_guest_96 s_X11_isGuest s_X3_tasteOf s_X11_hasDue s_X10_whole s_X11_worthHeld s_X11_cellsWith J18 Q) := by
  refine zs_aload_n C dX11_guest_96 rfl ?_
  refine zs_iload_n C dX11_guest_97 rfl ?_
  refine zs_callV C h_X11_hasDue g_X11_hasDue zy_X11_hasDue zp_0 (show vwCl[11]? = some (RX11, TX11, 16) from rfl) zw_686 zw_688 zs9_X11_hasDue dX11_guest_98 ?_
  exact zs_if_eq C dX11_guest_101 (by decide) (kX11_guest_108 C h_X11_isGuest g_X11_isGuest h_X3_tasteOf g_X3_tasteOf h_X11_hasDue g_X11_hasDue h_X10_whole g_X10_whole h_X11_worthHeld g_X11_worthHeld h_X11_cellsWith g_X11_cellsWith j18 hq) (kX11_guest_104 C h_X11_isGuest g_X11_isGuest h_X3_tasteOf g_X3_tasteOf h_X11_hasDue g_X11_hasDue h_X10_whole g_X10_whole h_X11_worthHeld g_X11_worthHeld h_X11_cellsWith g_X11_cellsWith j18 hq)
def xX11_guest_87 (s_X11_isGuest : zq_Sp) (s_X3_tasteOf : zq_Sp) (s_X11_hasDue : zq_Sp) (s_X10_whole : zq_Sp) (s_X11_worthHeld : zq_Sp) (s_X11_cellsWith : zq_Sp) (J18 : zq_P) (Q : zq_Q) (ls : zq_L) (st : List Value) (h : zq_H) : Prop := (zi_aload 0 (zi_getR 0 9 (zi_iload 1 (zi_callV 1 9 s_X10_whole (zi_iret Q))))) ls st h
theorem kX11_guest_87 {X : zq_X} {d : Nat} (C : zq_C X cX11_guest 3 RX11 d) {d_X11_isGuest : Nat} {s_X11_isGuest : zq_Sp} (h_X11_isGuest : zq_M yX11_isGuest cX11_isGuest 2 (some .boolean) 1 d_X11_isGuest s_X11_isGuest) (g_X11_isGuest : d_X11_isGuest + 1 ≤ d) {d_X3_tasteOf : Nat} {s_X3_tasteOf : zq_Sp} (h_X3_tasteOf : zq_M yX3_tasteOf cX3_tasteOf 3 (some .int) 1 d_X3_tasteOf s_X3_tasteOf) (g_X3_tasteOf : d_X3_tasteOf + 1 ≤ d) {d_X11_hasDue : Nat} {s_X11_hasDue : zq_Sp} (h_X11_hasDue : zq_M yX11_hasDue cX11_hasDue 4 (some .boolean) 1 d_X11_hasDue s_X11_hasDue) (g_X11_hasDue : d_X11_hasDue + 1 ≤ d) {d_X10_whole : Nat} {s_X10_whole : zq_Sp} (h_X10_whole : zq_M yX10_whole cX10_whole 2 (some .int) 1 d_X10_whole s_X10_whole) (g_X10_whole : d_X10_whole + 1 ≤ d) {d_X11_worthHeld : Nat} {s_X11_worthHeld : zq_Sp} (h_X11_worthHeld : zq_M yX11_worthHeld cX11_worthHeld 5 (some .int) 1 d_X11_worthHeld s_X11_worthHeld) (g_X11_worthHeld : d_X11_worthHeld + 1 ≤ d) {d_X11_cellsWith : Nat} {s_X11_cellsWith : zq_Sp} (h_X11_cellsWith : zq_M yX11_cellsWith cX11_cellsWith 4 (some .int) 1 d_X11_cellsWith s_X11_cellsWith) (g_X11_cellsWith : d_X11_cellsWith + 1 ≤ d) {J18 : zq_P} (j18 : zq_ok X 3 18 J18) {Q : zq_Q} (hq : zq_R X (some .int) 1 Q) : zq_ok X 3 87 (xX11_guest_87 s_X11_isGuest s_X3_tasteOf s_X11_hasDue s_X10_whole s_X11_worthHeld s_X11_cellsWith J18 Q) := by
  refine zs_aload_n C dX11_guest_87 rfl ?_
  refine zs_getR C zp_0 zF11 (j := 3) ⟨by decide, rfl⟩ zw_318 dX11_guest_88 ?_
  refine zs_iload_n C dX11_guest_91 rfl ?_
  refine zs_callV C h_X10_whole g_X10_whole zy_X10_whole zp_9 (show vwCl[10]? = some (RX10, TX10, 3) from rfl) zw_690 zw_691 zs9_X10_whole dX11_guest_92 ?_
  exact zs_iret C hq dX11_guest_95
def xX11_guest_80 (s_X11_isGuest : zq_Sp) (s_X3_tasteOf : zq_Sp) (s_X11_hasDue : zq_Sp) (s_X10_whole : zq_Sp) (s_X11_worthHeld : zq_Sp) (s_X11_cellsWith : zq_Sp) (J18 : zq_P) (Q : zq_Q) (ls : zq_L) (st : List Value) (h : zq_H) : Prop := (zi_aload 0 (zi_iload 1 (zi_iload 1 (zi_callV 2 0 s_X11_worthHeld (zi_iret Q))))) ls st h
theorem kX11_guest_80 {X : zq_X} {d : Nat} (C : zq_C X cX11_guest 3 RX11 d) {d_X11_isGuest : Nat} {s_X11_isGuest : zq_Sp} (h_X11_isGuest : zq_M yX11_isGuest cX11_isGuest 2 (some .boolean) 1 d_X11_isGuest s_X11_isGuest) (g_X11_isGuest : d_X11_isGuest + 1 ≤ d) {d_X3_tasteOf : Nat} {s_X3_tasteOf : zq_Sp} (h_X3_tasteOf : zq_M yX3_tasteOf cX3_tasteOf 3 (some .int) 1 d_X3_tasteOf s_X3_tasteOf) (g_X3_tasteOf : d_X3_tasteOf + 1 ≤ d) {d_X11_hasDue : Nat} {s_X11_hasDue : zq_Sp} (h_X11_hasDue : zq_M yX11_hasDue cX11_hasDue 4 (some .boolean) 1 d_X11_hasDue s_X11_hasDue) (g_X11_hasDue : d_X11_hasDue + 1 ≤ d) {d_X10_whole : Nat} {s_X10_whole : zq_Sp} (h_X10_whole : zq_M yX10_whole cX10_whole 2 (some .int) 1 d_X10_whole s_X10_whole) (g_X10_whole : d_X10_whole + 1 ≤ d) {d_X11_worthHeld : Nat} {s_X11_worthHeld : zq_Sp} (h_X11_worthHeld : zq_M yX11_worthHeld cX11_worthHeld 5 (some .int) 1 d_X11_worthHeld s_X11_worthHeld) (g_X11_worthHeld : d_X11_worthHeld + 1 ≤ d) {d_X11_cellsWith : Nat} {s_X11_cellsWith : zq_Sp} (h_X11_cellsWith : zq_M yX11_cellsWith cX11_cellsWith 4 (some .int) 1 d_X11_cellsWith s_X11_cellsWith) (g_X11_cellsWith : d_X11_cellsWith + 1 ≤ d) {J18 : zq_P} (j18 : zq_ok X 3 18 J18) {Q : zq_Q} (hq : zq_R X (some .int) 1 Q) : zq_ok X 3 80 (xX11_guest_80 s_X11_isGuest s_X3_tasteOf s_X11_hasDue s_X10_whole s_X11_worthHeld s_X11_cellsWith J18 Q) := by
  refine zs_aload_n C dX11_guest_80 rfl ?_
  refine zs_iload_n C dX11_guest_81 rfl ?_
  refine zs_iload_n C dX11_guest_82 rfl ?_
  refine zs_callV C h_X11_worthHeld g_X11_worthHeld zy_X11_worthHeld zp_0 (show vwCl[11]? = some (RX11, TX11, 16) from rfl) zw_674 zw_676 zs9_X11_worthHeld dX11_guest_83 ?_
  exact zs_iret C hq dX11_guest_86
def xX11_guest_74 (s_X11_isGuest : zq_Sp) (s_X3_tasteOf : zq_Sp) (s_X11_hasDue : zq_Sp) (s_X10_whole : zq_Sp) (s_X11_worthHeld : zq_Sp) (s_X11_cellsWith : zq_Sp) (J18 : zq_P) (Q : zq_Q) (ls : zq_L) (st : List Value) (h : zq_H) : Prop := (zi_aload 0 (zi_iload 1 (zi_callV 1 0 s_X11_cellsWith (zi_iret Q)))) ls st h
theorem kX11_guest_74 {X : zq_X} {d : Nat} (C : zq_C X cX11_guest 3 RX11 d) {d_X11_isGuest : Nat} {s_X11_isGuest : zq_Sp} (h_X11_isGuest : zq_M yX11_isGuest cX11_isGuest 2 (some .boolean) 1 d_X11_isGuest s_X11_isGuest) (g_X11_isGuest : d_X11_isGuest + 1 ≤ d) {d_X3_tasteOf : Nat} {s_X3_tasteOf : zq_Sp} (h_X3_tasteOf : zq_M yX3_tasteOf cX3_tasteOf 3 (some .int) 1 d_X3_tasteOf s_X3_tasteOf) (g_X3_tasteOf : d_X3_tasteOf + 1 ≤ d) {d_X11_hasDue : Nat} {s_X11_hasDue : zq_Sp} (h_X11_hasDue : zq_M yX11_hasDue cX11_hasDue 4 (some .boolean) 1 d_X11_hasDue s_X11_hasDue) (g_X11_hasDue : d_X11_hasDue + 1 ≤ d) {d_X10_whole : Nat} {s_X10_whole : zq_Sp} (h_X10_whole : zq_M yX10_whole cX10_whole 2 (some .int) 1 d_X10_whole s_X10_whole) (g_X10_whole : d_X10_whole + 1 ≤ d) {d_X11_worthHeld : Nat} {s_X11_worthHeld : zq_Sp} (h_X11_worthHeld : zq_M yX11_worthHeld cX11_worthHeld 5 (some .int) 1 d_X11_worthHeld s_X11_worthHeld) (g_X11_worthHeld : d_X11_worthHeld + 1 ≤ d) {d_X11_cellsWith : Nat} {s_X11_cellsWith : zq_Sp} (h_X11_cellsWith : zq_M yX11_cellsWith cX11_cellsWith 4 (some .int) 1 d_X11_cellsWith s_X11_cellsWith) (g_X11_cellsWith : d_X11_cellsWith + 1 ≤ d) {J18 : zq_P} (j18 : zq_ok X 3 18 J18) {Q : zq_Q} (hq : zq_R X (some .int) 1 Q) : zq_ok X 3 74 (xX11_guest_74 s_X11_isGuest s_X3_tasteOf s_X11_hasDue s_X10_whole s_X11_worthHeld s_X11_cellsWith J18 Q) := by
  refine zs_aload_n C dX11_guest_74 rfl ?_
  refine zs_iload_n C dX11_guest_75 rfl ?_
  refine zs_callV C h_X11_cellsWith g_X11_cellsWith zy_X11_cellsWith zp_0 (show vwCl[11]? = some (RX11, TX11, 16) from rfl) zw_658 zw_660 zs9_X11_cellsWith dX11_guest_76 ?_
  exact zs_iret C hq dX11_guest_79
def xX11_guest_64 (s_X11_isGuest : zq_Sp) (s_X3_tasteOf : zq_Sp) (s_X11_hasDue : zq_Sp) (s_X10_whole : zq_Sp) (s_X11_worthHeld : zq_Sp) (s_X11_cellsWith : zq_Sp) (J18 : zq_P) (Q : zq_Q) (ls : zq_L) (st : List Value) (h : zq_H) : Prop := (zi_aload 0 (zi_getR 0 5 (zi_getR 5 7 (zi_iload 1 (zi_aldI 7 6 (zi_iret Q)))))) ls st h
theorem kX11_guest_64 {X : zq_X} {d : Nat} (C : zq_C X cX11_guest 3 RX11 d) {d_X11_isGuest : Nat} {s_X11_isGuest : zq_Sp} (h_X11_isGuest : zq_M yX11_isGuest cX11_isGuest 2 (some .boolean) 1 d_X11_isGuest s_X11_isGuest) (g_X11_isGuest : d_X11_isGuest + 1 ≤ d) {d_X3_tasteOf : Nat} {s_X3_tasteOf : zq_Sp} (h_X3_tasteOf : zq_M yX3_tasteOf cX3_tasteOf 3 (some .int) 1 d_X3_tasteOf s_X3_tasteOf) (g_X3_tasteOf : d_X3_tasteOf + 1 ≤ d) {d_X11_hasDue : Nat} {s_X11_hasDue : zq_Sp} (h_X11_hasDue : zq_M yX11_hasDue cX11_hasDue 4 (some .boolean) 1 d_X11_hasDue s_X11_hasDue) (g_X11_hasDue : d_X11_hasDue + 1 ≤ d) {d_X10_whole : Nat} {s_X10_whole : zq_Sp} (h_X10_whole : zq_M yX10_whole cX10_whole 2 (some .int) 1 d_X10_whole s_X10_whole) (g_X10_whole : d_X10_whole + 1 ≤ d) {d_X11_worthHeld : Nat} {s_X11_worthHeld : zq_Sp} (h_X11_worthHeld : zq_M yX11_worthHeld cX11_worthHeld 5 (some .int) 1 d_X11_worthHeld s_X11_worthHeld) (g_X11_worthHeld : d_X11_worthHeld + 1 ≤ d) {d_X11_cellsWith : Nat} {s_X11_cellsWith : zq_Sp} (h_X11_cellsWith : zq_M yX11_cellsWith cX11_cellsWith 4 (some .int) 1 d_X11_cellsWith s_X11_cellsWith) (g_X11_cellsWith : d_X11_cellsWith + 1 ≤ d) {J18 : zq_P} (j18 : zq_ok X 3 18 J18) {Q : zq_Q} (hq : zq_R X (some .int) 1 Q) : zq_ok X 3 64 (xX11_guest_64 s_X11_isGuest s_X3_tasteOf s_X11_hasDue s_X10_whole s_X11_worthHeld s_X11_cellsWith J18 Q) := by
  refine zs_aload_n C dX11_guest_64 rfl ?_
  refine zs_getR C zp_0 zF11 (j := 2) ⟨by decide, rfl⟩ zw_317 dX11_guest_65 ?_
  refine zs_getRN C zp_5 zF3 (j := 1) ⟨by decide, rfl⟩ zw_81 dX11_guest_68 ?_
  refine zs_iload_n C dX11_guest_71 rfl ?_
  refine zs_iaload C zp_7 dX11_guest_72 ?_
  exact zs_iret C hq dX11_guest_73
def xX11_guest_28 (s_X11_isGuest : zq_Sp) (s_X3_tasteOf : zq_Sp) (s_X11_hasDue : zq_Sp) (s_X10_whole : zq_Sp) (s_X11_worthHeld : zq_Sp) (s_X11_cellsWith : zq_Sp) (J18 : zq_P) (Q : zq_Q) (ls : zq_L) (st : List Value) (h : zq_H) : Prop := (zi_iload 2 (zi_sw [(3, (xX11_guest_64 s_X11_isGuest s_X3_tasteOf s_X11_hasDue s_X10_whole s_X11_worthHeld s_X11_cellsWith J18 Q)), (4, (xX11_guest_74 s_X11_isGuest s_X3_tasteOf s_X11_hasDue s_X10_whole s_X11_worthHeld s_X11_cellsWith J18 Q)), (5, (xX11_guest_80 s_X11_isGuest s_X3_tasteOf s_X11_hasDue s_X10_whole s_X11_worthHeld s_X11_cellsWith J18 Q)), (6, (xX11_guest_87 s_X11_isGuest s_X3_tasteOf s_X11_hasDue s_X10_whole s_X11_worthHeld s_X11_cellsWith J18 Q)), (7, (xX11_guest_96 s_X11_isGuest s_X3_tasteOf s_X11_hasDue s_X10_whole s_X11_worthHeld s_X11_cellsWith J18 Q))] (xX11_guest_110 s_X11_isGuest s_X3_tasteOf s_X11_hasDue s_X10_whole s_X11_worthHeld s_X11_cellsWith J18 Q))) ls st h
theorem kX11_guest_28 {X : zq_X} {d : Nat} (C : zq_C X cX11_guest 3 RX11 d) {d_X11_isGuest : Nat} {s_X11_isGuest : zq_Sp} (h_X11_isGuest : zq_M yX11_isGuest cX11_isGuest 2 (some .boolean) 1 d_X11_isGuest s_X11_isGuest) (g_X11_isGuest : d_X11_isGuest + 1 ≤ d) {d_X3_tasteOf : Nat} {s_X3_tasteOf : zq_Sp} (h_X3_tasteOf : zq_M yX3_tasteOf cX3_tasteOf 3 (some .int) 1 d_X3_tasteOf s_X3_tasteOf) (g_X3_tasteOf : d_X3_tasteOf + 1 ≤ d) {d_X11_hasDue : Nat} {s_X11_hasDue : zq_Sp} (h_X11_hasDue : zq_M yX11_hasDue cX11_hasDue 4 (some .boolean) 1 d_X11_hasDue s_X11_hasDue) (g_X11_hasDue : d_X11_hasDue + 1 ≤ d) {d_X10_whole : Nat} {s_X10_whole : zq_Sp} (h_X10_whole : zq_M yX10_whole cX10_whole 2 (some .int) 1 d_X10_whole s_X10_whole) (g_X10_whole : d_X10_whole + 1 ≤ d) {d_X11_worthHeld : Nat} {s_X11_worthHeld : zq_Sp} (h_X11_worthHeld : zq_M yX11_worthHeld cX11_worthHeld 5 (some .int) 1 d_X11_worthHeld s_X11_worthHeld) (g_X11_worthHeld : d_X11_worthHeld + 1 ≤ d) {d_X11_cellsWith : Nat} {s_X11_cellsWith : zq_Sp} (h_X11_cellsWith : zq_M yX11_cellsWith cX11_cellsWith 4 (some .int) 1 d_X11_cellsWith s_X11_cellsWith) (g_X11_cellsWith : d_X11_cellsWith + 1 ≤ d) {J18 : zq_P} (j18 : zq_ok X 3 18 J18) {Q : zq_Q} (hq : zq_R X (some .int) 1 Q) : zq_ok X 3 28 (xX11_guest_28 s_X11_isGuest s_X3_tasteOf s_X11_hasDue s_X10_whole s_X11_worthHeld s_X11_cellsWith J18 Q) := by
  refine zs_iload_n C dX11_guest_28 rfl ?_
  exact zs_tsw C dX11_guest_29 (by rfl) ⟨⟨by decide, _, _, rfl, by decide, kX11_guest_64 C h_X11_isGuest g_X11_isGuest h_X3_tasteOf g_X3_tasteOf h_X11_hasDue g_X11_hasDue h_X10_whole g_X10_whole h_X11_worthHeld g_X11_worthHeld h_X11_cellsWith g_X11_cellsWith j18 hq⟩, ⟨by decide, _, _, rfl, by decide, kX11_guest_74 C h_X11_isGuest g_X11_isGuest h_X3_tasteOf g_X3_tasteOf h_X11_hasDue g_X11_hasDue h_X10_whole g_X10_whole h_X11_worthHeld g_X11_worthHeld h_X11_cellsWith g_X11_cellsWith j18 hq⟩, ⟨by decide, _, _, rfl, by decide, kX11_guest_80 C h_X11_isGuest g_X11_isGuest h_X3_tasteOf g_X3_tasteOf h_X11_hasDue g_X11_hasDue h_X10_whole g_X10_whole h_X11_worthHeld g_X11_worthHeld h_X11_cellsWith g_X11_cellsWith j18 hq⟩, ⟨by decide, _, _, rfl, by decide, kX11_guest_87 C h_X11_isGuest g_X11_isGuest h_X3_tasteOf g_X3_tasteOf h_X11_hasDue g_X11_hasDue h_X10_whole g_X10_whole h_X11_worthHeld g_X11_worthHeld h_X11_cellsWith g_X11_cellsWith j18 hq⟩, ⟨by decide, _, _, rfl, by decide, kX11_guest_96 C h_X11_isGuest g_X11_isGuest h_X3_tasteOf g_X3_tasteOf h_X11_hasDue g_X11_hasDue h_X10_whole g_X10_whole h_X11_worthHeld g_X11_worthHeld h_X11_cellsWith g_X11_cellsWith j18 hq⟩, trivial⟩ (by decide) (kX11_guest_110 C h_X11_isGuest g_X11_isGuest h_X3_tasteOf g_X3_tasteOf h_X11_hasDue g_X11_hasDue h_X10_whole g_X10_whole h_X11_worthHeld g_X11_worthHeld h_X11_cellsWith g_X11_cellsWith j18 hq)
def xX11_guest_18 (s_X11_isGuest : zq_Sp) (s_X3_tasteOf : zq_Sp) (s_X11_hasDue : zq_Sp) (s_X10_whole : zq_Sp) (s_X11_worthHeld : zq_Sp) (s_X11_cellsWith : zq_Sp) (J18 : zq_P) (Q : zq_Q) (ls : zq_L) (st : List Value) (h : zq_H) : Prop := (J18) ls st h
theorem kX11_guest_18 {X : zq_X} {d : Nat} (C : zq_C X cX11_guest 3 RX11 d) {d_X11_isGuest : Nat} {s_X11_isGuest : zq_Sp} (h_X11_isGuest : zq_M yX11_isGuest cX11_isGuest 2 (some .boolean) 1 d_X11_isGuest s_X11_isGuest) (g_X11_isGuest : d_X11_isGuest + 1 ≤ d) {d_X3_tasteOf : Nat} {s_X3_tasteOf : zq_Sp} (h_X3_tasteOf : zq_M yX3_tasteOf cX3_tasteOf 3 (some .int) 1 d_X3_tasteOf s_X3_tasteOf) (g_X3_tasteOf : d_X3_tasteOf + 1 ≤ d) {d_X11_hasDue : Nat} {s_X11_hasDue : zq_Sp} (h_X11_hasDue : zq_M yX11_hasDue cX11_hasDue 4 (some .boolean) 1 d_X11_hasDue s_X11_hasDue) (g_X11_hasDue : d_X11_hasDue + 1 ≤ d) {d_X10_whole : Nat} {s_X10_whole : zq_Sp} (h_X10_whole : zq_M yX10_whole cX10_whole 2 (some .int) 1 d_X10_whole s_X10_whole) (g_X10_whole : d_X10_whole + 1 ≤ d) {d_X11_worthHeld : Nat} {s_X11_worthHeld : zq_Sp} (h_X11_worthHeld : zq_M yX11_worthHeld cX11_worthHeld 5 (some .int) 1 d_X11_worthHeld s_X11_worthHeld) (g_X11_worthHeld : d_X11_worthHeld + 1 ≤ d) {d_X11_cellsWith : Nat} {s_X11_cellsWith : zq_Sp} (h_X11_cellsWith : zq_M yX11_cellsWith cX11_cellsWith 4 (some .int) 1 d_X11_cellsWith s_X11_cellsWith) (g_X11_cellsWith : d_X11_cellsWith + 1 ≤ d) {J18 : zq_P} (j18 : zq_ok X 3 18 J18) {Q : zq_Q} (hq : zq_R X (some .int) 1 Q) : zq_ok X 3 18 (xX11_guest_18 s_X11_isGuest s_X3_tasteOf s_X11_hasDue s_X10_whole s_X11_worthHeld s_X11_cellsWith J18 Q) := by
  exact j18
def xX11_guest_12 (s_X11_isGuest : zq_Sp) (s_X3_tasteOf : zq_Sp) (s_X11_hasDue : zq_Sp) (s_X10_whole : zq_Sp) (s_X11_worthHeld : zq_Sp) (s_X11_cellsWith : zq_Sp) (J18 : zq_P) (Q : zq_Q) (ls : zq_L) (st : List Value) (h : zq_H) : Prop := (zi_iload 2 (zi_push (.int 7) (zi_if2 (fun x y => x ≤ y) (xX11_guest_28 s_X11_isGuest s_X3_tasteOf s_X11_hasDue s_X10_whole s_X11_worthHeld s_X11_cellsWith J18 Q) (xX11_guest_18 s_X11_isGuest s_X3_tasteOf s_X11_hasDue s_X10_whole s_X11_worthHeld s_X11_cellsWith J18 Q)))) ls st h
theorem kX11_guest_12 {X : zq_X} {d : Nat} (C : zq_C X cX11_guest 3 RX11 d) {d_X11_isGuest : Nat} {s_X11_isGuest : zq_Sp} (h_X11_isGuest : zq_M yX11_isGuest cX11_isGuest 2 (some .boolean) 1 d_X11_isGuest s_X11_isGuest) (g_X11_isGuest : d_X11_isGuest + 1 ≤ d) {d_X3_tasteOf : Nat} {s_X3_tasteOf : zq_Sp} (h_X3_tasteOf : zq_M yX3_tasteOf cX3_tasteOf 3 (some .int) 1 d_X3_tasteOf s_X3_tasteOf) (g_X3_tasteOf : d_X3_tasteOf + 1 ≤ d) {d_X11_hasDue : Nat} {s_X11_hasDue : zq_Sp} (h_X11_hasDue : zq_M yX11_hasDue cX11_hasDue 4 (some .boolean) 1 d_X11_hasDue s_X11_hasDue) (g_X11_hasDue : d_X11_hasDue + 1 ≤ d) {d_X10_whole : Nat} {s_X10_whole : zq_Sp} (h_X10_whole : zq_M yX10_whole cX10_whole 2 (some .int) 1 d_X10_whole s_X10_whole) (g_X10_whole : d_X10_whole + 1 ≤ d) {d_X11_worthHeld : Nat} {s_X11_worthHeld : zq_Sp} (h_X11_worthHeld : zq_M yX11_worthHeld cX11_worthHeld 5 (some .int) 1 d_X11_worthHeld s_X11_worthHeld) (g_X11_worthHeld : d_X11_worthHeld + 1 ≤ d) {d_X11_cellsWith : Nat} {s_X11_cellsWith : zq_Sp} (h_X11_cellsWith : zq_M yX11_cellsWith cX11_cellsWith 4 (some .int) 1 d_X11_cellsWith s_X11_cellsWith) (g_X11_cellsWith : d_X11_cellsWith + 1 ≤ d) {J18 : zq_P} (j18 : zq_ok X 3 18 J18) {Q : zq_Q} (hq : zq_R X (some .int) 1 Q) : zq_ok X 3 12 (xX11_guest_12 s_X11_isGuest s_X3_tasteOf s_X11_hasDue s_X10_whole s_X11_worthHeld s_X11_cellsWith J18 Q) := by
  refine zs_iload_n C dX11_guest_12 rfl ?_
  refine zs_bipush C dX11_guest_13 (by decide) ?_
  exact zs_icmp_le C dX11_guest_15 (by decide) (kX11_guest_28 C h_X11_isGuest g_X11_isGuest h_X3_tasteOf g_X3_tasteOf h_X11_hasDue g_X11_hasDue h_X10_whole g_X10_whole h_X11_worthHeld g_X11_worthHeld h_X11_cellsWith g_X11_cellsWith j18 hq) (kX11_guest_18 C h_X11_isGuest g_X11_isGuest h_X3_tasteOf g_X3_tasteOf h_X11_hasDue g_X11_hasDue h_X10_whole g_X10_whole h_X11_worthHeld g_X11_worthHeld h_X11_cellsWith g_X11_cellsWith j18 hq)
def xX11_guest_8 (s_X11_isGuest : zq_Sp) (s_X3_tasteOf : zq_Sp) (s_X11_hasDue : zq_Sp) (s_X10_whole : zq_Sp) (s_X11_worthHeld : zq_Sp) (s_X11_cellsWith : zq_Sp) (J18 : zq_P) (Q : zq_Q) (ls : zq_L) (st : List Value) (h : zq_H) : Prop := (zi_iload 2 (zi_if1 (fun x => x < 0) (xX11_guest_18 s_X11_isGuest s_X3_tasteOf s_X11_hasDue s_X10_whole s_X11_worthHeld s_X11_cellsWith J18 Q) (xX11_guest_12 s_X11_isGuest s_X3_tasteOf s_X11_hasDue s_X10_whole s_X11_worthHeld s_X11_cellsWith J18 Q))) ls st h
theorem kX11_guest_8 {X : zq_X} {d : Nat} (C : zq_C X cX11_guest 3 RX11 d) {d_X11_isGuest : Nat} {s_X11_isGuest : zq_Sp} (h_X11_isGuest : zq_M yX11_isGuest cX11_isGuest 2 (some .boolean) 1 d_X11_isGuest s_X11_isGuest) (g_X11_isGuest : d_X11_isGuest + 1 ≤ d) {d_X3_tasteOf : Nat} {s_X3_tasteOf : zq_Sp} (h_X3_tasteOf : zq_M yX3_tasteOf cX3_tasteOf 3 (some .int) 1 d_X3_tasteOf s_X3_tasteOf) (g_X3_tasteOf : d_X3_tasteOf + 1 ≤ d) {d_X11_hasDue : Nat} {s_X11_hasDue : zq_Sp} (h_X11_hasDue : zq_M yX11_hasDue cX11_hasDue 4 (some .boolean) 1 d_X11_hasDue s_X11_hasDue) (g_X11_hasDue : d_X11_hasDue + 1 ≤ d) {d_X10_whole : Nat} {s_X10_whole : zq_Sp} (h_X10_whole : zq_M yX10_whole cX10_whole 2 (some .int) 1 d_X10_whole s_X10_whole) (g_X10_whole : d_X10_whole + 1 ≤ d) {d_X11_worthHeld : Nat} {s_X11_worthHeld : zq_Sp} (h_X11_worthHeld : zq_M yX11_worthHeld cX11_worthHeld 5 (some .int) 1 d_X11_worthHeld s_X11_worthHeld) (g_X11_worthHeld : d_X11_worthHeld + 1 ≤ d) {d_X11_cellsWith : Nat} {s_X11_cellsWith : zq_Sp} (h_X11_cellsWith : zq_M yX11_cellsWith cX11_cellsWith 4 (some .int) 1 d_X11_cellsWith s_X11_cellsWith) (g_X11_cellsWith : d_X11_cellsWith + 1 ≤ d) {J18 : zq_P} (j18 : zq_ok X 3 18 J18) {Q : zq_Q} (hq : zq_R X (some .int) 1 Q) : zq_ok X 3 8 (xX11_guest_8 s_X11_isGuest s_X3_tasteOf s_X11_hasDue s_X10_whole s_X11_worthHeld s_X11_cellsWith J18 Q) := by
  refine zs_iload_n C dX11_guest_8 rfl ?_
  exact zs_if_lt C dX11_guest_9 (by decide) (kX11_guest_18 C h_X11_isGuest g_X11_isGuest h_X3_tasteOf g_X3_tasteOf h_X11_hasDue g_X11_hasDue h_X10_whole g_X10_whole h_X11_worthHeld g_X11_worthHeld h_X11_cellsWith g_X11_cellsWith j18 hq) (kX11_guest_12 C h_X11_isGuest g_X11_isGuest h_X3_tasteOf g_X3_tasteOf h_X11_hasDue g_X11_hasDue h_X10_whole g_X10_whole h_X11_worthHeld g_X11_worthHeld h_X11_cellsWith g_X11_cellsWith j18 hq)
def xX11_guest_0 (s_X11_isGuest : zq_Sp) (s_X3_tasteOf : zq_Sp) (s_X11_hasDue : zq_Sp) (s_X10_whole : zq_Sp) (s_X11_worthHeld : zq_Sp) (s_X11_cellsWith : zq_Sp) (J18 : zq_P) (Q : zq_Q) (ls : zq_L) (st : List Value) (h : zq_H) : Prop := (zi_aload 0 (zi_iload 1 (zi_callV 1 0 s_X11_isGuest (zi_if1 (fun x => x = 0) (xX11_guest_18 s_X11_isGuest s_X3_tasteOf s_X11_hasDue s_X10_whole s_X11_worthHeld s_X11_cellsWith J18 Q) (xX11_guest_8 s_X11_isGuest s_X3_tasteOf s_X11_hasDue s_X10_whole s_X11_worthHeld s_X11_cellsWith J18 Q))))) ls st h
theorem kX11_guest_0 {X : zq_X} {d : Nat} (C : zq_C X cX11_guest 3 RX11 d) {d_X11_isGuest : Nat} {s_X11_isGuest : zq_Sp} (h_X11_isGuest : zq_M yX11_isGuest cX11_isGuest 2 (some .boolean) 1 d_X11_isGuest s_X11_isGuest) (g_X11_isGuest : d_X11_isGuest + 1 ≤ d) {d_X3_tasteOf : Nat} {s_X3_tasteOf : zq_Sp} (h_X3_tasteOf : zq_M yX3_tasteOf cX3_tasteOf 3 (some .int) 1 d_X3_tasteOf s_X3_tasteOf) (g_X3_tasteOf : d_X3_tasteOf + 1 ≤ d) {d_X11_hasDue : Nat} {s_X11_hasDue : zq_Sp} (h_X11_hasDue : zq_M yX11_hasDue cX11_hasDue 4 (some .boolean) 1 d_X11_hasDue s_X11_hasDue) (g_X11_hasDue : d_X11_hasDue + 1 ≤ d) {d_X10_whole : Nat} {s_X10_whole : zq_Sp} (h_X10_whole : zq_M yX10_whole cX10_whole 2 (some .int) 1 d_X10_whole s_X10_whole) (g_X10_whole : d_X10_whole + 1 ≤ d) {d_X11_worthHeld : Nat} {s_X11_worthHeld : zq_Sp} (h_X11_worthHeld : zq_M yX11_worthHeld cX11_worthHeld 5 (some .int) 1 d_X11_worthHeld s_X11_worthHeld) (g_X11_worthHeld : d_X11_worthHeld + 1 ≤ d) {d_X11_cellsWith : Nat} {s_X11_cellsWith : zq_Sp} (h_X11_cellsWith : zq_M yX11_cellsWith cX11_cellsWith 4 (some .int) 1 d_X11_cellsWith s_X11_cellsWith) (g_X11_cellsWith : d_X11_cellsWith + 1 ≤ d) {J18 : zq_P} (j18 : zq_ok X 3 18 J18) {Q : zq_Q} (hq : zq_R X (some .int) 1 Q) : zq_ok X 3 0 (xX11_guest_0 s_X11_isGuest s_X3_tasteOf s_X11_hasDue s_X10_whole s_X11_worthHeld s_X11_cellsWith J18 Q) := by
  refine zs_aload_n C dX11_guest_0 rfl ?_
  refine zs_iload_n C dX11_guest_1 rfl ?_
  refine zs_callV C h_X11_isGuest g_X11_isGuest zy_X11_isGuest zp_0 (show vwCl[11]? = some (RX11, TX11, 16) from rfl) zw_546 zw_548 zs9_X11_isGuest dX11_guest_2 ?_
  exact zs_if_eq C dX11_guest_5 (by decide) (kX11_guest_18 C h_X11_isGuest g_X11_isGuest h_X3_tasteOf g_X3_tasteOf h_X11_hasDue g_X11_hasDue h_X10_whole g_X10_whole h_X11_worthHeld g_X11_worthHeld h_X11_cellsWith g_X11_cellsWith j18 hq) (kX11_guest_8 C h_X11_isGuest g_X11_isGuest h_X3_tasteOf g_X3_tasteOf h_X11_hasDue g_X11_hasDue h_X10_whole g_X10_whole h_X11_worthHeld g_X11_worthHeld h_X11_cellsWith g_X11_cellsWith j18 hq)
/-! ToOneCrumb.worth(II)I -/
theorem dX11_worth_0 : decode cX11_worth 0 = .ok (.aload_n 0, 1) := by decide +kernel
theorem dX11_worth_1 : decode cX11_worth 1 = .ok (.iload_n 1, 1) := by decide +kernel
theorem dX11_worth_2 : decode cX11_worth 2 = .ok (.invokevirtual 171, 3) := by decide +kernel
theorem dX11_worth_5 : decode cX11_worth 5 = .ok (.ifCond .eq 23, 3) := by decide +kernel
theorem dX11_worth_8 : decode cX11_worth 8 = .ok (.aload_n 0, 1) := by decide +kernel
theorem dX11_worth_9 : decode cX11_worth 9 = .ok (.iload_n 2, 1) := by decide +kernel
theorem dX11_worth_10 : decode cX11_worth 10 = .ok (.invokevirtual 149, 3) := by decide +kernel
theorem dX11_worth_13 : decode cX11_worth 13 = .ok (.ifCond .eq 15, 3) := by decide +kernel
theorem dX11_worth_16 : decode cX11_worth 16 = .ok (.aload_n 0, 1) := by decide +kernel
theorem dX11_worth_17 : decode cX11_worth 17 = .ok (.getfield 33, 3) := by decide +kernel
theorem dX11_worth_20 : decode cX11_worth 20 = .ok (.iload_n 1, 1) := by decide +kernel
theorem dX11_worth_21 : decode cX11_worth 21 = .ok (.iload_n 2, 1) := by decide +kernel
theorem dX11_worth_22 : decode cX11_worth 22 = .ok (.invokevirtual 195, 3) := by decide +kernel
theorem dX11_worth_25 : decode cX11_worth 25 = .ok (.goto 4, 3) := by decide +kernel
theorem dX11_worth_28 : decode cX11_worth 28 = .ok (.iconst (-1), 1) := by decide +kernel
theorem dX11_worth_29 : decode cX11_worth 29 = .ok (.ireturn, 1) := by decide +kernel
def xX11_worth_29 (s_X11_isGuest : zq_Sp) (s_X11_isCell : zq_Sp) (s_X10_of : zq_Sp) (Q : zq_Q) (ls : zq_L) (st : List Value) (h : zq_H) : Prop := (zi_iret Q) ls st h
theorem kX11_worth_29 {X : zq_X} {d : Nat} (C : zq_C X cX11_worth 3 RX11 d) {d_X11_isGuest : Nat} {s_X11_isGuest : zq_Sp} (h_X11_isGuest : zq_M yX11_isGuest cX11_isGuest 2 (some .boolean) 1 d_X11_isGuest s_X11_isGuest) (g_X11_isGuest : d_X11_isGuest + 1 ≤ d) {d_X11_isCell : Nat} {s_X11_isCell : zq_Sp} (h_X11_isCell : zq_M yX11_isCell cX11_isCell 2 (some .boolean) 1 d_X11_isCell s_X11_isCell) (g_X11_isCell : d_X11_isCell + 1 ≤ d) {d_X10_of : Nat} {s_X10_of : zq_Sp} (h_X10_of : zq_M yX10_of cX10_of 3 (some .int) 1 d_X10_of s_X10_of) (g_X10_of : d_X10_of + 1 ≤ d) {Q : zq_Q} (hq : zq_R X (some .int) 1 Q) : zq_ok X 3 29 (xX11_worth_29 s_X11_isGuest s_X11_isCell s_X10_of Q) := by
  exact zs_iret C hq dX11_worth_29
def xX11_worth_28 (s_X11_isGuest : zq_Sp) (s_X11_isCell : zq_Sp) (s_X10_of : zq_Sp) (Q : zq_Q) (ls : zq_L) (st : List Value) (h : zq_H) : Prop := (zi_push (.int (-1)) ((xX11_worth_29 s_X11_isGuest s_X11_isCell s_X10_of Q))) ls st h
theorem kX11_worth_28 {X : zq_X} {d : Nat} (C : zq_C X cX11_worth 3 RX11 d) {d_X11_isGuest : Nat} {s_X11_isGuest : zq_Sp} (h_X11_isGuest : zq_M yX11_isGuest cX11_isGuest 2 (some .boolean) 1 d_X11_isGuest s_X11_isGuest) (g_X11_isGuest : d_X11_isGuest + 1 ≤ d) {d_X11_isCell : Nat} {s_X11_isCell : zq_Sp} (h_X11_isCell : zq_M yX11_isCell cX11_isCell 2 (some .boolean) 1 d_X11_isCell s_X11_isCell) (g_X11_isCell : d_X11_isCell + 1 ≤ d) {d_X10_of : Nat} {s_X10_of : zq_Sp} (h_X10_of : zq_M yX10_of cX10_of 3 (some .int) 1 d_X10_of s_X10_of) (g_X10_of : d_X10_of + 1 ≤ d) {Q : zq_Q} (hq : zq_R X (some .int) 1 Q) : zq_ok X 3 28 (xX11_worth_28 s_X11_isGuest s_X11_isCell s_X10_of Q) := by
  refine zs_iconst C dX11_worth_28 (by decide) ?_
  exact kX11_worth_29 C h_X11_isGuest g_X11_isGuest h_X11_isCell g_X11_isCell h_X10_of g_X10_of hq
def xX11_worth_16 (s_X11_isGuest : zq_Sp) (s_X11_isCell : zq_Sp) (s_X10_of : zq_Sp) (Q : zq_Q) (ls : zq_L) (st : List Value) (h : zq_H) : Prop := (zi_aload 0 (zi_getR 0 9 (zi_iload 1 (zi_iload 2 (zi_callV 2 9 s_X10_of ((xX11_worth_29 s_X11_isGuest s_X11_isCell s_X10_of Q))))))) ls st h
theorem kX11_worth_16 {X : zq_X} {d : Nat} (C : zq_C X cX11_worth 3 RX11 d) {d_X11_isGuest : Nat} {s_X11_isGuest : zq_Sp} (h_X11_isGuest : zq_M yX11_isGuest cX11_isGuest 2 (some .boolean) 1 d_X11_isGuest s_X11_isGuest) (g_X11_isGuest : d_X11_isGuest + 1 ≤ d) {d_X11_isCell : Nat} {s_X11_isCell : zq_Sp} (h_X11_isCell : zq_M yX11_isCell cX11_isCell 2 (some .boolean) 1 d_X11_isCell s_X11_isCell) (g_X11_isCell : d_X11_isCell + 1 ≤ d) {d_X10_of : Nat} {s_X10_of : zq_Sp} (h_X10_of : zq_M yX10_of cX10_of 3 (some .int) 1 d_X10_of s_X10_of) (g_X10_of : d_X10_of + 1 ≤ d) {Q : zq_Q} (hq : zq_R X (some .int) 1 Q) : zq_ok X 3 16 (xX11_worth_16 s_X11_isGuest s_X11_isCell s_X10_of Q) := by
  refine zs_aload_n C dX11_worth_16 rfl ?_
  refine zs_getR C zp_0 zF11 (j := 3) ⟨by decide, rfl⟩ zw_318 dX11_worth_17 ?_
  refine zs_iload_n C dX11_worth_20 rfl ?_
  refine zs_iload_n C dX11_worth_21 rfl ?_
  refine zs_callV C h_X10_of g_X10_of zy_X10_of zp_9 (show vwCl[10]? = some (RX10, TX10, 3) from rfl) zw_554 zw_555 zs9_X10_of dX11_worth_22 ?_
  exact zs_goto C dX11_worth_25 (by decide) (kX11_worth_29 C h_X11_isGuest g_X11_isGuest h_X11_isCell g_X11_isCell h_X10_of g_X10_of hq)
def xX11_worth_8 (s_X11_isGuest : zq_Sp) (s_X11_isCell : zq_Sp) (s_X10_of : zq_Sp) (Q : zq_Q) (ls : zq_L) (st : List Value) (h : zq_H) : Prop := (zi_aload 0 (zi_iload 2 (zi_callV 1 0 s_X11_isCell (zi_if1 (fun x => x = 0) (xX11_worth_28 s_X11_isGuest s_X11_isCell s_X10_of Q) (xX11_worth_16 s_X11_isGuest s_X11_isCell s_X10_of Q))))) ls st h
theorem kX11_worth_8 {X : zq_X} {d : Nat} (C : zq_C X cX11_worth 3 RX11 d) {d_X11_isGuest : Nat} {s_X11_isGuest : zq_Sp} (h_X11_isGuest : zq_M yX11_isGuest cX11_isGuest 2 (some .boolean) 1 d_X11_isGuest s_X11_isGuest) (g_X11_isGuest : d_X11_isGuest + 1 ≤ d) {d_X11_isCell : Nat} {s_X11_isCell : zq_Sp} (h_X11_isCell : zq_M yX11_isCell cX11_isCell 2 (some .boolean) 1 d_X11_isCell s_X11_isCell) (g_X11_isCell : d_X11_isCell + 1 ≤ d) {d_X10_of : Nat} {s_X10_of : zq_Sp} (h_X10_of : zq_M yX10_of cX10_of 3 (some .int) 1 d_X10_of s_X10_of) (g_X10_of : d_X10_of + 1 ≤ d) {Q : zq_Q} (hq : zq_R X (some .int) 1 Q) : zq_ok X 3 8 (xX11_worth_8 s_X11_isGuest s_X11_isCell s_X10_of Q) := by
  refine zs_aload_n C dX11_worth_8 rfl ?_
  refine zs_iload_n C dX11_worth_9 rfl ?_
  refine zs_callV C h_X11_isCell g_X11_isCell zy_X11_isCell zp_0 (show vwCl[11]? = some (RX11, TX11, 16) from rfl) zw_550 zw_552 zs9_X11_isCell dX11_worth_10 ?_
  exact zs_if_eq C dX11_worth_13 (by decide) (kX11_worth_28 C h_X11_isGuest g_X11_isGuest h_X11_isCell g_X11_isCell h_X10_of g_X10_of hq) (kX11_worth_16 C h_X11_isGuest g_X11_isGuest h_X11_isCell g_X11_isCell h_X10_of g_X10_of hq)
def xX11_worth_0 (s_X11_isGuest : zq_Sp) (s_X11_isCell : zq_Sp) (s_X10_of : zq_Sp) (Q : zq_Q) (ls : zq_L) (st : List Value) (h : zq_H) : Prop := (zi_aload 0 (zi_iload 1 (zi_callV 1 0 s_X11_isGuest (zi_if1 (fun x => x = 0) (xX11_worth_28 s_X11_isGuest s_X11_isCell s_X10_of Q) (xX11_worth_8 s_X11_isGuest s_X11_isCell s_X10_of Q))))) ls st h
theorem kX11_worth_0 {X : zq_X} {d : Nat} (C : zq_C X cX11_worth 3 RX11 d) {d_X11_isGuest : Nat} {s_X11_isGuest : zq_Sp} (h_X11_isGuest : zq_M yX11_isGuest cX11_isGuest 2 (some .boolean) 1 d_X11_isGuest s_X11_isGuest) (g_X11_isGuest : d_X11_isGuest + 1 ≤ d) {d_X11_isCell : Nat} {s_X11_isCell : zq_Sp} (h_X11_isCell : zq_M yX11_isCell cX11_isCell 2 (some .boolean) 1 d_X11_isCell s_X11_isCell) (g_X11_isCell : d_X11_isCell + 1 ≤ d) {d_X10_of : Nat} {s_X10_of : zq_Sp} (h_X10_of : zq_M yX10_of cX10_of 3 (some .int) 1 d_X10_of s_X10_of) (g_X10_of : d_X10_of + 1 ≤ d) {Q : zq_Q} (hq : zq_R X (some .int) 1 Q) : zq_ok X 3 0 (xX11_worth_0 s_X11_isGuest s_X11_isCell s_X10_of Q) := by
  refine zs_aload_n C dX11_worth_0 rfl ?_
  refine zs_iload_n C dX11_worth_1 rfl ?_
  refine zs_callV C h_X11_isGuest g_X11_isGuest zy_X11_isGuest zp_0 (show vwCl[11]? = some (RX11, TX11, 16) from rfl) zw_546 zw_548 zs9_X11_isGuest dX11_worth_2 ?_
  exact zs_if_eq C dX11_worth_5 (by decide) (kX11_worth_28 C h_X11_isGuest g_X11_isGuest h_X11_isCell g_X11_isCell h_X10_of g_X10_of hq) (kX11_worth_8 C h_X11_isGuest g_X11_isGuest h_X11_isCell g_X11_isCell h_X10_of g_X10_of hq)
theorem mX11_worth {d : Nat} {spec : zq_Sp} {d_X11_isGuest : Nat} {s_X11_isGuest : zq_Sp} (h_X11_isGuest : zq_M yX11_isGuest cX11_isGuest 2 (some .boolean) 1 d_X11_isGuest s_X11_isGuest) (g_X11_isGuest : d_X11_isGuest + 1 ≤ d) {d_X11_isCell : Nat} {s_X11_isCell : zq_Sp} (h_X11_isCell : zq_M yX11_isCell cX11_isCell 2 (some .boolean) 1 d_X11_isCell s_X11_isCell) (g_X11_isCell : d_X11_isCell + 1 ≤ d) {d_X10_of : Nat} {s_X10_of : zq_Sp} (h_X10_of : zq_M yX10_of cX10_of 3 (some .int) 1 d_X10_of s_X10_of) (g_X10_of : d_X10_of + 1 ≤ d) (v : ∀ args h Q, spec args h Q → (zq_a args).length ≤ 3 ∧ xX11_worth_0 s_X11_isGuest s_X11_isCell s_X10_of Q (zq_l0 3 args) [] h) : zq_M yX11_worth cX11_worth 3 (some .int) 1 d spec := by
  refine zq_met (by decide +kernel) (by decide) (fun X Q args h C hq hs => ⟨(v args h Q hs).1, _, ?_, (v args h Q hs).2⟩)
  exact kX11_worth_0 C h_X11_isGuest g_X11_isGuest h_X11_isCell g_X11_isCell h_X10_of g_X10_of hq
/-! ToOneCrumb.taste(III)I -/
theorem dX11_taste_0 : decode cX11_taste 0 = .ok (.aload_n 0, 1) := by decide +kernel
theorem dX11_taste_1 : decode cX11_taste 1 = .ok (.iload_n 1, 1) := by decide +kernel
theorem dX11_taste_2 : decode cX11_taste 2 = .ok (.invokevirtual 171, 3) := by decide +kernel
theorem dX11_taste_5 : decode cX11_taste 5 = .ok (.ifCond .eq 22, 3) := by decide +kernel
theorem dX11_taste_8 : decode cX11_taste 8 = .ok (.iload_n 2, 1) := by decide +kernel
theorem dX11_taste_9 : decode cX11_taste 9 = .ok (.ifCond .lt 18, 3) := by decide +kernel
theorem dX11_taste_12 : decode cX11_taste 12 = .ok (.iload_n 2, 1) := by decide +kernel
theorem dX11_taste_13 : decode cX11_taste 13 = .ok (.iconst 3, 1) := by decide +kernel
theorem dX11_taste_14 : decode cX11_taste 14 = .ok (.if_icmp .ge 13, 3) := by decide +kernel
theorem dX11_taste_17 : decode cX11_taste 17 = .ok (.iload_n 3, 1) := by decide +kernel
theorem dX11_taste_18 : decode cX11_taste 18 = .ok (.ifCond .lt 9, 3) := by decide +kernel
theorem dX11_taste_21 : decode cX11_taste 21 = .ok (.iload_n 3, 1) := by decide +kernel
theorem dX11_taste_22 : decode cX11_taste 22 = .ok (.bipush 9, 2) := by decide +kernel
theorem dX11_taste_24 : decode cX11_taste 24 = .ok (.if_icmp .le 5, 3) := by decide +kernel
theorem dX11_taste_27 : decode cX11_taste 27 = .ok (.iconst (-1), 1) := by decide +kernel
theorem dX11_taste_28 : decode cX11_taste 28 = .ok (.ireturn, 1) := by decide +kernel
theorem dX11_taste_29 : decode cX11_taste 29 = .ok (.aload_n 0, 1) := by decide +kernel
theorem dX11_taste_30 : decode cX11_taste 30 = .ok (.getfield 26, 3) := by decide +kernel
theorem dX11_taste_33 : decode cX11_taste 33 = .ok (.iload_n 1, 1) := by decide +kernel
theorem dX11_taste_34 : decode cX11_taste 34 = .ok (.iload_n 2, 1) := by decide +kernel
theorem dX11_taste_35 : decode cX11_taste 35 = .ok (.invokevirtual 192, 3) := by decide +kernel
theorem dX11_taste_38 : decode cX11_taste 38 = .ok (.istore 4, 2) := by decide +kernel
theorem dX11_taste_40 : decode cX11_taste 40 = .ok (.aload_n 0, 1) := by decide +kernel
theorem dX11_taste_41 : decode cX11_taste 41 = .ok (.getfield 26, 3) := by decide +kernel
theorem dX11_taste_44 : decode cX11_taste 44 = .ok (.getfield 198, 3) := by decide +kernel
theorem dX11_taste_47 : decode cX11_taste 47 = .ok (.iload_n 1, 1) := by decide +kernel
theorem dX11_taste_48 : decode cX11_taste 48 = .ok (.iconst 3, 1) := by decide +kernel
theorem dX11_taste_49 : decode cX11_taste 49 = .ok (.imul, 1) := by decide +kernel
theorem dX11_taste_50 : decode cX11_taste 50 = .ok (.iload_n 2, 1) := by decide +kernel
theorem dX11_taste_51 : decode cX11_taste 51 = .ok (.iadd, 1) := by decide +kernel
theorem dX11_taste_52 : decode cX11_taste 52 = .ok (.iload_n 3, 1) := by decide +kernel
theorem dX11_taste_53 : decode cX11_taste 53 = .ok (.iastore, 1) := by decide +kernel
theorem dX11_taste_54 : decode cX11_taste 54 = .ok (.aload_n 0, 1) := by decide +kernel
theorem dX11_taste_55 : decode cX11_taste 55 = .ok (.invokevirtual 125, 3) := by decide +kernel
theorem dX11_taste_58 : decode cX11_taste 58 = .ok (.iload 4, 2) := by decide +kernel
theorem dX11_taste_60 : decode cX11_taste 60 = .ok (.ireturn, 1) := by decide +kernel
def xX11_taste_29 (s_X11_isGuest : zq_Sp) (s_X3_tasteOf : zq_Sp) (s_X11_renewWorths : zq_Sp) (Q : zq_Q) (ls : zq_L) (st : List Value) (h : zq_H) : Prop := (zi_aload 0 (zi_getR 0 5 (zi_iload 1 (zi_iload 2 (zi_callV 2 5 s_X3_tasteOf (zi_istore 4 (zi_aload 0 (zi_getR 0 5 (zi_getR 5 6 (zi_iload 1 (zi_push (.int 3) (zi_i2 (fun x y => x * y) (zi_iload 2 (zi_i2 (fun x y => x + y) (zi_iload 3 (zi_astI 6 18 (zi_aload 0 (zi_callV 0 0 s_X11_renewWorths (zi_iload 4 (zi_iret Q)))))))))))))))))))) ls st h
theorem kX11_taste_29 {X : zq_X} {d : Nat} (C : zq_C X cX11_taste 5 RX11 d) {d_X11_isGuest : Nat} {s_X11_isGuest : zq_Sp} (h_X11_isGuest : zq_M yX11_isGuest cX11_isGuest 2 (some .boolean) 1 d_X11_isGuest s_X11_isGuest) (g_X11_isGuest : d_X11_isGuest + 1 ≤ d) {d_X3_tasteOf : Nat} {s_X3_tasteOf : zq_Sp} (h_X3_tasteOf : zq_M yX3_tasteOf cX3_tasteOf 3 (some .int) 1 d_X3_tasteOf s_X3_tasteOf) (g_X3_tasteOf : d_X3_tasteOf + 1 ≤ d) {d_X11_renewWorths : Nat} {s_X11_renewWorths : zq_Sp} (h_X11_renewWorths : zq_M yX11_renewWorths cX11_renewWorths 1 none 0 d_X11_renewWorths s_X11_renewWorths) (g_X11_renewWorths : d_X11_renewWorths + 1 ≤ d) {Q : zq_Q} (hq : zq_R X (some .int) 1 Q) : zq_ok X 5 29 (xX11_taste_29 s_X11_isGuest s_X3_tasteOf s_X11_renewWorths Q) := by
  refine zs_aload_n C dX11_taste_29 rfl ?_
  refine zs_getR C zp_0 zF11 (j := 2) ⟨by decide, rfl⟩ zw_317 dX11_taste_30 ?_
  refine zs_iload_n C dX11_taste_33 rfl ?_
  refine zs_iload_n C dX11_taste_34 rfl ?_
  refine zs_callV C h_X3_tasteOf g_X3_tasteOf zy_X3_tasteOf zp_5 (show vwCl[3]? = some (RX3, TX3, 4) from rfl) zw_562 zw_563 zs9_X3_tasteOf dX11_taste_35 ?_
  refine zs_istore C dX11_taste_38 (by decide) ?_
  refine zs_aload_n C dX11_taste_40 rfl ?_
  refine zs_getR C zp_0 zF11 (j := 2) ⟨by decide, rfl⟩ zw_317 dX11_taste_41 ?_
  refine zs_getRN C zp_5 zF3 (j := 0) ⟨by decide, rfl⟩ zw_79 dX11_taste_44 ?_
  refine zs_iload_n C dX11_taste_47 rfl ?_
  refine zs_iconst C dX11_taste_48 (by decide) ?_
  refine zs_imul C dX11_taste_49 ?_
  refine zs_iload_n C dX11_taste_50 rfl ?_
  refine zs_iadd C dX11_taste_51 ?_
  refine zs_iload_n C dX11_taste_52 rfl ?_
  refine zs_iastore C zp_6 dX11_taste_53 ?_
  refine zs_aload_n C dX11_taste_54 rfl ?_
  refine zs_callV C h_X11_renewWorths g_X11_renewWorths zy_X11_renewWorths zp_0 (show vwCl[11]? = some (RX11, TX11, 16) from rfl) zw_427 zw_429 zs9_X11_renewWorths dX11_taste_55 ?_
  refine zs_iload C dX11_taste_58 ?_
  exact zs_iret C hq dX11_taste_60
def xX11_taste_27 (s_X11_isGuest : zq_Sp) (s_X3_tasteOf : zq_Sp) (s_X11_renewWorths : zq_Sp) (Q : zq_Q) (ls : zq_L) (st : List Value) (h : zq_H) : Prop := (zi_push (.int (-1)) (zi_iret Q)) ls st h
theorem kX11_taste_27 {X : zq_X} {d : Nat} (C : zq_C X cX11_taste 5 RX11 d) {d_X11_isGuest : Nat} {s_X11_isGuest : zq_Sp} (h_X11_isGuest : zq_M yX11_isGuest cX11_isGuest 2 (some .boolean) 1 d_X11_isGuest s_X11_isGuest) (g_X11_isGuest : d_X11_isGuest + 1 ≤ d) {d_X3_tasteOf : Nat} {s_X3_tasteOf : zq_Sp} (h_X3_tasteOf : zq_M yX3_tasteOf cX3_tasteOf 3 (some .int) 1 d_X3_tasteOf s_X3_tasteOf) (g_X3_tasteOf : d_X3_tasteOf + 1 ≤ d) {d_X11_renewWorths : Nat} {s_X11_renewWorths : zq_Sp} (h_X11_renewWorths : zq_M yX11_renewWorths cX11_renewWorths 1 none 0 d_X11_renewWorths s_X11_renewWorths) (g_X11_renewWorths : d_X11_renewWorths + 1 ≤ d) {Q : zq_Q} (hq : zq_R X (some .int) 1 Q) : zq_ok X 5 27 (xX11_taste_27 s_X11_isGuest s_X3_tasteOf s_X11_renewWorths Q) := by
  refine zs_iconst C dX11_taste_27 (by decide) ?_
  exact zs_iret C hq dX11_taste_28
def xX11_taste_21 (s_X11_isGuest : zq_Sp) (s_X3_tasteOf : zq_Sp) (s_X11_renewWorths : zq_Sp) (Q : zq_Q) (ls : zq_L) (st : List Value) (h : zq_H) : Prop := (zi_iload 3 (zi_push (.int 9) (zi_if2 (fun x y => x ≤ y) (xX11_taste_29 s_X11_isGuest s_X3_tasteOf s_X11_renewWorths Q) (xX11_taste_27 s_X11_isGuest s_X3_tasteOf s_X11_renewWorths Q)))) ls st h
theorem kX11_taste_21 {X : zq_X} {d : Nat} (C : zq_C X cX11_taste 5 RX11 d) {d_X11_isGuest : Nat} {s_X11_isGuest : zq_Sp} (h_X11_isGuest : zq_M yX11_isGuest cX11_isGuest 2 (some .boolean) 1 d_X11_isGuest s_X11_isGuest) (g_X11_isGuest : d_X11_isGuest + 1 ≤ d) {d_X3_tasteOf : Nat} {s_X3_tasteOf : zq_Sp} (h_X3_tasteOf : zq_M yX3_tasteOf cX3_tasteOf 3 (some .int) 1 d_X3_tasteOf s_X3_tasteOf) (g_X3_tasteOf : d_X3_tasteOf + 1 ≤ d) {d_X11_renewWorths : Nat} {s_X11_renewWorths : zq_Sp} (h_X11_renewWorths : zq_M yX11_renewWorths cX11_renewWorths 1 none 0 d_X11_renewWorths s_X11_renewWorths) (g_X11_renewWorths : d_X11_renewWorths + 1 ≤ d) {Q : zq_Q} (hq : zq_R X (some .int) 1 Q) : zq_ok X 5 21 (xX11_taste_21 s_X11_isGuest s_X3_tasteOf s_X11_renewWorths Q) := by
  refine zs_iload_n C dX11_taste_21 rfl ?_
  refine zs_bipush C dX11_taste_22 (by decide) ?_
  exact zs_icmp_le C dX11_taste_24 (by decide) (kX11_taste_29 C h_X11_isGuest g_X11_isGuest h_X3_tasteOf g_X3_tasteOf h_X11_renewWorths g_X11_renewWorths hq) (kX11_taste_27 C h_X11_isGuest g_X11_isGuest h_X3_tasteOf g_X3_tasteOf h_X11_renewWorths g_X11_renewWorths hq)
def xX11_taste_17 (s_X11_isGuest : zq_Sp) (s_X3_tasteOf : zq_Sp) (s_X11_renewWorths : zq_Sp) (Q : zq_Q) (ls : zq_L) (st : List Value) (h : zq_H) : Prop := (zi_iload 3 (zi_if1 (fun x => x < 0) (xX11_taste_27 s_X11_isGuest s_X3_tasteOf s_X11_renewWorths Q) (xX11_taste_21 s_X11_isGuest s_X3_tasteOf s_X11_renewWorths Q))) ls st h
theorem kX11_taste_17 {X : zq_X} {d : Nat} (C : zq_C X cX11_taste 5 RX11 d) {d_X11_isGuest : Nat} {s_X11_isGuest : zq_Sp} (h_X11_isGuest : zq_M yX11_isGuest cX11_isGuest 2 (some .boolean) 1 d_X11_isGuest s_X11_isGuest) (g_X11_isGuest : d_X11_isGuest + 1 ≤ d) {d_X3_tasteOf : Nat} {s_X3_tasteOf : zq_Sp} (h_X3_tasteOf : zq_M yX3_tasteOf cX3_tasteOf 3 (some .int) 1 d_X3_tasteOf s_X3_tasteOf) (g_X3_tasteOf : d_X3_tasteOf + 1 ≤ d) {d_X11_renewWorths : Nat} {s_X11_renewWorths : zq_Sp} (h_X11_renewWorths : zq_M yX11_renewWorths cX11_renewWorths 1 none 0 d_X11_renewWorths s_X11_renewWorths) (g_X11_renewWorths : d_X11_renewWorths + 1 ≤ d) {Q : zq_Q} (hq : zq_R X (some .int) 1 Q) : zq_ok X 5 17 (xX11_taste_17 s_X11_isGuest s_X3_tasteOf s_X11_renewWorths Q) := by
  refine zs_iload_n C dX11_taste_17 rfl ?_
  exact zs_if_lt C dX11_taste_18 (by decide) (kX11_taste_27 C h_X11_isGuest g_X11_isGuest h_X3_tasteOf g_X3_tasteOf h_X11_renewWorths g_X11_renewWorths hq) (kX11_taste_21 C h_X11_isGuest g_X11_isGuest h_X3_tasteOf g_X3_tasteOf h_X11_renewWorths g_X11_renewWorths hq)
def xX11_taste_12 (s_X11_isGuest : zq_Sp) (s_X3_tasteOf : zq_Sp) (s_X11_renewWorths : zq_Sp) (Q : zq_Q) (ls : zq_L) (st : List Value) (h : zq_H) : Prop := (zi_iload 2 (zi_push (.int 3) (zi_if2 (fun x y => y ≤ x) (xX11_taste_27 s_X11_isGuest s_X3_tasteOf s_X11_renewWorths Q) (xX11_taste_17 s_X11_isGuest s_X3_tasteOf s_X11_renewWorths Q)))) ls st h
theorem kX11_taste_12 {X : zq_X} {d : Nat} (C : zq_C X cX11_taste 5 RX11 d) {d_X11_isGuest : Nat} {s_X11_isGuest : zq_Sp} (h_X11_isGuest : zq_M yX11_isGuest cX11_isGuest 2 (some .boolean) 1 d_X11_isGuest s_X11_isGuest) (g_X11_isGuest : d_X11_isGuest + 1 ≤ d) {d_X3_tasteOf : Nat} {s_X3_tasteOf : zq_Sp} (h_X3_tasteOf : zq_M yX3_tasteOf cX3_tasteOf 3 (some .int) 1 d_X3_tasteOf s_X3_tasteOf) (g_X3_tasteOf : d_X3_tasteOf + 1 ≤ d) {d_X11_renewWorths : Nat} {s_X11_renewWorths : zq_Sp} (h_X11_renewWorths : zq_M yX11_renewWorths cX11_renewWorths 1 none 0 d_X11_renewWorths s_X11_renewWorths) (g_X11_renewWorths : d_X11_renewWorths + 1 ≤ d) {Q : zq_Q} (hq : zq_R X (some .int) 1 Q) : zq_ok X 5 12 (xX11_taste_12 s_X11_isGuest s_X3_tasteOf s_X11_renewWorths Q) := by
  refine zs_iload_n C dX11_taste_12 rfl ?_
  refine zs_iconst C dX11_taste_13 (by decide) ?_
  exact zs_icmp_ge C dX11_taste_14 (by decide) (kX11_taste_27 C h_X11_isGuest g_X11_isGuest h_X3_tasteOf g_X3_tasteOf h_X11_renewWorths g_X11_renewWorths hq) (kX11_taste_17 C h_X11_isGuest g_X11_isGuest h_X3_tasteOf g_X3_tasteOf h_X11_renewWorths g_X11_renewWorths hq)
def xX11_taste_8 (s_X11_isGuest : zq_Sp) (s_X3_tasteOf : zq_Sp) (s_X11_renewWorths : zq_Sp) (Q : zq_Q) (ls : zq_L) (st : List Value) (h : zq_H) : Prop := (zi_iload 2 (zi_if1 (fun x => x < 0) (xX11_taste_27 s_X11_isGuest s_X3_tasteOf s_X11_renewWorths Q) (xX11_taste_12 s_X11_isGuest s_X3_tasteOf s_X11_renewWorths Q))) ls st h
theorem kX11_taste_8 {X : zq_X} {d : Nat} (C : zq_C X cX11_taste 5 RX11 d) {d_X11_isGuest : Nat} {s_X11_isGuest : zq_Sp} (h_X11_isGuest : zq_M yX11_isGuest cX11_isGuest 2 (some .boolean) 1 d_X11_isGuest s_X11_isGuest) (g_X11_isGuest : d_X11_isGuest + 1 ≤ d) {d_X3_tasteOf : Nat} {s_X3_tasteOf : zq_Sp} (h_X3_tasteOf : zq_M yX3_tasteOf cX3_tasteOf 3 (some .int) 1 d_X3_tasteOf s_X3_tasteOf) (g_X3_tasteOf : d_X3_tasteOf + 1 ≤ d) {d_X11_renewWorths : Nat} {s_X11_renewWorths : zq_Sp} (h_X11_renewWorths : zq_M yX11_renewWorths cX11_renewWorths 1 none 0 d_X11_renewWorths s_X11_renewWorths) (g_X11_renewWorths : d_X11_renewWorths + 1 ≤ d) {Q : zq_Q} (hq : zq_R X (some .int) 1 Q) : zq_ok X 5 8 (xX11_taste_8 s_X11_isGuest s_X3_tasteOf s_X11_renewWorths Q) := by
  refine zs_iload_n C dX11_taste_8 rfl ?_
  exact zs_if_lt C dX11_taste_9 (by decide) (kX11_taste_27 C h_X11_isGuest g_X11_isGuest h_X3_tasteOf g_X3_tasteOf h_X11_renewWorths g_X11_renewWorths hq) (kX11_taste_12 C h_X11_isGuest g_X11_isGuest h_X3_tasteOf g_X3_tasteOf h_X11_renewWorths g_X11_renewWorths hq)
def xX11_taste_0 (s_X11_isGuest : zq_Sp) (s_X3_tasteOf : zq_Sp) (s_X11_renewWorths : zq_Sp) (Q : zq_Q) (ls : zq_L) (st : List Value) (h : zq_H) : Prop := (zi_aload 0 (zi_iload 1 (zi_callV 1 0 s_X11_isGuest (zi_if1 (fun x => x = 0) (xX11_taste_27 s_X11_isGuest s_X3_tasteOf s_X11_renewWorths Q) (xX11_taste_8 s_X11_isGuest s_X3_tasteOf s_X11_renewWorths Q))))) ls st h
theorem kX11_taste_0 {X : zq_X} {d : Nat} (C : zq_C X cX11_taste 5 RX11 d) {d_X11_isGuest : Nat} {s_X11_isGuest : zq_Sp} (h_X11_isGuest : zq_M yX11_isGuest cX11_isGuest 2 (some .boolean) 1 d_X11_isGuest s_X11_isGuest) (g_X11_isGuest : d_X11_isGuest + 1 ≤ d) {d_X3_tasteOf : Nat} {s_X3_tasteOf : zq_Sp} (h_X3_tasteOf : zq_M yX3_tasteOf cX3_tasteOf 3 (some .int) 1 d_X3_tasteOf s_X3_tasteOf) (g_X3_tasteOf : d_X3_tasteOf + 1 ≤ d) {d_X11_renewWorths : Nat} {s_X11_renewWorths : zq_Sp} (h_X11_renewWorths : zq_M yX11_renewWorths cX11_renewWorths 1 none 0 d_X11_renewWorths s_X11_renewWorths) (g_X11_renewWorths : d_X11_renewWorths + 1 ≤ d) {Q : zq_Q} (hq : zq_R X (some .int) 1 Q) : zq_ok X 5 0 (xX11_taste_0 s_X11_isGuest s_X3_tasteOf s_X11_renewWorths Q) := by
  refine zs_aload_n C dX11_taste_0 rfl ?_
  refine zs_iload_n C dX11_taste_1 rfl ?_
  refine zs_callV C h_X11_isGuest g_X11_isGuest zy_X11_isGuest zp_0 (show vwCl[11]? = some (RX11, TX11, 16) from rfl) zw_546 zw_548 zs9_X11_isGuest dX11_taste_2 ?_
  exact zs_if_eq C dX11_taste_5 (by decide) (kX11_taste_27 C h_X11_isGuest g_X11_isGuest h_X3_tasteOf g_X3_tasteOf h_X11_renewWorths g_X11_renewWorths hq) (kX11_taste_8 C h_X11_isGuest g_X11_isGuest h_X3_tasteOf g_X3_tasteOf h_X11_renewWorths g_X11_renewWorths hq)
theorem mX11_taste {d : Nat} {spec : zq_Sp} {d_X11_isGuest : Nat} {s_X11_isGuest : zq_Sp} (h_X11_isGuest : zq_M yX11_isGuest cX11_isGuest 2 (some .boolean) 1 d_X11_isGuest s_X11_isGuest) (g_X11_isGuest : d_X11_isGuest + 1 ≤ d) {d_X3_tasteOf : Nat} {s_X3_tasteOf : zq_Sp} (h_X3_tasteOf : zq_M yX3_tasteOf cX3_tasteOf 3 (some .int) 1 d_X3_tasteOf s_X3_tasteOf) (g_X3_tasteOf : d_X3_tasteOf + 1 ≤ d) {d_X11_renewWorths : Nat} {s_X11_renewWorths : zq_Sp} (h_X11_renewWorths : zq_M yX11_renewWorths cX11_renewWorths 1 none 0 d_X11_renewWorths s_X11_renewWorths) (g_X11_renewWorths : d_X11_renewWorths + 1 ≤ d) (v : ∀ args h Q, spec args h Q → (zq_a args).length ≤ 5 ∧ xX11_taste_0 s_X11_isGuest s_X3_tasteOf s_X11_renewWorths Q (zq_l0 5 args) [] h) : zq_M yX11_taste cX11_taste 5 (some .int) 1 d spec := by
  refine zq_met (by decide +kernel) (by decide) (fun X Q args h C hq hs => ⟨(v args h Q hs).1, _, ?_, (v args h Q hs).2⟩)
  exact kX11_taste_0 C h_X11_isGuest g_X11_isGuest h_X3_tasteOf g_X3_tasteOf h_X11_renewWorths g_X11_renewWorths hq
/-! ToOneCrumb.sheet(IIII)I -/
theorem dX11_sheet_0 : decode cX11_sheet 0 = .ok (.iload_n 1, 1) := by decide +kernel
theorem dX11_sheet_1 : decode cX11_sheet 1 = .ok (.ifCond .lt 14, 3) := by decide +kernel
theorem dX11_sheet_4 : decode cX11_sheet 4 = .ok (.iload_n 1, 1) := by decide +kernel
theorem dX11_sheet_5 : decode cX11_sheet 5 = .ok (.iconst 3, 1) := by decide +kernel
theorem dX11_sheet_6 : decode cX11_sheet 6 = .ok (.if_icmp .gt 9, 3) := by decide +kernel
theorem dX11_sheet_9 : decode cX11_sheet 9 = .ok (.iload_n 2, 1) := by decide +kernel
theorem dX11_sheet_10 : decode cX11_sheet 10 = .ok (.bipush 16, 2) := by decide +kernel
theorem dX11_sheet_12 : decode cX11_sheet 12 = .ok (.if_icmp .le 5, 3) := by decide +kernel
theorem dX11_sheet_15 : decode cX11_sheet 15 = .ok (.iconst (-1), 1) := by decide +kernel
theorem dX11_sheet_16 : decode cX11_sheet 16 = .ok (.ireturn, 1) := by decide +kernel
theorem dX11_sheet_17 : decode cX11_sheet 17 = .ok (.iload_n 1, 1) := by decide +kernel
theorem dX11_sheet_18 : decode cX11_sheet 18 = .ok (.iconst 3, 1) := by decide +kernel
theorem dX11_sheet_19 : decode cX11_sheet 19 = .ok (.if_icmp .eq 10, 3) := by decide +kernel
theorem dX11_sheet_22 : decode cX11_sheet 22 = .ok (.iload_n 2, 1) := by decide +kernel
theorem dX11_sheet_23 : decode cX11_sheet 23 = .ok (.ifCond .ge 6, 3) := by decide +kernel
theorem dX11_sheet_26 : decode cX11_sheet 26 = .ok (.bipush (-2), 2) := by decide +kernel
theorem dX11_sheet_28 : decode cX11_sheet 28 = .ok (.ireturn, 1) := by decide +kernel
theorem dX11_sheet_29 : decode cX11_sheet 29 = .ok (.iload_n 1, 1) := by decide +kernel
theorem dX11_sheet_30 : decode cX11_sheet 30 = .ok (.iconst 3, 1) := by decide +kernel
theorem dX11_sheet_31 : decode cX11_sheet 31 = .ok (.if_icmp .ne 7, 3) := by decide +kernel
theorem dX11_sheet_34 : decode cX11_sheet 34 = .ok (.iconst 0, 1) := by decide +kernel
theorem dX11_sheet_35 : decode cX11_sheet 35 = .ok (.goto 4, 3) := by decide +kernel
theorem dX11_sheet_38 : decode cX11_sheet 38 = .ok (.iload_n 2, 1) := by decide +kernel
theorem dX11_sheet_39 : decode cX11_sheet 39 = .ok (.istore 5, 2) := by decide +kernel
theorem dX11_sheet_41 : decode cX11_sheet 41 = .ok (.iconst 0, 1) := by decide +kernel
theorem dX11_sheet_42 : decode cX11_sheet 42 = .ok (.istore 6, 2) := by decide +kernel
theorem dX11_sheet_44 : decode cX11_sheet 44 = .ok (.iconst 0, 1) := by decide +kernel
theorem dX11_sheet_45 : decode cX11_sheet 45 = .ok (.istore 7, 2) := by decide +kernel
theorem dX11_sheet_47 : decode cX11_sheet 47 = .ok (.iload 7, 2) := by decide +kernel
theorem dX11_sheet_49 : decode cX11_sheet 49 = .ok (.aload_n 0, 1) := by decide +kernel
theorem dX11_sheet_50 : decode cX11_sheet 50 = .ok (.getfield 82, 3) := by decide +kernel
theorem dX11_sheet_53 : decode cX11_sheet 53 = .ok (.getfield 128, 3) := by decide +kernel
theorem dX11_sheet_56 : decode cX11_sheet 56 = .ok (.if_icmp .ge 52, 3) := by decide +kernel
theorem dX11_sheet_59 : decode cX11_sheet 59 = .ok (.iload 7, 2) := by decide +kernel
theorem dX11_sheet_61 : decode cX11_sheet 61 = .ok (.iload 5, 2) := by decide +kernel
theorem dX11_sheet_63 : decode cX11_sheet 63 = .ok (.if_icmp .ge 17, 3) := by decide +kernel
theorem dX11_sheet_66 : decode cX11_sheet 66 = .ok (.iload_n 1, 1) := by decide +kernel
theorem dX11_sheet_67 : decode cX11_sheet 67 = .ok (.iload_n 3, 1) := by decide +kernel
theorem dX11_sheet_68 : decode cX11_sheet 68 = .ok (.iload 4, 2) := by decide +kernel
theorem dX11_sheet_70 : decode cX11_sheet 70 = .ok (.iload 7, 2) := by decide +kernel
theorem dX11_sheet_72 : decode cX11_sheet 72 = .ok (.imul, 1) := by decide +kernel
theorem dX11_sheet_73 : decode cX11_sheet 73 = .ok (.iadd, 1) := by decide +kernel
theorem dX11_sheet_74 : decode cX11_sheet 74 = .ok (.invokestatic 201, 3) := by decide +kernel
theorem dX11_sheet_77 : decode cX11_sheet 77 = .ok (.goto 4, 3) := by decide +kernel
theorem dX11_sheet_80 : decode cX11_sheet 80 = .ok (.iconst 0, 1) := by decide +kernel
theorem dX11_sheet_81 : decode cX11_sheet 81 = .ok (.istore 8, 2) := by decide +kernel
theorem dX11_sheet_83 : decode cX11_sheet 83 = .ok (.aload_n 0, 1) := by decide +kernel
theorem dX11_sheet_84 : decode cX11_sheet 84 = .ok (.getfield 82, 3) := by decide +kernel
theorem dX11_sheet_87 : decode cX11_sheet 87 = .ok (.getfield 162, 3) := by decide +kernel
theorem dX11_sheet_90 : decode cX11_sheet 90 = .ok (.iload 7, 2) := by decide +kernel
theorem dX11_sheet_92 : decode cX11_sheet 92 = .ok (.iload 8, 2) := by decide +kernel
theorem dX11_sheet_94 : decode cX11_sheet 94 = .ok (.iastore, 1) := by decide +kernel
theorem dX11_sheet_95 : decode cX11_sheet 95 = .ok (.iload 6, 2) := by decide +kernel
theorem dX11_sheet_97 : decode cX11_sheet 97 = .ok (.iload 8, 2) := by decide +kernel
theorem dX11_sheet_99 : decode cX11_sheet 99 = .ok (.iadd, 1) := by decide +kernel
theorem dX11_sheet_100 : decode cX11_sheet 100 = .ok (.istore 6, 2) := by decide +kernel
theorem dX11_sheet_102 : decode cX11_sheet 102 = .ok (.iinc 7 1, 3) := by decide +kernel
theorem dX11_sheet_105 : decode cX11_sheet 105 = .ok (.goto (-58), 3) := by decide +kernel
theorem dX11_sheet_108 : decode cX11_sheet 108 = .ok (.aload_n 0, 1) := by decide +kernel
theorem dX11_sheet_109 : decode cX11_sheet 109 = .ok (.invokevirtual 125, 3) := by decide +kernel
theorem dX11_sheet_112 : decode cX11_sheet 112 = .ok (.iload_n 1, 1) := by decide +kernel
theorem dX11_sheet_113 : decode cX11_sheet 113 = .ok (.iconst 3, 1) := by decide +kernel
theorem dX11_sheet_114 : decode cX11_sheet 114 = .ok (.if_icmp .ne 8, 3) := by decide +kernel
theorem dX11_sheet_117 : decode cX11_sheet 117 = .ok (.bipush (-3), 2) := by decide +kernel
theorem dX11_sheet_119 : decode cX11_sheet 119 = .ok (.goto 5, 3) := by decide +kernel
theorem dX11_sheet_122 : decode cX11_sheet 122 = .ok (.iload 6, 2) := by decide +kernel
theorem dX11_sheet_124 : decode cX11_sheet 124 = .ok (.ireturn, 1) := by decide +kernel
def xX11_sheet_124 (s_X11_sheetEntry : zq_Sp) (s_X11_renewWorths : zq_Sp) (J47 : zq_P) (Q : zq_Q) (ls : zq_L) (st : List Value) (h : zq_H) : Prop := (zi_iret Q) ls st h
theorem kX11_sheet_124 {X : zq_X} {d : Nat} (C : zq_C X cX11_sheet 9 RX11 d) {d_X11_sheetEntry : Nat} {s_X11_sheetEntry : zq_Sp} (h_X11_sheetEntry : zq_M yX11_sheetEntry cX11_sheetEntry 3 (some .int) 1 d_X11_sheetEntry s_X11_sheetEntry) (g_X11_sheetEntry : d_X11_sheetEntry + 1 ≤ d) {d_X11_renewWorths : Nat} {s_X11_renewWorths : zq_Sp} (h_X11_renewWorths : zq_M yX11_renewWorths cX11_renewWorths 1 none 0 d_X11_renewWorths s_X11_renewWorths) (g_X11_renewWorths : d_X11_renewWorths + 1 ≤ d) {J47 : zq_P} (j47 : zq_ok X 9 47 J47) {Q : zq_Q} (hq : zq_R X (some .int) 1 Q) : zq_ok X 9 124 (xX11_sheet_124 s_X11_sheetEntry s_X11_renewWorths J47 Q) := by
  exact zs_iret C hq dX11_sheet_124
def xX11_sheet_122 (s_X11_sheetEntry : zq_Sp) (s_X11_renewWorths : zq_Sp) (J47 : zq_P) (Q : zq_Q) (ls : zq_L) (st : List Value) (h : zq_H) : Prop := (zi_iload 6 ((xX11_sheet_124 s_X11_sheetEntry s_X11_renewWorths J47 Q))) ls st h
theorem kX11_sheet_122 {X : zq_X} {d : Nat} (C : zq_C X cX11_sheet 9 RX11 d) {d_X11_sheetEntry : Nat} {s_X11_sheetEntry : zq_Sp} (h_X11_sheetEntry : zq_M yX11_sheetEntry cX11_sheetEntry 3 (some .int) 1 d_X11_sheetEntry s_X11_sheetEntry) (g_X11_sheetEntry : d_X11_sheetEntry + 1 ≤ d) {d_X11_renewWorths : Nat} {s_X11_renewWorths : zq_Sp} (h_X11_renewWorths : zq_M yX11_renewWorths cX11_renewWorths 1 none 0 d_X11_renewWorths s_X11_renewWorths) (g_X11_renewWorths : d_X11_renewWorths + 1 ≤ d) {J47 : zq_P} (j47 : zq_ok X 9 47 J47) {Q : zq_Q} (hq : zq_R X (some .int) 1 Q) : zq_ok X 9 122 (xX11_sheet_122 s_X11_sheetEntry s_X11_renewWorths J47 Q) := by
  refine zs_iload C dX11_sheet_122 ?_
  exact kX11_sheet_124 C h_X11_sheetEntry g_X11_sheetEntry h_X11_renewWorths g_X11_renewWorths j47 hq
def xX11_sheet_117 (s_X11_sheetEntry : zq_Sp) (s_X11_renewWorths : zq_Sp) (J47 : zq_P) (Q : zq_Q) (ls : zq_L) (st : List Value) (h : zq_H) : Prop := (zi_push (.int (-3)) ((xX11_sheet_124 s_X11_sheetEntry s_X11_renewWorths J47 Q))) ls st h
theorem kX11_sheet_117 {X : zq_X} {d : Nat} (C : zq_C X cX11_sheet 9 RX11 d) {d_X11_sheetEntry : Nat} {s_X11_sheetEntry : zq_Sp} (h_X11_sheetEntry : zq_M yX11_sheetEntry cX11_sheetEntry 3 (some .int) 1 d_X11_sheetEntry s_X11_sheetEntry) (g_X11_sheetEntry : d_X11_sheetEntry + 1 ≤ d) {d_X11_renewWorths : Nat} {s_X11_renewWorths : zq_Sp} (h_X11_renewWorths : zq_M yX11_renewWorths cX11_renewWorths 1 none 0 d_X11_renewWorths s_X11_renewWorths) (g_X11_renewWorths : d_X11_renewWorths + 1 ≤ d) {J47 : zq_P} (j47 : zq_ok X 9 47 J47) {Q : zq_Q} (hq : zq_R X (some .int) 1 Q) : zq_ok X 9 117 (xX11_sheet_117 s_X11_sheetEntry s_X11_renewWorths J47 Q) := by
  refine zs_bipush C dX11_sheet_117 (by decide) ?_
  exact zs_goto C dX11_sheet_119 (by decide) (kX11_sheet_124 C h_X11_sheetEntry g_X11_sheetEntry h_X11_renewWorths g_X11_renewWorths j47 hq)
def xX11_sheet_108 (s_X11_sheetEntry : zq_Sp) (s_X11_renewWorths : zq_Sp) (J47 : zq_P) (Q : zq_Q) (ls : zq_L) (st : List Value) (h : zq_H) : Prop := (zi_aload 0 (zi_callV 0 0 s_X11_renewWorths (zi_iload 1 (zi_push (.int 3) (zi_if2 (fun x y => x = y) (xX11_sheet_117 s_X11_sheetEntry s_X11_renewWorths J47 Q) (xX11_sheet_122 s_X11_sheetEntry s_X11_renewWorths J47 Q)))))) ls st h
theorem kX11_sheet_108 {X : zq_X} {d : Nat} (C : zq_C X cX11_sheet 9 RX11 d) {d_X11_sheetEntry : Nat} {s_X11_sheetEntry : zq_Sp} (h_X11_sheetEntry : zq_M yX11_sheetEntry cX11_sheetEntry 3 (some .int) 1 d_X11_sheetEntry s_X11_sheetEntry) (g_X11_sheetEntry : d_X11_sheetEntry + 1 ≤ d) {d_X11_renewWorths : Nat} {s_X11_renewWorths : zq_Sp} (h_X11_renewWorths : zq_M yX11_renewWorths cX11_renewWorths 1 none 0 d_X11_renewWorths s_X11_renewWorths) (g_X11_renewWorths : d_X11_renewWorths + 1 ≤ d) {J47 : zq_P} (j47 : zq_ok X 9 47 J47) {Q : zq_Q} (hq : zq_R X (some .int) 1 Q) : zq_ok X 9 108 (xX11_sheet_108 s_X11_sheetEntry s_X11_renewWorths J47 Q) := by
  refine zs_aload_n C dX11_sheet_108 rfl ?_
  refine zs_callV C h_X11_renewWorths g_X11_renewWorths zy_X11_renewWorths zp_0 (show vwCl[11]? = some (RX11, TX11, 16) from rfl) zw_427 zw_429 zs9_X11_renewWorths dX11_sheet_109 ?_
  refine zs_iload_n C dX11_sheet_112 rfl ?_
  refine zs_iconst C dX11_sheet_113 (by decide) ?_
  exact zs_icmp_ne C dX11_sheet_114 (by decide) (kX11_sheet_122 C h_X11_sheetEntry g_X11_sheetEntry h_X11_renewWorths g_X11_renewWorths j47 hq) (kX11_sheet_117 C h_X11_sheetEntry g_X11_sheetEntry h_X11_renewWorths g_X11_renewWorths j47 hq)
def xX11_sheet_81 (s_X11_sheetEntry : zq_Sp) (s_X11_renewWorths : zq_Sp) (J47 : zq_P) (Q : zq_Q) (ls : zq_L) (st : List Value) (h : zq_H) : Prop := (zi_istore 8 (zi_aload 0 (zi_getR 0 40 (zi_getR 40 42 (zi_iload 7 (zi_iload 8 (zi_astI 42 16 (zi_iload 6 (zi_iload 8 (zi_i2 (fun x y => x + y) (zi_istore 6 (zi_iinc 7 1 (J47))))))))))))) ls st h
theorem kX11_sheet_81 {X : zq_X} {d : Nat} (C : zq_C X cX11_sheet 9 RX11 d) {d_X11_sheetEntry : Nat} {s_X11_sheetEntry : zq_Sp} (h_X11_sheetEntry : zq_M yX11_sheetEntry cX11_sheetEntry 3 (some .int) 1 d_X11_sheetEntry s_X11_sheetEntry) (g_X11_sheetEntry : d_X11_sheetEntry + 1 ≤ d) {d_X11_renewWorths : Nat} {s_X11_renewWorths : zq_Sp} (h_X11_renewWorths : zq_M yX11_renewWorths cX11_renewWorths 1 none 0 d_X11_renewWorths s_X11_renewWorths) (g_X11_renewWorths : d_X11_renewWorths + 1 ≤ d) {J47 : zq_P} (j47 : zq_ok X 9 47 J47) {Q : zq_Q} (hq : zq_R X (some .int) 1 Q) : zq_ok X 9 81 (xX11_sheet_81 s_X11_sheetEntry s_X11_renewWorths J47 Q) := by
  refine zs_istore C dX11_sheet_81 (by decide) ?_
  refine zs_aload_n C dX11_sheet_83 rfl ?_
  refine zs_getR C zp_0 zF11 (j := 11) ⟨by decide, rfl⟩ zw_326 dX11_sheet_84 ?_
  refine zs_getRN C zp_40 zF2 (j := 1) ⟨by decide, rfl⟩ zw_265 dX11_sheet_87 ?_
  refine zs_iload C dX11_sheet_90 ?_
  refine zs_iload C dX11_sheet_92 ?_
  refine zs_iastore C zp_42 dX11_sheet_94 ?_
  refine zs_iload C dX11_sheet_95 ?_
  refine zs_iload C dX11_sheet_97 ?_
  refine zs_iadd C dX11_sheet_99 ?_
  refine zs_istore C dX11_sheet_100 (by decide) ?_
  refine zs_iinc C dX11_sheet_102 (by decide) (by decide) ?_
  exact zs_goto C dX11_sheet_105 (by decide) (j47)
def xX11_sheet_80 (s_X11_sheetEntry : zq_Sp) (s_X11_renewWorths : zq_Sp) (J47 : zq_P) (Q : zq_Q) (ls : zq_L) (st : List Value) (h : zq_H) : Prop := (zi_push (.int 0) ((xX11_sheet_81 s_X11_sheetEntry s_X11_renewWorths J47 Q))) ls st h
theorem kX11_sheet_80 {X : zq_X} {d : Nat} (C : zq_C X cX11_sheet 9 RX11 d) {d_X11_sheetEntry : Nat} {s_X11_sheetEntry : zq_Sp} (h_X11_sheetEntry : zq_M yX11_sheetEntry cX11_sheetEntry 3 (some .int) 1 d_X11_sheetEntry s_X11_sheetEntry) (g_X11_sheetEntry : d_X11_sheetEntry + 1 ≤ d) {d_X11_renewWorths : Nat} {s_X11_renewWorths : zq_Sp} (h_X11_renewWorths : zq_M yX11_renewWorths cX11_renewWorths 1 none 0 d_X11_renewWorths s_X11_renewWorths) (g_X11_renewWorths : d_X11_renewWorths + 1 ≤ d) {J47 : zq_P} (j47 : zq_ok X 9 47 J47) {Q : zq_Q} (hq : zq_R X (some .int) 1 Q) : zq_ok X 9 80 (xX11_sheet_80 s_X11_sheetEntry s_X11_renewWorths J47 Q) := by
  refine zs_iconst C dX11_sheet_80 (by decide) ?_
  exact kX11_sheet_81 C h_X11_sheetEntry g_X11_sheetEntry h_X11_renewWorths g_X11_renewWorths j47 hq
def xX11_sheet_66 (s_X11_sheetEntry : zq_Sp) (s_X11_renewWorths : zq_Sp) (J47 : zq_P) (Q : zq_Q) (ls : zq_L) (st : List Value) (h : zq_H) : Prop := (zi_iload 1 (zi_iload 3 (zi_iload 4 (zi_iload 7 (zi_i2 (fun x y => x * y) (zi_i2 (fun x y => x + y) (zi_callS 2 s_X11_sheetEntry ((xX11_sheet_81 s_X11_sheetEntry s_X11_renewWorths J47 Q))))))))) ls st h
theorem kX11_sheet_66 {X : zq_X} {d : Nat} (C : zq_C X cX11_sheet 9 RX11 d) {d_X11_sheetEntry : Nat} {s_X11_sheetEntry : zq_Sp} (h_X11_sheetEntry : zq_M yX11_sheetEntry cX11_sheetEntry 3 (some .int) 1 d_X11_sheetEntry s_X11_sheetEntry) (g_X11_sheetEntry : d_X11_sheetEntry + 1 ≤ d) {d_X11_renewWorths : Nat} {s_X11_renewWorths : zq_Sp} (h_X11_renewWorths : zq_M yX11_renewWorths cX11_renewWorths 1 none 0 d_X11_renewWorths s_X11_renewWorths) (g_X11_renewWorths : d_X11_renewWorths + 1 ≤ d) {J47 : zq_P} (j47 : zq_ok X 9 47 J47) {Q : zq_Q} (hq : zq_R X (some .int) 1 Q) : zq_ok X 9 66 (xX11_sheet_66 s_X11_sheetEntry s_X11_renewWorths J47 Q) := by
  refine zs_iload_n C dX11_sheet_66 rfl ?_
  refine zs_iload_n C dX11_sheet_67 rfl ?_
  refine zs_iload C dX11_sheet_68 ?_
  refine zs_iload C dX11_sheet_70 ?_
  refine zs_imul C dX11_sheet_72 ?_
  refine zs_iadd C dX11_sheet_73 ?_
  refine zs_callS C h_X11_sheetEntry g_X11_sheetEntry zy_X11_sheetEntry zw_570 zw_571 dX11_sheet_74 ?_
  exact zs_goto C dX11_sheet_77 (by decide) (kX11_sheet_81 C h_X11_sheetEntry g_X11_sheetEntry h_X11_renewWorths g_X11_renewWorths j47 hq)
def xX11_sheet_59 (s_X11_sheetEntry : zq_Sp) (s_X11_renewWorths : zq_Sp) (J47 : zq_P) (Q : zq_Q) (ls : zq_L) (st : List Value) (h : zq_H) : Prop := (zi_iload 7 (zi_iload 5 (zi_if2 (fun x y => y ≤ x) (xX11_sheet_80 s_X11_sheetEntry s_X11_renewWorths J47 Q) (xX11_sheet_66 s_X11_sheetEntry s_X11_renewWorths J47 Q)))) ls st h
theorem kX11_sheet_59 {X : zq_X} {d : Nat} (C : zq_C X cX11_sheet 9 RX11 d) {d_X11_sheetEntry : Nat} {s_X11_sheetEntry : zq_Sp} (h_X11_sheetEntry : zq_M yX11_sheetEntry cX11_sheetEntry 3 (some .int) 1 d_X11_sheetEntry s_X11_sheetEntry) (g_X11_sheetEntry : d_X11_sheetEntry + 1 ≤ d) {d_X11_renewWorths : Nat} {s_X11_renewWorths : zq_Sp} (h_X11_renewWorths : zq_M yX11_renewWorths cX11_renewWorths 1 none 0 d_X11_renewWorths s_X11_renewWorths) (g_X11_renewWorths : d_X11_renewWorths + 1 ≤ d) {J47 : zq_P} (j47 : zq_ok X 9 47 J47) {Q : zq_Q} (hq : zq_R X (some .int) 1 Q) : zq_ok X 9 59 (xX11_sheet_59 s_X11_sheetEntry s_X11_renewWorths J47 Q) := by
  refine zs_iload C dX11_sheet_59 ?_
  refine zs_iload C dX11_sheet_61 ?_
  exact zs_icmp_ge C dX11_sheet_63 (by decide) (kX11_sheet_80 C h_X11_sheetEntry g_X11_sheetEntry h_X11_renewWorths g_X11_renewWorths j47 hq) (kX11_sheet_66 C h_X11_sheetEntry g_X11_sheetEntry h_X11_renewWorths g_X11_renewWorths j47 hq)
def xX11_sheet_47 (s_X11_sheetEntry : zq_Sp) (s_X11_renewWorths : zq_Sp) (J47 : zq_P) (Q : zq_Q) (ls : zq_L) (st : List Value) (h : zq_H) : Prop := (zi_iload 7 (zi_aload 0 (zi_getR 0 40 (zi_getI 40 3 (zi_if2 (fun x y => y ≤ x) (xX11_sheet_108 s_X11_sheetEntry s_X11_renewWorths J47 Q) (xX11_sheet_59 s_X11_sheetEntry s_X11_renewWorths J47 Q)))))) ls st h
theorem kX11_sheet_47 {X : zq_X} {d : Nat} (C : zq_C X cX11_sheet 9 RX11 d) {d_X11_sheetEntry : Nat} {s_X11_sheetEntry : zq_Sp} (h_X11_sheetEntry : zq_M yX11_sheetEntry cX11_sheetEntry 3 (some .int) 1 d_X11_sheetEntry s_X11_sheetEntry) (g_X11_sheetEntry : d_X11_sheetEntry + 1 ≤ d) {d_X11_renewWorths : Nat} {s_X11_renewWorths : zq_Sp} (h_X11_renewWorths : zq_M yX11_renewWorths cX11_renewWorths 1 none 0 d_X11_renewWorths s_X11_renewWorths) (g_X11_renewWorths : d_X11_renewWorths + 1 ≤ d) {J47 : zq_P} (j47 : zq_ok X 9 47 J47) {Q : zq_Q} (hq : zq_R X (some .int) 1 Q) : zq_ok X 9 47 (xX11_sheet_47 s_X11_sheetEntry s_X11_renewWorths J47 Q) := by
  refine zs_iload C dX11_sheet_47 ?_
  refine zs_aload_n C dX11_sheet_49 rfl ?_
  refine zs_getR C zp_0 zF11 (j := 11) ⟨by decide, rfl⟩ zw_326 dX11_sheet_50 ?_
  refine zs_getIN C zp_40 zF2 (j := 3) ⟨by decide, rfl⟩ zw_273 dX11_sheet_53 ?_
  exact zs_icmp_ge C dX11_sheet_56 (by decide) (kX11_sheet_108 C h_X11_sheetEntry g_X11_sheetEntry h_X11_renewWorths g_X11_renewWorths j47 hq) (kX11_sheet_59 C h_X11_sheetEntry g_X11_sheetEntry h_X11_renewWorths g_X11_renewWorths j47 hq)
def xX11_sheet_39 (s_X11_sheetEntry : zq_Sp) (s_X11_renewWorths : zq_Sp) (J47 : zq_P) (Q : zq_Q) (ls : zq_L) (st : List Value) (h : zq_H) : Prop := (zi_istore 5 (zi_push (.int 0) (zi_istore 6 (zi_push (.int 0) (zi_istore 7 (J47)))))) ls st h
theorem kX11_sheet_39 {X : zq_X} {d : Nat} (C : zq_C X cX11_sheet 9 RX11 d) {d_X11_sheetEntry : Nat} {s_X11_sheetEntry : zq_Sp} (h_X11_sheetEntry : zq_M yX11_sheetEntry cX11_sheetEntry 3 (some .int) 1 d_X11_sheetEntry s_X11_sheetEntry) (g_X11_sheetEntry : d_X11_sheetEntry + 1 ≤ d) {d_X11_renewWorths : Nat} {s_X11_renewWorths : zq_Sp} (h_X11_renewWorths : zq_M yX11_renewWorths cX11_renewWorths 1 none 0 d_X11_renewWorths s_X11_renewWorths) (g_X11_renewWorths : d_X11_renewWorths + 1 ≤ d) {J47 : zq_P} (j47 : zq_ok X 9 47 J47) {Q : zq_Q} (hq : zq_R X (some .int) 1 Q) : zq_ok X 9 39 (xX11_sheet_39 s_X11_sheetEntry s_X11_renewWorths J47 Q) := by
  refine zs_istore C dX11_sheet_39 (by decide) ?_
  refine zs_iconst C dX11_sheet_41 (by decide) ?_
  refine zs_istore C dX11_sheet_42 (by decide) ?_
  refine zs_iconst C dX11_sheet_44 (by decide) ?_
  refine zs_istore C dX11_sheet_45 (by decide) ?_
  exact j47
def xX11_sheet_38 (s_X11_sheetEntry : zq_Sp) (s_X11_renewWorths : zq_Sp) (J47 : zq_P) (Q : zq_Q) (ls : zq_L) (st : List Value) (h : zq_H) : Prop := (zi_iload 2 ((xX11_sheet_39 s_X11_sheetEntry s_X11_renewWorths J47 Q))) ls st h
theorem kX11_sheet_38 {X : zq_X} {d : Nat} (C : zq_C X cX11_sheet 9 RX11 d) {d_X11_sheetEntry : Nat} {s_X11_sheetEntry : zq_Sp} (h_X11_sheetEntry : zq_M yX11_sheetEntry cX11_sheetEntry 3 (some .int) 1 d_X11_sheetEntry s_X11_sheetEntry) (g_X11_sheetEntry : d_X11_sheetEntry + 1 ≤ d) {d_X11_renewWorths : Nat} {s_X11_renewWorths : zq_Sp} (h_X11_renewWorths : zq_M yX11_renewWorths cX11_renewWorths 1 none 0 d_X11_renewWorths s_X11_renewWorths) (g_X11_renewWorths : d_X11_renewWorths + 1 ≤ d) {J47 : zq_P} (j47 : zq_ok X 9 47 J47) {Q : zq_Q} (hq : zq_R X (some .int) 1 Q) : zq_ok X 9 38 (xX11_sheet_38 s_X11_sheetEntry s_X11_renewWorths J47 Q) := by
  refine zs_iload_n C dX11_sheet_38 rfl ?_
  exact kX11_sheet_39 C h_X11_sheetEntry g_X11_sheetEntry h_X11_renewWorths g_X11_renewWorths j47 hq
def xX11_sheet_34 (s_X11_sheetEntry : zq_Sp) (s_X11_renewWorths : zq_Sp) (J47 : zq_P) (Q : zq_Q) (ls : zq_L) (st : List Value) (h : zq_H) : Prop := (zi_push (.int 0) ((xX11_sheet_39 s_X11_sheetEntry s_X11_renewWorths J47 Q))) ls st h
theorem kX11_sheet_34 {X : zq_X} {d : Nat} (C : zq_C X cX11_sheet 9 RX11 d) {d_X11_sheetEntry : Nat} {s_X11_sheetEntry : zq_Sp} (h_X11_sheetEntry : zq_M yX11_sheetEntry cX11_sheetEntry 3 (some .int) 1 d_X11_sheetEntry s_X11_sheetEntry) (g_X11_sheetEntry : d_X11_sheetEntry + 1 ≤ d) {d_X11_renewWorths : Nat} {s_X11_renewWorths : zq_Sp} (h_X11_renewWorths : zq_M yX11_renewWorths cX11_renewWorths 1 none 0 d_X11_renewWorths s_X11_renewWorths) (g_X11_renewWorths : d_X11_renewWorths + 1 ≤ d) {J47 : zq_P} (j47 : zq_ok X 9 47 J47) {Q : zq_Q} (hq : zq_R X (some .int) 1 Q) : zq_ok X 9 34 (xX11_sheet_34 s_X11_sheetEntry s_X11_renewWorths J47 Q) := by
  refine zs_iconst C dX11_sheet_34 (by decide) ?_
  exact zs_goto C dX11_sheet_35 (by decide) (kX11_sheet_39 C h_X11_sheetEntry g_X11_sheetEntry h_X11_renewWorths g_X11_renewWorths j47 hq)
def xX11_sheet_29 (s_X11_sheetEntry : zq_Sp) (s_X11_renewWorths : zq_Sp) (J47 : zq_P) (Q : zq_Q) (ls : zq_L) (st : List Value) (h : zq_H) : Prop := (zi_iload 1 (zi_push (.int 3) (zi_if2 (fun x y => x = y) (xX11_sheet_34 s_X11_sheetEntry s_X11_renewWorths J47 Q) (xX11_sheet_38 s_X11_sheetEntry s_X11_renewWorths J47 Q)))) ls st h
theorem kX11_sheet_29 {X : zq_X} {d : Nat} (C : zq_C X cX11_sheet 9 RX11 d) {d_X11_sheetEntry : Nat} {s_X11_sheetEntry : zq_Sp} (h_X11_sheetEntry : zq_M yX11_sheetEntry cX11_sheetEntry 3 (some .int) 1 d_X11_sheetEntry s_X11_sheetEntry) (g_X11_sheetEntry : d_X11_sheetEntry + 1 ≤ d) {d_X11_renewWorths : Nat} {s_X11_renewWorths : zq_Sp} (h_X11_renewWorths : zq_M yX11_renewWorths cX11_renewWorths 1 none 0 d_X11_renewWorths s_X11_renewWorths) (g_X11_renewWorths : d_X11_renewWorths + 1 ≤ d) {J47 : zq_P} (j47 : zq_ok X 9 47 J47) {Q : zq_Q} (hq : zq_R X (some .int) 1 Q) : zq_ok X 9 29 (xX11_sheet_29 s_X11_sheetEntry s_X11_renewWorths J47 Q) := by
  refine zs_iload_n C dX11_sheet_29 rfl ?_
  refine zs_iconst C dX11_sheet_30 (by decide) ?_
  exact zs_icmp_ne C dX11_sheet_31 (by decide) (kX11_sheet_38 C h_X11_sheetEntry g_X11_sheetEntry h_X11_renewWorths g_X11_renewWorths j47 hq) (kX11_sheet_34 C h_X11_sheetEntry g_X11_sheetEntry h_X11_renewWorths g_X11_renewWorths j47 hq)
def xX11_sheet_26 (s_X11_sheetEntry : zq_Sp) (s_X11_renewWorths : zq_Sp) (J47 : zq_P) (Q : zq_Q) (ls : zq_L) (st : List Value) (h : zq_H) : Prop := (zi_push (.int (-2)) (zi_iret Q)) ls st h
theorem kX11_sheet_26 {X : zq_X} {d : Nat} (C : zq_C X cX11_sheet 9 RX11 d) {d_X11_sheetEntry : Nat} {s_X11_sheetEntry : zq_Sp} (h_X11_sheetEntry : zq_M yX11_sheetEntry cX11_sheetEntry 3 (some .int) 1 d_X11_sheetEntry s_X11_sheetEntry) (g_X11_sheetEntry : d_X11_sheetEntry + 1 ≤ d) {d_X11_renewWorths : Nat} {s_X11_renewWorths : zq_Sp} (h_X11_renewWorths : zq_M yX11_renewWorths cX11_renewWorths 1 none 0 d_X11_renewWorths s_X11_renewWorths) (g_X11_renewWorths : d_X11_renewWorths + 1 ≤ d) {J47 : zq_P} (j47 : zq_ok X 9 47 J47) {Q : zq_Q} (hq : zq_R X (some .int) 1 Q) : zq_ok X 9 26 (xX11_sheet_26 s_X11_sheetEntry s_X11_renewWorths J47 Q) := by
  refine zs_bipush C dX11_sheet_26 (by decide) ?_
  exact zs_iret C hq dX11_sheet_28
def xX11_sheet_22 (s_X11_sheetEntry : zq_Sp) (s_X11_renewWorths : zq_Sp) (J47 : zq_P) (Q : zq_Q) (ls : zq_L) (st : List Value) (h : zq_H) : Prop := (zi_iload 2 (zi_if1 (fun x => 0 ≤ x) (xX11_sheet_29 s_X11_sheetEntry s_X11_renewWorths J47 Q) (xX11_sheet_26 s_X11_sheetEntry s_X11_renewWorths J47 Q))) ls st h
theorem kX11_sheet_22 {X : zq_X} {d : Nat} (C : zq_C X cX11_sheet 9 RX11 d) {d_X11_sheetEntry : Nat} {s_X11_sheetEntry : zq_Sp} (h_X11_sheetEntry : zq_M yX11_sheetEntry cX11_sheetEntry 3 (some .int) 1 d_X11_sheetEntry s_X11_sheetEntry) (g_X11_sheetEntry : d_X11_sheetEntry + 1 ≤ d) {d_X11_renewWorths : Nat} {s_X11_renewWorths : zq_Sp} (h_X11_renewWorths : zq_M yX11_renewWorths cX11_renewWorths 1 none 0 d_X11_renewWorths s_X11_renewWorths) (g_X11_renewWorths : d_X11_renewWorths + 1 ≤ d) {J47 : zq_P} (j47 : zq_ok X 9 47 J47) {Q : zq_Q} (hq : zq_R X (some .int) 1 Q) : zq_ok X 9 22 (xX11_sheet_22 s_X11_sheetEntry s_X11_renewWorths J47 Q) := by
  refine zs_iload_n C dX11_sheet_22 rfl ?_
  exact zs_if_ge C dX11_sheet_23 (by decide) (kX11_sheet_29 C h_X11_sheetEntry g_X11_sheetEntry h_X11_renewWorths g_X11_renewWorths j47 hq) (kX11_sheet_26 C h_X11_sheetEntry g_X11_sheetEntry h_X11_renewWorths g_X11_renewWorths j47 hq)
def xX11_sheet_17 (s_X11_sheetEntry : zq_Sp) (s_X11_renewWorths : zq_Sp) (J47 : zq_P) (Q : zq_Q) (ls : zq_L) (st : List Value) (h : zq_H) : Prop := (zi_iload 1 (zi_push (.int 3) (zi_if2 (fun x y => x = y) (xX11_sheet_29 s_X11_sheetEntry s_X11_renewWorths J47 Q) (xX11_sheet_22 s_X11_sheetEntry s_X11_renewWorths J47 Q)))) ls st h
theorem kX11_sheet_17 {X : zq_X} {d : Nat} (C : zq_C X cX11_sheet 9 RX11 d) {d_X11_sheetEntry : Nat} {s_X11_sheetEntry : zq_Sp} (h_X11_sheetEntry : zq_M yX11_sheetEntry cX11_sheetEntry 3 (some .int) 1 d_X11_sheetEntry s_X11_sheetEntry) (g_X11_sheetEntry : d_X11_sheetEntry + 1 ≤ d) {d_X11_renewWorths : Nat} {s_X11_renewWorths : zq_Sp} (h_X11_renewWorths : zq_M yX11_renewWorths cX11_renewWorths 1 none 0 d_X11_renewWorths s_X11_renewWorths) (g_X11_renewWorths : d_X11_renewWorths + 1 ≤ d) {J47 : zq_P} (j47 : zq_ok X 9 47 J47) {Q : zq_Q} (hq : zq_R X (some .int) 1 Q) : zq_ok X 9 17 (xX11_sheet_17 s_X11_sheetEntry s_X11_renewWorths J47 Q) := by
  refine zs_iload_n C dX11_sheet_17 rfl ?_
  refine zs_iconst C dX11_sheet_18 (by decide) ?_
  exact zs_icmp_eq C dX11_sheet_19 (by decide) (kX11_sheet_29 C h_X11_sheetEntry g_X11_sheetEntry h_X11_renewWorths g_X11_renewWorths j47 hq) (kX11_sheet_22 C h_X11_sheetEntry g_X11_sheetEntry h_X11_renewWorths g_X11_renewWorths j47 hq)
def xX11_sheet_15 (s_X11_sheetEntry : zq_Sp) (s_X11_renewWorths : zq_Sp) (J47 : zq_P) (Q : zq_Q) (ls : zq_L) (st : List Value) (h : zq_H) : Prop := (zi_push (.int (-1)) (zi_iret Q)) ls st h
theorem kX11_sheet_15 {X : zq_X} {d : Nat} (C : zq_C X cX11_sheet 9 RX11 d) {d_X11_sheetEntry : Nat} {s_X11_sheetEntry : zq_Sp} (h_X11_sheetEntry : zq_M yX11_sheetEntry cX11_sheetEntry 3 (some .int) 1 d_X11_sheetEntry s_X11_sheetEntry) (g_X11_sheetEntry : d_X11_sheetEntry + 1 ≤ d) {d_X11_renewWorths : Nat} {s_X11_renewWorths : zq_Sp} (h_X11_renewWorths : zq_M yX11_renewWorths cX11_renewWorths 1 none 0 d_X11_renewWorths s_X11_renewWorths) (g_X11_renewWorths : d_X11_renewWorths + 1 ≤ d) {J47 : zq_P} (j47 : zq_ok X 9 47 J47) {Q : zq_Q} (hq : zq_R X (some .int) 1 Q) : zq_ok X 9 15 (xX11_sheet_15 s_X11_sheetEntry s_X11_renewWorths J47 Q) := by
  refine zs_iconst C dX11_sheet_15 (by decide) ?_
  exact zs_iret C hq dX11_sheet_16
def xX11_sheet_9 (s_X11_sheetEntry : zq_Sp) (s_X11_renewWorths : zq_Sp) (J47 : zq_P) (Q : zq_Q) (ls : zq_L) (st : List Value) (h : zq_H) : Prop := (zi_iload 2 (zi_push (.int 16) (zi_if2 (fun x y => x ≤ y) (xX11_sheet_17 s_X11_sheetEntry s_X11_renewWorths J47 Q) (xX11_sheet_15 s_X11_sheetEntry s_X11_renewWorths J47 Q)))) ls st h
theorem kX11_sheet_9 {X : zq_X} {d : Nat} (C : zq_C X cX11_sheet 9 RX11 d) {d_X11_sheetEntry : Nat} {s_X11_sheetEntry : zq_Sp} (h_X11_sheetEntry : zq_M yX11_sheetEntry cX11_sheetEntry 3 (some .int) 1 d_X11_sheetEntry s_X11_sheetEntry) (g_X11_sheetEntry : d_X11_sheetEntry + 1 ≤ d) {d_X11_renewWorths : Nat} {s_X11_renewWorths : zq_Sp} (h_X11_renewWorths : zq_M yX11_renewWorths cX11_renewWorths 1 none 0 d_X11_renewWorths s_X11_renewWorths) (g_X11_renewWorths : d_X11_renewWorths + 1 ≤ d) {J47 : zq_P} (j47 : zq_ok X 9 47 J47) {Q : zq_Q} (hq : zq_R X (some .int) 1 Q) : zq_ok X 9 9 (xX11_sheet_9 s_X11_sheetEntry s_X11_renewWorths J47 Q) := by
  refine zs_iload_n C dX11_sheet_9 rfl ?_
  refine zs_bipush C dX11_sheet_10 (by decide) ?_
  exact zs_icmp_le C dX11_sheet_12 (by decide) (kX11_sheet_17 C h_X11_sheetEntry g_X11_sheetEntry h_X11_renewWorths g_X11_renewWorths j47 hq) (kX11_sheet_15 C h_X11_sheetEntry g_X11_sheetEntry h_X11_renewWorths g_X11_renewWorths j47 hq)
def xX11_sheet_4 (s_X11_sheetEntry : zq_Sp) (s_X11_renewWorths : zq_Sp) (J47 : zq_P) (Q : zq_Q) (ls : zq_L) (st : List Value) (h : zq_H) : Prop := (zi_iload 1 (zi_push (.int 3) (zi_if2 (fun x y => y < x) (xX11_sheet_15 s_X11_sheetEntry s_X11_renewWorths J47 Q) (xX11_sheet_9 s_X11_sheetEntry s_X11_renewWorths J47 Q)))) ls st h
theorem kX11_sheet_4 {X : zq_X} {d : Nat} (C : zq_C X cX11_sheet 9 RX11 d) {d_X11_sheetEntry : Nat} {s_X11_sheetEntry : zq_Sp} (h_X11_sheetEntry : zq_M yX11_sheetEntry cX11_sheetEntry 3 (some .int) 1 d_X11_sheetEntry s_X11_sheetEntry) (g_X11_sheetEntry : d_X11_sheetEntry + 1 ≤ d) {d_X11_renewWorths : Nat} {s_X11_renewWorths : zq_Sp} (h_X11_renewWorths : zq_M yX11_renewWorths cX11_renewWorths 1 none 0 d_X11_renewWorths s_X11_renewWorths) (g_X11_renewWorths : d_X11_renewWorths + 1 ≤ d) {J47 : zq_P} (j47 : zq_ok X 9 47 J47) {Q : zq_Q} (hq : zq_R X (some .int) 1 Q) : zq_ok X 9 4 (xX11_sheet_4 s_X11_sheetEntry s_X11_renewWorths J47 Q) := by
  refine zs_iload_n C dX11_sheet_4 rfl ?_
  refine zs_iconst C dX11_sheet_5 (by decide) ?_
  exact zs_icmp_gt C dX11_sheet_6 (by decide) (kX11_sheet_15 C h_X11_sheetEntry g_X11_sheetEntry h_X11_renewWorths g_X11_renewWorths j47 hq) (kX11_sheet_9 C h_X11_sheetEntry g_X11_sheetEntry h_X11_renewWorths g_X11_renewWorths j47 hq)
def xX11_sheet_0 (s_X11_sheetEntry : zq_Sp) (s_X11_renewWorths : zq_Sp) (J47 : zq_P) (Q : zq_Q) (ls : zq_L) (st : List Value) (h : zq_H) : Prop := (zi_iload 1 (zi_if1 (fun x => x < 0) (xX11_sheet_15 s_X11_sheetEntry s_X11_renewWorths J47 Q) (xX11_sheet_4 s_X11_sheetEntry s_X11_renewWorths J47 Q))) ls st h
theorem kX11_sheet_0 {X : zq_X} {d : Nat} (C : zq_C X cX11_sheet 9 RX11 d) {d_X11_sheetEntry : Nat} {s_X11_sheetEntry : zq_Sp} (h_X11_sheetEntry : zq_M yX11_sheetEntry cX11_sheetEntry 3 (some .int) 1 d_X11_sheetEntry s_X11_sheetEntry) (g_X11_sheetEntry : d_X11_sheetEntry + 1 ≤ d) {d_X11_renewWorths : Nat} {s_X11_renewWorths : zq_Sp} (h_X11_renewWorths : zq_M yX11_renewWorths cX11_renewWorths 1 none 0 d_X11_renewWorths s_X11_renewWorths) (g_X11_renewWorths : d_X11_renewWorths + 1 ≤ d) {J47 : zq_P} (j47 : zq_ok X 9 47 J47) {Q : zq_Q} (hq : zq_R X (some .int) 1 Q) : zq_ok X 9 0 (xX11_sheet_0 s_X11_sheetEntry s_X11_renewWorths J47 Q) := by
  refine zs_iload_n C dX11_sheet_0 rfl ?_
  exact zs_if_lt C dX11_sheet_1 (by decide) (kX11_sheet_15 C h_X11_sheetEntry g_X11_sheetEntry h_X11_renewWorths g_X11_renewWorths j47 hq) (kX11_sheet_4 C h_X11_sheetEntry g_X11_sheetEntry h_X11_renewWorths g_X11_renewWorths j47 hq)
theorem mX11_sheet {d : Nat} {spec : zq_Sp} {σ47 : Type} {d_X11_sheetEntry : Nat} {s_X11_sheetEntry : zq_Sp} (h_X11_sheetEntry : zq_M yX11_sheetEntry cX11_sheetEntry 3 (some .int) 1 d_X11_sheetEntry s_X11_sheetEntry) (g_X11_sheetEntry : d_X11_sheetEntry + 1 ≤ d) {d_X11_renewWorths : Nat} {s_X11_renewWorths : zq_Sp} (h_X11_renewWorths : zq_M yX11_renewWorths cX11_renewWorths 1 none 0 d_X11_renewWorths s_X11_renewWorths) (g_X11_renewWorths : d_X11_renewWorths + 1 ≤ d) (μ47 : σ47 → Nat) (I47 : zq_Q → σ47 → zq_P) (v : ∀ args h Q, spec args h Q → (zq_a args).length ≤ 9 ∧ xX11_sheet_0 s_X11_sheetEntry s_X11_renewWorths (fun ls st h => ∃ b, I47 Q b ls st h) Q (zq_l0 9 args) [] h) (v47 : ∀ Q a ls st h, I47 Q a ls st h → xX11_sheet_47 s_X11_sheetEntry s_X11_renewWorths (fun ls st h => ∃ b, μ47 b < μ47 a ∧ I47 Q b ls st h) Q ls st h) : zq_M yX11_sheet cX11_sheet 9 (some .int) 1 d spec := by
  refine zq_met (by decide +kernel) (by decide) (fun X Q args h C hq hs => ⟨(v args h Q hs).1, _, ?_, (v args h Q hs).2⟩)
  have hl := zq_loop1 (X := X) (nL := 9) (pc1 := 47) μ47 (I47 Q) (fun J47 => xX11_sheet_47 s_X11_sheetEntry s_X11_renewWorths J47 Q) (fun j47 => kX11_sheet_47 C h_X11_sheetEntry g_X11_sheetEntry h_X11_renewWorths g_X11_renewWorths j47 hq) (v47 Q)
  exact kX11_sheet_0 C h_X11_sheetEntry g_X11_sheetEntry h_X11_renewWorths g_X11_renewWorths hl hq
/-! ToOneCrumb.give(III)I -/
theorem dX11_give_0 : decode cX11_give 0 = .ok (.aload_n 0, 1) := by decide +kernel
theorem dX11_give_1 : decode cX11_give 1 = .ok (.getfield 40, 3) := by decide +kernel
theorem dX11_give_4 : decode cX11_give 4 = .ok (.getfield 204, 3) := by decide +kernel
theorem dX11_give_7 : decode cX11_give 7 = .ok (.lstore 4, 2) := by decide +kernel
theorem dX11_give_9 : decode cX11_give 9 = .ok (.aload_n 0, 1) := by decide +kernel
theorem dX11_give_10 : decode cX11_give 10 = .ok (.lload 4, 2) := by decide +kernel
theorem dX11_give_12 : decode cX11_give 12 = .ok (.aload_n 0, 1) := by decide +kernel
theorem dX11_give_13 : decode cX11_give 13 = .ok (.iload_n 1, 1) := by decide +kernel
theorem dX11_give_14 : decode cX11_give 14 = .ok (.iload_n 2, 1) := by decide +kernel
theorem dX11_give_15 : decode cX11_give 15 = .ok (.iload_n 3, 1) := by decide +kernel
theorem dX11_give_16 : decode cX11_give 16 = .ok (.invokevirtual 208, 3) := by decide +kernel
theorem dX11_give_19 : decode cX11_give 19 = .ok (.invokevirtual 212, 3) := by decide +kernel
theorem dX11_give_22 : decode cX11_give 22 = .ok (.ireturn, 1) := by decide +kernel
def xX11_give_0 (s_X11_giveSlice : zq_Sp) (s_X11_remembered : zq_Sp) (Q : zq_Q) (ls : zq_L) (st : List Value) (h : zq_H) : Prop := (zi_aload 0 (zi_getR 0 12 (zi_getL 12 2 (zi_lstore 4 (zi_aload 0 (zi_lload 4 (zi_aload 0 (zi_iload 1 (zi_iload 2 (zi_iload 3 (zi_callV 3 0 s_X11_giveSlice (zi_callV 2 0 s_X11_remembered (zi_iret Q))))))))))))) ls st h
theorem kX11_give_0 {X : zq_X} {d : Nat} (C : zq_C X cX11_give 6 RX11 d) {d_X11_giveSlice : Nat} {s_X11_giveSlice : zq_Sp} (h_X11_giveSlice : zq_M yX11_giveSlice cX11_giveSlice 5 (some .int) 1 d_X11_giveSlice s_X11_giveSlice) (g_X11_giveSlice : d_X11_giveSlice + 1 ≤ d) {d_X11_remembered : Nat} {s_X11_remembered : zq_Sp} (h_X11_remembered : zq_M yX11_remembered cX11_remembered 4 (some .int) 1 d_X11_remembered s_X11_remembered) (g_X11_remembered : d_X11_remembered + 1 ≤ d) {Q : zq_Q} (hq : zq_R X (some .int) 1 Q) : zq_ok X 6 0 (xX11_give_0 s_X11_giveSlice s_X11_remembered Q) := by
  refine zs_aload_n C dX11_give_0 rfl ?_
  refine zs_getR C zp_0 zF11 (j := 4) ⟨by decide, rfl⟩ zw_319 dX11_give_1 ?_
  refine zs_getLN C zp_12 zF0 (j := 2) ⟨by decide, rfl⟩ zw_123 dX11_give_4 ?_
  refine zs_lstore C dX11_give_7 (by decide) ?_
  refine zs_aload_n C dX11_give_9 rfl ?_
  refine zs_lload C dX11_give_10 ?_
  refine zs_aload_n C dX11_give_12 rfl ?_
  refine zs_iload_n C dX11_give_13 rfl ?_
  refine zs_iload_n C dX11_give_14 rfl ?_
  refine zs_iload_n C dX11_give_15 rfl ?_
  refine zs_callV C h_X11_giveSlice g_X11_giveSlice zy_X11_giveSlice zp_0 (show vwCl[11]? = some (RX11, TX11, 16) from rfl) zw_579 zw_581 zs9_X11_giveSlice dX11_give_16 ?_
  refine zs_callV C h_X11_remembered g_X11_remembered zy_X11_remembered zp_0 (show vwCl[11]? = some (RX11, TX11, 16) from rfl) zw_601 zw_603 zs9_X11_remembered dX11_give_19 ?_
  exact zs_iret C hq dX11_give_22
theorem mX11_give {d : Nat} {spec : zq_Sp} {d_X11_giveSlice : Nat} {s_X11_giveSlice : zq_Sp} (h_X11_giveSlice : zq_M yX11_giveSlice cX11_giveSlice 5 (some .int) 1 d_X11_giveSlice s_X11_giveSlice) (g_X11_giveSlice : d_X11_giveSlice + 1 ≤ d) {d_X11_remembered : Nat} {s_X11_remembered : zq_Sp} (h_X11_remembered : zq_M yX11_remembered cX11_remembered 4 (some .int) 1 d_X11_remembered s_X11_remembered) (g_X11_remembered : d_X11_remembered + 1 ≤ d) (v : ∀ args h Q, spec args h Q → (zq_a args).length ≤ 6 ∧ xX11_give_0 s_X11_giveSlice s_X11_remembered Q (zq_l0 6 args) [] h) : zq_M yX11_give cX11_give 6 (some .int) 1 d spec := by
  refine zq_met (by decide +kernel) (by decide) (fun X Q args h C hq hs => ⟨(v args h Q hs).1, _, ?_, (v args h Q hs).2⟩)
  exact kX11_give_0 C h_X11_giveSlice g_X11_giveSlice h_X11_remembered g_X11_remembered hq
/-! ToOneCrumb.back(II)I -/
theorem dX11_back_0 : decode cX11_back 0 = .ok (.aload_n 0, 1) := by decide +kernel
theorem dX11_back_1 : decode cX11_back 1 = .ok (.getfield 40, 3) := by decide +kernel
theorem dX11_back_4 : decode cX11_back 4 = .ok (.getfield 204, 3) := by decide +kernel
theorem dX11_back_7 : decode cX11_back 7 = .ok (.lstore_n 3, 1) := by decide +kernel
theorem dX11_back_8 : decode cX11_back 8 = .ok (.aload_n 0, 1) := by decide +kernel
theorem dX11_back_9 : decode cX11_back 9 = .ok (.lload_n 3, 1) := by decide +kernel
theorem dX11_back_10 : decode cX11_back 10 = .ok (.aload_n 0, 1) := by decide +kernel
theorem dX11_back_11 : decode cX11_back 11 = .ok (.iload_n 1, 1) := by decide +kernel
theorem dX11_back_12 : decode cX11_back 12 = .ok (.iload_n 2, 1) := by decide +kernel
theorem dX11_back_13 : decode cX11_back 13 = .ok (.invokevirtual 216, 3) := by decide +kernel
theorem dX11_back_16 : decode cX11_back 16 = .ok (.invokevirtual 212, 3) := by decide +kernel
theorem dX11_back_19 : decode cX11_back 19 = .ok (.ireturn, 1) := by decide +kernel
def xX11_back_0 (s_X11_takeBack : zq_Sp) (s_X11_remembered : zq_Sp) (Q : zq_Q) (ls : zq_L) (st : List Value) (h : zq_H) : Prop := (zi_aload 0 (zi_getR 0 12 (zi_getL 12 2 (zi_lstore 3 (zi_aload 0 (zi_lload 3 (zi_aload 0 (zi_iload 1 (zi_iload 2 (zi_callV 2 0 s_X11_takeBack (zi_callV 2 0 s_X11_remembered (zi_iret Q)))))))))))) ls st h
theorem kX11_back_0 {X : zq_X} {d : Nat} (C : zq_C X cX11_back 5 RX11 d) {d_X11_takeBack : Nat} {s_X11_takeBack : zq_Sp} (h_X11_takeBack : zq_M yX11_takeBack cX11_takeBack 6 (some .int) 1 d_X11_takeBack s_X11_takeBack) (g_X11_takeBack : d_X11_takeBack + 1 ≤ d) {d_X11_remembered : Nat} {s_X11_remembered : zq_Sp} (h_X11_remembered : zq_M yX11_remembered cX11_remembered 4 (some .int) 1 d_X11_remembered s_X11_remembered) (g_X11_remembered : d_X11_remembered + 1 ≤ d) {Q : zq_Q} (hq : zq_R X (some .int) 1 Q) : zq_ok X 5 0 (xX11_back_0 s_X11_takeBack s_X11_remembered Q) := by
  refine zs_aload_n C dX11_back_0 rfl ?_
  refine zs_getR C zp_0 zF11 (j := 4) ⟨by decide, rfl⟩ zw_319 dX11_back_1 ?_
  refine zs_getLN C zp_12 zF0 (j := 2) ⟨by decide, rfl⟩ zw_123 dX11_back_4 ?_
  refine zs_lstore_n C dX11_back_7 rfl (by decide) ?_
  refine zs_aload_n C dX11_back_8 rfl ?_
  refine zs_lload_n C dX11_back_9 rfl ?_
  refine zs_aload_n C dX11_back_10 rfl ?_
  refine zs_iload_n C dX11_back_11 rfl ?_
  refine zs_iload_n C dX11_back_12 rfl ?_
  refine zs_callV C h_X11_takeBack g_X11_takeBack zy_X11_takeBack zp_0 (show vwCl[11]? = some (RX11, TX11, 16) from rfl) zw_616 zw_618 zs9_X11_takeBack dX11_back_13 ?_
  refine zs_callV C h_X11_remembered g_X11_remembered zy_X11_remembered zp_0 (show vwCl[11]? = some (RX11, TX11, 16) from rfl) zw_601 zw_603 zs9_X11_remembered dX11_back_16 ?_
  exact zs_iret C hq dX11_back_19
theorem mX11_back {d : Nat} {spec : zq_Sp} {d_X11_takeBack : Nat} {s_X11_takeBack : zq_Sp} (h_X11_takeBack : zq_M yX11_takeBack cX11_takeBack 6 (some .int) 1 d_X11_takeBack s_X11_takeBack) (g_X11_takeBack : d_X11_takeBack + 1 ≤ d) {d_X11_remembered : Nat} {s_X11_remembered : zq_Sp} (h_X11_remembered : zq_M yX11_remembered cX11_remembered 4 (some .int) 1 d_X11_remembered s_X11_remembered) (g_X11_remembered : d_X11_remembered + 1 ≤ d) (v : ∀ args h Q, spec args h Q → (zq_a args).length ≤ 5 ∧ xX11_back_0 s_X11_takeBack s_X11_remembered Q (zq_l0 5 args) [] h) : zq_M yX11_back cX11_back 5 (some .int) 1 d spec := by
  refine zq_met (by decide +kernel) (by decide) (fun X Q args h C hq hs => ⟨(v args h Q hs).1, _, ?_, (v args h Q hs).2⟩)
  exact kX11_back_0 C h_X11_takeBack g_X11_takeBack h_X11_remembered g_X11_remembered hq
/-! ToOneCrumb.mouse(I)I -/
theorem dX11_mouse_0 : decode cX11_mouse 0 = .ok (.aload_n 0, 1) := by decide +kernel
theorem dX11_mouse_1 : decode cX11_mouse 1 = .ok (.getfield 40, 3) := by decide +kernel
theorem dX11_mouse_4 : decode cX11_mouse 4 = .ok (.getfield 204, 3) := by decide +kernel
theorem dX11_mouse_7 : decode cX11_mouse 7 = .ok (.lstore_n 2, 1) := by decide +kernel
theorem dX11_mouse_8 : decode cX11_mouse 8 = .ok (.aload_n 0, 1) := by decide +kernel
theorem dX11_mouse_9 : decode cX11_mouse 9 = .ok (.lload_n 2, 1) := by decide +kernel
theorem dX11_mouse_10 : decode cX11_mouse 10 = .ok (.aload_n 0, 1) := by decide +kernel
theorem dX11_mouse_11 : decode cX11_mouse 11 = .ok (.iload_n 1, 1) := by decide +kernel
theorem dX11_mouse_12 : decode cX11_mouse 12 = .ok (.invokevirtual 219, 3) := by decide +kernel
theorem dX11_mouse_15 : decode cX11_mouse 15 = .ok (.invokevirtual 212, 3) := by decide +kernel
theorem dX11_mouse_18 : decode cX11_mouse 18 = .ok (.ireturn, 1) := by decide +kernel
def xX11_mouse_0 (s_X11_feedMouse : zq_Sp) (s_X11_remembered : zq_Sp) (Q : zq_Q) (ls : zq_L) (st : List Value) (h : zq_H) : Prop := (zi_aload 0 (zi_getR 0 12 (zi_getL 12 2 (zi_lstore 2 (zi_aload 0 (zi_lload 2 (zi_aload 0 (zi_iload 1 (zi_callV 1 0 s_X11_feedMouse (zi_callV 2 0 s_X11_remembered (zi_iret Q))))))))))) ls st h
theorem kX11_mouse_0 {X : zq_X} {d : Nat} (C : zq_C X cX11_mouse 4 RX11 d) {d_X11_feedMouse : Nat} {s_X11_feedMouse : zq_Sp} (h_X11_feedMouse : zq_M yX11_feedMouse cX11_feedMouse 2 (some .int) 1 d_X11_feedMouse s_X11_feedMouse) (g_X11_feedMouse : d_X11_feedMouse + 1 ≤ d) {d_X11_remembered : Nat} {s_X11_remembered : zq_Sp} (h_X11_remembered : zq_M yX11_remembered cX11_remembered 4 (some .int) 1 d_X11_remembered s_X11_remembered) (g_X11_remembered : d_X11_remembered + 1 ≤ d) {Q : zq_Q} (hq : zq_R X (some .int) 1 Q) : zq_ok X 4 0 (xX11_mouse_0 s_X11_feedMouse s_X11_remembered Q) := by
  refine zs_aload_n C dX11_mouse_0 rfl ?_
  refine zs_getR C zp_0 zF11 (j := 4) ⟨by decide, rfl⟩ zw_319 dX11_mouse_1 ?_
  refine zs_getLN C zp_12 zF0 (j := 2) ⟨by decide, rfl⟩ zw_123 dX11_mouse_4 ?_
  refine zs_lstore_n C dX11_mouse_7 rfl (by decide) ?_
  refine zs_aload_n C dX11_mouse_8 rfl ?_
  refine zs_lload_n C dX11_mouse_9 rfl ?_
  refine zs_aload_n C dX11_mouse_10 rfl ?_
  refine zs_iload_n C dX11_mouse_11 rfl ?_
  refine zs_callV C h_X11_feedMouse g_X11_feedMouse zy_X11_feedMouse zp_0 (show vwCl[11]? = some (RX11, TX11, 16) from rfl) zw_624 zw_626 zs9_X11_feedMouse dX11_mouse_12 ?_
  refine zs_callV C h_X11_remembered g_X11_remembered zy_X11_remembered zp_0 (show vwCl[11]? = some (RX11, TX11, 16) from rfl) zw_601 zw_603 zs9_X11_remembered dX11_mouse_15 ?_
  exact zs_iret C hq dX11_mouse_18
theorem mX11_mouse {d : Nat} {spec : zq_Sp} {d_X11_feedMouse : Nat} {s_X11_feedMouse : zq_Sp} (h_X11_feedMouse : zq_M yX11_feedMouse cX11_feedMouse 2 (some .int) 1 d_X11_feedMouse s_X11_feedMouse) (g_X11_feedMouse : d_X11_feedMouse + 1 ≤ d) {d_X11_remembered : Nat} {s_X11_remembered : zq_Sp} (h_X11_remembered : zq_M yX11_remembered cX11_remembered 4 (some .int) 1 d_X11_remembered s_X11_remembered) (g_X11_remembered : d_X11_remembered + 1 ≤ d) (v : ∀ args h Q, spec args h Q → (zq_a args).length ≤ 4 ∧ xX11_mouse_0 s_X11_feedMouse s_X11_remembered Q (zq_l0 4 args) [] h) : zq_M yX11_mouse cX11_mouse 4 (some .int) 1 d spec := by
  refine zq_met (by decide +kernel) (by decide) (fun X Q args h C hq hs => ⟨(v args h Q hs).1, _, ?_, (v args h Q hs).2⟩)
  exact kX11_mouse_0 C h_X11_feedMouse g_X11_feedMouse h_X11_remembered g_X11_remembered hq
/-! ToOneCrumb.supper()I -/
theorem dX11_supper_0 : decode cX11_supper 0 = .ok (.aload_n 0, 1) := by decide +kernel
theorem dX11_supper_1 : decode cX11_supper 1 = .ok (.invokevirtual 222, 3) := by decide +kernel
theorem dX11_supper_4 : decode cX11_supper 4 = .ok (.istore_n 1, 1) := by decide +kernel
theorem dX11_supper_5 : decode cX11_supper 5 = .ok (.aload_n 0, 1) := by decide +kernel
theorem dX11_supper_6 : decode cX11_supper 6 = .ok (.getfield 10, 3) := by decide +kernel
theorem dX11_supper_9 : decode cX11_supper 9 = .ok (.invokevirtual 111, 3) := by decide +kernel
theorem dX11_supper_12 : decode cX11_supper 12 = .ok (.iload_n 1, 1) := by decide +kernel
theorem dX11_supper_13 : decode cX11_supper 13 = .ok (.ifCond .ne 11, 3) := by decide +kernel
theorem dX11_supper_16 : decode cX11_supper 16 = .ok (.aload_n 0, 1) := by decide +kernel
theorem dX11_supper_17 : decode cX11_supper 17 = .ok (.getfield 10, 3) := by decide +kernel
theorem dX11_supper_20 : decode cX11_supper 20 = .ok (.invokevirtual 114, 3) := by decide +kernel
theorem dX11_supper_23 : decode cX11_supper 23 = .ok (.ireturn, 1) := by decide +kernel
theorem dX11_supper_24 : decode cX11_supper 24 = .ok (.aload_n 0, 1) := by decide +kernel
theorem dX11_supper_25 : decode cX11_supper 25 = .ok (.getfield 40, 3) := by decide +kernel
theorem dX11_supper_28 : decode cX11_supper 28 = .ok (.getfield 204, 3) := by decide +kernel
theorem dX11_supper_31 : decode cX11_supper 31 = .ok (.lstore_n 2, 1) := by decide +kernel
theorem dX11_supper_32 : decode cX11_supper 32 = .ok (.iconst 0, 1) := by decide +kernel
theorem dX11_supper_33 : decode cX11_supper 33 = .ok (.istore 4, 2) := by decide +kernel
theorem dX11_supper_35 : decode cX11_supper 35 = .ok (.iload 4, 2) := by decide +kernel
theorem dX11_supper_37 : decode cX11_supper 37 = .ok (.aload_n 0, 1) := by decide +kernel
theorem dX11_supper_38 : decode cX11_supper 38 = .ok (.getfield 226, 3) := by decide +kernel
theorem dX11_supper_41 : decode cX11_supper 41 = .ok (.if_icmp .ge 18, 3) := by decide +kernel
theorem dX11_supper_44 : decode cX11_supper 44 = .ok (.aload_n 0, 1) := by decide +kernel
theorem dX11_supper_45 : decode cX11_supper 45 = .ok (.iload 4, 2) := by decide +kernel
theorem dX11_supper_47 : decode cX11_supper 47 = .ok (.invokevirtual 229, 3) := by decide +kernel
theorem dX11_supper_50 : decode cX11_supper 50 = .ok (.ifCond .lt 9, 3) := by decide +kernel
theorem dX11_supper_53 : decode cX11_supper 53 = .ok (.iinc 4 1, 3) := by decide +kernel
theorem dX11_supper_56 : decode cX11_supper 56 = .ok (.goto (-21), 3) := by decide +kernel
theorem dX11_supper_59 : decode cX11_supper 59 = .ok (.iload 4, 2) := by decide +kernel
theorem dX11_supper_61 : decode cX11_supper 61 = .ok (.ifCond .le 11, 3) := by decide +kernel
theorem dX11_supper_64 : decode cX11_supper 64 = .ok (.aload_n 0, 1) := by decide +kernel
theorem dX11_supper_65 : decode cX11_supper 65 = .ok (.getfield 40, 3) := by decide +kernel
theorem dX11_supper_68 : decode cX11_supper 68 = .ok (.lload_n 2, 1) := by decide +kernel
theorem dX11_supper_69 : decode cX11_supper 69 = .ok (.invokevirtual 232, 3) := by decide +kernel
theorem dX11_supper_72 : decode cX11_supper 72 = .ok (.aload_n 0, 1) := by decide +kernel
theorem dX11_supper_73 : decode cX11_supper 73 = .ok (.getfield 19, 3) := by decide +kernel
theorem dX11_supper_76 : decode cX11_supper 76 = .ok (.invokevirtual 236, 3) := by decide +kernel
theorem dX11_supper_79 : decode cX11_supper 79 = .ok (.aload_n 0, 1) := by decide +kernel
theorem dX11_supper_80 : decode cX11_supper 80 = .ok (.getfield 19, 3) := by decide +kernel
theorem dX11_supper_83 : decode cX11_supper 83 = .ok (.iload 4, 2) := by decide +kernel
theorem dX11_supper_85 : decode cX11_supper 85 = .ok (.aload_n 0, 1) := by decide +kernel
theorem dX11_supper_86 : decode cX11_supper 86 = .ok (.getfield 226, 3) := by decide +kernel
theorem dX11_supper_89 : decode cX11_supper 89 = .ok (.if_icmp .ge 7, 3) := by decide +kernel
theorem dX11_supper_92 : decode cX11_supper 92 = .ok (.lconst 1, 1) := by decide +kernel
theorem dX11_supper_93 : decode cX11_supper 93 = .ok (.goto 4, 3) := by decide +kernel
theorem dX11_supper_96 : decode cX11_supper 96 = .ok (.lconst 0, 1) := by decide +kernel
theorem dX11_supper_97 : decode cX11_supper 97 = .ok (.invokevirtual 237, 3) := by decide +kernel
theorem dX11_supper_100 : decode cX11_supper 100 = .ok (.aload_n 0, 1) := by decide +kernel
theorem dX11_supper_101 : decode cX11_supper 101 = .ok (.getfield 19, 3) := by decide +kernel
theorem dX11_supper_104 : decode cX11_supper 104 = .ok (.aload_n 0, 1) := by decide +kernel
theorem dX11_supper_105 : decode cX11_supper 105 = .ok (.iconst (-1), 1) := by decide +kernel
theorem dX11_supper_106 : decode cX11_supper 106 = .ok (.invokevirtual 179, 3) := by decide +kernel
theorem dX11_supper_109 : decode cX11_supper 109 = .ok (.i2l, 1) := by decide +kernel
theorem dX11_supper_110 : decode cX11_supper 110 = .ok (.invokevirtual 237, 3) := by decide +kernel
theorem dX11_supper_113 : decode cX11_supper 113 = .ok (.iload 4, 2) := by decide +kernel
theorem dX11_supper_115 : decode cX11_supper 115 = .ok (.ireturn, 1) := by decide +kernel
def xX11_supper_97 (s_X11_readActs : zq_Sp) (s_X8_clear : zq_Sp) (s_X8_fault : zq_Sp) (s_X11_doAct : zq_Sp) (s_X0_remember : zq_Sp) (s_X5_clear : zq_Sp) (s_X5_add : zq_Sp) (s_X11_cellsWith : zq_Sp) (J35 : zq_P) (Q : zq_Q) (ls : zq_L) (st : List Value) (h : zq_H) : Prop := (zi_callV 1 3 s_X5_add (zi_aload 0 (zi_getR 0 3 (zi_aload 0 (zi_push (.int (-1)) (zi_callV 1 0 s_X11_cellsWith (zi_i2l (zi_callV 1 3 s_X5_add (zi_iload 4 (zi_iret Q)))))))))) ls st h
theorem kX11_supper_97 {X : zq_X} {d : Nat} (C : zq_C X cX11_supper 5 RX11 d) {d_X11_readActs : Nat} {s_X11_readActs : zq_Sp} (h_X11_readActs : zq_M yX11_readActs cX11_readActs 1 (some .boolean) 1 d_X11_readActs s_X11_readActs) (g_X11_readActs : d_X11_readActs + 1 ≤ d) {d_X8_clear : Nat} {s_X8_clear : zq_Sp} (h_X8_clear : zq_M yX8_clear cX8_clear 1 none 0 d_X8_clear s_X8_clear) (g_X8_clear : d_X8_clear + 1 ≤ d) {d_X8_fault : Nat} {s_X8_fault : zq_Sp} (h_X8_fault : zq_M yX8_fault cX8_fault 1 (some .int) 1 d_X8_fault s_X8_fault) (g_X8_fault : d_X8_fault + 1 ≤ d) {d_X11_doAct : Nat} {s_X11_doAct : zq_Sp} (h_X11_doAct : zq_M yX11_doAct cX11_doAct 3 (some .int) 1 d_X11_doAct s_X11_doAct) (g_X11_doAct : d_X11_doAct + 1 ≤ d) {d_X0_remember : Nat} {s_X0_remember : zq_Sp} (h_X0_remember : zq_M yX0_remember cX0_remember 3 none 0 d_X0_remember s_X0_remember) (g_X0_remember : d_X0_remember + 1 ≤ d) {d_X5_clear : Nat} {s_X5_clear : zq_Sp} (h_X5_clear : zq_M yX5_clear cX5_clear 1 none 0 d_X5_clear s_X5_clear) (g_X5_clear : d_X5_clear + 1 ≤ d) {d_X5_add : Nat} {s_X5_add : zq_Sp} (h_X5_add : zq_M yX5_add cX5_add 3 none 0 d_X5_add s_X5_add) (g_X5_add : d_X5_add + 1 ≤ d) {d_X11_cellsWith : Nat} {s_X11_cellsWith : zq_Sp} (h_X11_cellsWith : zq_M yX11_cellsWith cX11_cellsWith 4 (some .int) 1 d_X11_cellsWith s_X11_cellsWith) (g_X11_cellsWith : d_X11_cellsWith + 1 ≤ d) {J35 : zq_P} (j35 : zq_ok X 5 35 J35) {Q : zq_Q} (hq : zq_R X (some .int) 1 Q) : zq_ok X 5 97 (xX11_supper_97 s_X11_readActs s_X8_clear s_X8_fault s_X11_doAct s_X0_remember s_X5_clear s_X5_add s_X11_cellsWith J35 Q) := by
  refine zs_callV C h_X5_add g_X5_add zy_X5_add zp_3 (show vwCl[5]? = some (RX5, TX5, 2) from rfl) zw_654 zw_655 zs9_X5_add dX11_supper_97 ?_
  refine zs_aload_n C dX11_supper_100 rfl ?_
  refine zs_getR C zp_0 zF11 (j := 1) ⟨by decide, rfl⟩ zw_316 dX11_supper_101 ?_
  refine zs_aload_n C dX11_supper_104 rfl ?_
  refine zs_iconst C dX11_supper_105 (by decide) ?_
  refine zs_callV C h_X11_cellsWith g_X11_cellsWith zy_X11_cellsWith zp_0 (show vwCl[11]? = some (RX11, TX11, 16) from rfl) zw_658 zw_660 zs9_X11_cellsWith dX11_supper_106 ?_
  refine zs_i2l C dX11_supper_109 ?_
  refine zs_callV C h_X5_add g_X5_add zy_X5_add zp_3 (show vwCl[5]? = some (RX5, TX5, 2) from rfl) zw_654 zw_655 zs9_X5_add dX11_supper_110 ?_
  refine zs_iload C dX11_supper_113 ?_
  exact zs_iret C hq dX11_supper_115
def xX11_supper_96 (s_X11_readActs : zq_Sp) (s_X8_clear : zq_Sp) (s_X8_fault : zq_Sp) (s_X11_doAct : zq_Sp) (s_X0_remember : zq_Sp) (s_X5_clear : zq_Sp) (s_X5_add : zq_Sp) (s_X11_cellsWith : zq_Sp) (J35 : zq_P) (Q : zq_Q) (ls : zq_L) (st : List Value) (h : zq_H) : Prop := (zi_push (.long 0) ((xX11_supper_97 s_X11_readActs s_X8_clear s_X8_fault s_X11_doAct s_X0_remember s_X5_clear s_X5_add s_X11_cellsWith J35 Q))) ls st h
theorem kX11_supper_96 {X : zq_X} {d : Nat} (C : zq_C X cX11_supper 5 RX11 d) {d_X11_readActs : Nat} {s_X11_readActs : zq_Sp} (h_X11_readActs : zq_M yX11_readActs cX11_readActs 1 (some .boolean) 1 d_X11_readActs s_X11_readActs) (g_X11_readActs : d_X11_readActs + 1 ≤ d) {d_X8_clear : Nat} {s_X8_clear : zq_Sp} (h_X8_clear : zq_M yX8_clear cX8_clear 1 none 0 d_X8_clear s_X8_clear) (g_X8_clear : d_X8_clear + 1 ≤ d) {d_X8_fault : Nat} {s_X8_fault : zq_Sp} (h_X8_fault : zq_M yX8_fault cX8_fault 1 (some .int) 1 d_X8_fault s_X8_fault) (g_X8_fault : d_X8_fault + 1 ≤ d) {d_X11_doAct : Nat} {s_X11_doAct : zq_Sp} (h_X11_doAct : zq_M yX11_doAct cX11_doAct 3 (some .int) 1 d_X11_doAct s_X11_doAct) (g_X11_doAct : d_X11_doAct + 1 ≤ d) {d_X0_remember : Nat} {s_X0_remember : zq_Sp} (h_X0_remember : zq_M yX0_remember cX0_remember 3 none 0 d_X0_remember s_X0_remember) (g_X0_remember : d_X0_remember + 1 ≤ d) {d_X5_clear : Nat} {s_X5_clear : zq_Sp} (h_X5_clear : zq_M yX5_clear cX5_clear 1 none 0 d_X5_clear s_X5_clear) (g_X5_clear : d_X5_clear + 1 ≤ d) {d_X5_add : Nat} {s_X5_add : zq_Sp} (h_X5_add : zq_M yX5_add cX5_add 3 none 0 d_X5_add s_X5_add) (g_X5_add : d_X5_add + 1 ≤ d) {d_X11_cellsWith : Nat} {s_X11_cellsWith : zq_Sp} (h_X11_cellsWith : zq_M yX11_cellsWith cX11_cellsWith 4 (some .int) 1 d_X11_cellsWith s_X11_cellsWith) (g_X11_cellsWith : d_X11_cellsWith + 1 ≤ d) {J35 : zq_P} (j35 : zq_ok X 5 35 J35) {Q : zq_Q} (hq : zq_R X (some .int) 1 Q) : zq_ok X 5 96 (xX11_supper_96 s_X11_readActs s_X8_clear s_X8_fault s_X11_doAct s_X0_remember s_X5_clear s_X5_add s_X11_cellsWith J35 Q) := by
  refine zs_lconst C dX11_supper_96 (by decide) ?_
  exact kX11_supper_97 C h_X11_readActs g_X11_readActs h_X8_clear g_X8_clear h_X8_fault g_X8_fault h_X11_doAct g_X11_doAct h_X0_remember g_X0_remember h_X5_clear g_X5_clear h_X5_add g_X5_add h_X11_cellsWith g_X11_cellsWith j35 hq
def xX11_supper_92 (s_X11_readActs : zq_Sp) (s_X8_clear : zq_Sp) (s_X8_fault : zq_Sp) (s_X11_doAct : zq_Sp) (s_X0_remember : zq_Sp) (s_X5_clear : zq_Sp) (s_X5_add : zq_Sp) (s_X11_cellsWith : zq_Sp) (J35 : zq_P) (Q : zq_Q) (ls : zq_L) (st : List Value) (h : zq_H) : Prop := (zi_push (.long 1) ((xX11_supper_97 s_X11_readActs s_X8_clear s_X8_fault s_X11_doAct s_X0_remember s_X5_clear s_X5_add s_X11_cellsWith J35 Q))) ls st h
theorem kX11_supper_92 {X : zq_X} {d : Nat} (C : zq_C X cX11_supper 5 RX11 d) {d_X11_readActs : Nat} {s_X11_readActs : zq_Sp} (h_X11_readActs : zq_M yX11_readActs cX11_readActs 1 (some .boolean) 1 d_X11_readActs s_X11_readActs) (g_X11_readActs : d_X11_readActs + 1 ≤ d) {d_X8_clear : Nat} {s_X8_clear : zq_Sp} (h_X8_clear : zq_M yX8_clear cX8_clear 1 none 0 d_X8_clear s_X8_clear) (g_X8_clear : d_X8_clear + 1 ≤ d) {d_X8_fault : Nat} {s_X8_fault : zq_Sp} (h_X8_fault : zq_M yX8_fault cX8_fault 1 (some .int) 1 d_X8_fault s_X8_fault) (g_X8_fault : d_X8_fault + 1 ≤ d) {d_X11_doAct : Nat} {s_X11_doAct : zq_Sp} (h_X11_doAct : zq_M yX11_doAct cX11_doAct 3 (some .int) 1 d_X11_doAct s_X11_doAct) (g_X11_doAct : d_X11_doAct + 1 ≤ d) {d_X0_remember : Nat} {s_X0_remember : zq_Sp} (h_X0_remember : zq_M yX0_remember cX0_remember 3 none 0 d_X0_remember s_X0_remember) (g_X0_remember : d_X0_remember + 1 ≤ d) {d_X5_clear : Nat} {s_X5_clear : zq_Sp} (h_X5_clear : zq_M yX5_clear cX5_clear 1 none 0 d_X5_clear s_X5_clear) (g_X5_clear : d_X5_clear + 1 ≤ d) {d_X5_add : Nat} {s_X5_add : zq_Sp} (h_X5_add : zq_M yX5_add cX5_add 3 none 0 d_X5_add s_X5_add) (g_X5_add : d_X5_add + 1 ≤ d) {d_X11_cellsWith : Nat} {s_X11_cellsWith : zq_Sp} (h_X11_cellsWith : zq_M yX11_cellsWith cX11_cellsWith 4 (some .int) 1 d_X11_cellsWith s_X11_cellsWith) (g_X11_cellsWith : d_X11_cellsWith + 1 ≤ d) {J35 : zq_P} (j35 : zq_ok X 5 35 J35) {Q : zq_Q} (hq : zq_R X (some .int) 1 Q) : zq_ok X 5 92 (xX11_supper_92 s_X11_readActs s_X8_clear s_X8_fault s_X11_doAct s_X0_remember s_X5_clear s_X5_add s_X11_cellsWith J35 Q) := by
  refine zs_lconst C dX11_supper_92 (by decide) ?_
  exact zs_goto C dX11_supper_93 (by decide) (kX11_supper_97 C h_X11_readActs g_X11_readActs h_X8_clear g_X8_clear h_X8_fault g_X8_fault h_X11_doAct g_X11_doAct h_X0_remember g_X0_remember h_X5_clear g_X5_clear h_X5_add g_X5_add h_X11_cellsWith g_X11_cellsWith j35 hq)
def xX11_supper_72 (s_X11_readActs : zq_Sp) (s_X8_clear : zq_Sp) (s_X8_fault : zq_Sp) (s_X11_doAct : zq_Sp) (s_X0_remember : zq_Sp) (s_X5_clear : zq_Sp) (s_X5_add : zq_Sp) (s_X11_cellsWith : zq_Sp) (J35 : zq_P) (Q : zq_Q) (ls : zq_L) (st : List Value) (h : zq_H) : Prop := (zi_aload 0 (zi_getR 0 3 (zi_callV 0 3 s_X5_clear (zi_aload 0 (zi_getR 0 3 (zi_iload 4 (zi_aload 0 (zi_getI 0 15 (zi_if2 (fun x y => y ≤ x) (xX11_supper_96 s_X11_readActs s_X8_clear s_X8_fault s_X11_doAct s_X0_remember s_X5_clear s_X5_add s_X11_cellsWith J35 Q) (xX11_supper_92 s_X11_readActs s_X8_clear s_X8_fault s_X11_doAct s_X0_remember s_X5_clear s_X5_add s_X11_cellsWith J35 Q)))))))))) ls st h
theorem kX11_supper_72 {X : zq_X} {d : Nat} (C : zq_C X cX11_supper 5 RX11 d) {d_X11_readActs : Nat} {s_X11_readActs : zq_Sp} (h_X11_readActs : zq_M yX11_readActs cX11_readActs 1 (some .boolean) 1 d_X11_readActs s_X11_readActs) (g_X11_readActs : d_X11_readActs + 1 ≤ d) {d_X8_clear : Nat} {s_X8_clear : zq_Sp} (h_X8_clear : zq_M yX8_clear cX8_clear 1 none 0 d_X8_clear s_X8_clear) (g_X8_clear : d_X8_clear + 1 ≤ d) {d_X8_fault : Nat} {s_X8_fault : zq_Sp} (h_X8_fault : zq_M yX8_fault cX8_fault 1 (some .int) 1 d_X8_fault s_X8_fault) (g_X8_fault : d_X8_fault + 1 ≤ d) {d_X11_doAct : Nat} {s_X11_doAct : zq_Sp} (h_X11_doAct : zq_M yX11_doAct cX11_doAct 3 (some .int) 1 d_X11_doAct s_X11_doAct) (g_X11_doAct : d_X11_doAct + 1 ≤ d) {d_X0_remember : Nat} {s_X0_remember : zq_Sp} (h_X0_remember : zq_M yX0_remember cX0_remember 3 none 0 d_X0_remember s_X0_remember) (g_X0_remember : d_X0_remember + 1 ≤ d) {d_X5_clear : Nat} {s_X5_clear : zq_Sp} (h_X5_clear : zq_M yX5_clear cX5_clear 1 none 0 d_X5_clear s_X5_clear) (g_X5_clear : d_X5_clear + 1 ≤ d) {d_X5_add : Nat} {s_X5_add : zq_Sp} (h_X5_add : zq_M yX5_add cX5_add 3 none 0 d_X5_add s_X5_add) (g_X5_add : d_X5_add + 1 ≤ d) {d_X11_cellsWith : Nat} {s_X11_cellsWith : zq_Sp} (h_X11_cellsWith : zq_M yX11_cellsWith cX11_cellsWith 4 (some .int) 1 d_X11_cellsWith s_X11_cellsWith) (g_X11_cellsWith : d_X11_cellsWith + 1 ≤ d) {J35 : zq_P} (j35 : zq_ok X 5 35 J35) {Q : zq_Q} (hq : zq_R X (some .int) 1 Q) : zq_ok X 5 72 (xX11_supper_72 s_X11_readActs s_X8_clear s_X8_fault s_X11_doAct s_X0_remember s_X5_clear s_X5_add s_X11_cellsWith J35 Q) := by
  refine zs_aload_n C dX11_supper_72 rfl ?_
  refine zs_getR C zp_0 zF11 (j := 1) ⟨by decide, rfl⟩ zw_316 dX11_supper_73 ?_
  refine zs_callV C h_X5_clear g_X5_clear zy_X5_clear zp_3 (show vwCl[5]? = some (RX5, TX5, 2) from rfl) zw_650 zw_651 zs9_X5_clear dX11_supper_76 ?_
  refine zs_aload_n C dX11_supper_79 rfl ?_
  refine zs_getR C zp_0 zF11 (j := 1) ⟨by decide, rfl⟩ zw_316 dX11_supper_80 ?_
  refine zs_iload C dX11_supper_83 ?_
  refine zs_aload_n C dX11_supper_85 rfl ?_
  refine zs_getI C zp_0 zF11 (j := 15) ⟨by decide, rfl⟩ zw_330 dX11_supper_86 ?_
  exact zs_icmp_ge C dX11_supper_89 (by decide) (kX11_supper_96 C h_X11_readActs g_X11_readActs h_X8_clear g_X8_clear h_X8_fault g_X8_fault h_X11_doAct g_X11_doAct h_X0_remember g_X0_remember h_X5_clear g_X5_clear h_X5_add g_X5_add h_X11_cellsWith g_X11_cellsWith j35 hq) (kX11_supper_92 C h_X11_readActs g_X11_readActs h_X8_clear g_X8_clear h_X8_fault g_X8_fault h_X11_doAct g_X11_doAct h_X0_remember g_X0_remember h_X5_clear g_X5_clear h_X5_add g_X5_add h_X11_cellsWith g_X11_cellsWith j35 hq)
def xX11_supper_64 (s_X11_readActs : zq_Sp) (s_X8_clear : zq_Sp) (s_X8_fault : zq_Sp) (s_X11_doAct : zq_Sp) (s_X0_remember : zq_Sp) (s_X5_clear : zq_Sp) (s_X5_add : zq_Sp) (s_X11_cellsWith : zq_Sp) (J35 : zq_P) (Q : zq_Q) (ls : zq_L) (st : List Value) (h : zq_H) : Prop := (zi_aload 0 (zi_getR 0 12 (zi_lload 2 (zi_callV 1 12 s_X0_remember ((xX11_supper_72 s_X11_readActs s_X8_clear s_X8_fault s_X11_doAct s_X0_remember s_X5_clear s_X5_add s_X11_cellsWith J35 Q)))))) ls st h
theorem kX11_supper_64 {X : zq_X} {d : Nat} (C : zq_C X cX11_supper 5 RX11 d) {d_X11_readActs : Nat} {s_X11_readActs : zq_Sp} (h_X11_readActs : zq_M yX11_readActs cX11_readActs 1 (some .boolean) 1 d_X11_readActs s_X11_readActs) (g_X11_readActs : d_X11_readActs + 1 ≤ d) {d_X8_clear : Nat} {s_X8_clear : zq_Sp} (h_X8_clear : zq_M yX8_clear cX8_clear 1 none 0 d_X8_clear s_X8_clear) (g_X8_clear : d_X8_clear + 1 ≤ d) {d_X8_fault : Nat} {s_X8_fault : zq_Sp} (h_X8_fault : zq_M yX8_fault cX8_fault 1 (some .int) 1 d_X8_fault s_X8_fault) (g_X8_fault : d_X8_fault + 1 ≤ d) {d_X11_doAct : Nat} {s_X11_doAct : zq_Sp} (h_X11_doAct : zq_M yX11_doAct cX11_doAct 3 (some .int) 1 d_X11_doAct s_X11_doAct) (g_X11_doAct : d_X11_doAct + 1 ≤ d) {d_X0_remember : Nat} {s_X0_remember : zq_Sp} (h_X0_remember : zq_M yX0_remember cX0_remember 3 none 0 d_X0_remember s_X0_remember) (g_X0_remember : d_X0_remember + 1 ≤ d) {d_X5_clear : Nat} {s_X5_clear : zq_Sp} (h_X5_clear : zq_M yX5_clear cX5_clear 1 none 0 d_X5_clear s_X5_clear) (g_X5_clear : d_X5_clear + 1 ≤ d) {d_X5_add : Nat} {s_X5_add : zq_Sp} (h_X5_add : zq_M yX5_add cX5_add 3 none 0 d_X5_add s_X5_add) (g_X5_add : d_X5_add + 1 ≤ d) {d_X11_cellsWith : Nat} {s_X11_cellsWith : zq_Sp} (h_X11_cellsWith : zq_M yX11_cellsWith cX11_cellsWith 4 (some .int) 1 d_X11_cellsWith s_X11_cellsWith) (g_X11_cellsWith : d_X11_cellsWith + 1 ≤ d) {J35 : zq_P} (j35 : zq_ok X 5 35 J35) {Q : zq_Q} (hq : zq_R X (some .int) 1 Q) : zq_ok X 5 64 (xX11_supper_64 s_X11_readActs s_X8_clear s_X8_fault s_X11_doAct s_X0_remember s_X5_clear s_X5_add s_X11_cellsWith J35 Q) := by
  refine zs_aload_n C dX11_supper_64 rfl ?_
  refine zs_getR C zp_0 zF11 (j := 4) ⟨by decide, rfl⟩ zw_319 dX11_supper_65 ?_
  refine zs_lload_n C dX11_supper_68 rfl ?_
  refine zs_callV C h_X0_remember g_X0_remember zy_X0_remember zp_12 (show vwCl[0]? = some (RX0, TX0, 5) from rfl) zw_605 zw_606 zs9_X0_remember dX11_supper_69 ?_
  exact kX11_supper_72 C h_X11_readActs g_X11_readActs h_X8_clear g_X8_clear h_X8_fault g_X8_fault h_X11_doAct g_X11_doAct h_X0_remember g_X0_remember h_X5_clear g_X5_clear h_X5_add g_X5_add h_X11_cellsWith g_X11_cellsWith j35 hq
def xX11_supper_59 (s_X11_readActs : zq_Sp) (s_X8_clear : zq_Sp) (s_X8_fault : zq_Sp) (s_X11_doAct : zq_Sp) (s_X0_remember : zq_Sp) (s_X5_clear : zq_Sp) (s_X5_add : zq_Sp) (s_X11_cellsWith : zq_Sp) (J35 : zq_P) (Q : zq_Q) (ls : zq_L) (st : List Value) (h : zq_H) : Prop := (zi_iload 4 (zi_if1 (fun x => x ≤ 0) (xX11_supper_72 s_X11_readActs s_X8_clear s_X8_fault s_X11_doAct s_X0_remember s_X5_clear s_X5_add s_X11_cellsWith J35 Q) (xX11_supper_64 s_X11_readActs s_X8_clear s_X8_fault s_X11_doAct s_X0_remember s_X5_clear s_X5_add s_X11_cellsWith J35 Q))) ls st h
theorem kX11_supper_59 {X : zq_X} {d : Nat} (C : zq_C X cX11_supper 5 RX11 d) {d_X11_readActs : Nat} {s_X11_readActs : zq_Sp} (h_X11_readActs : zq_M yX11_readActs cX11_readActs 1 (some .boolean) 1 d_X11_readActs s_X11_readActs) (g_X11_readActs : d_X11_readActs + 1 ≤ d) {d_X8_clear : Nat} {s_X8_clear : zq_Sp} (h_X8_clear : zq_M yX8_clear cX8_clear 1 none 0 d_X8_clear s_X8_clear) (g_X8_clear : d_X8_clear + 1 ≤ d) {d_X8_fault : Nat} {s_X8_fault : zq_Sp} (h_X8_fault : zq_M yX8_fault cX8_fault 1 (some .int) 1 d_X8_fault s_X8_fault) (g_X8_fault : d_X8_fault + 1 ≤ d) {d_X11_doAct : Nat} {s_X11_doAct : zq_Sp} (h_X11_doAct : zq_M yX11_doAct cX11_doAct 3 (some .int) 1 d_X11_doAct s_X11_doAct) (g_X11_doAct : d_X11_doAct + 1 ≤ d) {d_X0_remember : Nat} {s_X0_remember : zq_Sp} (h_X0_remember : zq_M yX0_remember cX0_remember 3 none 0 d_X0_remember s_X0_remember) (g_X0_remember : d_X0_remember + 1 ≤ d) {d_X5_clear : Nat} {s_X5_clear : zq_Sp} (h_X5_clear : zq_M yX5_clear cX5_clear 1 none 0 d_X5_clear s_X5_clear) (g_X5_clear : d_X5_clear + 1 ≤ d) {d_X5_add : Nat} {s_X5_add : zq_Sp} (h_X5_add : zq_M yX5_add cX5_add 3 none 0 d_X5_add s_X5_add) (g_X5_add : d_X5_add + 1 ≤ d) {d_X11_cellsWith : Nat} {s_X11_cellsWith : zq_Sp} (h_X11_cellsWith : zq_M yX11_cellsWith cX11_cellsWith 4 (some .int) 1 d_X11_cellsWith s_X11_cellsWith) (g_X11_cellsWith : d_X11_cellsWith + 1 ≤ d) {J35 : zq_P} (j35 : zq_ok X 5 35 J35) {Q : zq_Q} (hq : zq_R X (some .int) 1 Q) : zq_ok X 5 59 (xX11_supper_59 s_X11_readActs s_X8_clear s_X8_fault s_X11_doAct s_X0_remember s_X5_clear s_X5_add s_X11_cellsWith J35 Q) := by
  refine zs_iload C dX11_supper_59 ?_
  exact zs_if_le C dX11_supper_61 (by decide) (kX11_supper_72 C h_X11_readActs g_X11_readActs h_X8_clear g_X8_clear h_X8_fault g_X8_fault h_X11_doAct g_X11_doAct h_X0_remember g_X0_remember h_X5_clear g_X5_clear h_X5_add g_X5_add h_X11_cellsWith g_X11_cellsWith j35 hq) (kX11_supper_64 C h_X11_readActs g_X11_readActs h_X8_clear g_X8_clear h_X8_fault g_X8_fault h_X11_doAct g_X11_doAct h_X0_remember g_X0_remember h_X5_clear g_X5_clear h_X5_add g_X5_add h_X11_cellsWith g_X11_cellsWith j35 hq)
def xX11_supper_53 (s_X11_readActs : zq_Sp) (s_X8_clear : zq_Sp) (s_X8_fault : zq_Sp) (s_X11_doAct : zq_Sp) (s_X0_remember : zq_Sp) (s_X5_clear : zq_Sp) (s_X5_add : zq_Sp) (s_X11_cellsWith : zq_Sp) (J35 : zq_P) (Q : zq_Q) (ls : zq_L) (st : List Value) (h : zq_H) : Prop := (zi_iinc 4 1 (J35)) ls st h
theorem kX11_supper_53 {X : zq_X} {d : Nat} (C : zq_C X cX11_supper 5 RX11 d) {d_X11_readActs : Nat} {s_X11_readActs : zq_Sp} (h_X11_readActs : zq_M yX11_readActs cX11_readActs 1 (some .boolean) 1 d_X11_readActs s_X11_readActs) (g_X11_readActs : d_X11_readActs + 1 ≤ d) {d_X8_clear : Nat} {s_X8_clear : zq_Sp} (h_X8_clear : zq_M yX8_clear cX8_clear 1 none 0 d_X8_clear s_X8_clear) (g_X8_clear : d_X8_clear + 1 ≤ d) {d_X8_fault : Nat} {s_X8_fault : zq_Sp} (h_X8_fault : zq_M yX8_fault cX8_fault 1 (some .int) 1 d_X8_fault s_X8_fault) (g_X8_fault : d_X8_fault + 1 ≤ d) {d_X11_doAct : Nat} {s_X11_doAct : zq_Sp} (h_X11_doAct : zq_M yX11_doAct cX11_doAct 3 (some .int) 1 d_X11_doAct s_X11_doAct) (g_X11_doAct : d_X11_doAct + 1 ≤ d) {d_X0_remember : Nat} {s_X0_remember : zq_Sp} (h_X0_remember : zq_M yX0_remember cX0_remember 3 none 0 d_X0_remember s_X0_remember) (g_X0_remember : d_X0_remember + 1 ≤ d) {d_X5_clear : Nat} {s_X5_clear : zq_Sp} (h_X5_clear : zq_M yX5_clear cX5_clear 1 none 0 d_X5_clear s_X5_clear) (g_X5_clear : d_X5_clear + 1 ≤ d) {d_X5_add : Nat} {s_X5_add : zq_Sp} (h_X5_add : zq_M yX5_add cX5_add 3 none 0 d_X5_add s_X5_add) (g_X5_add : d_X5_add + 1 ≤ d) {d_X11_cellsWith : Nat} {s_X11_cellsWith : zq_Sp} (h_X11_cellsWith : zq_M yX11_cellsWith cX11_cellsWith 4 (some .int) 1 d_X11_cellsWith s_X11_cellsWith) (g_X11_cellsWith : d_X11_cellsWith + 1 ≤ d) {J35 : zq_P} (j35 : zq_ok X 5 35 J35) {Q : zq_Q} (hq : zq_R X (some .int) 1 Q) : zq_ok X 5 53 (xX11_supper_53 s_X11_readActs s_X8_clear s_X8_fault s_X11_doAct s_X0_remember s_X5_clear s_X5_add s_X11_cellsWith J35 Q) := by
  refine zs_iinc C dX11_supper_53 (by decide) (by decide) ?_
  exact zs_goto C dX11_supper_56 (by decide) (j35)
def xX11_supper_44 (s_X11_readActs : zq_Sp) (s_X8_clear : zq_Sp) (s_X8_fault : zq_Sp) (s_X11_doAct : zq_Sp) (s_X0_remember : zq_Sp) (s_X5_clear : zq_Sp) (s_X5_add : zq_Sp) (s_X11_cellsWith : zq_Sp) (J35 : zq_P) (Q : zq_Q) (ls : zq_L) (st : List Value) (h : zq_H) : Prop := (zi_aload 0 (zi_iload 4 (zi_callV 1 0 s_X11_doAct (zi_if1 (fun x => x < 0) (xX11_supper_59 s_X11_readActs s_X8_clear s_X8_fault s_X11_doAct s_X0_remember s_X5_clear s_X5_add s_X11_cellsWith J35 Q) (xX11_supper_53 s_X11_readActs s_X8_clear s_X8_fault s_X11_doAct s_X0_remember s_X5_clear s_X5_add s_X11_cellsWith J35 Q))))) ls st h
theorem kX11_supper_44 {X : zq_X} {d : Nat} (C : zq_C X cX11_supper 5 RX11 d) {d_X11_readActs : Nat} {s_X11_readActs : zq_Sp} (h_X11_readActs : zq_M yX11_readActs cX11_readActs 1 (some .boolean) 1 d_X11_readActs s_X11_readActs) (g_X11_readActs : d_X11_readActs + 1 ≤ d) {d_X8_clear : Nat} {s_X8_clear : zq_Sp} (h_X8_clear : zq_M yX8_clear cX8_clear 1 none 0 d_X8_clear s_X8_clear) (g_X8_clear : d_X8_clear + 1 ≤ d) {d_X8_fault : Nat} {s_X8_fault : zq_Sp} (h_X8_fault : zq_M yX8_fault cX8_fault 1 (some .int) 1 d_X8_fault s_X8_fault) (g_X8_fault : d_X8_fault + 1 ≤ d) {d_X11_doAct : Nat} {s_X11_doAct : zq_Sp} (h_X11_doAct : zq_M yX11_doAct cX11_doAct 3 (some .int) 1 d_X11_doAct s_X11_doAct) (g_X11_doAct : d_X11_doAct + 1 ≤ d) {d_X0_remember : Nat} {s_X0_remember : zq_Sp} (h_X0_remember : zq_M yX0_remember cX0_remember 3 none 0 d_X0_remember s_X0_remember) (g_X0_remember : d_X0_remember + 1 ≤ d) {d_X5_clear : Nat} {s_X5_clear : zq_Sp} (h_X5_clear : zq_M yX5_clear cX5_clear 1 none 0 d_X5_clear s_X5_clear) (g_X5_clear : d_X5_clear + 1 ≤ d) {d_X5_add : Nat} {s_X5_add : zq_Sp} (h_X5_add : zq_M yX5_add cX5_add 3 none 0 d_X5_add s_X5_add) (g_X5_add : d_X5_add + 1 ≤ d) {d_X11_cellsWith : Nat} {s_X11_cellsWith : zq_Sp} (h_X11_cellsWith : zq_M yX11_cellsWith cX11_cellsWith 4 (some .int) 1 d_X11_cellsWith s_X11_cellsWith) (g_X11_cellsWith : d_X11_cellsWith + 1 ≤ d) {J35 : zq_P} (j35 : zq_ok X 5 35 J35) {Q : zq_Q} (hq : zq_R X (some .int) 1 Q) : zq_ok X 5 44 (xX11_supper_44 s_X11_readActs s_X8_clear s_X8_fault s_X11_doAct s_X0_remember s_X5_clear s_X5_add s_X11_cellsWith J35 Q) := by
  refine zs_aload_n C dX11_supper_44 rfl ?_
  refine zs_iload C dX11_supper_45 ?_
  refine zs_callV C h_X11_doAct g_X11_doAct zy_X11_doAct zp_0 (show vwCl[11]? = some (RX11, TX11, 16) from rfl) zw_646 zw_648 zs9_X11_doAct dX11_supper_47 ?_
  exact zs_if_lt C dX11_supper_50 (by decide) (kX11_supper_59 C h_X11_readActs g_X11_readActs h_X8_clear g_X8_clear h_X8_fault g_X8_fault h_X11_doAct g_X11_doAct h_X0_remember g_X0_remember h_X5_clear g_X5_clear h_X5_add g_X5_add h_X11_cellsWith g_X11_cellsWith j35 hq) (kX11_supper_53 C h_X11_readActs g_X11_readActs h_X8_clear g_X8_clear h_X8_fault g_X8_fault h_X11_doAct g_X11_doAct h_X0_remember g_X0_remember h_X5_clear g_X5_clear h_X5_add g_X5_add h_X11_cellsWith g_X11_cellsWith j35 hq)
def xX11_supper_35 (s_X11_readActs : zq_Sp) (s_X8_clear : zq_Sp) (s_X8_fault : zq_Sp) (s_X11_doAct : zq_Sp) (s_X0_remember : zq_Sp) (s_X5_clear : zq_Sp) (s_X5_add : zq_Sp) (s_X11_cellsWith : zq_Sp) (J35 : zq_P) (Q : zq_Q) (ls : zq_L) (st : List Value) (h : zq_H) : Prop := (zi_iload 4 (zi_aload 0 (zi_getI 0 15 (zi_if2 (fun x y => y ≤ x) (xX11_supper_59 s_X11_readActs s_X8_clear s_X8_fault s_X11_doAct s_X0_remember s_X5_clear s_X5_add s_X11_cellsWith J35 Q) (xX11_supper_44 s_X11_readActs s_X8_clear s_X8_fault s_X11_doAct s_X0_remember s_X5_clear s_X5_add s_X11_cellsWith J35 Q))))) ls st h
theorem kX11_supper_35 {X : zq_X} {d : Nat} (C : zq_C X cX11_supper 5 RX11 d) {d_X11_readActs : Nat} {s_X11_readActs : zq_Sp} (h_X11_readActs : zq_M yX11_readActs cX11_readActs 1 (some .boolean) 1 d_X11_readActs s_X11_readActs) (g_X11_readActs : d_X11_readActs + 1 ≤ d) {d_X8_clear : Nat} {s_X8_clear : zq_Sp} (h_X8_clear : zq_M yX8_clear cX8_clear 1 none 0 d_X8_clear s_X8_clear) (g_X8_clear : d_X8_clear + 1 ≤ d) {d_X8_fault : Nat} {s_X8_fault : zq_Sp} (h_X8_fault : zq_M yX8_fault cX8_fault 1 (some .int) 1 d_X8_fault s_X8_fault) (g_X8_fault : d_X8_fault + 1 ≤ d) {d_X11_doAct : Nat} {s_X11_doAct : zq_Sp} (h_X11_doAct : zq_M yX11_doAct cX11_doAct 3 (some .int) 1 d_X11_doAct s_X11_doAct) (g_X11_doAct : d_X11_doAct + 1 ≤ d) {d_X0_remember : Nat} {s_X0_remember : zq_Sp} (h_X0_remember : zq_M yX0_remember cX0_remember 3 none 0 d_X0_remember s_X0_remember) (g_X0_remember : d_X0_remember + 1 ≤ d) {d_X5_clear : Nat} {s_X5_clear : zq_Sp} (h_X5_clear : zq_M yX5_clear cX5_clear 1 none 0 d_X5_clear s_X5_clear) (g_X5_clear : d_X5_clear + 1 ≤ d) {d_X5_add : Nat} {s_X5_add : zq_Sp} (h_X5_add : zq_M yX5_add cX5_add 3 none 0 d_X5_add s_X5_add) (g_X5_add : d_X5_add + 1 ≤ d) {d_X11_cellsWith : Nat} {s_X11_cellsWith : zq_Sp} (h_X11_cellsWith : zq_M yX11_cellsWith cX11_cellsWith 4 (some .int) 1 d_X11_cellsWith s_X11_cellsWith) (g_X11_cellsWith : d_X11_cellsWith + 1 ≤ d) {J35 : zq_P} (j35 : zq_ok X 5 35 J35) {Q : zq_Q} (hq : zq_R X (some .int) 1 Q) : zq_ok X 5 35 (xX11_supper_35 s_X11_readActs s_X8_clear s_X8_fault s_X11_doAct s_X0_remember s_X5_clear s_X5_add s_X11_cellsWith J35 Q) := by
  refine zs_iload C dX11_supper_35 ?_
  refine zs_aload_n C dX11_supper_37 rfl ?_
  refine zs_getI C zp_0 zF11 (j := 15) ⟨by decide, rfl⟩ zw_330 dX11_supper_38 ?_
  exact zs_icmp_ge C dX11_supper_41 (by decide) (kX11_supper_59 C h_X11_readActs g_X11_readActs h_X8_clear g_X8_clear h_X8_fault g_X8_fault h_X11_doAct g_X11_doAct h_X0_remember g_X0_remember h_X5_clear g_X5_clear h_X5_add g_X5_add h_X11_cellsWith g_X11_cellsWith j35 hq) (kX11_supper_44 C h_X11_readActs g_X11_readActs h_X8_clear g_X8_clear h_X8_fault g_X8_fault h_X11_doAct g_X11_doAct h_X0_remember g_X0_remember h_X5_clear g_X5_clear h_X5_add g_X5_add h_X11_cellsWith g_X11_cellsWith j35 hq)
def xX11_supper_24 (s_X11_readActs : zq_Sp) (s_X8_clear : zq_Sp) (s_X8_fault : zq_Sp) (s_X11_doAct : zq_Sp) (s_X0_remember : zq_Sp) (s_X5_clear : zq_Sp) (s_X5_add : zq_Sp) (s_X11_cellsWith : zq_Sp) (J35 : zq_P) (Q : zq_Q) (ls : zq_L) (st : List Value) (h : zq_H) : Prop := (zi_aload 0 (zi_getR 0 12 (zi_getL 12 2 (zi_lstore 2 (zi_push (.int 0) (zi_istore 4 (J35))))))) ls st h
theorem kX11_supper_24 {X : zq_X} {d : Nat} (C : zq_C X cX11_supper 5 RX11 d) {d_X11_readActs : Nat} {s_X11_readActs : zq_Sp} (h_X11_readActs : zq_M yX11_readActs cX11_readActs 1 (some .boolean) 1 d_X11_readActs s_X11_readActs) (g_X11_readActs : d_X11_readActs + 1 ≤ d) {d_X8_clear : Nat} {s_X8_clear : zq_Sp} (h_X8_clear : zq_M yX8_clear cX8_clear 1 none 0 d_X8_clear s_X8_clear) (g_X8_clear : d_X8_clear + 1 ≤ d) {d_X8_fault : Nat} {s_X8_fault : zq_Sp} (h_X8_fault : zq_M yX8_fault cX8_fault 1 (some .int) 1 d_X8_fault s_X8_fault) (g_X8_fault : d_X8_fault + 1 ≤ d) {d_X11_doAct : Nat} {s_X11_doAct : zq_Sp} (h_X11_doAct : zq_M yX11_doAct cX11_doAct 3 (some .int) 1 d_X11_doAct s_X11_doAct) (g_X11_doAct : d_X11_doAct + 1 ≤ d) {d_X0_remember : Nat} {s_X0_remember : zq_Sp} (h_X0_remember : zq_M yX0_remember cX0_remember 3 none 0 d_X0_remember s_X0_remember) (g_X0_remember : d_X0_remember + 1 ≤ d) {d_X5_clear : Nat} {s_X5_clear : zq_Sp} (h_X5_clear : zq_M yX5_clear cX5_clear 1 none 0 d_X5_clear s_X5_clear) (g_X5_clear : d_X5_clear + 1 ≤ d) {d_X5_add : Nat} {s_X5_add : zq_Sp} (h_X5_add : zq_M yX5_add cX5_add 3 none 0 d_X5_add s_X5_add) (g_X5_add : d_X5_add + 1 ≤ d) {d_X11_cellsWith : Nat} {s_X11_cellsWith : zq_Sp} (h_X11_cellsWith : zq_M yX11_cellsWith cX11_cellsWith 4 (some .int) 1 d_X11_cellsWith s_X11_cellsWith) (g_X11_cellsWith : d_X11_cellsWith + 1 ≤ d) {J35 : zq_P} (j35 : zq_ok X 5 35 J35) {Q : zq_Q} (hq : zq_R X (some .int) 1 Q) : zq_ok X 5 24 (xX11_supper_24 s_X11_readActs s_X8_clear s_X8_fault s_X11_doAct s_X0_remember s_X5_clear s_X5_add s_X11_cellsWith J35 Q) := by
  refine zs_aload_n C dX11_supper_24 rfl ?_
  refine zs_getR C zp_0 zF11 (j := 4) ⟨by decide, rfl⟩ zw_319 dX11_supper_25 ?_
  refine zs_getLN C zp_12 zF0 (j := 2) ⟨by decide, rfl⟩ zw_123 dX11_supper_28 ?_
  refine zs_lstore_n C dX11_supper_31 rfl (by decide) ?_
  refine zs_iconst C dX11_supper_32 (by decide) ?_
  refine zs_istore C dX11_supper_33 (by decide) ?_
  exact j35
def xX11_supper_16 (s_X11_readActs : zq_Sp) (s_X8_clear : zq_Sp) (s_X8_fault : zq_Sp) (s_X11_doAct : zq_Sp) (s_X0_remember : zq_Sp) (s_X5_clear : zq_Sp) (s_X5_add : zq_Sp) (s_X11_cellsWith : zq_Sp) (J35 : zq_P) (Q : zq_Q) (ls : zq_L) (st : List Value) (h : zq_H) : Prop := (zi_aload 0 (zi_getR 0 1 (zi_callV 0 1 s_X8_fault (zi_iret Q)))) ls st h
theorem kX11_supper_16 {X : zq_X} {d : Nat} (C : zq_C X cX11_supper 5 RX11 d) {d_X11_readActs : Nat} {s_X11_readActs : zq_Sp} (h_X11_readActs : zq_M yX11_readActs cX11_readActs 1 (some .boolean) 1 d_X11_readActs s_X11_readActs) (g_X11_readActs : d_X11_readActs + 1 ≤ d) {d_X8_clear : Nat} {s_X8_clear : zq_Sp} (h_X8_clear : zq_M yX8_clear cX8_clear 1 none 0 d_X8_clear s_X8_clear) (g_X8_clear : d_X8_clear + 1 ≤ d) {d_X8_fault : Nat} {s_X8_fault : zq_Sp} (h_X8_fault : zq_M yX8_fault cX8_fault 1 (some .int) 1 d_X8_fault s_X8_fault) (g_X8_fault : d_X8_fault + 1 ≤ d) {d_X11_doAct : Nat} {s_X11_doAct : zq_Sp} (h_X11_doAct : zq_M yX11_doAct cX11_doAct 3 (some .int) 1 d_X11_doAct s_X11_doAct) (g_X11_doAct : d_X11_doAct + 1 ≤ d) {d_X0_remember : Nat} {s_X0_remember : zq_Sp} (h_X0_remember : zq_M yX0_remember cX0_remember 3 none 0 d_X0_remember s_X0_remember) (g_X0_remember : d_X0_remember + 1 ≤ d) {d_X5_clear : Nat} {s_X5_clear : zq_Sp} (h_X5_clear : zq_M yX5_clear cX5_clear 1 none 0 d_X5_clear s_X5_clear) (g_X5_clear : d_X5_clear + 1 ≤ d) {d_X5_add : Nat} {s_X5_add : zq_Sp} (h_X5_add : zq_M yX5_add cX5_add 3 none 0 d_X5_add s_X5_add) (g_X5_add : d_X5_add + 1 ≤ d) {d_X11_cellsWith : Nat} {s_X11_cellsWith : zq_Sp} (h_X11_cellsWith : zq_M yX11_cellsWith cX11_cellsWith 4 (some .int) 1 d_X11_cellsWith s_X11_cellsWith) (g_X11_cellsWith : d_X11_cellsWith + 1 ≤ d) {J35 : zq_P} (j35 : zq_ok X 5 35 J35) {Q : zq_Q} (hq : zq_R X (some .int) 1 Q) : zq_ok X 5 16 (xX11_supper_16 s_X11_readActs s_X8_clear s_X8_fault s_X11_doAct s_X0_remember s_X5_clear s_X5_add s_X11_cellsWith J35 Q) := by
  refine zs_aload_n C dX11_supper_16 rfl ?_
  refine zs_getR C zp_0 zF11 (j := 0) ⟨by decide, rfl⟩ zw_315 dX11_supper_17 ?_
  refine zs_callV C h_X8_fault g_X8_fault zy_X8_fault zp_1 (show vwCl[8]? = some (RX8, TX8, 4) from rfl) zw_419 zw_420 zs9_X8_fault dX11_supper_20 ?_
  exact zs_iret C hq dX11_supper_23
def xX11_supper_0 (s_X11_readActs : zq_Sp) (s_X8_clear : zq_Sp) (s_X8_fault : zq_Sp) (s_X11_doAct : zq_Sp) (s_X0_remember : zq_Sp) (s_X5_clear : zq_Sp) (s_X5_add : zq_Sp) (s_X11_cellsWith : zq_Sp) (J35 : zq_P) (Q : zq_Q) (ls : zq_L) (st : List Value) (h : zq_H) : Prop := (zi_aload 0 (zi_callV 0 0 s_X11_readActs (zi_istore 1 (zi_aload 0 (zi_getR 0 1 (zi_callV 0 1 s_X8_clear (zi_iload 1 (zi_if1 (fun x => x = 0) (xX11_supper_16 s_X11_readActs s_X8_clear s_X8_fault s_X11_doAct s_X0_remember s_X5_clear s_X5_add s_X11_cellsWith J35 Q) (xX11_supper_24 s_X11_readActs s_X8_clear s_X8_fault s_X11_doAct s_X0_remember s_X5_clear s_X5_add s_X11_cellsWith J35 Q))))))))) ls st h
theorem kX11_supper_0 {X : zq_X} {d : Nat} (C : zq_C X cX11_supper 5 RX11 d) {d_X11_readActs : Nat} {s_X11_readActs : zq_Sp} (h_X11_readActs : zq_M yX11_readActs cX11_readActs 1 (some .boolean) 1 d_X11_readActs s_X11_readActs) (g_X11_readActs : d_X11_readActs + 1 ≤ d) {d_X8_clear : Nat} {s_X8_clear : zq_Sp} (h_X8_clear : zq_M yX8_clear cX8_clear 1 none 0 d_X8_clear s_X8_clear) (g_X8_clear : d_X8_clear + 1 ≤ d) {d_X8_fault : Nat} {s_X8_fault : zq_Sp} (h_X8_fault : zq_M yX8_fault cX8_fault 1 (some .int) 1 d_X8_fault s_X8_fault) (g_X8_fault : d_X8_fault + 1 ≤ d) {d_X11_doAct : Nat} {s_X11_doAct : zq_Sp} (h_X11_doAct : zq_M yX11_doAct cX11_doAct 3 (some .int) 1 d_X11_doAct s_X11_doAct) (g_X11_doAct : d_X11_doAct + 1 ≤ d) {d_X0_remember : Nat} {s_X0_remember : zq_Sp} (h_X0_remember : zq_M yX0_remember cX0_remember 3 none 0 d_X0_remember s_X0_remember) (g_X0_remember : d_X0_remember + 1 ≤ d) {d_X5_clear : Nat} {s_X5_clear : zq_Sp} (h_X5_clear : zq_M yX5_clear cX5_clear 1 none 0 d_X5_clear s_X5_clear) (g_X5_clear : d_X5_clear + 1 ≤ d) {d_X5_add : Nat} {s_X5_add : zq_Sp} (h_X5_add : zq_M yX5_add cX5_add 3 none 0 d_X5_add s_X5_add) (g_X5_add : d_X5_add + 1 ≤ d) {d_X11_cellsWith : Nat} {s_X11_cellsWith : zq_Sp} (h_X11_cellsWith : zq_M yX11_cellsWith cX11_cellsWith 4 (some .int) 1 d_X11_cellsWith s_X11_cellsWith) (g_X11_cellsWith : d_X11_cellsWith + 1 ≤ d) {J35 : zq_P} (j35 : zq_ok X 5 35 J35) {Q : zq_Q} (hq : zq_R X (some .int) 1 Q) : zq_ok X 5 0 (xX11_supper_0 s_X11_readActs s_X8_clear s_X8_fault s_X11_doAct s_X0_remember s_X5_clear s_X5_add s_X11_cellsWith J35 Q) := by
  refine zs_aload_n C dX11_supper_0 rfl ?_
  refine zs_callV C h_X11_readActs g_X11_readActs zy_X11_readActs zp_0 (show vwCl[11]? = some (RX11, TX11, 16) from rfl) zw_632 zw_634 zs9_X11_readActs dX11_supper_1 ?_
  refine zs_istore_n C dX11_supper_4 rfl (by decide) ?_
  refine zs_aload_n C dX11_supper_5 rfl ?_
  refine zs_getR C zp_0 zF11 (j := 0) ⟨by decide, rfl⟩ zw_315 dX11_supper_6 ?_
  refine zs_callV C h_X8_clear g_X8_clear zy_X8_clear zp_1 (show vwCl[8]? = some (RX8, TX8, 4) from rfl) zw_415 zw_416 zs9_X8_clear dX11_supper_9 ?_
  refine zs_iload_n C dX11_supper_12 rfl ?_
  exact zs_if_ne C dX11_supper_13 (by decide) (kX11_supper_24 C h_X11_readActs g_X11_readActs h_X8_clear g_X8_clear h_X8_fault g_X8_fault h_X11_doAct g_X11_doAct h_X0_remember g_X0_remember h_X5_clear g_X5_clear h_X5_add g_X5_add h_X11_cellsWith g_X11_cellsWith j35 hq) (kX11_supper_16 C h_X11_readActs g_X11_readActs h_X8_clear g_X8_clear h_X8_fault g_X8_fault h_X11_doAct g_X11_doAct h_X0_remember g_X0_remember h_X5_clear g_X5_clear h_X5_add g_X5_add h_X11_cellsWith g_X11_cellsWith j35 hq)
theorem mX11_supper {d : Nat} {spec : zq_Sp} {σ35 : Type} {d_X11_readActs : Nat} {s_X11_readActs : zq_Sp} (h_X11_readActs : zq_M yX11_readActs cX11_readActs 1 (some .boolean) 1 d_X11_readActs s_X11_readActs) (g_X11_readActs : d_X11_readActs + 1 ≤ d) {d_X8_clear : Nat} {s_X8_clear : zq_Sp} (h_X8_clear : zq_M yX8_clear cX8_clear 1 none 0 d_X8_clear s_X8_clear) (g_X8_clear : d_X8_clear + 1 ≤ d) {d_X8_fault : Nat} {s_X8_fault : zq_Sp} (h_X8_fault : zq_M yX8_fault cX8_fault 1 (some .int) 1 d_X8_fault s_X8_fault) (g_X8_fault : d_X8_fault + 1 ≤ d) {d_X11_doAct : Nat} {s_X11_doAct : zq_Sp} (h_X11_doAct : zq_M yX11_doAct cX11_doAct 3 (some .int) 1 d_X11_doAct s_X11_doAct) (g_X11_doAct : d_X11_doAct + 1 ≤ d) {d_X0_remember : Nat} {s_X0_remember : zq_Sp} (h_X0_remember : zq_M yX0_remember cX0_remember 3 none 0 d_X0_remember s_X0_remember) (g_X0_remember : d_X0_remember + 1 ≤ d) {d_X5_clear : Nat} {s_X5_clear : zq_Sp} (h_X5_clear : zq_M yX5_clear cX5_clear 1 none 0 d_X5_clear s_X5_clear) (g_X5_clear : d_X5_clear + 1 ≤ d) {d_X5_add : Nat} {s_X5_add : zq_Sp} (h_X5_add : zq_M yX5_add cX5_add 3 none 0 d_X5_add s_X5_add) (g_X5_add : d_X5_add + 1 ≤ d) {d_X11_cellsWith : Nat} {s_X11_cellsWith : zq_Sp} (h_X11_cellsWith : zq_M yX11_cellsWith cX11_cellsWith 4 (some .int) 1 d_X11_cellsWith s_X11_cellsWith) (g_X11_cellsWith : d_X11_cellsWith + 1 ≤ d) (μ35 : σ35 → Nat) (I35 : zq_Q → σ35 → zq_P) (v : ∀ args h Q, spec args h Q → (zq_a args).length ≤ 5 ∧ xX11_supper_0 s_X11_readActs s_X8_clear s_X8_fault s_X11_doAct s_X0_remember s_X5_clear s_X5_add s_X11_cellsWith (fun ls st h => ∃ b, I35 Q b ls st h) Q (zq_l0 5 args) [] h) (v35 : ∀ Q a ls st h, I35 Q a ls st h → xX11_supper_35 s_X11_readActs s_X8_clear s_X8_fault s_X11_doAct s_X0_remember s_X5_clear s_X5_add s_X11_cellsWith (fun ls st h => ∃ b, μ35 b < μ35 a ∧ I35 Q b ls st h) Q ls st h) : zq_M yX11_supper cX11_supper 5 (some .int) 1 d spec := by
  refine zq_met (by decide +kernel) (by decide) (fun X Q args h C hq hs => ⟨(v args h Q hs).1, _, ?_, (v args h Q hs).2⟩)
  have hl := zq_loop1 (X := X) (nL := 5) (pc1 := 35) μ35 (I35 Q) (fun J35 => xX11_supper_35 s_X11_readActs s_X8_clear s_X8_fault s_X11_doAct s_X0_remember s_X5_clear s_X5_add s_X11_cellsWith J35 Q) (fun j35 => kX11_supper_35 C h_X11_readActs g_X11_readActs h_X8_clear g_X8_clear h_X8_fault g_X8_fault h_X11_doAct g_X11_doAct h_X0_remember g_X0_remember h_X5_clear g_X5_clear h_X5_add g_X5_add h_X11_cellsWith g_X11_cellsWith j35 hq) (v35 Q)
  exact kX11_supper_0 C h_X11_readActs g_X11_readActs h_X8_clear g_X8_clear h_X8_fault g_X8_fault h_X11_doAct g_X11_doAct h_X0_remember g_X0_remember h_X5_clear g_X5_clear h_X5_add g_X5_add h_X11_cellsWith g_X11_cellsWith hl hq
/-! ToOneCrumb.undo()I -/
theorem dX11_undo_0 : decode cX11_undo 0 = .ok (.aload_n 0, 1) := by decide +kernel
theorem dX11_undo_1 : decode cX11_undo 1 = .ok (.getfield 40, 3) := by decide +kernel
theorem dX11_undo_4 : decode cX11_undo 4 = .ok (.invokevirtual 240, 3) := by decide +kernel
theorem dX11_undo_7 : decode cX11_undo 7 = .ok (.ireturn, 1) := by decide +kernel
def xX11_undo_0 (s_X0_stepBack : zq_Sp) (Q : zq_Q) (ls : zq_L) (st : List Value) (h : zq_H) : Prop := (zi_aload 0 (zi_getR 0 12 (zi_callV 0 12 s_X0_stepBack (zi_iret Q)))) ls st h
theorem kX11_undo_0 {X : zq_X} {d : Nat} (C : zq_C X cX11_undo 1 RX11 d) {d_X0_stepBack : Nat} {s_X0_stepBack : zq_Sp} (h_X0_stepBack : zq_M yX0_stepBack cX0_stepBack 1 (some .int) 1 d_X0_stepBack s_X0_stepBack) (g_X0_stepBack : d_X0_stepBack + 1 ≤ d) {Q : zq_Q} (hq : zq_R X (some .int) 1 Q) : zq_ok X 1 0 (xX11_undo_0 s_X0_stepBack Q) := by
  refine zs_aload_n C dX11_undo_0 rfl ?_
  refine zs_getR C zp_0 zF11 (j := 4) ⟨by decide, rfl⟩ zw_319 dX11_undo_1 ?_
  refine zs_callV C h_X0_stepBack g_X0_stepBack zy_X0_stepBack zp_12 (show vwCl[0]? = some (RX0, TX0, 5) from rfl) zw_666 zw_667 zs9_X0_stepBack dX11_undo_4 ?_
  exact zs_iret C hq dX11_undo_7
theorem mX11_undo {d : Nat} {spec : zq_Sp} {d_X0_stepBack : Nat} {s_X0_stepBack : zq_Sp} (h_X0_stepBack : zq_M yX0_stepBack cX0_stepBack 1 (some .int) 1 d_X0_stepBack s_X0_stepBack) (g_X0_stepBack : d_X0_stepBack + 1 ≤ d) (v : ∀ args h Q, spec args h Q → (zq_a args).length ≤ 1 ∧ xX11_undo_0 s_X0_stepBack Q (zq_l0 1 args) [] h) : zq_M yX11_undo cX11_undo 1 (some .int) 1 d spec := by
  refine zq_met (by decide +kernel) (by decide) (fun X Q args h C hq hs => ⟨(v args h Q hs).1, _, ?_, (v args h Q hs).2⟩)
  exact kX11_undo_0 C h_X0_stepBack g_X0_stepBack hq
/-! ToOneCrumb.seen(II)I -/
theorem dX11_seen_0 : decode cX11_seen 0 = .ok (.aload_n 0, 1) := by decide +kernel
theorem dX11_seen_1 : decode cX11_seen 1 = .ok (.iload_n 1, 1) := by decide +kernel
theorem dX11_seen_2 : decode cX11_seen 2 = .ok (.invokevirtual 171, 3) := by decide +kernel
theorem dX11_seen_5 : decode cX11_seen 5 = .ok (.ifCond .eq 20, 3) := by decide +kernel
theorem dX11_seen_8 : decode cX11_seen 8 = .ok (.aload_n 0, 1) := by decide +kernel
theorem dX11_seen_9 : decode cX11_seen 9 = .ok (.iload_n 2, 1) := by decide +kernel
theorem dX11_seen_10 : decode cX11_seen 10 = .ok (.invokevirtual 171, 3) := by decide +kernel
theorem dX11_seen_13 : decode cX11_seen 13 = .ok (.ifCond .eq 12, 3) := by decide +kernel
theorem dX11_seen_16 : decode cX11_seen 16 = .ok (.aload_n 0, 1) := by decide +kernel
theorem dX11_seen_17 : decode cX11_seen 17 = .ok (.iload_n 1, 1) := by decide +kernel
theorem dX11_seen_18 : decode cX11_seen 18 = .ok (.iload_n 2, 1) := by decide +kernel
theorem dX11_seen_19 : decode cX11_seen 19 = .ok (.invokevirtual 182, 3) := by decide +kernel
theorem dX11_seen_22 : decode cX11_seen 22 = .ok (.goto 4, 3) := by decide +kernel
theorem dX11_seen_25 : decode cX11_seen 25 = .ok (.iconst (-1), 1) := by decide +kernel
theorem dX11_seen_26 : decode cX11_seen 26 = .ok (.ireturn, 1) := by decide +kernel
def xX11_seen_26 (s_X11_isGuest : zq_Sp) (s_X11_worthHeld : zq_Sp) (Q : zq_Q) (ls : zq_L) (st : List Value) (h : zq_H) : Prop := (zi_iret Q) ls st h
theorem kX11_seen_26 {X : zq_X} {d : Nat} (C : zq_C X cX11_seen 3 RX11 d) {d_X11_isGuest : Nat} {s_X11_isGuest : zq_Sp} (h_X11_isGuest : zq_M yX11_isGuest cX11_isGuest 2 (some .boolean) 1 d_X11_isGuest s_X11_isGuest) (g_X11_isGuest : d_X11_isGuest + 1 ≤ d) {d_X11_worthHeld : Nat} {s_X11_worthHeld : zq_Sp} (h_X11_worthHeld : zq_M yX11_worthHeld cX11_worthHeld 5 (some .int) 1 d_X11_worthHeld s_X11_worthHeld) (g_X11_worthHeld : d_X11_worthHeld + 1 ≤ d) {Q : zq_Q} (hq : zq_R X (some .int) 1 Q) : zq_ok X 3 26 (xX11_seen_26 s_X11_isGuest s_X11_worthHeld Q) := by
  exact zs_iret C hq dX11_seen_26
def xX11_seen_25 (s_X11_isGuest : zq_Sp) (s_X11_worthHeld : zq_Sp) (Q : zq_Q) (ls : zq_L) (st : List Value) (h : zq_H) : Prop := (zi_push (.int (-1)) ((xX11_seen_26 s_X11_isGuest s_X11_worthHeld Q))) ls st h
theorem kX11_seen_25 {X : zq_X} {d : Nat} (C : zq_C X cX11_seen 3 RX11 d) {d_X11_isGuest : Nat} {s_X11_isGuest : zq_Sp} (h_X11_isGuest : zq_M yX11_isGuest cX11_isGuest 2 (some .boolean) 1 d_X11_isGuest s_X11_isGuest) (g_X11_isGuest : d_X11_isGuest + 1 ≤ d) {d_X11_worthHeld : Nat} {s_X11_worthHeld : zq_Sp} (h_X11_worthHeld : zq_M yX11_worthHeld cX11_worthHeld 5 (some .int) 1 d_X11_worthHeld s_X11_worthHeld) (g_X11_worthHeld : d_X11_worthHeld + 1 ≤ d) {Q : zq_Q} (hq : zq_R X (some .int) 1 Q) : zq_ok X 3 25 (xX11_seen_25 s_X11_isGuest s_X11_worthHeld Q) := by
  refine zs_iconst C dX11_seen_25 (by decide) ?_
  exact kX11_seen_26 C h_X11_isGuest g_X11_isGuest h_X11_worthHeld g_X11_worthHeld hq
def xX11_seen_16 (s_X11_isGuest : zq_Sp) (s_X11_worthHeld : zq_Sp) (Q : zq_Q) (ls : zq_L) (st : List Value) (h : zq_H) : Prop := (zi_aload 0 (zi_iload 1 (zi_iload 2 (zi_callV 2 0 s_X11_worthHeld ((xX11_seen_26 s_X11_isGuest s_X11_worthHeld Q)))))) ls st h
theorem kX11_seen_16 {X : zq_X} {d : Nat} (C : zq_C X cX11_seen 3 RX11 d) {d_X11_isGuest : Nat} {s_X11_isGuest : zq_Sp} (h_X11_isGuest : zq_M yX11_isGuest cX11_isGuest 2 (some .boolean) 1 d_X11_isGuest s_X11_isGuest) (g_X11_isGuest : d_X11_isGuest + 1 ≤ d) {d_X11_worthHeld : Nat} {s_X11_worthHeld : zq_Sp} (h_X11_worthHeld : zq_M yX11_worthHeld cX11_worthHeld 5 (some .int) 1 d_X11_worthHeld s_X11_worthHeld) (g_X11_worthHeld : d_X11_worthHeld + 1 ≤ d) {Q : zq_Q} (hq : zq_R X (some .int) 1 Q) : zq_ok X 3 16 (xX11_seen_16 s_X11_isGuest s_X11_worthHeld Q) := by
  refine zs_aload_n C dX11_seen_16 rfl ?_
  refine zs_iload_n C dX11_seen_17 rfl ?_
  refine zs_iload_n C dX11_seen_18 rfl ?_
  refine zs_callV C h_X11_worthHeld g_X11_worthHeld zy_X11_worthHeld zp_0 (show vwCl[11]? = some (RX11, TX11, 16) from rfl) zw_674 zw_676 zs9_X11_worthHeld dX11_seen_19 ?_
  exact zs_goto C dX11_seen_22 (by decide) (kX11_seen_26 C h_X11_isGuest g_X11_isGuest h_X11_worthHeld g_X11_worthHeld hq)
def xX11_seen_8 (s_X11_isGuest : zq_Sp) (s_X11_worthHeld : zq_Sp) (Q : zq_Q) (ls : zq_L) (st : List Value) (h : zq_H) : Prop := (zi_aload 0 (zi_iload 2 (zi_callV 1 0 s_X11_isGuest (zi_if1 (fun x => x = 0) (xX11_seen_25 s_X11_isGuest s_X11_worthHeld Q) (xX11_seen_16 s_X11_isGuest s_X11_worthHeld Q))))) ls st h
theorem kX11_seen_8 {X : zq_X} {d : Nat} (C : zq_C X cX11_seen 3 RX11 d) {d_X11_isGuest : Nat} {s_X11_isGuest : zq_Sp} (h_X11_isGuest : zq_M yX11_isGuest cX11_isGuest 2 (some .boolean) 1 d_X11_isGuest s_X11_isGuest) (g_X11_isGuest : d_X11_isGuest + 1 ≤ d) {d_X11_worthHeld : Nat} {s_X11_worthHeld : zq_Sp} (h_X11_worthHeld : zq_M yX11_worthHeld cX11_worthHeld 5 (some .int) 1 d_X11_worthHeld s_X11_worthHeld) (g_X11_worthHeld : d_X11_worthHeld + 1 ≤ d) {Q : zq_Q} (hq : zq_R X (some .int) 1 Q) : zq_ok X 3 8 (xX11_seen_8 s_X11_isGuest s_X11_worthHeld Q) := by
  refine zs_aload_n C dX11_seen_8 rfl ?_
  refine zs_iload_n C dX11_seen_9 rfl ?_
  refine zs_callV C h_X11_isGuest g_X11_isGuest zy_X11_isGuest zp_0 (show vwCl[11]? = some (RX11, TX11, 16) from rfl) zw_546 zw_548 zs9_X11_isGuest dX11_seen_10 ?_
  exact zs_if_eq C dX11_seen_13 (by decide) (kX11_seen_25 C h_X11_isGuest g_X11_isGuest h_X11_worthHeld g_X11_worthHeld hq) (kX11_seen_16 C h_X11_isGuest g_X11_isGuest h_X11_worthHeld g_X11_worthHeld hq)
def xX11_seen_0 (s_X11_isGuest : zq_Sp) (s_X11_worthHeld : zq_Sp) (Q : zq_Q) (ls : zq_L) (st : List Value) (h : zq_H) : Prop := (zi_aload 0 (zi_iload 1 (zi_callV 1 0 s_X11_isGuest (zi_if1 (fun x => x = 0) (xX11_seen_25 s_X11_isGuest s_X11_worthHeld Q) (xX11_seen_8 s_X11_isGuest s_X11_worthHeld Q))))) ls st h
theorem kX11_seen_0 {X : zq_X} {d : Nat} (C : zq_C X cX11_seen 3 RX11 d) {d_X11_isGuest : Nat} {s_X11_isGuest : zq_Sp} (h_X11_isGuest : zq_M yX11_isGuest cX11_isGuest 2 (some .boolean) 1 d_X11_isGuest s_X11_isGuest) (g_X11_isGuest : d_X11_isGuest + 1 ≤ d) {d_X11_worthHeld : Nat} {s_X11_worthHeld : zq_Sp} (h_X11_worthHeld : zq_M yX11_worthHeld cX11_worthHeld 5 (some .int) 1 d_X11_worthHeld s_X11_worthHeld) (g_X11_worthHeld : d_X11_worthHeld + 1 ≤ d) {Q : zq_Q} (hq : zq_R X (some .int) 1 Q) : zq_ok X 3 0 (xX11_seen_0 s_X11_isGuest s_X11_worthHeld Q) := by
  refine zs_aload_n C dX11_seen_0 rfl ?_
  refine zs_iload_n C dX11_seen_1 rfl ?_
  refine zs_callV C h_X11_isGuest g_X11_isGuest zy_X11_isGuest zp_0 (show vwCl[11]? = some (RX11, TX11, 16) from rfl) zw_546 zw_548 zs9_X11_isGuest dX11_seen_2 ?_
  exact zs_if_eq C dX11_seen_5 (by decide) (kX11_seen_25 C h_X11_isGuest g_X11_isGuest h_X11_worthHeld g_X11_worthHeld hq) (kX11_seen_8 C h_X11_isGuest g_X11_isGuest h_X11_worthHeld g_X11_worthHeld hq)
theorem mX11_seen {d : Nat} {spec : zq_Sp} {d_X11_isGuest : Nat} {s_X11_isGuest : zq_Sp} (h_X11_isGuest : zq_M yX11_isGuest cX11_isGuest 2 (some .boolean) 1 d_X11_isGuest s_X11_isGuest) (g_X11_isGuest : d_X11_isGuest + 1 ≤ d) {d_X11_worthHeld : Nat} {s_X11_worthHeld : zq_Sp} (h_X11_worthHeld : zq_M yX11_worthHeld cX11_worthHeld 5 (some .int) 1 d_X11_worthHeld s_X11_worthHeld) (g_X11_worthHeld : d_X11_worthHeld + 1 ≤ d) (v : ∀ args h Q, spec args h Q → (zq_a args).length ≤ 3 ∧ xX11_seen_0 s_X11_isGuest s_X11_worthHeld Q (zq_l0 3 args) [] h) : zq_M yX11_seen cX11_seen 3 (some .int) 1 d spec := by
  refine zq_met (by decide +kernel) (by decide) (fun X Q args h C hq hs => ⟨(v args h Q hs).1, _, ?_, (v args h Q hs).2⟩)
  exact kX11_seen_0 C h_X11_isGuest g_X11_isGuest h_X11_worthHeld g_X11_worthHeld hq
/-! ToOneCrumb.envy()I -/
theorem dX11_envy_0 : decode cX11_envy 0 = .ok (.iconst 0, 1) := by decide +kernel
theorem dX11_envy_1 : decode cX11_envy 1 = .ok (.istore_n 1, 1) := by decide +kernel
theorem dX11_envy_2 : decode cX11_envy 2 = .ok (.aload_n 0, 1) := by decide +kernel
theorem dX11_envy_3 : decode cX11_envy 3 = .ok (.getfield 19, 3) := by decide +kernel
theorem dX11_envy_6 : decode cX11_envy 6 = .ok (.invokevirtual 236, 3) := by decide +kernel
theorem dX11_envy_9 : decode cX11_envy 9 = .ok (.iconst 0, 1) := by decide +kernel
theorem dX11_envy_10 : decode cX11_envy 10 = .ok (.istore_n 2, 1) := by decide +kernel
theorem dX11_envy_11 : decode cX11_envy 11 = .ok (.iload_n 2, 1) := by decide +kernel
theorem dX11_envy_12 : decode cX11_envy 12 = .ok (.aload_n 0, 1) := by decide +kernel
theorem dX11_envy_13 : decode cX11_envy 13 = .ok (.getfield 26, 3) := by decide +kernel
theorem dX11_envy_16 : decode cX11_envy 16 = .ok (.getfield 243, 3) := by decide +kernel
theorem dX11_envy_19 : decode cX11_envy 19 = .ok (.if_icmp .ge 74, 3) := by decide +kernel
theorem dX11_envy_22 : decode cX11_envy 22 = .ok (.aload_n 0, 1) := by decide +kernel
theorem dX11_envy_23 : decode cX11_envy 23 = .ok (.iload_n 2, 1) := by decide +kernel
theorem dX11_envy_24 : decode cX11_envy 24 = .ok (.iload_n 2, 1) := by decide +kernel
theorem dX11_envy_25 : decode cX11_envy 25 = .ok (.invokevirtual 182, 3) := by decide +kernel
theorem dX11_envy_28 : decode cX11_envy 28 = .ok (.istore_n 3, 1) := by decide +kernel
theorem dX11_envy_29 : decode cX11_envy 29 = .ok (.iconst 0, 1) := by decide +kernel
theorem dX11_envy_30 : decode cX11_envy 30 = .ok (.istore 4, 2) := by decide +kernel
theorem dX11_envy_32 : decode cX11_envy 32 = .ok (.iload 4, 2) := by decide +kernel
theorem dX11_envy_34 : decode cX11_envy 34 = .ok (.aload_n 0, 1) := by decide +kernel
theorem dX11_envy_35 : decode cX11_envy 35 = .ok (.getfield 26, 3) := by decide +kernel
theorem dX11_envy_38 : decode cX11_envy 38 = .ok (.getfield 243, 3) := by decide +kernel
theorem dX11_envy_41 : decode cX11_envy 41 = .ok (.if_icmp .ge 46, 3) := by decide +kernel
theorem dX11_envy_44 : decode cX11_envy 44 = .ok (.aload_n 0, 1) := by decide +kernel
theorem dX11_envy_45 : decode cX11_envy 45 = .ok (.iload_n 2, 1) := by decide +kernel
theorem dX11_envy_46 : decode cX11_envy 46 = .ok (.iload 4, 2) := by decide +kernel
theorem dX11_envy_48 : decode cX11_envy 48 = .ok (.invokevirtual 182, 3) := by decide +kernel
theorem dX11_envy_51 : decode cX11_envy 51 = .ok (.iload_n 3, 1) := by decide +kernel
theorem dX11_envy_52 : decode cX11_envy 52 = .ok (.if_icmp .le 29, 3) := by decide +kernel
theorem dX11_envy_55 : decode cX11_envy 55 = .ok (.iload_n 1, 1) := by decide +kernel
theorem dX11_envy_56 : decode cX11_envy 56 = .ok (.ifCond .ne 22, 3) := by decide +kernel
theorem dX11_envy_59 : decode cX11_envy 59 = .ok (.aload_n 0, 1) := by decide +kernel
theorem dX11_envy_60 : decode cX11_envy 60 = .ok (.getfield 19, 3) := by decide +kernel
theorem dX11_envy_63 : decode cX11_envy 63 = .ok (.iload_n 2, 1) := by decide +kernel
theorem dX11_envy_64 : decode cX11_envy 64 = .ok (.i2l, 1) := by decide +kernel
theorem dX11_envy_65 : decode cX11_envy 65 = .ok (.invokevirtual 237, 3) := by decide +kernel
theorem dX11_envy_68 : decode cX11_envy 68 = .ok (.aload_n 0, 1) := by decide +kernel
theorem dX11_envy_69 : decode cX11_envy 69 = .ok (.getfield 19, 3) := by decide +kernel
theorem dX11_envy_72 : decode cX11_envy 72 = .ok (.iload 4, 2) := by decide +kernel
theorem dX11_envy_74 : decode cX11_envy 74 = .ok (.i2l, 1) := by decide +kernel
theorem dX11_envy_75 : decode cX11_envy 75 = .ok (.invokevirtual 237, 3) := by decide +kernel
theorem dX11_envy_78 : decode cX11_envy 78 = .ok (.iinc 1 1, 3) := by decide +kernel
theorem dX11_envy_81 : decode cX11_envy 81 = .ok (.iinc 4 1, 3) := by decide +kernel
theorem dX11_envy_84 : decode cX11_envy 84 = .ok (.goto (-52), 3) := by decide +kernel
theorem dX11_envy_87 : decode cX11_envy 87 = .ok (.iinc 2 1, 3) := by decide +kernel
theorem dX11_envy_90 : decode cX11_envy 90 = .ok (.goto (-79), 3) := by decide +kernel
theorem dX11_envy_93 : decode cX11_envy 93 = .ok (.iload_n 1, 1) := by decide +kernel
theorem dX11_envy_94 : decode cX11_envy 94 = .ok (.ireturn, 1) := by decide +kernel
def xX11_envy_93 (s_X5_clear : zq_Sp) (s_X11_worthHeld : zq_Sp) (s_X5_add : zq_Sp) (J11 : zq_P) (J32 : zq_P) (Q : zq_Q) (ls : zq_L) (st : List Value) (h : zq_H) : Prop := (zi_iload 1 (zi_iret Q)) ls st h
theorem kX11_envy_93 {X : zq_X} {d : Nat} (C : zq_C X cX11_envy 5 RX11 d) {d_X5_clear : Nat} {s_X5_clear : zq_Sp} (h_X5_clear : zq_M yX5_clear cX5_clear 1 none 0 d_X5_clear s_X5_clear) (g_X5_clear : d_X5_clear + 1 ≤ d) {d_X11_worthHeld : Nat} {s_X11_worthHeld : zq_Sp} (h_X11_worthHeld : zq_M yX11_worthHeld cX11_worthHeld 5 (some .int) 1 d_X11_worthHeld s_X11_worthHeld) (g_X11_worthHeld : d_X11_worthHeld + 1 ≤ d) {d_X5_add : Nat} {s_X5_add : zq_Sp} (h_X5_add : zq_M yX5_add cX5_add 3 none 0 d_X5_add s_X5_add) (g_X5_add : d_X5_add + 1 ≤ d) {J11 : zq_P} (j11 : zq_ok X 5 11 J11) {J32 : zq_P} (j32 : zq_ok X 5 32 J32) {Q : zq_Q} (hq : zq_R X (some .int) 1 Q) : zq_ok X 5 93 (xX11_envy_93 s_X5_clear s_X11_worthHeld s_X5_add J11 J32 Q) := by
  refine zs_iload_n C dX11_envy_93 rfl ?_
  exact zs_iret C hq dX11_envy_94
def xX11_envy_87 (s_X5_clear : zq_Sp) (s_X11_worthHeld : zq_Sp) (s_X5_add : zq_Sp) (J11 : zq_P) (J32 : zq_P) (Q : zq_Q) (ls : zq_L) (st : List Value) (h : zq_H) : Prop := (zi_iinc 2 1 (J11)) ls st h
theorem kX11_envy_87 {X : zq_X} {d : Nat} (C : zq_C X cX11_envy 5 RX11 d) {d_X5_clear : Nat} {s_X5_clear : zq_Sp} (h_X5_clear : zq_M yX5_clear cX5_clear 1 none 0 d_X5_clear s_X5_clear) (g_X5_clear : d_X5_clear + 1 ≤ d) {d_X11_worthHeld : Nat} {s_X11_worthHeld : zq_Sp} (h_X11_worthHeld : zq_M yX11_worthHeld cX11_worthHeld 5 (some .int) 1 d_X11_worthHeld s_X11_worthHeld) (g_X11_worthHeld : d_X11_worthHeld + 1 ≤ d) {d_X5_add : Nat} {s_X5_add : zq_Sp} (h_X5_add : zq_M yX5_add cX5_add 3 none 0 d_X5_add s_X5_add) (g_X5_add : d_X5_add + 1 ≤ d) {J11 : zq_P} (j11 : zq_ok X 5 11 J11) {J32 : zq_P} (j32 : zq_ok X 5 32 J32) {Q : zq_Q} (hq : zq_R X (some .int) 1 Q) : zq_ok X 5 87 (xX11_envy_87 s_X5_clear s_X11_worthHeld s_X5_add J11 J32 Q) := by
  refine zs_iinc C dX11_envy_87 (by decide) (by decide) ?_
  exact zs_goto C dX11_envy_90 (by decide) (j11)
def xX11_envy_81 (s_X5_clear : zq_Sp) (s_X11_worthHeld : zq_Sp) (s_X5_add : zq_Sp) (J11 : zq_P) (J32 : zq_P) (Q : zq_Q) (ls : zq_L) (st : List Value) (h : zq_H) : Prop := (zi_iinc 4 1 (J32)) ls st h
theorem kX11_envy_81 {X : zq_X} {d : Nat} (C : zq_C X cX11_envy 5 RX11 d) {d_X5_clear : Nat} {s_X5_clear : zq_Sp} (h_X5_clear : zq_M yX5_clear cX5_clear 1 none 0 d_X5_clear s_X5_clear) (g_X5_clear : d_X5_clear + 1 ≤ d) {d_X11_worthHeld : Nat} {s_X11_worthHeld : zq_Sp} (h_X11_worthHeld : zq_M yX11_worthHeld cX11_worthHeld 5 (some .int) 1 d_X11_worthHeld s_X11_worthHeld) (g_X11_worthHeld : d_X11_worthHeld + 1 ≤ d) {d_X5_add : Nat} {s_X5_add : zq_Sp} (h_X5_add : zq_M yX5_add cX5_add 3 none 0 d_X5_add s_X5_add) (g_X5_add : d_X5_add + 1 ≤ d) {J11 : zq_P} (j11 : zq_ok X 5 11 J11) {J32 : zq_P} (j32 : zq_ok X 5 32 J32) {Q : zq_Q} (hq : zq_R X (some .int) 1 Q) : zq_ok X 5 81 (xX11_envy_81 s_X5_clear s_X11_worthHeld s_X5_add J11 J32 Q) := by
  refine zs_iinc C dX11_envy_81 (by decide) (by decide) ?_
  exact zs_goto C dX11_envy_84 (by decide) (j32)
def xX11_envy_78 (s_X5_clear : zq_Sp) (s_X11_worthHeld : zq_Sp) (s_X5_add : zq_Sp) (J11 : zq_P) (J32 : zq_P) (Q : zq_Q) (ls : zq_L) (st : List Value) (h : zq_H) : Prop := (zi_iinc 1 1 ((xX11_envy_81 s_X5_clear s_X11_worthHeld s_X5_add J11 J32 Q))) ls st h
theorem kX11_envy_78 {X : zq_X} {d : Nat} (C : zq_C X cX11_envy 5 RX11 d) {d_X5_clear : Nat} {s_X5_clear : zq_Sp} (h_X5_clear : zq_M yX5_clear cX5_clear 1 none 0 d_X5_clear s_X5_clear) (g_X5_clear : d_X5_clear + 1 ≤ d) {d_X11_worthHeld : Nat} {s_X11_worthHeld : zq_Sp} (h_X11_worthHeld : zq_M yX11_worthHeld cX11_worthHeld 5 (some .int) 1 d_X11_worthHeld s_X11_worthHeld) (g_X11_worthHeld : d_X11_worthHeld + 1 ≤ d) {d_X5_add : Nat} {s_X5_add : zq_Sp} (h_X5_add : zq_M yX5_add cX5_add 3 none 0 d_X5_add s_X5_add) (g_X5_add : d_X5_add + 1 ≤ d) {J11 : zq_P} (j11 : zq_ok X 5 11 J11) {J32 : zq_P} (j32 : zq_ok X 5 32 J32) {Q : zq_Q} (hq : zq_R X (some .int) 1 Q) : zq_ok X 5 78 (xX11_envy_78 s_X5_clear s_X11_worthHeld s_X5_add J11 J32 Q) := by
  refine zs_iinc C dX11_envy_78 (by decide) (by decide) ?_
  exact kX11_envy_81 C h_X5_clear g_X5_clear h_X11_worthHeld g_X11_worthHeld h_X5_add g_X5_add j11 j32 hq
def xX11_envy_59 (s_X5_clear : zq_Sp) (s_X11_worthHeld : zq_Sp) (s_X5_add : zq_Sp) (J11 : zq_P) (J32 : zq_P) (Q : zq_Q) (ls : zq_L) (st : List Value) (h : zq_H) : Prop := (zi_aload 0 (zi_getR 0 3 (zi_iload 2 (zi_i2l (zi_callV 1 3 s_X5_add (zi_aload 0 (zi_getR 0 3 (zi_iload 4 (zi_i2l (zi_callV 1 3 s_X5_add ((xX11_envy_78 s_X5_clear s_X11_worthHeld s_X5_add J11 J32 Q)))))))))))) ls st h
theorem kX11_envy_59 {X : zq_X} {d : Nat} (C : zq_C X cX11_envy 5 RX11 d) {d_X5_clear : Nat} {s_X5_clear : zq_Sp} (h_X5_clear : zq_M yX5_clear cX5_clear 1 none 0 d_X5_clear s_X5_clear) (g_X5_clear : d_X5_clear + 1 ≤ d) {d_X11_worthHeld : Nat} {s_X11_worthHeld : zq_Sp} (h_X11_worthHeld : zq_M yX11_worthHeld cX11_worthHeld 5 (some .int) 1 d_X11_worthHeld s_X11_worthHeld) (g_X11_worthHeld : d_X11_worthHeld + 1 ≤ d) {d_X5_add : Nat} {s_X5_add : zq_Sp} (h_X5_add : zq_M yX5_add cX5_add 3 none 0 d_X5_add s_X5_add) (g_X5_add : d_X5_add + 1 ≤ d) {J11 : zq_P} (j11 : zq_ok X 5 11 J11) {J32 : zq_P} (j32 : zq_ok X 5 32 J32) {Q : zq_Q} (hq : zq_R X (some .int) 1 Q) : zq_ok X 5 59 (xX11_envy_59 s_X5_clear s_X11_worthHeld s_X5_add J11 J32 Q) := by
  refine zs_aload_n C dX11_envy_59 rfl ?_
  refine zs_getR C zp_0 zF11 (j := 1) ⟨by decide, rfl⟩ zw_316 dX11_envy_60 ?_
  refine zs_iload_n C dX11_envy_63 rfl ?_
  refine zs_i2l C dX11_envy_64 ?_
  refine zs_callV C h_X5_add g_X5_add zy_X5_add zp_3 (show vwCl[5]? = some (RX5, TX5, 2) from rfl) zw_654 zw_655 zs9_X5_add dX11_envy_65 ?_
  refine zs_aload_n C dX11_envy_68 rfl ?_
  refine zs_getR C zp_0 zF11 (j := 1) ⟨by decide, rfl⟩ zw_316 dX11_envy_69 ?_
  refine zs_iload C dX11_envy_72 ?_
  refine zs_i2l C dX11_envy_74 ?_
  refine zs_callV C h_X5_add g_X5_add zy_X5_add zp_3 (show vwCl[5]? = some (RX5, TX5, 2) from rfl) zw_654 zw_655 zs9_X5_add dX11_envy_75 ?_
  exact kX11_envy_78 C h_X5_clear g_X5_clear h_X11_worthHeld g_X11_worthHeld h_X5_add g_X5_add j11 j32 hq
def xX11_envy_55 (s_X5_clear : zq_Sp) (s_X11_worthHeld : zq_Sp) (s_X5_add : zq_Sp) (J11 : zq_P) (J32 : zq_P) (Q : zq_Q) (ls : zq_L) (st : List Value) (h : zq_H) : Prop := (zi_iload 1 (zi_if1 (fun x => x = 0) (xX11_envy_59 s_X5_clear s_X11_worthHeld s_X5_add J11 J32 Q) (xX11_envy_78 s_X5_clear s_X11_worthHeld s_X5_add J11 J32 Q))) ls st h
theorem kX11_envy_55 {X : zq_X} {d : Nat} (C : zq_C X cX11_envy 5 RX11 d) {d_X5_clear : Nat} {s_X5_clear : zq_Sp} (h_X5_clear : zq_M yX5_clear cX5_clear 1 none 0 d_X5_clear s_X5_clear) (g_X5_clear : d_X5_clear + 1 ≤ d) {d_X11_worthHeld : Nat} {s_X11_worthHeld : zq_Sp} (h_X11_worthHeld : zq_M yX11_worthHeld cX11_worthHeld 5 (some .int) 1 d_X11_worthHeld s_X11_worthHeld) (g_X11_worthHeld : d_X11_worthHeld + 1 ≤ d) {d_X5_add : Nat} {s_X5_add : zq_Sp} (h_X5_add : zq_M yX5_add cX5_add 3 none 0 d_X5_add s_X5_add) (g_X5_add : d_X5_add + 1 ≤ d) {J11 : zq_P} (j11 : zq_ok X 5 11 J11) {J32 : zq_P} (j32 : zq_ok X 5 32 J32) {Q : zq_Q} (hq : zq_R X (some .int) 1 Q) : zq_ok X 5 55 (xX11_envy_55 s_X5_clear s_X11_worthHeld s_X5_add J11 J32 Q) := by
  refine zs_iload_n C dX11_envy_55 rfl ?_
  exact zs_if_ne C dX11_envy_56 (by decide) (kX11_envy_78 C h_X5_clear g_X5_clear h_X11_worthHeld g_X11_worthHeld h_X5_add g_X5_add j11 j32 hq) (kX11_envy_59 C h_X5_clear g_X5_clear h_X11_worthHeld g_X11_worthHeld h_X5_add g_X5_add j11 j32 hq)
def xX11_envy_44 (s_X5_clear : zq_Sp) (s_X11_worthHeld : zq_Sp) (s_X5_add : zq_Sp) (J11 : zq_P) (J32 : zq_P) (Q : zq_Q) (ls : zq_L) (st : List Value) (h : zq_H) : Prop := (zi_aload 0 (zi_iload 2 (zi_iload 4 (zi_callV 2 0 s_X11_worthHeld (zi_iload 3 (zi_if2 (fun x y => x ≤ y) (xX11_envy_81 s_X5_clear s_X11_worthHeld s_X5_add J11 J32 Q) (xX11_envy_55 s_X5_clear s_X11_worthHeld s_X5_add J11 J32 Q))))))) ls st h
theorem kX11_envy_44 {X : zq_X} {d : Nat} (C : zq_C X cX11_envy 5 RX11 d) {d_X5_clear : Nat} {s_X5_clear : zq_Sp} (h_X5_clear : zq_M yX5_clear cX5_clear 1 none 0 d_X5_clear s_X5_clear) (g_X5_clear : d_X5_clear + 1 ≤ d) {d_X11_worthHeld : Nat} {s_X11_worthHeld : zq_Sp} (h_X11_worthHeld : zq_M yX11_worthHeld cX11_worthHeld 5 (some .int) 1 d_X11_worthHeld s_X11_worthHeld) (g_X11_worthHeld : d_X11_worthHeld + 1 ≤ d) {d_X5_add : Nat} {s_X5_add : zq_Sp} (h_X5_add : zq_M yX5_add cX5_add 3 none 0 d_X5_add s_X5_add) (g_X5_add : d_X5_add + 1 ≤ d) {J11 : zq_P} (j11 : zq_ok X 5 11 J11) {J32 : zq_P} (j32 : zq_ok X 5 32 J32) {Q : zq_Q} (hq : zq_R X (some .int) 1 Q) : zq_ok X 5 44 (xX11_envy_44 s_X5_clear s_X11_worthHeld s_X5_add J11 J32 Q) := by
  refine zs_aload_n C dX11_envy_44 rfl ?_
  refine zs_iload_n C dX11_envy_45 rfl ?_
  refine zs_iload C dX11_envy_46 ?_
  refine zs_callV C h_X11_worthHeld g_X11_worthHeld zy_X11_worthHeld zp_0 (show vwCl[11]? = some (RX11, TX11, 16) from rfl) zw_674 zw_676 zs9_X11_worthHeld dX11_envy_48 ?_
  refine zs_iload_n C dX11_envy_51 rfl ?_
  exact zs_icmp_le C dX11_envy_52 (by decide) (kX11_envy_81 C h_X5_clear g_X5_clear h_X11_worthHeld g_X11_worthHeld h_X5_add g_X5_add j11 j32 hq) (kX11_envy_55 C h_X5_clear g_X5_clear h_X11_worthHeld g_X11_worthHeld h_X5_add g_X5_add j11 j32 hq)
def xX11_envy_32 (s_X5_clear : zq_Sp) (s_X11_worthHeld : zq_Sp) (s_X5_add : zq_Sp) (J11 : zq_P) (J32 : zq_P) (Q : zq_Q) (ls : zq_L) (st : List Value) (h : zq_H) : Prop := (zi_iload 4 (zi_aload 0 (zi_getR 0 5 (zi_getI 5 3 (zi_if2 (fun x y => y ≤ x) (xX11_envy_87 s_X5_clear s_X11_worthHeld s_X5_add J11 J32 Q) (xX11_envy_44 s_X5_clear s_X11_worthHeld s_X5_add J11 J32 Q)))))) ls st h
theorem kX11_envy_32 {X : zq_X} {d : Nat} (C : zq_C X cX11_envy 5 RX11 d) {d_X5_clear : Nat} {s_X5_clear : zq_Sp} (h_X5_clear : zq_M yX5_clear cX5_clear 1 none 0 d_X5_clear s_X5_clear) (g_X5_clear : d_X5_clear + 1 ≤ d) {d_X11_worthHeld : Nat} {s_X11_worthHeld : zq_Sp} (h_X11_worthHeld : zq_M yX11_worthHeld cX11_worthHeld 5 (some .int) 1 d_X11_worthHeld s_X11_worthHeld) (g_X11_worthHeld : d_X11_worthHeld + 1 ≤ d) {d_X5_add : Nat} {s_X5_add : zq_Sp} (h_X5_add : zq_M yX5_add cX5_add 3 none 0 d_X5_add s_X5_add) (g_X5_add : d_X5_add + 1 ≤ d) {J11 : zq_P} (j11 : zq_ok X 5 11 J11) {J32 : zq_P} (j32 : zq_ok X 5 32 J32) {Q : zq_Q} (hq : zq_R X (some .int) 1 Q) : zq_ok X 5 32 (xX11_envy_32 s_X5_clear s_X11_worthHeld s_X5_add J11 J32 Q) := by
  refine zs_iload C dX11_envy_32 ?_
  refine zs_aload_n C dX11_envy_34 rfl ?_
  refine zs_getR C zp_0 zF11 (j := 2) ⟨by decide, rfl⟩ zw_317 dX11_envy_35 ?_
  refine zs_getIN C zp_5 zF3 (j := 3) ⟨by decide, rfl⟩ zw_85 dX11_envy_38 ?_
  exact zs_icmp_ge C dX11_envy_41 (by decide) (kX11_envy_87 C h_X5_clear g_X5_clear h_X11_worthHeld g_X11_worthHeld h_X5_add g_X5_add j11 j32 hq) (kX11_envy_44 C h_X5_clear g_X5_clear h_X11_worthHeld g_X11_worthHeld h_X5_add g_X5_add j11 j32 hq)
def xX11_envy_22 (s_X5_clear : zq_Sp) (s_X11_worthHeld : zq_Sp) (s_X5_add : zq_Sp) (J11 : zq_P) (J32 : zq_P) (Q : zq_Q) (ls : zq_L) (st : List Value) (h : zq_H) : Prop := (zi_aload 0 (zi_iload 2 (zi_iload 2 (zi_callV 2 0 s_X11_worthHeld (zi_istore 3 (zi_push (.int 0) (zi_istore 4 (J32)))))))) ls st h
theorem kX11_envy_22 {X : zq_X} {d : Nat} (C : zq_C X cX11_envy 5 RX11 d) {d_X5_clear : Nat} {s_X5_clear : zq_Sp} (h_X5_clear : zq_M yX5_clear cX5_clear 1 none 0 d_X5_clear s_X5_clear) (g_X5_clear : d_X5_clear + 1 ≤ d) {d_X11_worthHeld : Nat} {s_X11_worthHeld : zq_Sp} (h_X11_worthHeld : zq_M yX11_worthHeld cX11_worthHeld 5 (some .int) 1 d_X11_worthHeld s_X11_worthHeld) (g_X11_worthHeld : d_X11_worthHeld + 1 ≤ d) {d_X5_add : Nat} {s_X5_add : zq_Sp} (h_X5_add : zq_M yX5_add cX5_add 3 none 0 d_X5_add s_X5_add) (g_X5_add : d_X5_add + 1 ≤ d) {J11 : zq_P} (j11 : zq_ok X 5 11 J11) {J32 : zq_P} (j32 : zq_ok X 5 32 J32) {Q : zq_Q} (hq : zq_R X (some .int) 1 Q) : zq_ok X 5 22 (xX11_envy_22 s_X5_clear s_X11_worthHeld s_X5_add J11 J32 Q) := by
  refine zs_aload_n C dX11_envy_22 rfl ?_
  refine zs_iload_n C dX11_envy_23 rfl ?_
  refine zs_iload_n C dX11_envy_24 rfl ?_
  refine zs_callV C h_X11_worthHeld g_X11_worthHeld zy_X11_worthHeld zp_0 (show vwCl[11]? = some (RX11, TX11, 16) from rfl) zw_674 zw_676 zs9_X11_worthHeld dX11_envy_25 ?_
  refine zs_istore_n C dX11_envy_28 rfl (by decide) ?_
  refine zs_iconst C dX11_envy_29 (by decide) ?_
  refine zs_istore C dX11_envy_30 (by decide) ?_
  exact j32
def xX11_envy_11 (s_X5_clear : zq_Sp) (s_X11_worthHeld : zq_Sp) (s_X5_add : zq_Sp) (J11 : zq_P) (J32 : zq_P) (Q : zq_Q) (ls : zq_L) (st : List Value) (h : zq_H) : Prop := (zi_iload 2 (zi_aload 0 (zi_getR 0 5 (zi_getI 5 3 (zi_if2 (fun x y => y ≤ x) (xX11_envy_93 s_X5_clear s_X11_worthHeld s_X5_add J11 J32 Q) (xX11_envy_22 s_X5_clear s_X11_worthHeld s_X5_add J11 J32 Q)))))) ls st h
theorem kX11_envy_11 {X : zq_X} {d : Nat} (C : zq_C X cX11_envy 5 RX11 d) {d_X5_clear : Nat} {s_X5_clear : zq_Sp} (h_X5_clear : zq_M yX5_clear cX5_clear 1 none 0 d_X5_clear s_X5_clear) (g_X5_clear : d_X5_clear + 1 ≤ d) {d_X11_worthHeld : Nat} {s_X11_worthHeld : zq_Sp} (h_X11_worthHeld : zq_M yX11_worthHeld cX11_worthHeld 5 (some .int) 1 d_X11_worthHeld s_X11_worthHeld) (g_X11_worthHeld : d_X11_worthHeld + 1 ≤ d) {d_X5_add : Nat} {s_X5_add : zq_Sp} (h_X5_add : zq_M yX5_add cX5_add 3 none 0 d_X5_add s_X5_add) (g_X5_add : d_X5_add + 1 ≤ d) {J11 : zq_P} (j11 : zq_ok X 5 11 J11) {J32 : zq_P} (j32 : zq_ok X 5 32 J32) {Q : zq_Q} (hq : zq_R X (some .int) 1 Q) : zq_ok X 5 11 (xX11_envy_11 s_X5_clear s_X11_worthHeld s_X5_add J11 J32 Q) := by
  refine zs_iload_n C dX11_envy_11 rfl ?_
  refine zs_aload_n C dX11_envy_12 rfl ?_
  refine zs_getR C zp_0 zF11 (j := 2) ⟨by decide, rfl⟩ zw_317 dX11_envy_13 ?_
  refine zs_getIN C zp_5 zF3 (j := 3) ⟨by decide, rfl⟩ zw_85 dX11_envy_16 ?_
  exact zs_icmp_ge C dX11_envy_19 (by decide) (kX11_envy_93 C h_X5_clear g_X5_clear h_X11_worthHeld g_X11_worthHeld h_X5_add g_X5_add j11 j32 hq) (kX11_envy_22 C h_X5_clear g_X5_clear h_X11_worthHeld g_X11_worthHeld h_X5_add g_X5_add j11 j32 hq)
def xX11_envy_0 (s_X5_clear : zq_Sp) (s_X11_worthHeld : zq_Sp) (s_X5_add : zq_Sp) (J11 : zq_P) (J32 : zq_P) (Q : zq_Q) (ls : zq_L) (st : List Value) (h : zq_H) : Prop := (zi_push (.int 0) (zi_istore 1 (zi_aload 0 (zi_getR 0 3 (zi_callV 0 3 s_X5_clear (zi_push (.int 0) (zi_istore 2 (J11)))))))) ls st h
theorem kX11_envy_0 {X : zq_X} {d : Nat} (C : zq_C X cX11_envy 5 RX11 d) {d_X5_clear : Nat} {s_X5_clear : zq_Sp} (h_X5_clear : zq_M yX5_clear cX5_clear 1 none 0 d_X5_clear s_X5_clear) (g_X5_clear : d_X5_clear + 1 ≤ d) {d_X11_worthHeld : Nat} {s_X11_worthHeld : zq_Sp} (h_X11_worthHeld : zq_M yX11_worthHeld cX11_worthHeld 5 (some .int) 1 d_X11_worthHeld s_X11_worthHeld) (g_X11_worthHeld : d_X11_worthHeld + 1 ≤ d) {d_X5_add : Nat} {s_X5_add : zq_Sp} (h_X5_add : zq_M yX5_add cX5_add 3 none 0 d_X5_add s_X5_add) (g_X5_add : d_X5_add + 1 ≤ d) {J11 : zq_P} (j11 : zq_ok X 5 11 J11) {J32 : zq_P} (j32 : zq_ok X 5 32 J32) {Q : zq_Q} (hq : zq_R X (some .int) 1 Q) : zq_ok X 5 0 (xX11_envy_0 s_X5_clear s_X11_worthHeld s_X5_add J11 J32 Q) := by
  refine zs_iconst C dX11_envy_0 (by decide) ?_
  refine zs_istore_n C dX11_envy_1 rfl (by decide) ?_
  refine zs_aload_n C dX11_envy_2 rfl ?_
  refine zs_getR C zp_0 zF11 (j := 1) ⟨by decide, rfl⟩ zw_316 dX11_envy_3 ?_
  refine zs_callV C h_X5_clear g_X5_clear zy_X5_clear zp_3 (show vwCl[5]? = some (RX5, TX5, 2) from rfl) zw_650 zw_651 zs9_X5_clear dX11_envy_6 ?_
  refine zs_iconst C dX11_envy_9 (by decide) ?_
  refine zs_istore_n C dX11_envy_10 rfl (by decide) ?_
  exact j11
theorem mX11_envy {d : Nat} {spec : zq_Sp} {σ11 : Type} {σ32 : Type} {d_X5_clear : Nat} {s_X5_clear : zq_Sp} (h_X5_clear : zq_M yX5_clear cX5_clear 1 none 0 d_X5_clear s_X5_clear) (g_X5_clear : d_X5_clear + 1 ≤ d) {d_X11_worthHeld : Nat} {s_X11_worthHeld : zq_Sp} (h_X11_worthHeld : zq_M yX11_worthHeld cX11_worthHeld 5 (some .int) 1 d_X11_worthHeld s_X11_worthHeld) (g_X11_worthHeld : d_X11_worthHeld + 1 ≤ d) {d_X5_add : Nat} {s_X5_add : zq_Sp} (h_X5_add : zq_M yX5_add cX5_add 3 none 0 d_X5_add s_X5_add) (g_X5_add : d_X5_add + 1 ≤ d) (μ11 : σ11 → Nat) (I11 : zq_Q → σ11 → zq_P) (μ32 : σ32 → Nat) (I32 : zq_Q → σ32 → zq_P) (v : ∀ args h Q, spec args h Q → (zq_a args).length ≤ 5 ∧ xX11_envy_0 s_X5_clear s_X11_worthHeld s_X5_add (fun ls st h => ∃ b, I11 Q b ls st h) (fun ls st h => ∃ b, I32 Q b ls st h) Q (zq_l0 5 args) [] h) (v11 : ∀ Q a ls st h, I11 Q a ls st h → xX11_envy_11 s_X5_clear s_X11_worthHeld s_X5_add (fun ls st h => ∃ b, μ11 b < μ11 a ∧ I11 Q b ls st h) (fun ls st h => ∃ b, μ32 b < μ11 a ∧ I32 Q b ls st h) Q ls st h) (v32 : ∀ Q a ls st h, I32 Q a ls st h → xX11_envy_32 s_X5_clear s_X11_worthHeld s_X5_add (fun ls st h => ∃ b, μ11 b < μ32 a ∧ I11 Q b ls st h) (fun ls st h => ∃ b, μ32 b < μ32 a ∧ I32 Q b ls st h) Q ls st h) : zq_M yX11_envy cX11_envy 5 (some .int) 1 d spec := by
  refine zq_met (by decide +kernel) (by decide) (fun X Q args h C hq hs => ⟨(v args h Q hs).1, _, ?_, (v args h Q hs).2⟩)
  have hl := zq_loop2 (X := X) (nL := 5) (pc1 := 11) (pc2 := 32) μ11 μ32 (I11 Q) (I32 Q) (fun J11 J32 => xX11_envy_11 s_X5_clear s_X11_worthHeld s_X5_add J11 J32 Q) (fun J11 J32 => xX11_envy_32 s_X5_clear s_X11_worthHeld s_X5_add J11 J32 Q) (fun j11 j32 => kX11_envy_11 C h_X5_clear g_X5_clear h_X11_worthHeld g_X11_worthHeld h_X5_add g_X5_add j11 j32 hq) (fun j11 j32 => kX11_envy_32 C h_X5_clear g_X5_clear h_X11_worthHeld g_X11_worthHeld h_X5_add g_X5_add j11 j32 hq) (v11 Q) (v32 Q)
  exact kX11_envy_0 C h_X5_clear g_X5_clear h_X11_worthHeld g_X11_worthHeld h_X5_add g_X5_add hl.1 hl.2 hq
/-! ToOneCrumb.wronged()I -/
theorem dX11_wronged_0 : decode cX11_wronged 0 = .ok (.iconst 0, 1) := by decide +kernel
theorem dX11_wronged_1 : decode cX11_wronged 1 = .ok (.istore_n 1, 1) := by decide +kernel
theorem dX11_wronged_2 : decode cX11_wronged 2 = .ok (.iconst 0, 1) := by decide +kernel
theorem dX11_wronged_3 : decode cX11_wronged 3 = .ok (.istore_n 2, 1) := by decide +kernel
theorem dX11_wronged_4 : decode cX11_wronged 4 = .ok (.iload_n 2, 1) := by decide +kernel
theorem dX11_wronged_5 : decode cX11_wronged 5 = .ok (.aload_n 0, 1) := by decide +kernel
theorem dX11_wronged_6 : decode cX11_wronged 6 = .ok (.getfield 26, 3) := by decide +kernel
theorem dX11_wronged_9 : decode cX11_wronged 9 = .ok (.getfield 243, 3) := by decide +kernel
theorem dX11_wronged_12 : decode cX11_wronged 12 = .ok (.if_icmp .ge 23, 3) := by decide +kernel
theorem dX11_wronged_15 : decode cX11_wronged 15 = .ok (.aload_n 0, 1) := by decide +kernel
theorem dX11_wronged_16 : decode cX11_wronged 16 = .ok (.iload_n 2, 1) := by decide +kernel
theorem dX11_wronged_17 : decode cX11_wronged 17 = .ok (.invokevirtual 189, 3) := by decide +kernel
theorem dX11_wronged_20 : decode cX11_wronged 20 = .ok (.ifCond .ne 9, 3) := by decide +kernel
theorem dX11_wronged_23 : decode cX11_wronged 23 = .ok (.iload_n 1, 1) := by decide +kernel
theorem dX11_wronged_24 : decode cX11_wronged 24 = .ok (.iconst 1, 1) := by decide +kernel
theorem dX11_wronged_25 : decode cX11_wronged 25 = .ok (.iload_n 2, 1) := by decide +kernel
theorem dX11_wronged_26 : decode cX11_wronged 26 = .ok (.ishl, 1) := by decide +kernel
theorem dX11_wronged_27 : decode cX11_wronged 27 = .ok (.ior, 1) := by decide +kernel
theorem dX11_wronged_28 : decode cX11_wronged 28 = .ok (.istore_n 1, 1) := by decide +kernel
theorem dX11_wronged_29 : decode cX11_wronged 29 = .ok (.iinc 2 1, 3) := by decide +kernel
theorem dX11_wronged_32 : decode cX11_wronged 32 = .ok (.goto (-28), 3) := by decide +kernel
theorem dX11_wronged_35 : decode cX11_wronged 35 = .ok (.iconst 0, 1) := by decide +kernel
theorem dX11_wronged_36 : decode cX11_wronged 36 = .ok (.istore_n 2, 1) := by decide +kernel
theorem dX11_wronged_37 : decode cX11_wronged 37 = .ok (.iconst 1, 1) := by decide +kernel
theorem dX11_wronged_38 : decode cX11_wronged 38 = .ok (.istore_n 3, 1) := by decide +kernel
theorem dX11_wronged_39 : decode cX11_wronged 39 = .ok (.iload_n 3, 1) := by decide +kernel
theorem dX11_wronged_40 : decode cX11_wronged 40 = .ok (.aload_n 0, 1) := by decide +kernel
theorem dX11_wronged_41 : decode cX11_wronged 41 = .ok (.getfield 82, 3) := by decide +kernel
theorem dX11_wronged_44 : decode cX11_wronged 44 = .ok (.getfield 128, 3) := by decide +kernel
theorem dX11_wronged_47 : decode cX11_wronged 47 = .ok (.if_icmp .ge 33, 3) := by decide +kernel
theorem dX11_wronged_50 : decode cX11_wronged 50 = .ok (.aload_n 0, 1) := by decide +kernel
theorem dX11_wronged_51 : decode cX11_wronged 51 = .ok (.getfield 40, 3) := by decide +kernel
theorem dX11_wronged_54 : decode cX11_wronged 54 = .ok (.iload_n 3, 1) := by decide +kernel
theorem dX11_wronged_55 : decode cX11_wronged 55 = .ok (.iconst 1, 1) := by decide +kernel
theorem dX11_wronged_56 : decode cX11_wronged 56 = .ok (.isub, 1) := by decide +kernel
theorem dX11_wronged_57 : decode cX11_wronged 57 = .ok (.invokevirtual 168, 3) := by decide +kernel
theorem dX11_wronged_60 : decode cX11_wronged 60 = .ok (.aload_n 0, 1) := by decide +kernel
theorem dX11_wronged_61 : decode cX11_wronged 61 = .ok (.getfield 40, 3) := by decide +kernel
theorem dX11_wronged_64 : decode cX11_wronged 64 = .ok (.iload_n 3, 1) := by decide +kernel
theorem dX11_wronged_65 : decode cX11_wronged 65 = .ok (.invokevirtual 168, 3) := by decide +kernel
theorem dX11_wronged_68 : decode cX11_wronged 68 = .ok (.if_icmp .eq 6, 3) := by decide +kernel
theorem dX11_wronged_71 : decode cX11_wronged 71 = .ok (.iinc 2 1, 3) := by decide +kernel
theorem dX11_wronged_74 : decode cX11_wronged 74 = .ok (.iinc 3 1, 3) := by decide +kernel
theorem dX11_wronged_77 : decode cX11_wronged 77 = .ok (.goto (-38), 3) := by decide +kernel
theorem dX11_wronged_80 : decode cX11_wronged 80 = .ok (.aload_n 0, 1) := by decide +kernel
theorem dX11_wronged_81 : decode cX11_wronged 81 = .ok (.getfield 19, 3) := by decide +kernel
theorem dX11_wronged_84 : decode cX11_wronged 84 = .ok (.invokevirtual 236, 3) := by decide +kernel
theorem dX11_wronged_87 : decode cX11_wronged 87 = .ok (.aload_n 0, 1) := by decide +kernel
theorem dX11_wronged_88 : decode cX11_wronged 88 = .ok (.getfield 19, 3) := by decide +kernel
theorem dX11_wronged_91 : decode cX11_wronged 91 = .ok (.iload_n 1, 1) := by decide +kernel
theorem dX11_wronged_92 : decode cX11_wronged 92 = .ok (.invokestatic 244, 3) := by decide +kernel
theorem dX11_wronged_95 : decode cX11_wronged 95 = .ok (.i2l, 1) := by decide +kernel
theorem dX11_wronged_96 : decode cX11_wronged 96 = .ok (.invokevirtual 237, 3) := by decide +kernel
theorem dX11_wronged_99 : decode cX11_wronged 99 = .ok (.aload_n 0, 1) := by decide +kernel
theorem dX11_wronged_100 : decode cX11_wronged 100 = .ok (.getfield 19, 3) := by decide +kernel
theorem dX11_wronged_103 : decode cX11_wronged 103 = .ok (.iload_n 2, 1) := by decide +kernel
theorem dX11_wronged_104 : decode cX11_wronged 104 = .ok (.i2l, 1) := by decide +kernel
theorem dX11_wronged_105 : decode cX11_wronged 105 = .ok (.invokevirtual 237, 3) := by decide +kernel
theorem dX11_wronged_108 : decode cX11_wronged 108 = .ok (.iload_n 1, 1) := by decide +kernel
theorem dX11_wronged_109 : decode cX11_wronged 109 = .ok (.ireturn, 1) := by decide +kernel
def xX11_wronged_80 (s_X11_hasDue : zq_Sp) (s_X0_holderOf : zq_Sp) (s_X5_clear : zq_Sp) (s_J6_bitCount_0f7a4 : zq_Sp) (s_X5_add : zq_Sp) (J4 : zq_P) (J39 : zq_P) (Q : zq_Q) (ls : zq_L) (st : List Value) (h : zq_H) : Prop := (zi_aload 0 (zi_getR 0 3 (zi_callV 0 3 s_X5_clear (zi_aload 0 (zi_getR 0 3 (zi_iload 1 (zi_callS 1 s_J6_bitCount_0f7a4 (zi_i2l (zi_callV 1 3 s_X5_add (zi_aload 0 (zi_getR 0 3 (zi_iload 2 (zi_i2l (zi_callV 1 3 s_X5_add (zi_iload 1 (zi_iret Q)))))))))))))))) ls st h
theorem kX11_wronged_80 {X : zq_X} {d : Nat} (C : zq_C X cX11_wronged 4 RX11 d) {d_X11_hasDue : Nat} {s_X11_hasDue : zq_Sp} (h_X11_hasDue : zq_M yX11_hasDue cX11_hasDue 4 (some .boolean) 1 d_X11_hasDue s_X11_hasDue) (g_X11_hasDue : d_X11_hasDue + 1 ≤ d) {d_X0_holderOf : Nat} {s_X0_holderOf : zq_Sp} (h_X0_holderOf : zq_M yX0_holderOf cX0_holderOf 2 (some .int) 1 d_X0_holderOf s_X0_holderOf) (g_X0_holderOf : d_X0_holderOf + 1 ≤ d) {d_X5_clear : Nat} {s_X5_clear : zq_Sp} (h_X5_clear : zq_M yX5_clear cX5_clear 1 none 0 d_X5_clear s_X5_clear) (g_X5_clear : d_X5_clear + 1 ≤ d) {d_J6_bitCount_0f7a4 : Nat} {s_J6_bitCount_0f7a4 : zq_Sp} (h_J6_bitCount_0f7a4 : zq_M yJ6_bitCount_0f7a4 cJ6_bitCount_0f7a4 1 (some .int) 1 d_J6_bitCount_0f7a4 s_J6_bitCount_0f7a4) (g_J6_bitCount_0f7a4 : d_J6_bitCount_0f7a4 + 1 ≤ d) {d_X5_add : Nat} {s_X5_add : zq_Sp} (h_X5_add : zq_M yX5_add cX5_add 3 none 0 d_X5_add s_X5_add) (g_X5_add : d_X5_add + 1 ≤ d) {J4 : zq_P} (j4 : zq_ok X 4 4 J4) {J39 : zq_P} (j39 : zq_ok X 4 39 J39) {Q : zq_Q} (hq : zq_R X (some .int) 1 Q) : zq_ok X 4 80 (xX11_wronged_80 s_X11_hasDue s_X0_holderOf s_X5_clear s_J6_bitCount_0f7a4 s_X5_add J4 J39 Q) := by
  refine zs_aload_n C dX11_wronged_80 rfl ?_
  refine zs_getR C zp_0 zF11 (j := 1) ⟨by decide, rfl⟩ zw_316 dX11_wronged_81 ?_
  refine zs_callV C h_X5_clear g_X5_clear zy_X5_clear zp_3 (show vwCl[5]? = some (RX5, TX5, 2) from rfl) zw_650 zw_651 zs9_X5_clear dX11_wronged_84 ?_
  refine zs_aload_n C dX11_wronged_87 rfl ?_
  refine zs_getR C zp_0 zF11 (j := 1) ⟨by decide, rfl⟩ zw_316 dX11_wronged_88 ?_
  refine zs_iload_n C dX11_wronged_91 rfl ?_
  refine zs_callS C h_J6_bitCount_0f7a4 g_J6_bitCount_0f7a4 zy_J6_bitCount_0f7a4 zw_695 zw_696 dX11_wronged_92 ?_
  refine zs_i2l C dX11_wronged_95 ?_
  refine zs_callV C h_X5_add g_X5_add zy_X5_add zp_3 (show vwCl[5]? = some (RX5, TX5, 2) from rfl) zw_654 zw_655 zs9_X5_add dX11_wronged_96 ?_
  refine zs_aload_n C dX11_wronged_99 rfl ?_
  refine zs_getR C zp_0 zF11 (j := 1) ⟨by decide, rfl⟩ zw_316 dX11_wronged_100 ?_
  refine zs_iload_n C dX11_wronged_103 rfl ?_
  refine zs_i2l C dX11_wronged_104 ?_
  refine zs_callV C h_X5_add g_X5_add zy_X5_add zp_3 (show vwCl[5]? = some (RX5, TX5, 2) from rfl) zw_654 zw_655 zs9_X5_add dX11_wronged_105 ?_
  refine zs_iload_n C dX11_wronged_108 rfl ?_
  exact zs_iret C hq dX11_wronged_109
def xX11_wronged_74 (s_X11_hasDue : zq_Sp) (s_X0_holderOf : zq_Sp) (s_X5_clear : zq_Sp) (s_J6_bitCount_0f7a4 : zq_Sp) (s_X5_add : zq_Sp) (J4 : zq_P) (J39 : zq_P) (Q : zq_Q) (ls : zq_L) (st : List Value) (h : zq_H) : Prop := (zi_iinc 3 1 (J39)) ls st h
theorem kX11_wronged_74 {X : zq_X} {d : Nat} (C : zq_C X cX11_wronged 4 RX11 d) {d_X11_hasDue : Nat} {s_X11_hasDue : zq_Sp} (h_X11_hasDue : zq_M yX11_hasDue cX11_hasDue 4 (some .boolean) 1 d_X11_hasDue s_X11_hasDue) (g_X11_hasDue : d_X11_hasDue + 1 ≤ d) {d_X0_holderOf : Nat} {s_X0_holderOf : zq_Sp} (h_X0_holderOf : zq_M yX0_holderOf cX0_holderOf 2 (some .int) 1 d_X0_holderOf s_X0_holderOf) (g_X0_holderOf : d_X0_holderOf + 1 ≤ d) {d_X5_clear : Nat} {s_X5_clear : zq_Sp} (h_X5_clear : zq_M yX5_clear cX5_clear 1 none 0 d_X5_clear s_X5_clear) (g_X5_clear : d_X5_clear + 1 ≤ d) {d_J6_bitCount_0f7a4 : Nat} {s_J6_bitCount_0f7a4 : zq_Sp} (h_J6_bitCount_0f7a4 : zq_M yJ6_bitCount_0f7a4 cJ6_bitCount_0f7a4 1 (some .int) 1 d_J6_bitCount_0f7a4 s_J6_bitCount_0f7a4) (g_J6_bitCount_0f7a4 : d_J6_bitCount_0f7a4 + 1 ≤ d) {d_X5_add : Nat} {s_X5_add : zq_Sp} (h_X5_add : zq_M yX5_add cX5_add 3 none 0 d_X5_add s_X5_add) (g_X5_add : d_X5_add + 1 ≤ d) {J4 : zq_P} (j4 : zq_ok X 4 4 J4) {J39 : zq_P} (j39 : zq_ok X 4 39 J39) {Q : zq_Q} (hq : zq_R X (some .int) 1 Q) : zq_ok X 4 74 (xX11_wronged_74 s_X11_hasDue s_X0_holderOf s_X5_clear s_J6_bitCount_0f7a4 s_X5_add J4 J39 Q) := by
  refine zs_iinc C dX11_wronged_74 (by decide) (by decide) ?_
  exact zs_goto C dX11_wronged_77 (by decide) (j39)
def xX11_wronged_71 (s_X11_hasDue : zq_Sp) (s_X0_holderOf : zq_Sp) (s_X5_clear : zq_Sp) (s_J6_bitCount_0f7a4 : zq_Sp) (s_X5_add : zq_Sp) (J4 : zq_P) (J39 : zq_P) (Q : zq_Q) (ls : zq_L) (st : List Value) (h : zq_H) : Prop := (zi_iinc 2 1 ((xX11_wronged_74 s_X11_hasDue s_X0_holderOf s_X5_clear s_J6_bitCount_0f7a4 s_X5_add J4 J39 Q))) ls st h
theorem kX11_wronged_71 {X : zq_X} {d : Nat} (C : zq_C X cX11_wronged 4 RX11 d) {d_X11_hasDue : Nat} {s_X11_hasDue : zq_Sp} (h_X11_hasDue : zq_M yX11_hasDue cX11_hasDue 4 (some .boolean) 1 d_X11_hasDue s_X11_hasDue) (g_X11_hasDue : d_X11_hasDue + 1 ≤ d) {d_X0_holderOf : Nat} {s_X0_holderOf : zq_Sp} (h_X0_holderOf : zq_M yX0_holderOf cX0_holderOf 2 (some .int) 1 d_X0_holderOf s_X0_holderOf) (g_X0_holderOf : d_X0_holderOf + 1 ≤ d) {d_X5_clear : Nat} {s_X5_clear : zq_Sp} (h_X5_clear : zq_M yX5_clear cX5_clear 1 none 0 d_X5_clear s_X5_clear) (g_X5_clear : d_X5_clear + 1 ≤ d) {d_J6_bitCount_0f7a4 : Nat} {s_J6_bitCount_0f7a4 : zq_Sp} (h_J6_bitCount_0f7a4 : zq_M yJ6_bitCount_0f7a4 cJ6_bitCount_0f7a4 1 (some .int) 1 d_J6_bitCount_0f7a4 s_J6_bitCount_0f7a4) (g_J6_bitCount_0f7a4 : d_J6_bitCount_0f7a4 + 1 ≤ d) {d_X5_add : Nat} {s_X5_add : zq_Sp} (h_X5_add : zq_M yX5_add cX5_add 3 none 0 d_X5_add s_X5_add) (g_X5_add : d_X5_add + 1 ≤ d) {J4 : zq_P} (j4 : zq_ok X 4 4 J4) {J39 : zq_P} (j39 : zq_ok X 4 39 J39) {Q : zq_Q} (hq : zq_R X (some .int) 1 Q) : zq_ok X 4 71 (xX11_wronged_71 s_X11_hasDue s_X0_holderOf s_X5_clear s_J6_bitCount_0f7a4 s_X5_add J4 J39 Q) := by
  refine zs_iinc C dX11_wronged_71 (by decide) (by decide) ?_
  exact kX11_wronged_74 C h_X11_hasDue g_X11_hasDue h_X0_holderOf g_X0_holderOf h_X5_clear g_X5_clear h_J6_bitCount_0f7a4 g_J6_bitCount_0f7a4 h_X5_add g_X5_add j4 j39 hq
def xX11_wronged_50 (s_X11_hasDue : zq_Sp) (s_X0_holderOf : zq_Sp) (s_X5_clear : zq_Sp) (s_J6_bitCount_0f7a4 : zq_Sp) (s_X5_add : zq_Sp) (J4 : zq_P) (J39 : zq_P) (Q : zq_Q) (ls : zq_L) (st : List Value) (h : zq_H) : Prop := (zi_aload 0 (zi_getR 0 12 (zi_iload 3 (zi_push (.int 1) (zi_i2 (fun x y => x - y) (zi_callV 1 12 s_X0_holderOf (zi_aload 0 (zi_getR 0 12 (zi_iload 3 (zi_callV 1 12 s_X0_holderOf (zi_if2 (fun x y => x = y) (xX11_wronged_74 s_X11_hasDue s_X0_holderOf s_X5_clear s_J6_bitCount_0f7a4 s_X5_add J4 J39 Q) (xX11_wronged_71 s_X11_hasDue s_X0_holderOf s_X5_clear s_J6_bitCount_0f7a4 s_X5_add J4 J39 Q)))))))))))) ls st h
theorem kX11_wronged_50 {X : zq_X} {d : Nat} (C : zq_C X cX11_wronged 4 RX11 d) {d_X11_hasDue : Nat} {s_X11_hasDue : zq_Sp} (h_X11_hasDue : zq_M yX11_hasDue cX11_hasDue 4 (some .boolean) 1 d_X11_hasDue s_X11_hasDue) (g_X11_hasDue : d_X11_hasDue + 1 ≤ d) {d_X0_holderOf : Nat} {s_X0_holderOf : zq_Sp} (h_X0_holderOf : zq_M yX0_holderOf cX0_holderOf 2 (some .int) 1 d_X0_holderOf s_X0_holderOf) (g_X0_holderOf : d_X0_holderOf + 1 ≤ d) {d_X5_clear : Nat} {s_X5_clear : zq_Sp} (h_X5_clear : zq_M yX5_clear cX5_clear 1 none 0 d_X5_clear s_X5_clear) (g_X5_clear : d_X5_clear + 1 ≤ d) {d_J6_bitCount_0f7a4 : Nat} {s_J6_bitCount_0f7a4 : zq_Sp} (h_J6_bitCount_0f7a4 : zq_M yJ6_bitCount_0f7a4 cJ6_bitCount_0f7a4 1 (some .int) 1 d_J6_bitCount_0f7a4 s_J6_bitCount_0f7a4) (g_J6_bitCount_0f7a4 : d_J6_bitCount_0f7a4 + 1 ≤ d) {d_X5_add : Nat} {s_X5_add : zq_Sp} (h_X5_add : zq_M yX5_add cX5_add 3 none 0 d_X5_add s_X5_add) (g_X5_add : d_X5_add + 1 ≤ d) {J4 : zq_P} (j4 : zq_ok X 4 4 J4) {J39 : zq_P} (j39 : zq_ok X 4 39 J39) {Q : zq_Q} (hq : zq_R X (some .int) 1 Q) : zq_ok X 4 50 (xX11_wronged_50 s_X11_hasDue s_X0_holderOf s_X5_clear s_J6_bitCount_0f7a4 s_X5_add J4 J39 Q) := by
  refine zs_aload_n C dX11_wronged_50 rfl ?_
  refine zs_getR C zp_0 zF11 (j := 4) ⟨by decide, rfl⟩ zw_319 dX11_wronged_51 ?_
  refine zs_iload_n C dX11_wronged_54 rfl ?_
  refine zs_iconst C dX11_wronged_55 (by decide) ?_
  refine zs_isub C dX11_wronged_56 ?_
  refine zs_callV C h_X0_holderOf g_X0_holderOf zy_X0_holderOf zp_12 (show vwCl[0]? = some (RX0, TX0, 5) from rfl) zw_587 zw_588 zs9_X0_holderOf dX11_wronged_57 ?_
  refine zs_aload_n C dX11_wronged_60 rfl ?_
  refine zs_getR C zp_0 zF11 (j := 4) ⟨by decide, rfl⟩ zw_319 dX11_wronged_61 ?_
  refine zs_iload_n C dX11_wronged_64 rfl ?_
  refine zs_callV C h_X0_holderOf g_X0_holderOf zy_X0_holderOf zp_12 (show vwCl[0]? = some (RX0, TX0, 5) from rfl) zw_587 zw_588 zs9_X0_holderOf dX11_wronged_65 ?_
  exact zs_icmp_eq C dX11_wronged_68 (by decide) (kX11_wronged_74 C h_X11_hasDue g_X11_hasDue h_X0_holderOf g_X0_holderOf h_X5_clear g_X5_clear h_J6_bitCount_0f7a4 g_J6_bitCount_0f7a4 h_X5_add g_X5_add j4 j39 hq) (kX11_wronged_71 C h_X11_hasDue g_X11_hasDue h_X0_holderOf g_X0_holderOf h_X5_clear g_X5_clear h_J6_bitCount_0f7a4 g_J6_bitCount_0f7a4 h_X5_add g_X5_add j4 j39 hq)
def xX11_wronged_39 (s_X11_hasDue : zq_Sp) (s_X0_holderOf : zq_Sp) (s_X5_clear : zq_Sp) (s_J6_bitCount_0f7a4 : zq_Sp) (s_X5_add : zq_Sp) (J4 : zq_P) (J39 : zq_P) (Q : zq_Q) (ls : zq_L) (st : List Value) (h : zq_H) : Prop := (zi_iload 3 (zi_aload 0 (zi_getR 0 40 (zi_getI 40 3 (zi_if2 (fun x y => y ≤ x) (xX11_wronged_80 s_X11_hasDue s_X0_holderOf s_X5_clear s_J6_bitCount_0f7a4 s_X5_add J4 J39 Q) (xX11_wronged_50 s_X11_hasDue s_X0_holderOf s_X5_clear s_J6_bitCount_0f7a4 s_X5_add J4 J39 Q)))))) ls st h
theorem kX11_wronged_39 {X : zq_X} {d : Nat} (C : zq_C X cX11_wronged 4 RX11 d) {d_X11_hasDue : Nat} {s_X11_hasDue : zq_Sp} (h_X11_hasDue : zq_M yX11_hasDue cX11_hasDue 4 (some .boolean) 1 d_X11_hasDue s_X11_hasDue) (g_X11_hasDue : d_X11_hasDue + 1 ≤ d) {d_X0_holderOf : Nat} {s_X0_holderOf : zq_Sp} (h_X0_holderOf : zq_M yX0_holderOf cX0_holderOf 2 (some .int) 1 d_X0_holderOf s_X0_holderOf) (g_X0_holderOf : d_X0_holderOf + 1 ≤ d) {d_X5_clear : Nat} {s_X5_clear : zq_Sp} (h_X5_clear : zq_M yX5_clear cX5_clear 1 none 0 d_X5_clear s_X5_clear) (g_X5_clear : d_X5_clear + 1 ≤ d) {d_J6_bitCount_0f7a4 : Nat} {s_J6_bitCount_0f7a4 : zq_Sp} (h_J6_bitCount_0f7a4 : zq_M yJ6_bitCount_0f7a4 cJ6_bitCount_0f7a4 1 (some .int) 1 d_J6_bitCount_0f7a4 s_J6_bitCount_0f7a4) (g_J6_bitCount_0f7a4 : d_J6_bitCount_0f7a4 + 1 ≤ d) {d_X5_add : Nat} {s_X5_add : zq_Sp} (h_X5_add : zq_M yX5_add cX5_add 3 none 0 d_X5_add s_X5_add) (g_X5_add : d_X5_add + 1 ≤ d) {J4 : zq_P} (j4 : zq_ok X 4 4 J4) {J39 : zq_P} (j39 : zq_ok X 4 39 J39) {Q : zq_Q} (hq : zq_R X (some .int) 1 Q) : zq_ok X 4 39 (xX11_wronged_39 s_X11_hasDue s_X0_holderOf s_X5_clear s_J6_bitCount_0f7a4 s_X5_add J4 J39 Q) := by
  refine zs_iload_n C dX11_wronged_39 rfl ?_
  refine zs_aload_n C dX11_wronged_40 rfl ?_
  refine zs_getR C zp_0 zF11 (j := 11) ⟨by decide, rfl⟩ zw_326 dX11_wronged_41 ?_
  refine zs_getIN C zp_40 zF2 (j := 3) ⟨by decide, rfl⟩ zw_273 dX11_wronged_44 ?_
  exact zs_icmp_ge C dX11_wronged_47 (by decide) (kX11_wronged_80 C h_X11_hasDue g_X11_hasDue h_X0_holderOf g_X0_holderOf h_X5_clear g_X5_clear h_J6_bitCount_0f7a4 g_J6_bitCount_0f7a4 h_X5_add g_X5_add j4 j39 hq) (kX11_wronged_50 C h_X11_hasDue g_X11_hasDue h_X0_holderOf g_X0_holderOf h_X5_clear g_X5_clear h_J6_bitCount_0f7a4 g_J6_bitCount_0f7a4 h_X5_add g_X5_add j4 j39 hq)
def xX11_wronged_35 (s_X11_hasDue : zq_Sp) (s_X0_holderOf : zq_Sp) (s_X5_clear : zq_Sp) (s_J6_bitCount_0f7a4 : zq_Sp) (s_X5_add : zq_Sp) (J4 : zq_P) (J39 : zq_P) (Q : zq_Q) (ls : zq_L) (st : List Value) (h : zq_H) : Prop := (zi_push (.int 0) (zi_istore 2 (zi_push (.int 1) (zi_istore 3 (J39))))) ls st h
theorem kX11_wronged_35 {X : zq_X} {d : Nat} (C : zq_C X cX11_wronged 4 RX11 d) {d_X11_hasDue : Nat} {s_X11_hasDue : zq_Sp} (h_X11_hasDue : zq_M yX11_hasDue cX11_hasDue 4 (some .boolean) 1 d_X11_hasDue s_X11_hasDue) (g_X11_hasDue : d_X11_hasDue + 1 ≤ d) {d_X0_holderOf : Nat} {s_X0_holderOf : zq_Sp} (h_X0_holderOf : zq_M yX0_holderOf cX0_holderOf 2 (some .int) 1 d_X0_holderOf s_X0_holderOf) (g_X0_holderOf : d_X0_holderOf + 1 ≤ d) {d_X5_clear : Nat} {s_X5_clear : zq_Sp} (h_X5_clear : zq_M yX5_clear cX5_clear 1 none 0 d_X5_clear s_X5_clear) (g_X5_clear : d_X5_clear + 1 ≤ d) {d_J6_bitCount_0f7a4 : Nat} {s_J6_bitCount_0f7a4 : zq_Sp} (h_J6_bitCount_0f7a4 : zq_M yJ6_bitCount_0f7a4 cJ6_bitCount_0f7a4 1 (some .int) 1 d_J6_bitCount_0f7a4 s_J6_bitCount_0f7a4) (g_J6_bitCount_0f7a4 : d_J6_bitCount_0f7a4 + 1 ≤ d) {d_X5_add : Nat} {s_X5_add : zq_Sp} (h_X5_add : zq_M yX5_add cX5_add 3 none 0 d_X5_add s_X5_add) (g_X5_add : d_X5_add + 1 ≤ d) {J4 : zq_P} (j4 : zq_ok X 4 4 J4) {J39 : zq_P} (j39 : zq_ok X 4 39 J39) {Q : zq_Q} (hq : zq_R X (some .int) 1 Q) : zq_ok X 4 35 (xX11_wronged_35 s_X11_hasDue s_X0_holderOf s_X5_clear s_J6_bitCount_0f7a4 s_X5_add J4 J39 Q) := by
  refine zs_iconst C dX11_wronged_35 (by decide) ?_
  refine zs_istore_n C dX11_wronged_36 rfl (by decide) ?_
  refine zs_iconst C dX11_wronged_37 (by decide) ?_
  refine zs_istore_n C dX11_wronged_38 rfl (by decide) ?_
  exact j39
def xX11_wronged_29 (s_X11_hasDue : zq_Sp) (s_X0_holderOf : zq_Sp) (s_X5_clear : zq_Sp) (s_J6_bitCount_0f7a4 : zq_Sp) (s_X5_add : zq_Sp) (J4 : zq_P) (J39 : zq_P) (Q : zq_Q) (ls : zq_L) (st : List Value) (h : zq_H) : Prop := (zi_iinc 2 1 (J4)) ls st h
theorem kX11_wronged_29 {X : zq_X} {d : Nat} (C : zq_C X cX11_wronged 4 RX11 d) {d_X11_hasDue : Nat} {s_X11_hasDue : zq_Sp} (h_X11_hasDue : zq_M yX11_hasDue cX11_hasDue 4 (some .boolean) 1 d_X11_hasDue s_X11_hasDue) (g_X11_hasDue : d_X11_hasDue + 1 ≤ d) {d_X0_holderOf : Nat} {s_X0_holderOf : zq_Sp} (h_X0_holderOf : zq_M yX0_holderOf cX0_holderOf 2 (some .int) 1 d_X0_holderOf s_X0_holderOf) (g_X0_holderOf : d_X0_holderOf + 1 ≤ d) {d_X5_clear : Nat} {s_X5_clear : zq_Sp} (h_X5_clear : zq_M yX5_clear cX5_clear 1 none 0 d_X5_clear s_X5_clear) (g_X5_clear : d_X5_clear + 1 ≤ d) {d_J6_bitCount_0f7a4 : Nat} {s_J6_bitCount_0f7a4 : zq_Sp} (h_J6_bitCount_0f7a4 : zq_M yJ6_bitCount_0f7a4 cJ6_bitCount_0f7a4 1 (some .int) 1 d_J6_bitCount_0f7a4 s_J6_bitCount_0f7a4) (g_J6_bitCount_0f7a4 : d_J6_bitCount_0f7a4 + 1 ≤ d) {d_X5_add : Nat} {s_X5_add : zq_Sp} (h_X5_add : zq_M yX5_add cX5_add 3 none 0 d_X5_add s_X5_add) (g_X5_add : d_X5_add + 1 ≤ d) {J4 : zq_P} (j4 : zq_ok X 4 4 J4) {J39 : zq_P} (j39 : zq_ok X 4 39 J39) {Q : zq_Q} (hq : zq_R X (some .int) 1 Q) : zq_ok X 4 29 (xX11_wronged_29 s_X11_hasDue s_X0_holderOf s_X5_clear s_J6_bitCount_0f7a4 s_X5_add J4 J39 Q) := by
  refine zs_iinc C dX11_wronged_29 (by decide) (by decide) ?_
  exact zs_goto C dX11_wronged_32 (by decide) (j4)
def xX11_wronged_23 (s_X11_hasDue : zq_Sp) (s_X0_holderOf : zq_Sp) (s_X5_clear : zq_Sp) (s_J6_bitCount_0f7a4 : zq_Sp) (s_X5_add : zq_Sp) (J4 : zq_P) (J39 : zq_P) (Q : zq_Q) (ls : zq_L) (st : List Value) (h : zq_H) : Prop := (zi_iload 1 (zi_push (.int 1) (zi_iload 2 (zi_i2 zf_shl (zi_i2 (fun x y => x ||| y) (zi_istore 1 ((xX11_wronged_29 s_X11_hasDue s_X0_holderOf s_X5_clear s_J6_bitCount_0f7a4 s_X5_add J4 J39 Q)))))))) ls st h
theorem kX11_wronged_23 {X : zq_X} {d : Nat} (C : zq_C X cX11_wronged 4 RX11 d) {d_X11_hasDue : Nat} {s_X11_hasDue : zq_Sp} (h_X11_hasDue : zq_M yX11_hasDue cX11_hasDue 4 (some .boolean) 1 d_X11_hasDue s_X11_hasDue) (g_X11_hasDue : d_X11_hasDue + 1 ≤ d) {d_X0_holderOf : Nat} {s_X0_holderOf : zq_Sp} (h_X0_holderOf : zq_M yX0_holderOf cX0_holderOf 2 (some .int) 1 d_X0_holderOf s_X0_holderOf) (g_X0_holderOf : d_X0_holderOf + 1 ≤ d) {d_X5_clear : Nat} {s_X5_clear : zq_Sp} (h_X5_clear : zq_M yX5_clear cX5_clear 1 none 0 d_X5_clear s_X5_clear) (g_X5_clear : d_X5_clear + 1 ≤ d) {d_J6_bitCount_0f7a4 : Nat} {s_J6_bitCount_0f7a4 : zq_Sp} (h_J6_bitCount_0f7a4 : zq_M yJ6_bitCount_0f7a4 cJ6_bitCount_0f7a4 1 (some .int) 1 d_J6_bitCount_0f7a4 s_J6_bitCount_0f7a4) (g_J6_bitCount_0f7a4 : d_J6_bitCount_0f7a4 + 1 ≤ d) {d_X5_add : Nat} {s_X5_add : zq_Sp} (h_X5_add : zq_M yX5_add cX5_add 3 none 0 d_X5_add s_X5_add) (g_X5_add : d_X5_add + 1 ≤ d) {J4 : zq_P} (j4 : zq_ok X 4 4 J4) {J39 : zq_P} (j39 : zq_ok X 4 39 J39) {Q : zq_Q} (hq : zq_R X (some .int) 1 Q) : zq_ok X 4 23 (xX11_wronged_23 s_X11_hasDue s_X0_holderOf s_X5_clear s_J6_bitCount_0f7a4 s_X5_add J4 J39 Q) := by
  refine zs_iload_n C dX11_wronged_23 rfl ?_
  refine zs_iconst C dX11_wronged_24 (by decide) ?_
  refine zs_iload_n C dX11_wronged_25 rfl ?_
  refine zs_ishl C dX11_wronged_26 ?_
  refine zs_ior C dX11_wronged_27 ?_
  refine zs_istore_n C dX11_wronged_28 rfl (by decide) ?_
  exact kX11_wronged_29 C h_X11_hasDue g_X11_hasDue h_X0_holderOf g_X0_holderOf h_X5_clear g_X5_clear h_J6_bitCount_0f7a4 g_J6_bitCount_0f7a4 h_X5_add g_X5_add j4 j39 hq
def xX11_wronged_15 (s_X11_hasDue : zq_Sp) (s_X0_holderOf : zq_Sp) (s_X5_clear : zq_Sp) (s_J6_bitCount_0f7a4 : zq_Sp) (s_X5_add : zq_Sp) (J4 : zq_P) (J39 : zq_P) (Q : zq_Q) (ls : zq_L) (st : List Value) (h : zq_H) : Prop := (zi_aload 0 (zi_iload 2 (zi_callV 1 0 s_X11_hasDue (zi_if1 (fun x => x = 0) (xX11_wronged_23 s_X11_hasDue s_X0_holderOf s_X5_clear s_J6_bitCount_0f7a4 s_X5_add J4 J39 Q) (xX11_wronged_29 s_X11_hasDue s_X0_holderOf s_X5_clear s_J6_bitCount_0f7a4 s_X5_add J4 J39 Q))))) ls st h
theorem kX11_wronged_15 {X : zq_X} {d : Nat} (C : zq_C X cX11_wronged 4 RX11 d) {d_X11_hasDue : Nat} {s_X11_hasDue : zq_Sp} (h_X11_hasDue : zq_M yX11_hasDue cX11_hasDue 4 (some .boolean) 1 d_X11_hasDue s_X11_hasDue) (g_X11_hasDue : d_X11_hasDue + 1 ≤ d) {d_X0_holderOf : Nat} {s_X0_holderOf : zq_Sp} (h_X0_holderOf : zq_M yX0_holderOf cX0_holderOf 2 (some .int) 1 d_X0_holderOf s_X0_holderOf) (g_X0_holderOf : d_X0_holderOf + 1 ≤ d) {d_X5_clear : Nat} {s_X5_clear : zq_Sp} (h_X5_clear : zq_M yX5_clear cX5_clear 1 none 0 d_X5_clear s_X5_clear) (g_X5_clear : d_X5_clear + 1 ≤ d) {d_J6_bitCount_0f7a4 : Nat} {s_J6_bitCount_0f7a4 : zq_Sp} (h_J6_bitCount_0f7a4 : zq_M yJ6_bitCount_0f7a4 cJ6_bitCount_0f7a4 1 (some .int) 1 d_J6_bitCount_0f7a4 s_J6_bitCount_0f7a4) (g_J6_bitCount_0f7a4 : d_J6_bitCount_0f7a4 + 1 ≤ d) {d_X5_add : Nat} {s_X5_add : zq_Sp} (h_X5_add : zq_M yX5_add cX5_add 3 none 0 d_X5_add s_X5_add) (g_X5_add : d_X5_add + 1 ≤ d) {J4 : zq_P} (j4 : zq_ok X 4 4 J4) {J39 : zq_P} (j39 : zq_ok X 4 39 J39) {Q : zq_Q} (hq : zq_R X (some .int) 1 Q) : zq_ok X 4 15 (xX11_wronged_15 s_X11_hasDue s_X0_holderOf s_X5_clear s_J6_bitCount_0f7a4 s_X5_add J4 J39 Q) := by
  refine zs_aload_n C dX11_wronged_15 rfl ?_
  refine zs_iload_n C dX11_wronged_16 rfl ?_
  refine zs_callV C h_X11_hasDue g_X11_hasDue zy_X11_hasDue zp_0 (show vwCl[11]? = some (RX11, TX11, 16) from rfl) zw_686 zw_688 zs9_X11_hasDue dX11_wronged_17 ?_
  exact zs_if_ne C dX11_wronged_20 (by decide) (kX11_wronged_29 C h_X11_hasDue g_X11_hasDue h_X0_holderOf g_X0_holderOf h_X5_clear g_X5_clear h_J6_bitCount_0f7a4 g_J6_bitCount_0f7a4 h_X5_add g_X5_add j4 j39 hq) (kX11_wronged_23 C h_X11_hasDue g_X11_hasDue h_X0_holderOf g_X0_holderOf h_X5_clear g_X5_clear h_J6_bitCount_0f7a4 g_J6_bitCount_0f7a4 h_X5_add g_X5_add j4 j39 hq)
def xX11_wronged_4 (s_X11_hasDue : zq_Sp) (s_X0_holderOf : zq_Sp) (s_X5_clear : zq_Sp) (s_J6_bitCount_0f7a4 : zq_Sp) (s_X5_add : zq_Sp) (J4 : zq_P) (J39 : zq_P) (Q : zq_Q) (ls : zq_L) (st : List Value) (h : zq_H) : Prop := (zi_iload 2 (zi_aload 0 (zi_getR 0 5 (zi_getI 5 3 (zi_if2 (fun x y => y ≤ x) (xX11_wronged_35 s_X11_hasDue s_X0_holderOf s_X5_clear s_J6_bitCount_0f7a4 s_X5_add J4 J39 Q) (xX11_wronged_15 s_X11_hasDue s_X0_holderOf s_X5_clear s_J6_bitCount_0f7a4 s_X5_add J4 J39 Q)))))) ls st h
theorem kX11_wronged_4 {X : zq_X} {d : Nat} (C : zq_C X cX11_wronged 4 RX11 d) {d_X11_hasDue : Nat} {s_X11_hasDue : zq_Sp} (h_X11_hasDue : zq_M yX11_hasDue cX11_hasDue 4 (some .boolean) 1 d_X11_hasDue s_X11_hasDue) (g_X11_hasDue : d_X11_hasDue + 1 ≤ d) {d_X0_holderOf : Nat} {s_X0_holderOf : zq_Sp} (h_X0_holderOf : zq_M yX0_holderOf cX0_holderOf 2 (some .int) 1 d_X0_holderOf s_X0_holderOf) (g_X0_holderOf : d_X0_holderOf + 1 ≤ d) {d_X5_clear : Nat} {s_X5_clear : zq_Sp} (h_X5_clear : zq_M yX5_clear cX5_clear 1 none 0 d_X5_clear s_X5_clear) (g_X5_clear : d_X5_clear + 1 ≤ d) {d_J6_bitCount_0f7a4 : Nat} {s_J6_bitCount_0f7a4 : zq_Sp} (h_J6_bitCount_0f7a4 : zq_M yJ6_bitCount_0f7a4 cJ6_bitCount_0f7a4 1 (some .int) 1 d_J6_bitCount_0f7a4 s_J6_bitCount_0f7a4) (g_J6_bitCount_0f7a4 : d_J6_bitCount_0f7a4 + 1 ≤ d) {d_X5_add : Nat} {s_X5_add : zq_Sp} (h_X5_add : zq_M yX5_add cX5_add 3 none 0 d_X5_add s_X5_add) (g_X5_add : d_X5_add + 1 ≤ d) {J4 : zq_P} (j4 : zq_ok X 4 4 J4) {J39 : zq_P} (j39 : zq_ok X 4 39 J39) {Q : zq_Q} (hq : zq_R X (some .int) 1 Q) : zq_ok X 4 4 (xX11_wronged_4 s_X11_hasDue s_X0_holderOf s_X5_clear s_J6_bitCount_0f7a4 s_X5_add J4 J39 Q) := by
  refine zs_iload_n C dX11_wronged_4 rfl ?_
  refine zs_aload_n C dX11_wronged_5 rfl ?_
  refine zs_getR C zp_0 zF11 (j := 2) ⟨by decide, rfl⟩ zw_317 dX11_wronged_6 ?_
  refine zs_getIN C zp_5 zF3 (j := 3) ⟨by decide, rfl⟩ zw_85 dX11_wronged_9 ?_
  exact zs_icmp_ge C dX11_wronged_12 (by decide) (kX11_wronged_35 C h_X11_hasDue g_X11_hasDue h_X0_holderOf g_X0_holderOf h_X5_clear g_X5_clear h_J6_bitCount_0f7a4 g_J6_bitCount_0f7a4 h_X5_add g_X5_add j4 j39 hq) (kX11_wronged_15 C h_X11_hasDue g_X11_hasDue h_X0_holderOf g_X0_holderOf h_X5_clear g_X5_clear h_J6_bitCount_0f7a4 g_J6_bitCount_0f7a4 h_X5_add g_X5_add j4 j39 hq)
def xX11_wronged_0 (s_X11_hasDue : zq_Sp) (s_X0_holderOf : zq_Sp) (s_X5_clear : zq_Sp) (s_J6_bitCount_0f7a4 : zq_Sp) (s_X5_add : zq_Sp) (J4 : zq_P) (J39 : zq_P) (Q : zq_Q) (ls : zq_L) (st : List Value) (h : zq_H) : Prop := (zi_push (.int 0) (zi_istore 1 (zi_push (.int 0) (zi_istore 2 (J4))))) ls st h
theorem kX11_wronged_0 {X : zq_X} {d : Nat} (C : zq_C X cX11_wronged 4 RX11 d) {d_X11_hasDue : Nat} {s_X11_hasDue : zq_Sp} (h_X11_hasDue : zq_M yX11_hasDue cX11_hasDue 4 (some .boolean) 1 d_X11_hasDue s_X11_hasDue) (g_X11_hasDue : d_X11_hasDue + 1 ≤ d) {d_X0_holderOf : Nat} {s_X0_holderOf : zq_Sp} (h_X0_holderOf : zq_M yX0_holderOf cX0_holderOf 2 (some .int) 1 d_X0_holderOf s_X0_holderOf) (g_X0_holderOf : d_X0_holderOf + 1 ≤ d) {d_X5_clear : Nat} {s_X5_clear : zq_Sp} (h_X5_clear : zq_M yX5_clear cX5_clear 1 none 0 d_X5_clear s_X5_clear) (g_X5_clear : d_X5_clear + 1 ≤ d) {d_J6_bitCount_0f7a4 : Nat} {s_J6_bitCount_0f7a4 : zq_Sp} (h_J6_bitCount_0f7a4 : zq_M yJ6_bitCount_0f7a4 cJ6_bitCount_0f7a4 1 (some .int) 1 d_J6_bitCount_0f7a4 s_J6_bitCount_0f7a4) (g_J6_bitCount_0f7a4 : d_J6_bitCount_0f7a4 + 1 ≤ d) {d_X5_add : Nat} {s_X5_add : zq_Sp} (h_X5_add : zq_M yX5_add cX5_add 3 none 0 d_X5_add s_X5_add) (g_X5_add : d_X5_add + 1 ≤ d) {J4 : zq_P} (j4 : zq_ok X 4 4 J4) {J39 : zq_P} (j39 : zq_ok X 4 39 J39) {Q : zq_Q} (hq : zq_R X (some .int) 1 Q) : zq_ok X 4 0 (xX11_wronged_0 s_X11_hasDue s_X0_holderOf s_X5_clear s_J6_bitCount_0f7a4 s_X5_add J4 J39 Q) := by
  refine zs_iconst C dX11_wronged_0 (by decide) ?_
  refine zs_istore_n C dX11_wronged_1 rfl (by decide) ?_
  refine zs_iconst C dX11_wronged_2 (by decide) ?_
  refine zs_istore_n C dX11_wronged_3 rfl (by decide) ?_
  exact j4
theorem mX11_wronged {d : Nat} {spec : zq_Sp} {σ4 : Type} {σ39 : Type} {d_X11_hasDue : Nat} {s_X11_hasDue : zq_Sp} (h_X11_hasDue : zq_M yX11_hasDue cX11_hasDue 4 (some .boolean) 1 d_X11_hasDue s_X11_hasDue) (g_X11_hasDue : d_X11_hasDue + 1 ≤ d) {d_X0_holderOf : Nat} {s_X0_holderOf : zq_Sp} (h_X0_holderOf : zq_M yX0_holderOf cX0_holderOf 2 (some .int) 1 d_X0_holderOf s_X0_holderOf) (g_X0_holderOf : d_X0_holderOf + 1 ≤ d) {d_X5_clear : Nat} {s_X5_clear : zq_Sp} (h_X5_clear : zq_M yX5_clear cX5_clear 1 none 0 d_X5_clear s_X5_clear) (g_X5_clear : d_X5_clear + 1 ≤ d) {d_J6_bitCount_0f7a4 : Nat} {s_J6_bitCount_0f7a4 : zq_Sp} (h_J6_bitCount_0f7a4 : zq_M yJ6_bitCount_0f7a4 cJ6_bitCount_0f7a4 1 (some .int) 1 d_J6_bitCount_0f7a4 s_J6_bitCount_0f7a4) (g_J6_bitCount_0f7a4 : d_J6_bitCount_0f7a4 + 1 ≤ d) {d_X5_add : Nat} {s_X5_add : zq_Sp} (h_X5_add : zq_M yX5_add cX5_add 3 none 0 d_X5_add s_X5_add) (g_X5_add : d_X5_add + 1 ≤ d) (μ4 : σ4 → Nat) (I4 : zq_Q → σ4 → zq_P) (μ39 : σ39 → Nat) (I39 : zq_Q → σ39 → zq_P) (v : ∀ args h Q, spec args h Q → (zq_a args).length ≤ 4 ∧ xX11_wronged_0 s_X11_hasDue s_X0_holderOf s_X5_clear s_J6_bitCount_0f7a4 s_X5_add (fun ls st h => ∃ b, I4 Q b ls st h) (fun ls st h => ∃ b, I39 Q b ls st h) Q (zq_l0 4 args) [] h) (v4 : ∀ Q a ls st h, I4 Q a ls st h → xX11_wronged_4 s_X11_hasDue s_X0_holderOf s_X5_clear s_J6_bitCount_0f7a4 s_X5_add (fun ls st h => ∃ b, μ4 b < μ4 a ∧ I4 Q b ls st h) (fun ls st h => ∃ b, μ39 b < μ4 a ∧ I39 Q b ls st h) Q ls st h) (v39 : ∀ Q a ls st h, I39 Q a ls st h → xX11_wronged_39 s_X11_hasDue s_X0_holderOf s_X5_clear s_J6_bitCount_0f7a4 s_X5_add (fun ls st h => ∃ b, μ4 b < μ39 a ∧ I4 Q b ls st h) (fun ls st h => ∃ b, μ39 b < μ39 a ∧ I39 Q b ls st h) Q ls st h) : zq_M yX11_wronged cX11_wronged 4 (some .int) 1 d spec := by
  refine zq_met (by decide +kernel) (by decide) (fun X Q args h C hq hs => ⟨(v args h Q hs).1, _, ?_, (v args h Q hs).2⟩)
  have hl := zq_loop2 (X := X) (nL := 4) (pc1 := 4) (pc2 := 39) μ4 μ39 (I4 Q) (I39 Q) (fun J4 J39 => xX11_wronged_4 s_X11_hasDue s_X0_holderOf s_X5_clear s_J6_bitCount_0f7a4 s_X5_add J4 J39 Q) (fun J4 J39 => xX11_wronged_39 s_X11_hasDue s_X0_holderOf s_X5_clear s_J6_bitCount_0f7a4 s_X5_add J4 J39 Q) (fun j4 j39 => kX11_wronged_4 C h_X11_hasDue g_X11_hasDue h_X0_holderOf g_X0_holderOf h_X5_clear g_X5_clear h_J6_bitCount_0f7a4 g_J6_bitCount_0f7a4 h_X5_add g_X5_add j4 j39 hq) (fun j4 j39 => kX11_wronged_39 C h_X11_hasDue g_X11_hasDue h_X0_holderOf g_X0_holderOf h_X5_clear g_X5_clear h_J6_bitCount_0f7a4 g_J6_bitCount_0f7a4 h_X5_add g_X5_add j4 j39 hq) (v4 Q) (v39 Q)
  exact kX11_wronged_0 C h_X11_hasDue g_X11_hasDue h_X0_holderOf g_X0_holderOf h_X5_clear g_X5_clear h_J6_bitCount_0f7a4 g_J6_bitCount_0f7a4 h_X5_add g_X5_add hl.1 hl.2 hq
/-! ToOneCrumb.happiest()I -/
theorem dX11_happiest_0 : decode cX11_happiest 0 = .ok (.aload_n 0, 1) := by decide +kernel
theorem dX11_happiest_1 : decode cX11_happiest 1 = .ok (.getfield 26, 3) := by decide +kernel
theorem dX11_happiest_4 : decode cX11_happiest 4 = .ok (.getfield 243, 3) := by decide +kernel
theorem dX11_happiest_7 : decode cX11_happiest 7 = .ok (.ifCond .ne 6, 3) := by decide +kernel
theorem dX11_happiest_10 : decode cX11_happiest 10 = .ok (.bipush (-2), 2) := by decide +kernel
theorem dX11_happiest_12 : decode cX11_happiest 12 = .ok (.ireturn, 1) := by decide +kernel
theorem dX11_happiest_13 : decode cX11_happiest 13 = .ok (.iconst 0, 1) := by decide +kernel
theorem dX11_happiest_14 : decode cX11_happiest 14 = .ok (.istore_n 1, 1) := by decide +kernel
theorem dX11_happiest_15 : decode cX11_happiest 15 = .ok (.lconst 0, 1) := by decide +kernel
theorem dX11_happiest_16 : decode cX11_happiest 16 = .ok (.lstore_n 2, 1) := by decide +kernel
theorem dX11_happiest_17 : decode cX11_happiest 17 = .ok (.lconst 1, 1) := by decide +kernel
theorem dX11_happiest_18 : decode cX11_happiest 18 = .ok (.lstore 4, 2) := by decide +kernel
theorem dX11_happiest_20 : decode cX11_happiest 20 = .ok (.iconst 0, 1) := by decide +kernel
theorem dX11_happiest_21 : decode cX11_happiest 21 = .ok (.istore 6, 2) := by decide +kernel
theorem dX11_happiest_23 : decode cX11_happiest 23 = .ok (.iload 6, 2) := by decide +kernel
theorem dX11_happiest_25 : decode cX11_happiest 25 = .ok (.aload_n 0, 1) := by decide +kernel
theorem dX11_happiest_26 : decode cX11_happiest 26 = .ok (.getfield 26, 3) := by decide +kernel
theorem dX11_happiest_29 : decode cX11_happiest 29 = .ok (.getfield 243, 3) := by decide +kernel
theorem dX11_happiest_32 : decode cX11_happiest 32 = .ok (.if_icmp .ge 55, 3) := by decide +kernel
theorem dX11_happiest_35 : decode cX11_happiest 35 = .ok (.aload_n 0, 1) := by decide +kernel
theorem dX11_happiest_36 : decode cX11_happiest 36 = .ok (.iload 6, 2) := by decide +kernel
theorem dX11_happiest_38 : decode cX11_happiest 38 = .ok (.iload 6, 2) := by decide +kernel
theorem dX11_happiest_40 : decode cX11_happiest 40 = .ok (.invokevirtual 182, 3) := by decide +kernel
theorem dX11_happiest_43 : decode cX11_happiest 43 = .ok (.i2l, 1) := by decide +kernel
theorem dX11_happiest_44 : decode cX11_happiest 44 = .ok (.lstore 7, 2) := by decide +kernel
theorem dX11_happiest_46 : decode cX11_happiest 46 = .ok (.aload_n 0, 1) := by decide +kernel
theorem dX11_happiest_47 : decode cX11_happiest 47 = .ok (.getfield 33, 3) := by decide +kernel
theorem dX11_happiest_50 : decode cX11_happiest 50 = .ok (.iload 6, 2) := by decide +kernel
theorem dX11_happiest_52 : decode cX11_happiest 52 = .ok (.invokevirtual 186, 3) := by decide +kernel
theorem dX11_happiest_55 : decode cX11_happiest 55 = .ok (.i2l, 1) := by decide +kernel
theorem dX11_happiest_56 : decode cX11_happiest 56 = .ok (.lstore 9, 2) := by decide +kernel
theorem dX11_happiest_58 : decode cX11_happiest 58 = .ok (.lload 7, 2) := by decide +kernel
theorem dX11_happiest_60 : decode cX11_happiest 60 = .ok (.lload 4, 2) := by decide +kernel
theorem dX11_happiest_62 : decode cX11_happiest 62 = .ok (.lmul, 1) := by decide +kernel
theorem dX11_happiest_63 : decode cX11_happiest 63 = .ok (.lload_n 2, 1) := by decide +kernel
theorem dX11_happiest_64 : decode cX11_happiest 64 = .ok (.lload 9, 2) := by decide +kernel
theorem dX11_happiest_66 : decode cX11_happiest 66 = .ok (.lmul, 1) := by decide +kernel
theorem dX11_happiest_67 : decode cX11_happiest 67 = .ok (.lcmp, 1) := by decide +kernel
theorem dX11_happiest_68 : decode cX11_happiest 68 = .ok (.ifCond .le 13, 3) := by decide +kernel
theorem dX11_happiest_71 : decode cX11_happiest 71 = .ok (.iload 6, 2) := by decide +kernel
theorem dX11_happiest_73 : decode cX11_happiest 73 = .ok (.istore_n 1, 1) := by decide +kernel
theorem dX11_happiest_74 : decode cX11_happiest 74 = .ok (.lload 7, 2) := by decide +kernel
theorem dX11_happiest_76 : decode cX11_happiest 76 = .ok (.lstore_n 2, 1) := by decide +kernel
theorem dX11_happiest_77 : decode cX11_happiest 77 = .ok (.lload 9, 2) := by decide +kernel
theorem dX11_happiest_79 : decode cX11_happiest 79 = .ok (.lstore 4, 2) := by decide +kernel
theorem dX11_happiest_81 : decode cX11_happiest 81 = .ok (.iinc 6 1, 3) := by decide +kernel
theorem dX11_happiest_84 : decode cX11_happiest 84 = .ok (.goto (-61), 3) := by decide +kernel
theorem dX11_happiest_87 : decode cX11_happiest 87 = .ok (.aload_n 0, 1) := by decide +kernel
theorem dX11_happiest_88 : decode cX11_happiest 88 = .ok (.getfield 19, 3) := by decide +kernel
theorem dX11_happiest_91 : decode cX11_happiest 91 = .ok (.invokevirtual 236, 3) := by decide +kernel
theorem dX11_happiest_94 : decode cX11_happiest 94 = .ok (.aload_n 0, 1) := by decide +kernel
theorem dX11_happiest_95 : decode cX11_happiest 95 = .ok (.getfield 19, 3) := by decide +kernel
theorem dX11_happiest_98 : decode cX11_happiest 98 = .ok (.lload_n 2, 1) := by decide +kernel
theorem dX11_happiest_99 : decode cX11_happiest 99 = .ok (.lload 4, 2) := by decide +kernel
theorem dX11_happiest_101 : decode cX11_happiest 101 = .ok (.invokevirtual 249, 3) := by decide +kernel
theorem dX11_happiest_104 : decode cX11_happiest 104 = .ok (.iload_n 1, 1) := by decide +kernel
theorem dX11_happiest_105 : decode cX11_happiest 105 = .ok (.ireturn, 1) := by decide +kernel
def xX11_happiest_87 (s_X11_worthHeld : zq_Sp) (s_X10_whole : zq_Sp) (s_X5_clear : zq_Sp) (s_X5_addFraction : zq_Sp) (J23 : zq_P) (Q : zq_Q) (ls : zq_L) (st : List Value) (h : zq_H) : Prop := (zi_aload 0 (zi_getR 0 3 (zi_callV 0 3 s_X5_clear (zi_aload 0 (zi_getR 0 3 (zi_lload 2 (zi_lload 4 (zi_callV 2 3 s_X5_addFraction (zi_iload 1 (zi_iret Q)))))))))) ls st h
theorem kX11_happiest_87 {X : zq_X} {d : Nat} (C : zq_C X cX11_happiest 11 RX11 d) {d_X11_worthHeld : Nat} {s_X11_worthHeld : zq_Sp} (h_X11_worthHeld : zq_M yX11_worthHeld cX11_worthHeld 5 (some .int) 1 d_X11_worthHeld s_X11_worthHeld) (g_X11_worthHeld : d_X11_worthHeld + 1 ≤ d) {d_X10_whole : Nat} {s_X10_whole : zq_Sp} (h_X10_whole : zq_M yX10_whole cX10_whole 2 (some .int) 1 d_X10_whole s_X10_whole) (g_X10_whole : d_X10_whole + 1 ≤ d) {d_X5_clear : Nat} {s_X5_clear : zq_Sp} (h_X5_clear : zq_M yX5_clear cX5_clear 1 none 0 d_X5_clear s_X5_clear) (g_X5_clear : d_X5_clear + 1 ≤ d) {d_X5_addFraction : Nat} {s_X5_addFraction : zq_Sp} (h_X5_addFraction : zq_M yX5_addFraction cX5_addFraction 12 none 0 d_X5_addFraction s_X5_addFraction) (g_X5_addFraction : d_X5_addFraction + 1 ≤ d) {J23 : zq_P} (j23 : zq_ok X 11 23 J23) {Q : zq_Q} (hq : zq_R X (some .int) 1 Q) : zq_ok X 11 87 (xX11_happiest_87 s_X11_worthHeld s_X10_whole s_X5_clear s_X5_addFraction J23 Q) := by
  refine zs_aload_n C dX11_happiest_87 rfl ?_
  refine zs_getR C zp_0 zF11 (j := 1) ⟨by decide, rfl⟩ zw_316 dX11_happiest_88 ?_
  refine zs_callV C h_X5_clear g_X5_clear zy_X5_clear zp_3 (show vwCl[5]? = some (RX5, TX5, 2) from rfl) zw_650 zw_651 zs9_X5_clear dX11_happiest_91 ?_
  refine zs_aload_n C dX11_happiest_94 rfl ?_
  refine zs_getR C zp_0 zF11 (j := 1) ⟨by decide, rfl⟩ zw_316 dX11_happiest_95 ?_
  refine zs_lload_n C dX11_happiest_98 rfl ?_
  refine zs_lload C dX11_happiest_99 ?_
  refine zs_callV C h_X5_addFraction g_X5_addFraction zy_X5_addFraction zp_3 (show vwCl[5]? = some (RX5, TX5, 2) from rfl) zw_705 zw_706 zs9_X5_addFraction dX11_happiest_101 ?_
  refine zs_iload_n C dX11_happiest_104 rfl ?_
  exact zs_iret C hq dX11_happiest_105
def xX11_happiest_81 (s_X11_worthHeld : zq_Sp) (s_X10_whole : zq_Sp) (s_X5_clear : zq_Sp) (s_X5_addFraction : zq_Sp) (J23 : zq_P) (Q : zq_Q) (ls : zq_L) (st : List Value) (h : zq_H) : Prop := (zi_iinc 6 1 (J23)) ls st h
theorem kX11_happiest_81 {X : zq_X} {d : Nat} (C : zq_C X cX11_happiest 11 RX11 d) {d_X11_worthHeld : Nat} {s_X11_worthHeld : zq_Sp} (h_X11_worthHeld : zq_M yX11_worthHeld cX11_worthHeld 5 (some .int) 1 d_X11_worthHeld s_X11_worthHeld) (g_X11_worthHeld : d_X11_worthHeld + 1 ≤ d) {d_X10_whole : Nat} {s_X10_whole : zq_Sp} (h_X10_whole : zq_M yX10_whole cX10_whole 2 (some .int) 1 d_X10_whole s_X10_whole) (g_X10_whole : d_X10_whole + 1 ≤ d) {d_X5_clear : Nat} {s_X5_clear : zq_Sp} (h_X5_clear : zq_M yX5_clear cX5_clear 1 none 0 d_X5_clear s_X5_clear) (g_X5_clear : d_X5_clear + 1 ≤ d) {d_X5_addFraction : Nat} {s_X5_addFraction : zq_Sp} (h_X5_addFraction : zq_M yX5_addFraction cX5_addFraction 12 none 0 d_X5_addFraction s_X5_addFraction) (g_X5_addFraction : d_X5_addFraction + 1 ≤ d) {J23 : zq_P} (j23 : zq_ok X 11 23 J23) {Q : zq_Q} (hq : zq_R X (some .int) 1 Q) : zq_ok X 11 81 (xX11_happiest_81 s_X11_worthHeld s_X10_whole s_X5_clear s_X5_addFraction J23 Q) := by
  refine zs_iinc C dX11_happiest_81 (by decide) (by decide) ?_
  exact zs_goto C dX11_happiest_84 (by decide) (j23)
def xX11_happiest_71 (s_X11_worthHeld : zq_Sp) (s_X10_whole : zq_Sp) (s_X5_clear : zq_Sp) (s_X5_addFraction : zq_Sp) (J23 : zq_P) (Q : zq_Q) (ls : zq_L) (st : List Value) (h : zq_H) : Prop := (zi_iload 6 (zi_istore 1 (zi_lload 7 (zi_lstore 2 (zi_lload 9 (zi_lstore 4 ((xX11_happiest_81 s_X11_worthHeld s_X10_whole s_X5_clear s_X5_addFraction J23 Q)))))))) ls st h
theorem kX11_happiest_71 {X : zq_X} {d : Nat} (C : zq_C X cX11_happiest 11 RX11 d) {d_X11_worthHeld : Nat} {s_X11_worthHeld : zq_Sp} (h_X11_worthHeld : zq_M yX11_worthHeld cX11_worthHeld 5 (some .int) 1 d_X11_worthHeld s_X11_worthHeld) (g_X11_worthHeld : d_X11_worthHeld + 1 ≤ d) {d_X10_whole : Nat} {s_X10_whole : zq_Sp} (h_X10_whole : zq_M yX10_whole cX10_whole 2 (some .int) 1 d_X10_whole s_X10_whole) (g_X10_whole : d_X10_whole + 1 ≤ d) {d_X5_clear : Nat} {s_X5_clear : zq_Sp} (h_X5_clear : zq_M yX5_clear cX5_clear 1 none 0 d_X5_clear s_X5_clear) (g_X5_clear : d_X5_clear + 1 ≤ d) {d_X5_addFraction : Nat} {s_X5_addFraction : zq_Sp} (h_X5_addFraction : zq_M yX5_addFraction cX5_addFraction 12 none 0 d_X5_addFraction s_X5_addFraction) (g_X5_addFraction : d_X5_addFraction + 1 ≤ d) {J23 : zq_P} (j23 : zq_ok X 11 23 J23) {Q : zq_Q} (hq : zq_R X (some .int) 1 Q) : zq_ok X 11 71 (xX11_happiest_71 s_X11_worthHeld s_X10_whole s_X5_clear s_X5_addFraction J23 Q) := by
  refine zs_iload C dX11_happiest_71 ?_
  refine zs_istore_n C dX11_happiest_73 rfl (by decide) ?_
  refine zs_lload C dX11_happiest_74 ?_
  refine zs_lstore_n C dX11_happiest_76 rfl (by decide) ?_
  refine zs_lload C dX11_happiest_77 ?_
  refine zs_lstore C dX11_happiest_79 (by decide) ?_
  exact kX11_happiest_81 C h_X11_worthHeld g_X11_worthHeld h_X10_whole g_X10_whole h_X5_clear g_X5_clear h_X5_addFraction g_X5_addFraction j23 hq
def xX11_happiest_35 (s_X11_worthHeld : zq_Sp) (s_X10_whole : zq_Sp) (s_X5_clear : zq_Sp) (s_X5_addFraction : zq_Sp) (J23 : zq_P) (Q : zq_Q) (ls : zq_L) (st : List Value) (h : zq_H) : Prop := (zi_aload 0 (zi_iload 6 (zi_iload 6 (zi_callV 2 0 s_X11_worthHeld (zi_i2l (zi_lstore 7 (zi_aload 0 (zi_getR 0 9 (zi_iload 6 (zi_callV 1 9 s_X10_whole (zi_i2l (zi_lstore 9 (zi_lload 7 (zi_lload 4 (zi_l2 (fun x y => x * y) (zi_lload 2 (zi_lload 9 (zi_l2 (fun x y => x * y) (zi_lcmp (zi_if1 (fun x => x ≤ 0) (xX11_happiest_81 s_X11_worthHeld s_X10_whole s_X5_clear s_X5_addFraction J23 Q) (xX11_happiest_71 s_X11_worthHeld s_X10_whole s_X5_clear s_X5_addFraction J23 Q))))))))))))))))))))) ls st h
theorem kX11_happiest_35 {X : zq_X} {d : Nat} (C : zq_C X cX11_happiest 11 RX11 d) {d_X11_worthHeld : Nat} {s_X11_worthHeld : zq_Sp} (h_X11_worthHeld : zq_M yX11_worthHeld cX11_worthHeld 5 (some .int) 1 d_X11_worthHeld s_X11_worthHeld) (g_X11_worthHeld : d_X11_worthHeld + 1 ≤ d) {d_X10_whole : Nat} {s_X10_whole : zq_Sp} (h_X10_whole : zq_M yX10_whole cX10_whole 2 (some .int) 1 d_X10_whole s_X10_whole) (g_X10_whole : d_X10_whole + 1 ≤ d) {d_X5_clear : Nat} {s_X5_clear : zq_Sp} (h_X5_clear : zq_M yX5_clear cX5_clear 1 none 0 d_X5_clear s_X5_clear) (g_X5_clear : d_X5_clear + 1 ≤ d) {d_X5_addFraction : Nat} {s_X5_addFraction : zq_Sp} (h_X5_addFraction : zq_M yX5_addFraction cX5_addFraction 12 none 0 d_X5_addFraction s_X5_addFraction) (g_X5_addFraction : d_X5_addFraction + 1 ≤ d) {J23 : zq_P} (j23 : zq_ok X 11 23 J23) {Q : zq_Q} (hq : zq_R X (some .int) 1 Q) : zq_ok X 11 35 (xX11_happiest_35 s_X11_worthHeld s_X10_whole s_X5_clear s_X5_addFraction J23 Q) := by
  refine zs_aload_n C dX11_happiest_35 rfl ?_
  refine zs_iload C dX11_happiest_36 ?_
  refine zs_iload C dX11_happiest_38 ?_
  refine zs_callV C h_X11_worthHeld g_X11_worthHeld zy_X11_worthHeld zp_0 (show vwCl[11]? = some (RX11, TX11, 16) from rfl) zw_674 zw_676 zs9_X11_worthHeld dX11_happiest_40 ?_
  refine zs_i2l C dX11_happiest_43 ?_
  refine zs_lstore C dX11_happiest_44 (by decide) ?_
  refine zs_aload_n C dX11_happiest_46 rfl ?_
  refine zs_getR C zp_0 zF11 (j := 3) ⟨by decide, rfl⟩ zw_318 dX11_happiest_47 ?_
  refine zs_iload C dX11_happiest_50 ?_
  refine zs_callV C h_X10_whole g_X10_whole zy_X10_whole zp_9 (show vwCl[10]? = some (RX10, TX10, 3) from rfl) zw_690 zw_691 zs9_X10_whole dX11_happiest_52 ?_
  refine zs_i2l C dX11_happiest_55 ?_
  refine zs_lstore C dX11_happiest_56 (by decide) ?_
  refine zs_lload C dX11_happiest_58 ?_
  refine zs_lload C dX11_happiest_60 ?_
  refine zs_lmul C dX11_happiest_62 ?_
  refine zs_lload_n C dX11_happiest_63 rfl ?_
  refine zs_lload C dX11_happiest_64 ?_
  refine zs_lmul C dX11_happiest_66 ?_
  refine zs_lcmp C dX11_happiest_67 ?_
  exact zs_if_le C dX11_happiest_68 (by decide) (kX11_happiest_81 C h_X11_worthHeld g_X11_worthHeld h_X10_whole g_X10_whole h_X5_clear g_X5_clear h_X5_addFraction g_X5_addFraction j23 hq) (kX11_happiest_71 C h_X11_worthHeld g_X11_worthHeld h_X10_whole g_X10_whole h_X5_clear g_X5_clear h_X5_addFraction g_X5_addFraction j23 hq)
def xX11_happiest_23 (s_X11_worthHeld : zq_Sp) (s_X10_whole : zq_Sp) (s_X5_clear : zq_Sp) (s_X5_addFraction : zq_Sp) (J23 : zq_P) (Q : zq_Q) (ls : zq_L) (st : List Value) (h : zq_H) : Prop := (zi_iload 6 (zi_aload 0 (zi_getR 0 5 (zi_getI 5 3 (zi_if2 (fun x y => y ≤ x) (xX11_happiest_87 s_X11_worthHeld s_X10_whole s_X5_clear s_X5_addFraction J23 Q) (xX11_happiest_35 s_X11_worthHeld s_X10_whole s_X5_clear s_X5_addFraction J23 Q)))))) ls st h
theorem kX11_happiest_23 {X : zq_X} {d : Nat} (C : zq_C X cX11_happiest 11 RX11 d) {d_X11_worthHeld : Nat} {s_X11_worthHeld : zq_Sp} (h_X11_worthHeld : zq_M yX11_worthHeld cX11_worthHeld 5 (some .int) 1 d_X11_worthHeld s_X11_worthHeld) (g_X11_worthHeld : d_X11_worthHeld + 1 ≤ d) {d_X10_whole : Nat} {s_X10_whole : zq_Sp} (h_X10_whole : zq_M yX10_whole cX10_whole 2 (some .int) 1 d_X10_whole s_X10_whole) (g_X10_whole : d_X10_whole + 1 ≤ d) {d_X5_clear : Nat} {s_X5_clear : zq_Sp} (h_X5_clear : zq_M yX5_clear cX5_clear 1 none 0 d_X5_clear s_X5_clear) (g_X5_clear : d_X5_clear + 1 ≤ d) {d_X5_addFraction : Nat} {s_X5_addFraction : zq_Sp} (h_X5_addFraction : zq_M yX5_addFraction cX5_addFraction 12 none 0 d_X5_addFraction s_X5_addFraction) (g_X5_addFraction : d_X5_addFraction + 1 ≤ d) {J23 : zq_P} (j23 : zq_ok X 11 23 J23) {Q : zq_Q} (hq : zq_R X (some .int) 1 Q) : zq_ok X 11 23 (xX11_happiest_23 s_X11_worthHeld s_X10_whole s_X5_clear s_X5_addFraction J23 Q) := by
  refine zs_iload C dX11_happiest_23 ?_
  refine zs_aload_n C dX11_happiest_25 rfl ?_
  refine zs_getR C zp_0 zF11 (j := 2) ⟨by decide, rfl⟩ zw_317 dX11_happiest_26 ?_
  refine zs_getIN C zp_5 zF3 (j := 3) ⟨by decide, rfl⟩ zw_85 dX11_happiest_29 ?_
  exact zs_icmp_ge C dX11_happiest_32 (by decide) (kX11_happiest_87 C h_X11_worthHeld g_X11_worthHeld h_X10_whole g_X10_whole h_X5_clear g_X5_clear h_X5_addFraction g_X5_addFraction j23 hq) (kX11_happiest_35 C h_X11_worthHeld g_X11_worthHeld h_X10_whole g_X10_whole h_X5_clear g_X5_clear h_X5_addFraction g_X5_addFraction j23 hq)
def xX11_happiest_13 (s_X11_worthHeld : zq_Sp) (s_X10_whole : zq_Sp) (s_X5_clear : zq_Sp) (s_X5_addFraction : zq_Sp) (J23 : zq_P) (Q : zq_Q) (ls : zq_L) (st : List Value) (h : zq_H) : Prop := (zi_push (.int 0) (zi_istore 1 (zi_push (.long 0) (zi_lstore 2 (zi_push (.long 1) (zi_lstore 4 (zi_push (.int 0) (zi_istore 6 (J23))))))))) ls st h
theorem kX11_happiest_13 {X : zq_X} {d : Nat} (C : zq_C X cX11_happiest 11 RX11 d) {d_X11_worthHeld : Nat} {s_X11_worthHeld : zq_Sp} (h_X11_worthHeld : zq_M yX11_worthHeld cX11_worthHeld 5 (some .int) 1 d_X11_worthHeld s_X11_worthHeld) (g_X11_worthHeld : d_X11_worthHeld + 1 ≤ d) {d_X10_whole : Nat} {s_X10_whole : zq_Sp} (h_X10_whole : zq_M yX10_whole cX10_whole 2 (some .int) 1 d_X10_whole s_X10_whole) (g_X10_whole : d_X10_whole + 1 ≤ d) {d_X5_clear : Nat} {s_X5_clear : zq_Sp} (h_X5_clear : zq_M yX5_clear cX5_clear 1 none 0 d_X5_clear s_X5_clear) (g_X5_clear : d_X5_clear + 1 ≤ d) {d_X5_addFraction : Nat} {s_X5_addFraction : zq_Sp} (h_X5_addFraction : zq_M yX5_addFraction cX5_addFraction 12 none 0 d_X5_addFraction s_X5_addFraction) (g_X5_addFraction : d_X5_addFraction + 1 ≤ d) {J23 : zq_P} (j23 : zq_ok X 11 23 J23) {Q : zq_Q} (hq : zq_R X (some .int) 1 Q) : zq_ok X 11 13 (xX11_happiest_13 s_X11_worthHeld s_X10_whole s_X5_clear s_X5_addFraction J23 Q) := by
  refine zs_iconst C dX11_happiest_13 (by decide) ?_
  refine zs_istore_n C dX11_happiest_14 rfl (by decide) ?_
  refine zs_lconst C dX11_happiest_15 (by decide) ?_
  refine zs_lstore_n C dX11_happiest_16 rfl (by decide) ?_
  refine zs_lconst C dX11_happiest_17 (by decide) ?_
  refine zs_lstore C dX11_happiest_18 (by decide) ?_
  refine zs_iconst C dX11_happiest_20 (by decide) ?_
  refine zs_istore C dX11_happiest_21 (by decide) ?_
  exact j23
def xX11_happiest_10 (s_X11_worthHeld : zq_Sp) (s_X10_whole : zq_Sp) (s_X5_clear : zq_Sp) (s_X5_addFraction : zq_Sp) (J23 : zq_P) (Q : zq_Q) (ls : zq_L) (st : List Value) (h : zq_H) : Prop := (zi_push (.int (-2)) (zi_iret Q)) ls st h
theorem kX11_happiest_10 {X : zq_X} {d : Nat} (C : zq_C X cX11_happiest 11 RX11 d) {d_X11_worthHeld : Nat} {s_X11_worthHeld : zq_Sp} (h_X11_worthHeld : zq_M yX11_worthHeld cX11_worthHeld 5 (some .int) 1 d_X11_worthHeld s_X11_worthHeld) (g_X11_worthHeld : d_X11_worthHeld + 1 ≤ d) {d_X10_whole : Nat} {s_X10_whole : zq_Sp} (h_X10_whole : zq_M yX10_whole cX10_whole 2 (some .int) 1 d_X10_whole s_X10_whole) (g_X10_whole : d_X10_whole + 1 ≤ d) {d_X5_clear : Nat} {s_X5_clear : zq_Sp} (h_X5_clear : zq_M yX5_clear cX5_clear 1 none 0 d_X5_clear s_X5_clear) (g_X5_clear : d_X5_clear + 1 ≤ d) {d_X5_addFraction : Nat} {s_X5_addFraction : zq_Sp} (h_X5_addFraction : zq_M yX5_addFraction cX5_addFraction 12 none 0 d_X5_addFraction s_X5_addFraction) (g_X5_addFraction : d_X5_addFraction + 1 ≤ d) {J23 : zq_P} (j23 : zq_ok X 11 23 J23) {Q : zq_Q} (hq : zq_R X (some .int) 1 Q) : zq_ok X 11 10 (xX11_happiest_10 s_X11_worthHeld s_X10_whole s_X5_clear s_X5_addFraction J23 Q) := by
  refine zs_bipush C dX11_happiest_10 (by decide) ?_
  exact zs_iret C hq dX11_happiest_12
def xX11_happiest_0 (s_X11_worthHeld : zq_Sp) (s_X10_whole : zq_Sp) (s_X5_clear : zq_Sp) (s_X5_addFraction : zq_Sp) (J23 : zq_P) (Q : zq_Q) (ls : zq_L) (st : List Value) (h : zq_H) : Prop := (zi_aload 0 (zi_getR 0 5 (zi_getI 5 3 (zi_if1 (fun x => x = 0) (xX11_happiest_10 s_X11_worthHeld s_X10_whole s_X5_clear s_X5_addFraction J23 Q) (xX11_happiest_13 s_X11_worthHeld s_X10_whole s_X5_clear s_X5_addFraction J23 Q))))) ls st h
theorem kX11_happiest_0 {X : zq_X} {d : Nat} (C : zq_C X cX11_happiest 11 RX11 d) {d_X11_worthHeld : Nat} {s_X11_worthHeld : zq_Sp} (h_X11_worthHeld : zq_M yX11_worthHeld cX11_worthHeld 5 (some .int) 1 d_X11_worthHeld s_X11_worthHeld) (g_X11_worthHeld : d_X11_worthHeld + 1 ≤ d) {d_X10_whole : Nat} {s_X10_whole : zq_Sp} (h_X10_whole : zq_M yX10_whole cX10_whole 2 (some .int) 1 d_X10_whole s_X10_whole) (g_X10_whole : d_X10_whole + 1 ≤ d) {d_X5_clear : Nat} {s_X5_clear : zq_Sp} (h_X5_clear : zq_M yX5_clear cX5_clear 1 none 0 d_X5_clear s_X5_clear) (g_X5_clear : d_X5_clear + 1 ≤ d) {d_X5_addFraction : Nat} {s_X5_addFraction : zq_Sp} (h_X5_addFraction : zq_M yX5_addFraction cX5_addFraction 12 none 0 d_X5_addFraction s_X5_addFraction) (g_X5_addFraction : d_X5_addFraction + 1 ≤ d) {J23 : zq_P} (j23 : zq_ok X 11 23 J23) {Q : zq_Q} (hq : zq_R X (some .int) 1 Q) : zq_ok X 11 0 (xX11_happiest_0 s_X11_worthHeld s_X10_whole s_X5_clear s_X5_addFraction J23 Q) := by
  refine zs_aload_n C dX11_happiest_0 rfl ?_
  refine zs_getR C zp_0 zF11 (j := 2) ⟨by decide, rfl⟩ zw_317 dX11_happiest_1 ?_
  refine zs_getIN C zp_5 zF3 (j := 3) ⟨by decide, rfl⟩ zw_85 dX11_happiest_4 ?_
  exact zs_if_ne C dX11_happiest_7 (by decide) (kX11_happiest_13 C h_X11_worthHeld g_X11_worthHeld h_X10_whole g_X10_whole h_X5_clear g_X5_clear h_X5_addFraction g_X5_addFraction j23 hq) (kX11_happiest_10 C h_X11_worthHeld g_X11_worthHeld h_X10_whole g_X10_whole h_X5_clear g_X5_clear h_X5_addFraction g_X5_addFraction j23 hq)
theorem mX11_happiest {d : Nat} {spec : zq_Sp} {σ23 : Type} {d_X11_worthHeld : Nat} {s_X11_worthHeld : zq_Sp} (h_X11_worthHeld : zq_M yX11_worthHeld cX11_worthHeld 5 (some .int) 1 d_X11_worthHeld s_X11_worthHeld) (g_X11_worthHeld : d_X11_worthHeld + 1 ≤ d) {d_X10_whole : Nat} {s_X10_whole : zq_Sp} (h_X10_whole : zq_M yX10_whole cX10_whole 2 (some .int) 1 d_X10_whole s_X10_whole) (g_X10_whole : d_X10_whole + 1 ≤ d) {d_X5_clear : Nat} {s_X5_clear : zq_Sp} (h_X5_clear : zq_M yX5_clear cX5_clear 1 none 0 d_X5_clear s_X5_clear) (g_X5_clear : d_X5_clear + 1 ≤ d) {d_X5_addFraction : Nat} {s_X5_addFraction : zq_Sp} (h_X5_addFraction : zq_M yX5_addFraction cX5_addFraction 12 none 0 d_X5_addFraction s_X5_addFraction) (g_X5_addFraction : d_X5_addFraction + 1 ≤ d) (μ23 : σ23 → Nat) (I23 : zq_Q → σ23 → zq_P) (v : ∀ args h Q, spec args h Q → (zq_a args).length ≤ 11 ∧ xX11_happiest_0 s_X11_worthHeld s_X10_whole s_X5_clear s_X5_addFraction (fun ls st h => ∃ b, I23 Q b ls st h) Q (zq_l0 11 args) [] h) (v23 : ∀ Q a ls st h, I23 Q a ls st h → xX11_happiest_23 s_X11_worthHeld s_X10_whole s_X5_clear s_X5_addFraction (fun ls st h => ∃ b, μ23 b < μ23 a ∧ I23 Q b ls st h) Q ls st h) : zq_M yX11_happiest cX11_happiest 11 (some .int) 1 d spec := by
  refine zq_met (by decide +kernel) (by decide) (fun X Q args h C hq hs => ⟨(v args h Q hs).1, _, ?_, (v args h Q hs).2⟩)
  have hl := zq_loop1 (X := X) (nL := 11) (pc1 := 23) μ23 (I23 Q) (fun J23 => xX11_happiest_23 s_X11_worthHeld s_X10_whole s_X5_clear s_X5_addFraction J23 Q) (fun j23 => kX11_happiest_23 C h_X11_worthHeld g_X11_worthHeld h_X10_whole g_X10_whole h_X5_clear g_X5_clear h_X5_addFraction g_X5_addFraction j23 hq) (v23 Q)
  exact kX11_happiest_0 C h_X11_worthHeld g_X11_worthHeld h_X10_whole g_X10_whole h_X5_clear g_X5_clear h_X5_addFraction g_X5_addFraction hl hq
/-! ToOneCrumb.pieces(I)I -/
theorem dX11_pieces_0 : decode cX11_pieces 0 = .ok (.aload_n 0, 1) := by decide +kernel
theorem dX11_pieces_1 : decode cX11_pieces 1 = .ok (.iload_n 1, 1) := by decide +kernel
theorem dX11_pieces_2 : decode cX11_pieces 2 = .ok (.invokevirtual 171, 3) := by decide +kernel
theorem dX11_pieces_5 : decode cX11_pieces 5 = .ok (.ifCond .ne 5, 3) := by decide +kernel
theorem dX11_pieces_8 : decode cX11_pieces 8 = .ok (.iconst (-1), 1) := by decide +kernel
theorem dX11_pieces_9 : decode cX11_pieces 9 = .ok (.ireturn, 1) := by decide +kernel
theorem dX11_pieces_10 : decode cX11_pieces 10 = .ok (.iconst 0, 1) := by decide +kernel
theorem dX11_pieces_11 : decode cX11_pieces 11 = .ok (.istore_n 2, 1) := by decide +kernel
theorem dX11_pieces_12 : decode cX11_pieces 12 = .ok (.iconst 0, 1) := by decide +kernel
theorem dX11_pieces_13 : decode cX11_pieces 13 = .ok (.istore_n 3, 1) := by decide +kernel
theorem dX11_pieces_14 : decode cX11_pieces 14 = .ok (.iconst 0, 1) := by decide +kernel
theorem dX11_pieces_15 : decode cX11_pieces 15 = .ok (.istore 4, 2) := by decide +kernel
theorem dX11_pieces_17 : decode cX11_pieces 17 = .ok (.iconst (-1), 1) := by decide +kernel
theorem dX11_pieces_18 : decode cX11_pieces 18 = .ok (.istore 5, 2) := by decide +kernel
theorem dX11_pieces_20 : decode cX11_pieces 20 = .ok (.iconst 0, 1) := by decide +kernel
theorem dX11_pieces_21 : decode cX11_pieces 21 = .ok (.istore 6, 2) := by decide +kernel
theorem dX11_pieces_23 : decode cX11_pieces 23 = .ok (.iload 6, 2) := by decide +kernel
theorem dX11_pieces_25 : decode cX11_pieces 25 = .ok (.aload_n 0, 1) := by decide +kernel
theorem dX11_pieces_26 : decode cX11_pieces 26 = .ok (.getfield 82, 3) := by decide +kernel
theorem dX11_pieces_29 : decode cX11_pieces 29 = .ok (.getfield 128, 3) := by decide +kernel
theorem dX11_pieces_32 : decode cX11_pieces 32 = .ok (.if_icmp .ge 55, 3) := by decide +kernel
theorem dX11_pieces_35 : decode cX11_pieces 35 = .ok (.aload_n 0, 1) := by decide +kernel
theorem dX11_pieces_36 : decode cX11_pieces 36 = .ok (.getfield 40, 3) := by decide +kernel
theorem dX11_pieces_39 : decode cX11_pieces 39 = .ok (.iload 6, 2) := by decide +kernel
theorem dX11_pieces_41 : decode cX11_pieces 41 = .ok (.invokevirtual 168, 3) := by decide +kernel
theorem dX11_pieces_44 : decode cX11_pieces 44 = .ok (.iload_n 1, 1) := by decide +kernel
theorem dX11_pieces_45 : decode cX11_pieces 45 = .ok (.if_icmp .ne 9, 3) := by decide +kernel
theorem dX11_pieces_48 : decode cX11_pieces 48 = .ok (.iload_n 3, 1) := by decide +kernel
theorem dX11_pieces_49 : decode cX11_pieces 49 = .ok (.iconst 1, 1) := by decide +kernel
theorem dX11_pieces_50 : decode cX11_pieces 50 = .ok (.iadd, 1) := by decide +kernel
theorem dX11_pieces_51 : decode cX11_pieces 51 = .ok (.goto 4, 3) := by decide +kernel
theorem dX11_pieces_54 : decode cX11_pieces 54 = .ok (.iconst 0, 1) := by decide +kernel
theorem dX11_pieces_55 : decode cX11_pieces 55 = .ok (.istore_n 3, 1) := by decide +kernel
theorem dX11_pieces_56 : decode cX11_pieces 56 = .ok (.iload_n 3, 1) := by decide +kernel
theorem dX11_pieces_57 : decode cX11_pieces 57 = .ok (.iconst 1, 1) := by decide +kernel
theorem dX11_pieces_58 : decode cX11_pieces 58 = .ok (.if_icmp .ne 6, 3) := by decide +kernel
theorem dX11_pieces_61 : decode cX11_pieces 61 = .ok (.iinc 2 1, 3) := by decide +kernel
theorem dX11_pieces_64 : decode cX11_pieces 64 = .ok (.iload_n 3, 1) := by decide +kernel
theorem dX11_pieces_65 : decode cX11_pieces 65 = .ok (.iload 4, 2) := by decide +kernel
theorem dX11_pieces_67 : decode cX11_pieces 67 = .ok (.if_icmp .le 14, 3) := by decide +kernel
theorem dX11_pieces_70 : decode cX11_pieces 70 = .ok (.iload_n 3, 1) := by decide +kernel
theorem dX11_pieces_71 : decode cX11_pieces 71 = .ok (.istore 4, 2) := by decide +kernel
theorem dX11_pieces_73 : decode cX11_pieces 73 = .ok (.iload 6, 2) := by decide +kernel
theorem dX11_pieces_75 : decode cX11_pieces 75 = .ok (.iconst 1, 1) := by decide +kernel
theorem dX11_pieces_76 : decode cX11_pieces 76 = .ok (.iadd, 1) := by decide +kernel
theorem dX11_pieces_77 : decode cX11_pieces 77 = .ok (.iload_n 3, 1) := by decide +kernel
theorem dX11_pieces_78 : decode cX11_pieces 78 = .ok (.isub, 1) := by decide +kernel
theorem dX11_pieces_79 : decode cX11_pieces 79 = .ok (.istore 5, 2) := by decide +kernel
theorem dX11_pieces_81 : decode cX11_pieces 81 = .ok (.iinc 6 1, 3) := by decide +kernel
theorem dX11_pieces_84 : decode cX11_pieces 84 = .ok (.goto (-61), 3) := by decide +kernel
theorem dX11_pieces_87 : decode cX11_pieces 87 = .ok (.aload_n 0, 1) := by decide +kernel
theorem dX11_pieces_88 : decode cX11_pieces 88 = .ok (.getfield 19, 3) := by decide +kernel
theorem dX11_pieces_91 : decode cX11_pieces 91 = .ok (.invokevirtual 236, 3) := by decide +kernel
theorem dX11_pieces_94 : decode cX11_pieces 94 = .ok (.aload_n 0, 1) := by decide +kernel
theorem dX11_pieces_95 : decode cX11_pieces 95 = .ok (.getfield 19, 3) := by decide +kernel
theorem dX11_pieces_98 : decode cX11_pieces 98 = .ok (.iload 5, 2) := by decide +kernel
theorem dX11_pieces_100 : decode cX11_pieces 100 = .ok (.i2l, 1) := by decide +kernel
theorem dX11_pieces_101 : decode cX11_pieces 101 = .ok (.invokevirtual 237, 3) := by decide +kernel
theorem dX11_pieces_104 : decode cX11_pieces 104 = .ok (.aload_n 0, 1) := by decide +kernel
theorem dX11_pieces_105 : decode cX11_pieces 105 = .ok (.getfield 19, 3) := by decide +kernel
theorem dX11_pieces_108 : decode cX11_pieces 108 = .ok (.iload 4, 2) := by decide +kernel
theorem dX11_pieces_110 : decode cX11_pieces 110 = .ok (.i2l, 1) := by decide +kernel
theorem dX11_pieces_111 : decode cX11_pieces 111 = .ok (.invokevirtual 237, 3) := by decide +kernel
theorem dX11_pieces_114 : decode cX11_pieces 114 = .ok (.iload_n 2, 1) := by decide +kernel
theorem dX11_pieces_115 : decode cX11_pieces 115 = .ok (.ireturn, 1) := by decide +kernel
def xX11_pieces_87 (s_X11_isGuest : zq_Sp) (s_X0_holderOf : zq_Sp) (s_X5_clear : zq_Sp) (s_X5_add : zq_Sp) (J23 : zq_P) (Q : zq_Q) (ls : zq_L) (st : List Value) (h : zq_H) : Prop := (zi_aload 0 (zi_getR 0 3 (zi_callV 0 3 s_X5_clear (zi_aload 0 (zi_getR 0 3 (zi_iload 5 (zi_i2l (zi_callV 1 3 s_X5_add (zi_aload 0 (zi_getR 0 3 (zi_iload 4 (zi_i2l (zi_callV 1 3 s_X5_add (zi_iload 2 (zi_iret Q))))))))))))))) ls st h
theorem kX11_pieces_87 {X : zq_X} {d : Nat} (C : zq_C X cX11_pieces 7 RX11 d) {d_X11_isGuest : Nat} {s_X11_isGuest : zq_Sp} (h_X11_isGuest : zq_M yX11_isGuest cX11_isGuest 2 (some .boolean) 1 d_X11_isGuest s_X11_isGuest) (g_X11_isGuest : d_X11_isGuest + 1 ≤ d) {d_X0_holderOf : Nat} {s_X0_holderOf : zq_Sp} (h_X0_holderOf : zq_M yX0_holderOf cX0_holderOf 2 (some .int) 1 d_X0_holderOf s_X0_holderOf) (g_X0_holderOf : d_X0_holderOf + 1 ≤ d) {d_X5_clear : Nat} {s_X5_clear : zq_Sp} (h_X5_clear : zq_M yX5_clear cX5_clear 1 none 0 d_X5_clear s_X5_clear) (g_X5_clear : d_X5_clear + 1 ≤ d) {d_X5_add : Nat} {s_X5_add : zq_Sp} (h_X5_add : zq_M yX5_add cX5_add 3 none 0 d_X5_add s_X5_add) (g_X5_add : d_X5_add + 1 ≤ d) {J23 : zq_P} (j23 : zq_ok X 7 23 J23) {Q : zq_Q} (hq : zq_R X (some .int) 1 Q) : zq_ok X 7 87 (xX11_pieces_87 s_X11_isGuest s_X0_holderOf s_X5_clear s_X5_add J23 Q) := by
  refine zs_aload_n C dX11_pieces_87 rfl ?_
  refine zs_getR C zp_0 zF11 (j := 1) ⟨by decide, rfl⟩ zw_316 dX11_pieces_88 ?_
  refine zs_callV C h_X5_clear g_X5_clear zy_X5_clear zp_3 (show vwCl[5]? = some (RX5, TX5, 2) from rfl) zw_650 zw_651 zs9_X5_clear dX11_pieces_91 ?_
  refine zs_aload_n C dX11_pieces_94 rfl ?_
  refine zs_getR C zp_0 zF11 (j := 1) ⟨by decide, rfl⟩ zw_316 dX11_pieces_95 ?_
  refine zs_iload C dX11_pieces_98 ?_
  refine zs_i2l C dX11_pieces_100 ?_
  refine zs_callV C h_X5_add g_X5_add zy_X5_add zp_3 (show vwCl[5]? = some (RX5, TX5, 2) from rfl) zw_654 zw_655 zs9_X5_add dX11_pieces_101 ?_
  refine zs_aload_n C dX11_pieces_104 rfl ?_
  refine zs_getR C zp_0 zF11 (j := 1) ⟨by decide, rfl⟩ zw_316 dX11_pieces_105 ?_
  refine zs_iload C dX11_pieces_108 ?_
  refine zs_i2l C dX11_pieces_110 ?_
  refine zs_callV C h_X5_add g_X5_add zy_X5_add zp_3 (show vwCl[5]? = some (RX5, TX5, 2) from rfl) zw_654 zw_655 zs9_X5_add dX11_pieces_111 ?_
  refine zs_iload_n C dX11_pieces_114 rfl ?_
  exact zs_iret C hq dX11_pieces_115
def xX11_pieces_81 (s_X11_isGuest : zq_Sp) (s_X0_holderOf : zq_Sp) (s_X5_clear : zq_Sp) (s_X5_add : zq_Sp) (J23 : zq_P) (Q : zq_Q) (ls : zq_L) (st : List Value) (h : zq_H) : Prop := (zi_iinc 6 1 (J23)) ls st h
theorem kX11_pieces_81 {X : zq_X} {d : Nat} (C : zq_C X cX11_pieces 7 RX11 d) {d_X11_isGuest : Nat} {s_X11_isGuest : zq_Sp} (h_X11_isGuest : zq_M yX11_isGuest cX11_isGuest 2 (some .boolean) 1 d_X11_isGuest s_X11_isGuest) (g_X11_isGuest : d_X11_isGuest + 1 ≤ d) {d_X0_holderOf : Nat} {s_X0_holderOf : zq_Sp} (h_X0_holderOf : zq_M yX0_holderOf cX0_holderOf 2 (some .int) 1 d_X0_holderOf s_X0_holderOf) (g_X0_holderOf : d_X0_holderOf + 1 ≤ d) {d_X5_clear : Nat} {s_X5_clear : zq_Sp} (h_X5_clear : zq_M yX5_clear cX5_clear 1 none 0 d_X5_clear s_X5_clear) (g_X5_clear : d_X5_clear + 1 ≤ d) {d_X5_add : Nat} {s_X5_add : zq_Sp} (h_X5_add : zq_M yX5_add cX5_add 3 none 0 d_X5_add s_X5_add) (g_X5_add : d_X5_add + 1 ≤ d) {J23 : zq_P} (j23 : zq_ok X 7 23 J23) {Q : zq_Q} (hq : zq_R X (some .int) 1 Q) : zq_ok X 7 81 (xX11_pieces_81 s_X11_isGuest s_X0_holderOf s_X5_clear s_X5_add J23 Q) := by
  refine zs_iinc C dX11_pieces_81 (by decide) (by decide) ?_
  exact zs_goto C dX11_pieces_84 (by decide) (j23)
def xX11_pieces_70 (s_X11_isGuest : zq_Sp) (s_X0_holderOf : zq_Sp) (s_X5_clear : zq_Sp) (s_X5_add : zq_Sp) (J23 : zq_P) (Q : zq_Q) (ls : zq_L) (st : List Value) (h : zq_H) : Prop := (zi_iload 3 (zi_istore 4 (zi_iload 6 (zi_push (.int 1) (zi_i2 (fun x y => x + y) (zi_iload 3 (zi_i2 (fun x y => x - y) (zi_istore 5 ((xX11_pieces_81 s_X11_isGuest s_X0_holderOf s_X5_clear s_X5_add J23 Q)))))))))) ls st h
theorem kX11_pieces_70 {X : zq_X} {d : Nat} (C : zq_C X cX11_pieces 7 RX11 d) {d_X11_isGuest : Nat} {s_X11_isGuest : zq_Sp} (h_X11_isGuest : zq_M yX11_isGuest cX11_isGuest 2 (some .boolean) 1 d_X11_isGuest s_X11_isGuest) (g_X11_isGuest : d_X11_isGuest + 1 ≤ d) {d_X0_holderOf : Nat} {s_X0_holderOf : zq_Sp} (h_X0_holderOf : zq_M yX0_holderOf cX0_holderOf 2 (some .int) 1 d_X0_holderOf s_X0_holderOf) (g_X0_holderOf : d_X0_holderOf + 1 ≤ d) {d_X5_clear : Nat} {s_X5_clear : zq_Sp} (h_X5_clear : zq_M yX5_clear cX5_clear 1 none 0 d_X5_clear s_X5_clear) (g_X5_clear : d_X5_clear + 1 ≤ d) {d_X5_add : Nat} {s_X5_add : zq_Sp} (h_X5_add : zq_M yX5_add cX5_add 3 none 0 d_X5_add s_X5_add) (g_X5_add : d_X5_add + 1 ≤ d) {J23 : zq_P} (j23 : zq_ok X 7 23 J23) {Q : zq_Q} (hq : zq_R X (some .int) 1 Q) : zq_ok X 7 70 (xX11_pieces_70 s_X11_isGuest s_X0_holderOf s_X5_clear s_X5_add J23 Q) := by
  refine zs_iload_n C dX11_pieces_70 rfl ?_
  refine zs_istore C dX11_pieces_71 (by decide) ?_
  refine zs_iload C dX11_pieces_73 ?_
  refine zs_iconst C dX11_pieces_75 (by decide) ?_
  refine zs_iadd C dX11_pieces_76 ?_
  refine zs_iload_n C dX11_pieces_77 rfl ?_
  refine zs_isub C dX11_pieces_78 ?_
  refine zs_istore C dX11_pieces_79 (by decide) ?_
  exact kX11_pieces_81 C h_X11_isGuest g_X11_isGuest h_X0_holderOf g_X0_holderOf h_X5_clear g_X5_clear h_X5_add g_X5_add j23 hq
def xX11_pieces_64 (s_X11_isGuest : zq_Sp) (s_X0_holderOf : zq_Sp) (s_X5_clear : zq_Sp) (s_X5_add : zq_Sp) (J23 : zq_P) (Q : zq_Q) (ls : zq_L) (st : List Value) (h : zq_H) : Prop := (zi_iload 3 (zi_iload 4 (zi_if2 (fun x y => x ≤ y) (xX11_pieces_81 s_X11_isGuest s_X0_holderOf s_X5_clear s_X5_add J23 Q) (xX11_pieces_70 s_X11_isGuest s_X0_holderOf s_X5_clear s_X5_add J23 Q)))) ls st h
theorem kX11_pieces_64 {X : zq_X} {d : Nat} (C : zq_C X cX11_pieces 7 RX11 d) {d_X11_isGuest : Nat} {s_X11_isGuest : zq_Sp} (h_X11_isGuest : zq_M yX11_isGuest cX11_isGuest 2 (some .boolean) 1 d_X11_isGuest s_X11_isGuest) (g_X11_isGuest : d_X11_isGuest + 1 ≤ d) {d_X0_holderOf : Nat} {s_X0_holderOf : zq_Sp} (h_X0_holderOf : zq_M yX0_holderOf cX0_holderOf 2 (some .int) 1 d_X0_holderOf s_X0_holderOf) (g_X0_holderOf : d_X0_holderOf + 1 ≤ d) {d_X5_clear : Nat} {s_X5_clear : zq_Sp} (h_X5_clear : zq_M yX5_clear cX5_clear 1 none 0 d_X5_clear s_X5_clear) (g_X5_clear : d_X5_clear + 1 ≤ d) {d_X5_add : Nat} {s_X5_add : zq_Sp} (h_X5_add : zq_M yX5_add cX5_add 3 none 0 d_X5_add s_X5_add) (g_X5_add : d_X5_add + 1 ≤ d) {J23 : zq_P} (j23 : zq_ok X 7 23 J23) {Q : zq_Q} (hq : zq_R X (some .int) 1 Q) : zq_ok X 7 64 (xX11_pieces_64 s_X11_isGuest s_X0_holderOf s_X5_clear s_X5_add J23 Q) := by
  refine zs_iload_n C dX11_pieces_64 rfl ?_
  refine zs_iload C dX11_pieces_65 ?_
  exact zs_icmp_le C dX11_pieces_67 (by decide) (kX11_pieces_81 C h_X11_isGuest g_X11_isGuest h_X0_holderOf g_X0_holderOf h_X5_clear g_X5_clear h_X5_add g_X5_add j23 hq) (kX11_pieces_70 C h_X11_isGuest g_X11_isGuest h_X0_holderOf g_X0_holderOf h_X5_clear g_X5_clear h_X5_add g_X5_add j23 hq)
def xX11_pieces_61 (s_X11_isGuest : zq_Sp) (s_X0_holderOf : zq_Sp) (s_X5_clear : zq_Sp) (s_X5_add : zq_Sp) (J23 : zq_P) (Q : zq_Q) (ls : zq_L) (st : List Value) (h : zq_H) : Prop := (zi_iinc 2 1 ((xX11_pieces_64 s_X11_isGuest s_X0_holderOf s_X5_clear s_X5_add J23 Q))) ls st h
theorem kX11_pieces_61 {X : zq_X} {d : Nat} (C : zq_C X cX11_pieces 7 RX11 d) {d_X11_isGuest : Nat} {s_X11_isGuest : zq_Sp} (h_X11_isGuest : zq_M yX11_isGuest cX11_isGuest 2 (some .boolean) 1 d_X11_isGuest s_X11_isGuest) (g_X11_isGuest : d_X11_isGuest + 1 ≤ d) {d_X0_holderOf : Nat} {s_X0_holderOf : zq_Sp} (h_X0_holderOf : zq_M yX0_holderOf cX0_holderOf 2 (some .int) 1 d_X0_holderOf s_X0_holderOf) (g_X0_holderOf : d_X0_holderOf + 1 ≤ d) {d_X5_clear : Nat} {s_X5_clear : zq_Sp} (h_X5_clear : zq_M yX5_clear cX5_clear 1 none 0 d_X5_clear s_X5_clear) (g_X5_clear : d_X5_clear + 1 ≤ d) {d_X5_add : Nat} {s_X5_add : zq_Sp} (h_X5_add : zq_M yX5_add cX5_add 3 none 0 d_X5_add s_X5_add) (g_X5_add : d_X5_add + 1 ≤ d) {J23 : zq_P} (j23 : zq_ok X 7 23 J23) {Q : zq_Q} (hq : zq_R X (some .int) 1 Q) : zq_ok X 7 61 (xX11_pieces_61 s_X11_isGuest s_X0_holderOf s_X5_clear s_X5_add J23 Q) := by
  refine zs_iinc C dX11_pieces_61 (by decide) (by decide) ?_
  exact kX11_pieces_64 C h_X11_isGuest g_X11_isGuest h_X0_holderOf g_X0_holderOf h_X5_clear g_X5_clear h_X5_add g_X5_add j23 hq
def xX11_pieces_55 (s_X11_isGuest : zq_Sp) (s_X0_holderOf : zq_Sp) (s_X5_clear : zq_Sp) (s_X5_add : zq_Sp) (J23 : zq_P) (Q : zq_Q) (ls : zq_L) (st : List Value) (h : zq_H) : Prop := (zi_istore 3 (zi_iload 3 (zi_push (.int 1) (zi_if2 (fun x y => x = y) (xX11_pieces_61 s_X11_isGuest s_X0_holderOf s_X5_clear s_X5_add J23 Q) (xX11_pieces_64 s_X11_isGuest s_X0_holderOf s_X5_clear s_X5_add J23 Q))))) ls st h
theorem kX11_pieces_55 {X : zq_X} {d : Nat} (C : zq_C X cX11_pieces 7 RX11 d) {d_X11_isGuest : Nat} {s_X11_isGuest : zq_Sp} (h_X11_isGuest : zq_M yX11_isGuest cX11_isGuest 2 (some .boolean) 1 d_X11_isGuest s_X11_isGuest) (g_X11_isGuest : d_X11_isGuest + 1 ≤ d) {d_X0_holderOf : Nat} {s_X0_holderOf : zq_Sp} (h_X0_holderOf : zq_M yX0_holderOf cX0_holderOf 2 (some .int) 1 d_X0_holderOf s_X0_holderOf) (g_X0_holderOf : d_X0_holderOf + 1 ≤ d) {d_X5_clear : Nat} {s_X5_clear : zq_Sp} (h_X5_clear : zq_M yX5_clear cX5_clear 1 none 0 d_X5_clear s_X5_clear) (g_X5_clear : d_X5_clear + 1 ≤ d) {d_X5_add : Nat} {s_X5_add : zq_Sp} (h_X5_add : zq_M yX5_add cX5_add 3 none 0 d_X5_add s_X5_add) (g_X5_add : d_X5_add + 1 ≤ d) {J23 : zq_P} (j23 : zq_ok X 7 23 J23) {Q : zq_Q} (hq : zq_R X (some .int) 1 Q) : zq_ok X 7 55 (xX11_pieces_55 s_X11_isGuest s_X0_holderOf s_X5_clear s_X5_add J23 Q) := by
  refine zs_istore_n C dX11_pieces_55 rfl (by decide) ?_
  refine zs_iload_n C dX11_pieces_56 rfl ?_
  refine zs_iconst C dX11_pieces_57 (by decide) ?_
  exact zs_icmp_ne C dX11_pieces_58 (by decide) (kX11_pieces_64 C h_X11_isGuest g_X11_isGuest h_X0_holderOf g_X0_holderOf h_X5_clear g_X5_clear h_X5_add g_X5_add j23 hq) (kX11_pieces_61 C h_X11_isGuest g_X11_isGuest h_X0_holderOf g_X0_holderOf h_X5_clear g_X5_clear h_X5_add g_X5_add j23 hq)
def xX11_pieces_54 (s_X11_isGuest : zq_Sp) (s_X0_holderOf : zq_Sp) (s_X5_clear : zq_Sp) (s_X5_add : zq_Sp) (J23 : zq_P) (Q : zq_Q) (ls : zq_L) (st : List Value) (h : zq_H) : Prop := (zi_push (.int 0) ((xX11_pieces_55 s_X11_isGuest s_X0_holderOf s_X5_clear s_X5_add J23 Q))) ls st h
theorem kX11_pieces_54 {X : zq_X} {d : Nat} (C : zq_C X cX11_pieces 7 RX11 d) {d_X11_isGuest : Nat} {s_X11_isGuest : zq_Sp} (h_X11_isGuest : zq_M yX11_isGuest cX11_isGuest 2 (some .boolean) 1 d_X11_isGuest s_X11_isGuest) (g_X11_isGuest : d_X11_isGuest + 1 ≤ d) {d_X0_holderOf : Nat} {s_X0_holderOf : zq_Sp} (h_X0_holderOf : zq_M yX0_holderOf cX0_holderOf 2 (some .int) 1 d_X0_holderOf s_X0_holderOf) (g_X0_holderOf : d_X0_holderOf + 1 ≤ d) {d_X5_clear : Nat} {s_X5_clear : zq_Sp} (h_X5_clear : zq_M yX5_clear cX5_clear 1 none 0 d_X5_clear s_X5_clear) (g_X5_clear : d_X5_clear + 1 ≤ d) {d_X5_add : Nat} {s_X5_add : zq_Sp} (h_X5_add : zq_M yX5_add cX5_add 3 none 0 d_X5_add s_X5_add) (g_X5_add : d_X5_add + 1 ≤ d) {J23 : zq_P} (j23 : zq_ok X 7 23 J23) {Q : zq_Q} (hq : zq_R X (some .int) 1 Q) : zq_ok X 7 54 (xX11_pieces_54 s_X11_isGuest s_X0_holderOf s_X5_clear s_X5_add J23 Q) := by
  refine zs_iconst C dX11_pieces_54 (by decide) ?_
  exact kX11_pieces_55 C h_X11_isGuest g_X11_isGuest h_X0_holderOf g_X0_holderOf h_X5_clear g_X5_clear h_X5_add g_X5_add j23 hq
def xX11_pieces_48 (s_X11_isGuest : zq_Sp) (s_X0_holderOf : zq_Sp) (s_X5_clear : zq_Sp) (s_X5_add : zq_Sp) (J23 : zq_P) (Q : zq_Q) (ls : zq_L) (st : List Value) (h : zq_H) : Prop := (zi_iload 3 (zi_push (.int 1) (zi_i2 (fun x y => x + y) ((xX11_pieces_55 s_X11_isGuest s_X0_holderOf s_X5_clear s_X5_add J23 Q))))) ls st h
theorem kX11_pieces_48 {X : zq_X} {d : Nat} (C : zq_C X cX11_pieces 7 RX11 d) {d_X11_isGuest : Nat} {s_X11_isGuest : zq_Sp} (h_X11_isGuest : zq_M yX11_isGuest cX11_isGuest 2 (some .boolean) 1 d_X11_isGuest s_X11_isGuest) (g_X11_isGuest : d_X11_isGuest + 1 ≤ d) {d_X0_holderOf : Nat} {s_X0_holderOf : zq_Sp} (h_X0_holderOf : zq_M yX0_holderOf cX0_holderOf 2 (some .int) 1 d_X0_holderOf s_X0_holderOf) (g_X0_holderOf : d_X0_holderOf + 1 ≤ d) {d_X5_clear : Nat} {s_X5_clear : zq_Sp} (h_X5_clear : zq_M yX5_clear cX5_clear 1 none 0 d_X5_clear s_X5_clear) (g_X5_clear : d_X5_clear + 1 ≤ d) {d_X5_add : Nat} {s_X5_add : zq_Sp} (h_X5_add : zq_M yX5_add cX5_add 3 none 0 d_X5_add s_X5_add) (g_X5_add : d_X5_add + 1 ≤ d) {J23 : zq_P} (j23 : zq_ok X 7 23 J23) {Q : zq_Q} (hq : zq_R X (some .int) 1 Q) : zq_ok X 7 48 (xX11_pieces_48 s_X11_isGuest s_X0_holderOf s_X5_clear s_X5_add J23 Q) := by
  refine zs_iload_n C dX11_pieces_48 rfl ?_
  refine zs_iconst C dX11_pieces_49 (by decide) ?_
  refine zs_iadd C dX11_pieces_50 ?_
  exact zs_goto C dX11_pieces_51 (by decide) (kX11_pieces_55 C h_X11_isGuest g_X11_isGuest h_X0_holderOf g_X0_holderOf h_X5_clear g_X5_clear h_X5_add g_X5_add j23 hq)
def xX11_pieces_35 (s_X11_isGuest : zq_Sp) (s_X0_holderOf : zq_Sp) (s_X5_clear : zq_Sp) (s_X5_add : zq_Sp) (J23 : zq_P) (Q : zq_Q) (ls : zq_L) (st : List Value) (h : zq_H) : Prop := (zi_aload 0 (zi_getR 0 12 (zi_iload 6 (zi_callV 1 12 s_X0_holderOf (zi_iload 1 (zi_if2 (fun x y => x = y) (xX11_pieces_48 s_X11_isGuest s_X0_holderOf s_X5_clear s_X5_add J23 Q) (xX11_pieces_54 s_X11_isGuest s_X0_holderOf s_X5_clear s_X5_add J23 Q))))))) ls st h
theorem kX11_pieces_35 {X : zq_X} {d : Nat} (C : zq_C X cX11_pieces 7 RX11 d) {d_X11_isGuest : Nat} {s_X11_isGuest : zq_Sp} (h_X11_isGuest : zq_M yX11_isGuest cX11_isGuest 2 (some .boolean) 1 d_X11_isGuest s_X11_isGuest) (g_X11_isGuest : d_X11_isGuest + 1 ≤ d) {d_X0_holderOf : Nat} {s_X0_holderOf : zq_Sp} (h_X0_holderOf : zq_M yX0_holderOf cX0_holderOf 2 (some .int) 1 d_X0_holderOf s_X0_holderOf) (g_X0_holderOf : d_X0_holderOf + 1 ≤ d) {d_X5_clear : Nat} {s_X5_clear : zq_Sp} (h_X5_clear : zq_M yX5_clear cX5_clear 1 none 0 d_X5_clear s_X5_clear) (g_X5_clear : d_X5_clear + 1 ≤ d) {d_X5_add : Nat} {s_X5_add : zq_Sp} (h_X5_add : zq_M yX5_add cX5_add 3 none 0 d_X5_add s_X5_add) (g_X5_add : d_X5_add + 1 ≤ d) {J23 : zq_P} (j23 : zq_ok X 7 23 J23) {Q : zq_Q} (hq : zq_R X (some .int) 1 Q) : zq_ok X 7 35 (xX11_pieces_35 s_X11_isGuest s_X0_holderOf s_X5_clear s_X5_add J23 Q) := by
  refine zs_aload_n C dX11_pieces_35 rfl ?_
  refine zs_getR C zp_0 zF11 (j := 4) ⟨by decide, rfl⟩ zw_319 dX11_pieces_36 ?_
  refine zs_iload C dX11_pieces_39 ?_
  refine zs_callV C h_X0_holderOf g_X0_holderOf zy_X0_holderOf zp_12 (show vwCl[0]? = some (RX0, TX0, 5) from rfl) zw_587 zw_588 zs9_X0_holderOf dX11_pieces_41 ?_
  refine zs_iload_n C dX11_pieces_44 rfl ?_
  exact zs_icmp_ne C dX11_pieces_45 (by decide) (kX11_pieces_54 C h_X11_isGuest g_X11_isGuest h_X0_holderOf g_X0_holderOf h_X5_clear g_X5_clear h_X5_add g_X5_add j23 hq) (kX11_pieces_48 C h_X11_isGuest g_X11_isGuest h_X0_holderOf g_X0_holderOf h_X5_clear g_X5_clear h_X5_add g_X5_add j23 hq)
def xX11_pieces_23 (s_X11_isGuest : zq_Sp) (s_X0_holderOf : zq_Sp) (s_X5_clear : zq_Sp) (s_X5_add : zq_Sp) (J23 : zq_P) (Q : zq_Q) (ls : zq_L) (st : List Value) (h : zq_H) : Prop := (zi_iload 6 (zi_aload 0 (zi_getR 0 40 (zi_getI 40 3 (zi_if2 (fun x y => y ≤ x) (xX11_pieces_87 s_X11_isGuest s_X0_holderOf s_X5_clear s_X5_add J23 Q) (xX11_pieces_35 s_X11_isGuest s_X0_holderOf s_X5_clear s_X5_add J23 Q)))))) ls st h
theorem kX11_pieces_23 {X : zq_X} {d : Nat} (C : zq_C X cX11_pieces 7 RX11 d) {d_X11_isGuest : Nat} {s_X11_isGuest : zq_Sp} (h_X11_isGuest : zq_M yX11_isGuest cX11_isGuest 2 (some .boolean) 1 d_X11_isGuest s_X11_isGuest) (g_X11_isGuest : d_X11_isGuest + 1 ≤ d) {d_X0_holderOf : Nat} {s_X0_holderOf : zq_Sp} (h_X0_holderOf : zq_M yX0_holderOf cX0_holderOf 2 (some .int) 1 d_X0_holderOf s_X0_holderOf) (g_X0_holderOf : d_X0_holderOf + 1 ≤ d) {d_X5_clear : Nat} {s_X5_clear : zq_Sp} (h_X5_clear : zq_M yX5_clear cX5_clear 1 none 0 d_X5_clear s_X5_clear) (g_X5_clear : d_X5_clear + 1 ≤ d) {d_X5_add : Nat} {s_X5_add : zq_Sp} (h_X5_add : zq_M yX5_add cX5_add 3 none 0 d_X5_add s_X5_add) (g_X5_add : d_X5_add + 1 ≤ d) {J23 : zq_P} (j23 : zq_ok X 7 23 J23) {Q : zq_Q} (hq : zq_R X (some .int) 1 Q) : zq_ok X 7 23 (xX11_pieces_23 s_X11_isGuest s_X0_holderOf s_X5_clear s_X5_add J23 Q) := by
  refine zs_iload C dX11_pieces_23 ?_
  refine zs_aload_n C dX11_pieces_25 rfl ?_
  refine zs_getR C zp_0 zF11 (j := 11) ⟨by decide, rfl⟩ zw_326 dX11_pieces_26 ?_
  refine zs_getIN C zp_40 zF2 (j := 3) ⟨by decide, rfl⟩ zw_273 dX11_pieces_29 ?_
  exact zs_icmp_ge C dX11_pieces_32 (by decide) (kX11_pieces_87 C h_X11_isGuest g_X11_isGuest h_X0_holderOf g_X0_holderOf h_X5_clear g_X5_clear h_X5_add g_X5_add j23 hq) (kX11_pieces_35 C h_X11_isGuest g_X11_isGuest h_X0_holderOf g_X0_holderOf h_X5_clear g_X5_clear h_X5_add g_X5_add j23 hq)
def xX11_pieces_10 (s_X11_isGuest : zq_Sp) (s_X0_holderOf : zq_Sp) (s_X5_clear : zq_Sp) (s_X5_add : zq_Sp) (J23 : zq_P) (Q : zq_Q) (ls : zq_L) (st : List Value) (h : zq_H) : Prop := (zi_push (.int 0) (zi_istore 2 (zi_push (.int 0) (zi_istore 3 (zi_push (.int 0) (zi_istore 4 (zi_push (.int (-1)) (zi_istore 5 (zi_push (.int 0) (zi_istore 6 (J23))))))))))) ls st h
theorem kX11_pieces_10 {X : zq_X} {d : Nat} (C : zq_C X cX11_pieces 7 RX11 d) {d_X11_isGuest : Nat} {s_X11_isGuest : zq_Sp} (h_X11_isGuest : zq_M yX11_isGuest cX11_isGuest 2 (some .boolean) 1 d_X11_isGuest s_X11_isGuest) (g_X11_isGuest : d_X11_isGuest + 1 ≤ d) {d_X0_holderOf : Nat} {s_X0_holderOf : zq_Sp} (h_X0_holderOf : zq_M yX0_holderOf cX0_holderOf 2 (some .int) 1 d_X0_holderOf s_X0_holderOf) (g_X0_holderOf : d_X0_holderOf + 1 ≤ d) {d_X5_clear : Nat} {s_X5_clear : zq_Sp} (h_X5_clear : zq_M yX5_clear cX5_clear 1 none 0 d_X5_clear s_X5_clear) (g_X5_clear : d_X5_clear + 1 ≤ d) {d_X5_add : Nat} {s_X5_add : zq_Sp} (h_X5_add : zq_M yX5_add cX5_add 3 none 0 d_X5_add s_X5_add) (g_X5_add : d_X5_add + 1 ≤ d) {J23 : zq_P} (j23 : zq_ok X 7 23 J23) {Q : zq_Q} (hq : zq_R X (some .int) 1 Q) : zq_ok X 7 10 (xX11_pieces_10 s_X11_isGuest s_X0_holderOf s_X5_clear s_X5_add J23 Q) := by
  refine zs_iconst C dX11_pieces_10 (by decide) ?_
  refine zs_istore_n C dX11_pieces_11 rfl (by decide) ?_
  refine zs_iconst C dX11_pieces_12 (by decide) ?_
  refine zs_istore_n C dX11_pieces_13 rfl (by decide) ?_
  refine zs_iconst C dX11_pieces_14 (by decide) ?_
  refine zs_istore C dX11_pieces_15 (by decide) ?_
  refine zs_iconst C dX11_pieces_17 (by decide) ?_
  refine zs_istore C dX11_pieces_18 (by decide) ?_
  refine zs_iconst C dX11_pieces_20 (by decide) ?_
  refine zs_istore C dX11_pieces_21 (by decide) ?_
  exact j23
def xX11_pieces_8 (s_X11_isGuest : zq_Sp) (s_X0_holderOf : zq_Sp) (s_X5_clear : zq_Sp) (s_X5_add : zq_Sp) (J23 : zq_P) (Q : zq_Q) (ls : zq_L) (st : List Value) (h : zq_H) : Prop := (zi_push (.int (-1)) (zi_iret Q)) ls st h
theorem kX11_pieces_8 {X : zq_X} {d : Nat} (C : zq_C X cX11_pieces 7 RX11 d) {d_X11_isGuest : Nat} {s_X11_isGuest : zq_Sp} (h_X11_isGuest : zq_M yX11_isGuest cX11_isGuest 2 (some .boolean) 1 d_X11_isGuest s_X11_isGuest) (g_X11_isGuest : d_X11_isGuest + 1 ≤ d) {d_X0_holderOf : Nat} {s_X0_holderOf : zq_Sp} (h_X0_holderOf : zq_M yX0_holderOf cX0_holderOf 2 (some .int) 1 d_X0_holderOf s_X0_holderOf) (g_X0_holderOf : d_X0_holderOf + 1 ≤ d) {d_X5_clear : Nat} {s_X5_clear : zq_Sp} (h_X5_clear : zq_M yX5_clear cX5_clear 1 none 0 d_X5_clear s_X5_clear) (g_X5_clear : d_X5_clear + 1 ≤ d) {d_X5_add : Nat} {s_X5_add : zq_Sp} (h_X5_add : zq_M yX5_add cX5_add 3 none 0 d_X5_add s_X5_add) (g_X5_add : d_X5_add + 1 ≤ d) {J23 : zq_P} (j23 : zq_ok X 7 23 J23) {Q : zq_Q} (hq : zq_R X (some .int) 1 Q) : zq_ok X 7 8 (xX11_pieces_8 s_X11_isGuest s_X0_holderOf s_X5_clear s_X5_add J23 Q) := by
  refine zs_iconst C dX11_pieces_8 (by decide) ?_
  exact zs_iret C hq dX11_pieces_9
def xX11_pieces_0 (s_X11_isGuest : zq_Sp) (s_X0_holderOf : zq_Sp) (s_X5_clear : zq_Sp) (s_X5_add : zq_Sp) (J23 : zq_P) (Q : zq_Q) (ls : zq_L) (st : List Value) (h : zq_H) : Prop := (zi_aload 0 (zi_iload 1 (zi_callV 1 0 s_X11_isGuest (zi_if1 (fun x => x = 0) (xX11_pieces_8 s_X11_isGuest s_X0_holderOf s_X5_clear s_X5_add J23 Q) (xX11_pieces_10 s_X11_isGuest s_X0_holderOf s_X5_clear s_X5_add J23 Q))))) ls st h
theorem kX11_pieces_0 {X : zq_X} {d : Nat} (C : zq_C X cX11_pieces 7 RX11 d) {d_X11_isGuest : Nat} {s_X11_isGuest : zq_Sp} (h_X11_isGuest : zq_M yX11_isGuest cX11_isGuest 2 (some .boolean) 1 d_X11_isGuest s_X11_isGuest) (g_X11_isGuest : d_X11_isGuest + 1 ≤ d) {d_X0_holderOf : Nat} {s_X0_holderOf : zq_Sp} (h_X0_holderOf : zq_M yX0_holderOf cX0_holderOf 2 (some .int) 1 d_X0_holderOf s_X0_holderOf) (g_X0_holderOf : d_X0_holderOf + 1 ≤ d) {d_X5_clear : Nat} {s_X5_clear : zq_Sp} (h_X5_clear : zq_M yX5_clear cX5_clear 1 none 0 d_X5_clear s_X5_clear) (g_X5_clear : d_X5_clear + 1 ≤ d) {d_X5_add : Nat} {s_X5_add : zq_Sp} (h_X5_add : zq_M yX5_add cX5_add 3 none 0 d_X5_add s_X5_add) (g_X5_add : d_X5_add + 1 ≤ d) {J23 : zq_P} (j23 : zq_ok X 7 23 J23) {Q : zq_Q} (hq : zq_R X (some .int) 1 Q) : zq_ok X 7 0 (xX11_pieces_0 s_X11_isGuest s_X0_holderOf s_X5_clear s_X5_add J23 Q) := by
  refine zs_aload_n C dX11_pieces_0 rfl ?_
  refine zs_iload_n C dX11_pieces_1 rfl ?_
  refine zs_callV C h_X11_isGuest g_X11_isGuest zy_X11_isGuest zp_0 (show vwCl[11]? = some (RX11, TX11, 16) from rfl) zw_546 zw_548 zs9_X11_isGuest dX11_pieces_2 ?_
  exact zs_if_ne C dX11_pieces_5 (by decide) (kX11_pieces_10 C h_X11_isGuest g_X11_isGuest h_X0_holderOf g_X0_holderOf h_X5_clear g_X5_clear h_X5_add g_X5_add j23 hq) (kX11_pieces_8 C h_X11_isGuest g_X11_isGuest h_X0_holderOf g_X0_holderOf h_X5_clear g_X5_clear h_X5_add g_X5_add j23 hq)
theorem mX11_pieces {d : Nat} {spec : zq_Sp} {σ23 : Type} {d_X11_isGuest : Nat} {s_X11_isGuest : zq_Sp} (h_X11_isGuest : zq_M yX11_isGuest cX11_isGuest 2 (some .boolean) 1 d_X11_isGuest s_X11_isGuest) (g_X11_isGuest : d_X11_isGuest + 1 ≤ d) {d_X0_holderOf : Nat} {s_X0_holderOf : zq_Sp} (h_X0_holderOf : zq_M yX0_holderOf cX0_holderOf 2 (some .int) 1 d_X0_holderOf s_X0_holderOf) (g_X0_holderOf : d_X0_holderOf + 1 ≤ d) {d_X5_clear : Nat} {s_X5_clear : zq_Sp} (h_X5_clear : zq_M yX5_clear cX5_clear 1 none 0 d_X5_clear s_X5_clear) (g_X5_clear : d_X5_clear + 1 ≤ d) {d_X5_add : Nat} {s_X5_add : zq_Sp} (h_X5_add : zq_M yX5_add cX5_add 3 none 0 d_X5_add s_X5_add) (g_X5_add : d_X5_add + 1 ≤ d) (μ23 : σ23 → Nat) (I23 : zq_Q → σ23 → zq_P) (v : ∀ args h Q, spec args h Q → (zq_a args).length ≤ 7 ∧ xX11_pieces_0 s_X11_isGuest s_X0_holderOf s_X5_clear s_X5_add (fun ls st h => ∃ b, I23 Q b ls st h) Q (zq_l0 7 args) [] h) (v23 : ∀ Q a ls st h, I23 Q a ls st h → xX11_pieces_23 s_X11_isGuest s_X0_holderOf s_X5_clear s_X5_add (fun ls st h => ∃ b, μ23 b < μ23 a ∧ I23 Q b ls st h) Q ls st h) : zq_M yX11_pieces cX11_pieces 7 (some .int) 1 d spec := by
  refine zq_met (by decide +kernel) (by decide) (fun X Q args h C hq hs => ⟨(v args h Q hs).1, _, ?_, (v args h Q hs).2⟩)
  have hl := zq_loop1 (X := X) (nL := 7) (pc1 := 23) μ23 (I23 Q) (fun J23 => xX11_pieces_23 s_X11_isGuest s_X0_holderOf s_X5_clear s_X5_add J23 Q) (fun j23 => kX11_pieces_23 C h_X11_isGuest g_X11_isGuest h_X0_holderOf g_X0_holderOf h_X5_clear g_X5_clear h_X5_add g_X5_add j23 hq) (v23 Q)
  exact kX11_pieces_0 C h_X11_isGuest g_X11_isGuest h_X0_holderOf g_X0_holderOf h_X5_clear g_X5_clear h_X5_add g_X5_add hl hq
/-! ToOneCrumb.trade(II)I -/
theorem dX11_trade_0 : decode cX11_trade 0 = .ok (.aload_n 0, 1) := by decide +kernel
theorem dX11_trade_1 : decode cX11_trade 1 = .ok (.iload_n 1, 1) := by decide +kernel
theorem dX11_trade_2 : decode cX11_trade 2 = .ok (.invokevirtual 171, 3) := by decide +kernel
theorem dX11_trade_5 : decode cX11_trade 5 = .ok (.ifCond .eq 16, 3) := by decide +kernel
theorem dX11_trade_8 : decode cX11_trade 8 = .ok (.aload_n 0, 1) := by decide +kernel
theorem dX11_trade_9 : decode cX11_trade 9 = .ok (.iload_n 2, 1) := by decide +kernel
theorem dX11_trade_10 : decode cX11_trade 10 = .ok (.invokevirtual 171, 3) := by decide +kernel
theorem dX11_trade_13 : decode cX11_trade 13 = .ok (.ifCond .eq 8, 3) := by decide +kernel
theorem dX11_trade_16 : decode cX11_trade 16 = .ok (.iload_n 1, 1) := by decide +kernel
theorem dX11_trade_17 : decode cX11_trade 17 = .ok (.iload_n 2, 1) := by decide +kernel
theorem dX11_trade_18 : decode cX11_trade 18 = .ok (.if_icmp .ne 5, 3) := by decide +kernel
theorem dX11_trade_21 : decode cX11_trade 21 = .ok (.iconst (-1), 1) := by decide +kernel
theorem dX11_trade_22 : decode cX11_trade 22 = .ok (.ireturn, 1) := by decide +kernel
theorem dX11_trade_23 : decode cX11_trade 23 = .ok (.iconst 0, 1) := by decide +kernel
theorem dX11_trade_24 : decode cX11_trade 24 = .ok (.istore_n 3, 1) := by decide +kernel
theorem dX11_trade_25 : decode cX11_trade 25 = .ok (.iconst 0, 1) := by decide +kernel
theorem dX11_trade_26 : decode cX11_trade 26 = .ok (.istore 4, 2) := by decide +kernel
theorem dX11_trade_28 : decode cX11_trade 28 = .ok (.aload_n 0, 1) := by decide +kernel
theorem dX11_trade_29 : decode cX11_trade 29 = .ok (.getfield 19, 3) := by decide +kernel
theorem dX11_trade_32 : decode cX11_trade 32 = .ok (.invokevirtual 236, 3) := by decide +kernel
theorem dX11_trade_35 : decode cX11_trade 35 = .ok (.iconst 0, 1) := by decide +kernel
theorem dX11_trade_36 : decode cX11_trade 36 = .ok (.istore 5, 2) := by decide +kernel
theorem dX11_trade_38 : decode cX11_trade 38 = .ok (.iload 5, 2) := by decide +kernel
theorem dX11_trade_40 : decode cX11_trade 40 = .ok (.aload_n 0, 1) := by decide +kernel
theorem dX11_trade_41 : decode cX11_trade 41 = .ok (.getfield 82, 3) := by decide +kernel
theorem dX11_trade_44 : decode cX11_trade 44 = .ok (.getfield 128, 3) := by decide +kernel
theorem dX11_trade_47 : decode cX11_trade 47 = .ok (.if_icmp .ge 121, 3) := by decide +kernel
theorem dX11_trade_50 : decode cX11_trade 50 = .ok (.aload_n 0, 1) := by decide +kernel
theorem dX11_trade_51 : decode cX11_trade 51 = .ok (.getfield 40, 3) := by decide +kernel
theorem dX11_trade_54 : decode cX11_trade 54 = .ok (.iload 5, 2) := by decide +kernel
theorem dX11_trade_56 : decode cX11_trade 56 = .ok (.invokevirtual 168, 3) := by decide +kernel
theorem dX11_trade_59 : decode cX11_trade 59 = .ok (.iload_n 1, 1) := by decide +kernel
theorem dX11_trade_60 : decode cX11_trade 60 = .ok (.if_icmp .eq 6, 3) := by decide +kernel
theorem dX11_trade_63 : decode cX11_trade 63 = .ok (.goto 99, 3) := by decide +kernel
theorem dX11_trade_66 : decode cX11_trade 66 = .ok (.iconst 0, 1) := by decide +kernel
theorem dX11_trade_67 : decode cX11_trade 67 = .ok (.istore 6, 2) := by decide +kernel
theorem dX11_trade_69 : decode cX11_trade 69 = .ok (.iload 6, 2) := by decide +kernel
theorem dX11_trade_71 : decode cX11_trade 71 = .ok (.aload_n 0, 1) := by decide +kernel
theorem dX11_trade_72 : decode cX11_trade 72 = .ok (.getfield 82, 3) := by decide +kernel
theorem dX11_trade_75 : decode cX11_trade 75 = .ok (.getfield 128, 3) := by decide +kernel
theorem dX11_trade_78 : decode cX11_trade 78 = .ok (.if_icmp .ge 84, 3) := by decide +kernel
theorem dX11_trade_81 : decode cX11_trade 81 = .ok (.aload_n 0, 1) := by decide +kernel
theorem dX11_trade_82 : decode cX11_trade 82 = .ok (.getfield 40, 3) := by decide +kernel
theorem dX11_trade_85 : decode cX11_trade 85 = .ok (.iload 6, 2) := by decide +kernel
theorem dX11_trade_87 : decode cX11_trade 87 = .ok (.invokevirtual 168, 3) := by decide +kernel
theorem dX11_trade_90 : decode cX11_trade 90 = .ok (.iload_n 2, 1) := by decide +kernel
theorem dX11_trade_91 : decode cX11_trade 91 = .ok (.if_icmp .ne 16, 3) := by decide +kernel
theorem dX11_trade_94 : decode cX11_trade 94 = .ok (.aload_n 0, 1) := by decide +kernel
theorem dX11_trade_95 : decode cX11_trade 95 = .ok (.iload_n 1, 1) := by decide +kernel
theorem dX11_trade_96 : decode cX11_trade 96 = .ok (.iload 5, 2) := by decide +kernel
theorem dX11_trade_98 : decode cX11_trade 98 = .ok (.iload_n 2, 1) := by decide +kernel
theorem dX11_trade_99 : decode cX11_trade 99 = .ok (.iload 6, 2) := by decide +kernel
theorem dX11_trade_101 : decode cX11_trade 101 = .ok (.invokevirtual 253, 3) := by decide +kernel
theorem dX11_trade_104 : decode cX11_trade 104 = .ok (.goto 4, 3) := by decide +kernel
theorem dX11_trade_107 : decode cX11_trade 107 = .ok (.iconst 0, 1) := by decide +kernel
theorem dX11_trade_108 : decode cX11_trade 108 = .ok (.istore 7, 2) := by decide +kernel
theorem dX11_trade_110 : decode cX11_trade 110 = .ok (.iload 7, 2) := by decide +kernel
theorem dX11_trade_112 : decode cX11_trade 112 = .ok (.ifCond .le 6, 3) := by decide +kernel
theorem dX11_trade_115 : decode cX11_trade 115 = .ok (.iinc 3 1, 3) := by decide +kernel
theorem dX11_trade_118 : decode cX11_trade 118 = .ok (.iload 7, 2) := by decide +kernel
theorem dX11_trade_120 : decode cX11_trade 120 = .ok (.iload 4, 2) := by decide +kernel
theorem dX11_trade_122 : decode cX11_trade 122 = .ok (.if_icmp .le 34, 3) := by decide +kernel
theorem dX11_trade_125 : decode cX11_trade 125 = .ok (.iload 7, 2) := by decide +kernel
theorem dX11_trade_127 : decode cX11_trade 127 = .ok (.istore 4, 2) := by decide +kernel
theorem dX11_trade_129 : decode cX11_trade 129 = .ok (.aload_n 0, 1) := by decide +kernel
theorem dX11_trade_130 : decode cX11_trade 130 = .ok (.getfield 19, 3) := by decide +kernel
theorem dX11_trade_133 : decode cX11_trade 133 = .ok (.invokevirtual 236, 3) := by decide +kernel
theorem dX11_trade_136 : decode cX11_trade 136 = .ok (.aload_n 0, 1) := by decide +kernel
theorem dX11_trade_137 : decode cX11_trade 137 = .ok (.getfield 19, 3) := by decide +kernel
theorem dX11_trade_140 : decode cX11_trade 140 = .ok (.iload 5, 2) := by decide +kernel
theorem dX11_trade_142 : decode cX11_trade 142 = .ok (.i2l, 1) := by decide +kernel
theorem dX11_trade_143 : decode cX11_trade 143 = .ok (.invokevirtual 237, 3) := by decide +kernel
theorem dX11_trade_146 : decode cX11_trade 146 = .ok (.aload_n 0, 1) := by decide +kernel
theorem dX11_trade_147 : decode cX11_trade 147 = .ok (.getfield 19, 3) := by decide +kernel
theorem dX11_trade_150 : decode cX11_trade 150 = .ok (.iload 6, 2) := by decide +kernel
theorem dX11_trade_152 : decode cX11_trade 152 = .ok (.i2l, 1) := by decide +kernel
theorem dX11_trade_153 : decode cX11_trade 153 = .ok (.invokevirtual 237, 3) := by decide +kernel
theorem dX11_trade_156 : decode cX11_trade 156 = .ok (.iinc 6 1, 3) := by decide +kernel
theorem dX11_trade_159 : decode cX11_trade 159 = .ok (.goto (-90), 3) := by decide +kernel
theorem dX11_trade_162 : decode cX11_trade 162 = .ok (.iinc 5 1, 3) := by decide +kernel
theorem dX11_trade_165 : decode cX11_trade 165 = .ok (.goto (-127), 3) := by decide +kernel
theorem dX11_trade_168 : decode cX11_trade 168 = .ok (.iload_n 3, 1) := by decide +kernel
theorem dX11_trade_169 : decode cX11_trade 169 = .ok (.ireturn, 1) := by decide +kernel
def xX11_trade_168 (s_X11_isGuest : zq_Sp) (s_X5_clear : zq_Sp) (s_X0_holderOf : zq_Sp) (s_X11_jointGain : zq_Sp) (s_X5_add : zq_Sp) (J38 : zq_P) (J69 : zq_P) (Q : zq_Q) (ls : zq_L) (st : List Value) (h : zq_H) : Prop := (zi_iload 3 (zi_iret Q)) ls st h
theorem kX11_trade_168 {X : zq_X} {d : Nat} (C : zq_C X cX11_trade 8 RX11 d) {d_X11_isGuest : Nat} {s_X11_isGuest : zq_Sp} (h_X11_isGuest : zq_M yX11_isGuest cX11_isGuest 2 (some .boolean) 1 d_X11_isGuest s_X11_isGuest) (g_X11_isGuest : d_X11_isGuest + 1 ≤ d) {d_X5_clear : Nat} {s_X5_clear : zq_Sp} (h_X5_clear : zq_M yX5_clear cX5_clear 1 none 0 d_X5_clear s_X5_clear) (g_X5_clear : d_X5_clear + 1 ≤ d) {d_X0_holderOf : Nat} {s_X0_holderOf : zq_Sp} (h_X0_holderOf : zq_M yX0_holderOf cX0_holderOf 2 (some .int) 1 d_X0_holderOf s_X0_holderOf) (g_X0_holderOf : d_X0_holderOf + 1 ≤ d) {d_X11_jointGain : Nat} {s_X11_jointGain : zq_Sp} (h_X11_jointGain : zq_M yX11_jointGain cX11_jointGain 7 (some .int) 1 d_X11_jointGain s_X11_jointGain) (g_X11_jointGain : d_X11_jointGain + 1 ≤ d) {d_X5_add : Nat} {s_X5_add : zq_Sp} (h_X5_add : zq_M yX5_add cX5_add 3 none 0 d_X5_add s_X5_add) (g_X5_add : d_X5_add + 1 ≤ d) {J38 : zq_P} (j38 : zq_ok X 8 38 J38) {J69 : zq_P} (j69 : zq_ok X 8 69 J69) {Q : zq_Q} (hq : zq_R X (some .int) 1 Q) : zq_ok X 8 168 (xX11_trade_168 s_X11_isGuest s_X5_clear s_X0_holderOf s_X11_jointGain s_X5_add J38 J69 Q) := by
  refine zs_iload_n C dX11_trade_168 rfl ?_
  exact zs_iret C hq dX11_trade_169
def xX11_trade_162 (s_X11_isGuest : zq_Sp) (s_X5_clear : zq_Sp) (s_X0_holderOf : zq_Sp) (s_X11_jointGain : zq_Sp) (s_X5_add : zq_Sp) (J38 : zq_P) (J69 : zq_P) (Q : zq_Q) (ls : zq_L) (st : List Value) (h : zq_H) : Prop := (zi_iinc 5 1 (J38)) ls st h
theorem kX11_trade_162 {X : zq_X} {d : Nat} (C : zq_C X cX11_trade 8 RX11 d) {d_X11_isGuest : Nat} {s_X11_isGuest : zq_Sp} (h_X11_isGuest : zq_M yX11_isGuest cX11_isGuest 2 (some .boolean) 1 d_X11_isGuest s_X11_isGuest) (g_X11_isGuest : d_X11_isGuest + 1 ≤ d) {d_X5_clear : Nat} {s_X5_clear : zq_Sp} (h_X5_clear : zq_M yX5_clear cX5_clear 1 none 0 d_X5_clear s_X5_clear) (g_X5_clear : d_X5_clear + 1 ≤ d) {d_X0_holderOf : Nat} {s_X0_holderOf : zq_Sp} (h_X0_holderOf : zq_M yX0_holderOf cX0_holderOf 2 (some .int) 1 d_X0_holderOf s_X0_holderOf) (g_X0_holderOf : d_X0_holderOf + 1 ≤ d) {d_X11_jointGain : Nat} {s_X11_jointGain : zq_Sp} (h_X11_jointGain : zq_M yX11_jointGain cX11_jointGain 7 (some .int) 1 d_X11_jointGain s_X11_jointGain) (g_X11_jointGain : d_X11_jointGain + 1 ≤ d) {d_X5_add : Nat} {s_X5_add : zq_Sp} (h_X5_add : zq_M yX5_add cX5_add 3 none 0 d_X5_add s_X5_add) (g_X5_add : d_X5_add + 1 ≤ d) {J38 : zq_P} (j38 : zq_ok X 8 38 J38) {J69 : zq_P} (j69 : zq_ok X 8 69 J69) {Q : zq_Q} (hq : zq_R X (some .int) 1 Q) : zq_ok X 8 162 (xX11_trade_162 s_X11_isGuest s_X5_clear s_X0_holderOf s_X11_jointGain s_X5_add J38 J69 Q) := by
  refine zs_iinc C dX11_trade_162 (by decide) (by decide) ?_
  exact zs_goto C dX11_trade_165 (by decide) (j38)
def xX11_trade_156 (s_X11_isGuest : zq_Sp) (s_X5_clear : zq_Sp) (s_X0_holderOf : zq_Sp) (s_X11_jointGain : zq_Sp) (s_X5_add : zq_Sp) (J38 : zq_P) (J69 : zq_P) (Q : zq_Q) (ls : zq_L) (st : List Value) (h : zq_H) : Prop := (zi_iinc 6 1 (J69)) ls st h
theorem kX11_trade_156 {X : zq_X} {d : Nat} (C : zq_C X cX11_trade 8 RX11 d) {d_X11_isGuest : Nat} {s_X11_isGuest : zq_Sp} (h_X11_isGuest : zq_M yX11_isGuest cX11_isGuest 2 (some .boolean) 1 d_X11_isGuest s_X11_isGuest) (g_X11_isGuest : d_X11_isGuest + 1 ≤ d) {d_X5_clear : Nat} {s_X5_clear : zq_Sp} (h_X5_clear : zq_M yX5_clear cX5_clear 1 none 0 d_X5_clear s_X5_clear) (g_X5_clear : d_X5_clear + 1 ≤ d) {d_X0_holderOf : Nat} {s_X0_holderOf : zq_Sp} (h_X0_holderOf : zq_M yX0_holderOf cX0_holderOf 2 (some .int) 1 d_X0_holderOf s_X0_holderOf) (g_X0_holderOf : d_X0_holderOf + 1 ≤ d) {d_X11_jointGain : Nat} {s_X11_jointGain : zq_Sp} (h_X11_jointGain : zq_M yX11_jointGain cX11_jointGain 7 (some .int) 1 d_X11_jointGain s_X11_jointGain) (g_X11_jointGain : d_X11_jointGain + 1 ≤ d) {d_X5_add : Nat} {s_X5_add : zq_Sp} (h_X5_add : zq_M yX5_add cX5_add 3 none 0 d_X5_add s_X5_add) (g_X5_add : d_X5_add + 1 ≤ d) {J38 : zq_P} (j38 : zq_ok X 8 38 J38) {J69 : zq_P} (j69 : zq_ok X 8 69 J69) {Q : zq_Q} (hq : zq_R X (some .int) 1 Q) : zq_ok X 8 156 (xX11_trade_156 s_X11_isGuest s_X5_clear s_X0_holderOf s_X11_jointGain s_X5_add J38 J69 Q) := by
  refine zs_iinc C dX11_trade_156 (by decide) (by decide) ?_
  exact zs_goto C dX11_trade_159 (by decide) (j69)
def xX11_trade_125 (s_X11_isGuest : zq_Sp) (s_X5_clear : zq_Sp) (s_X0_holderOf : zq_Sp) (s_X11_jointGain : zq_Sp) (s_X5_add : zq_Sp) (J38 : zq_P) (J69 : zq_P) (Q : zq_Q) (ls : zq_L) (st : List Value) (h : zq_H) : Prop := (zi_iload 7 (zi_istore 4 (zi_aload 0 (zi_getR 0 3 (zi_callV 0 3 s_X5_clear (zi_aload 0 (zi_getR 0 3 (zi_iload 5 (zi_i2l (zi_callV 1 3 s_X5_add (zi_aload 0 (zi_getR 0 3 (zi_iload 6 (zi_i2l (zi_callV 1 3 s_X5_add ((xX11_trade_156 s_X11_isGuest s_X5_clear s_X0_holderOf s_X11_jointGain s_X5_add J38 J69 Q))))))))))))))))) ls st h
theorem kX11_trade_125 {X : zq_X} {d : Nat} (C : zq_C X cX11_trade 8 RX11 d) {d_X11_isGuest : Nat} {s_X11_isGuest : zq_Sp} (h_X11_isGuest : zq_M yX11_isGuest cX11_isGuest 2 (some .boolean) 1 d_X11_isGuest s_X11_isGuest) (g_X11_isGuest : d_X11_isGuest + 1 ≤ d) {d_X5_clear : Nat} {s_X5_clear : zq_Sp} (h_X5_clear : zq_M yX5_clear cX5_clear 1 none 0 d_X5_clear s_X5_clear) (g_X5_clear : d_X5_clear + 1 ≤ d) {d_X0_holderOf : Nat} {s_X0_holderOf : zq_Sp} (h_X0_holderOf : zq_M yX0_holderOf cX0_holderOf 2 (some .int) 1 d_X0_holderOf s_X0_holderOf) (g_X0_holderOf : d_X0_holderOf + 1 ≤ d) {d_X11_jointGain : Nat} {s_X11_jointGain : zq_Sp} (h_X11_jointGain : zq_M yX11_jointGain cX11_jointGain 7 (some .int) 1 d_X11_jointGain s_X11_jointGain) (g_X11_jointGain : d_X11_jointGain + 1 ≤ d) {d_X5_add : Nat} {s_X5_add : zq_Sp} (h_X5_add : zq_M yX5_add cX5_add 3 none 0 d_X5_add s_X5_add) (g_X5_add : d_X5_add + 1 ≤ d) {J38 : zq_P} (j38 : zq_ok X 8 38 J38) {J69 : zq_P} (j69 : zq_ok X 8 69 J69) {Q : zq_Q} (hq : zq_R X (some .int) 1 Q) : zq_ok X 8 125 (xX11_trade_125 s_X11_isGuest s_X5_clear s_X0_holderOf s_X11_jointGain s_X5_add J38 J69 Q) := by
  refine zs_iload C dX11_trade_125 ?_
  refine zs_istore C dX11_trade_127 (by decide) ?_
  refine zs_aload_n C dX11_trade_129 rfl ?_
  refine zs_getR C zp_0 zF11 (j := 1) ⟨by decide, rfl⟩ zw_316 dX11_trade_130 ?_
  refine zs_callV C h_X5_clear g_X5_clear zy_X5_clear zp_3 (show vwCl[5]? = some (RX5, TX5, 2) from rfl) zw_650 zw_651 zs9_X5_clear dX11_trade_133 ?_
  refine zs_aload_n C dX11_trade_136 rfl ?_
  refine zs_getR C zp_0 zF11 (j := 1) ⟨by decide, rfl⟩ zw_316 dX11_trade_137 ?_
  refine zs_iload C dX11_trade_140 ?_
  refine zs_i2l C dX11_trade_142 ?_
  refine zs_callV C h_X5_add g_X5_add zy_X5_add zp_3 (show vwCl[5]? = some (RX5, TX5, 2) from rfl) zw_654 zw_655 zs9_X5_add dX11_trade_143 ?_
  refine zs_aload_n C dX11_trade_146 rfl ?_
  refine zs_getR C zp_0 zF11 (j := 1) ⟨by decide, rfl⟩ zw_316 dX11_trade_147 ?_
  refine zs_iload C dX11_trade_150 ?_
  refine zs_i2l C dX11_trade_152 ?_
  refine zs_callV C h_X5_add g_X5_add zy_X5_add zp_3 (show vwCl[5]? = some (RX5, TX5, 2) from rfl) zw_654 zw_655 zs9_X5_add dX11_trade_153 ?_
  exact kX11_trade_156 C h_X11_isGuest g_X11_isGuest h_X5_clear g_X5_clear h_X0_holderOf g_X0_holderOf h_X11_jointGain g_X11_jointGain h_X5_add g_X5_add j38 j69 hq
def xX11_trade_118 (s_X11_isGuest : zq_Sp) (s_X5_clear : zq_Sp) (s_X0_holderOf : zq_Sp) (s_X11_jointGain : zq_Sp) (s_X5_add : zq_Sp) (J38 : zq_P) (J69 : zq_P) (Q : zq_Q) (ls : zq_L) (st : List Value) (h : zq_H) : Prop := (zi_iload 7 (zi_iload 4 (zi_if2 (fun x y => x ≤ y) (xX11_trade_156 s_X11_isGuest s_X5_clear s_X0_holderOf s_X11_jointGain s_X5_add J38 J69 Q) (xX11_trade_125 s_X11_isGuest s_X5_clear s_X0_holderOf s_X11_jointGain s_X5_add J38 J69 Q)))) ls st h
theorem kX11_trade_118 {X : zq_X} {d : Nat} (C : zq_C X cX11_trade 8 RX11 d) {d_X11_isGuest : Nat} {s_X11_isGuest : zq_Sp} (h_X11_isGuest : zq_M yX11_isGuest cX11_isGuest 2 (some .boolean) 1 d_X11_isGuest s_X11_isGuest) (g_X11_isGuest : d_X11_isGuest + 1 ≤ d) {d_X5_clear : Nat} {s_X5_clear : zq_Sp} (h_X5_clear : zq_M yX5_clear cX5_clear 1 none 0 d_X5_clear s_X5_clear) (g_X5_clear : d_X5_clear + 1 ≤ d) {d_X0_holderOf : Nat} {s_X0_holderOf : zq_Sp} (h_X0_holderOf : zq_M yX0_holderOf cX0_holderOf 2 (some .int) 1 d_X0_holderOf s_X0_holderOf) (g_X0_holderOf : d_X0_holderOf + 1 ≤ d) {d_X11_jointGain : Nat} {s_X11_jointGain : zq_Sp} (h_X11_jointGain : zq_M yX11_jointGain cX11_jointGain 7 (some .int) 1 d_X11_jointGain s_X11_jointGain) (g_X11_jointGain : d_X11_jointGain + 1 ≤ d) {d_X5_add : Nat} {s_X5_add : zq_Sp} (h_X5_add : zq_M yX5_add cX5_add 3 none 0 d_X5_add s_X5_add) (g_X5_add : d_X5_add + 1 ≤ d) {J38 : zq_P} (j38 : zq_ok X 8 38 J38) {J69 : zq_P} (j69 : zq_ok X 8 69 J69) {Q : zq_Q} (hq : zq_R X (some .int) 1 Q) : zq_ok X 8 118 (xX11_trade_118 s_X11_isGuest s_X5_clear s_X0_holderOf s_X11_jointGain s_X5_add J38 J69 Q) := by
  refine zs_iload C dX11_trade_118 ?_
  refine zs_iload C dX11_trade_120 ?_
  exact zs_icmp_le C dX11_trade_122 (by decide) (kX11_trade_156 C h_X11_isGuest g_X11_isGuest h_X5_clear g_X5_clear h_X0_holderOf g_X0_holderOf h_X11_jointGain g_X11_jointGain h_X5_add g_X5_add j38 j69 hq) (kX11_trade_125 C h_X11_isGuest g_X11_isGuest h_X5_clear g_X5_clear h_X0_holderOf g_X0_holderOf h_X11_jointGain g_X11_jointGain h_X5_add g_X5_add j38 j69 hq)
def xX11_trade_115 (s_X11_isGuest : zq_Sp) (s_X5_clear : zq_Sp) (s_X0_holderOf : zq_Sp) (s_X11_jointGain : zq_Sp) (s_X5_add : zq_Sp) (J38 : zq_P) (J69 : zq_P) (Q : zq_Q) (ls : zq_L) (st : List Value) (h : zq_H) : Prop := (zi_iinc 3 1 ((xX11_trade_118 s_X11_isGuest s_X5_clear s_X0_holderOf s_X11_jointGain s_X5_add J38 J69 Q))) ls st h
theorem kX11_trade_115 {X : zq_X} {d : Nat} (C : zq_C X cX11_trade 8 RX11 d) {d_X11_isGuest : Nat} {s_X11_isGuest : zq_Sp} (h_X11_isGuest : zq_M yX11_isGuest cX11_isGuest 2 (some .boolean) 1 d_X11_isGuest s_X11_isGuest) (g_X11_isGuest : d_X11_isGuest + 1 ≤ d) {d_X5_clear : Nat} {s_X5_clear : zq_Sp} (h_X5_clear : zq_M yX5_clear cX5_clear 1 none 0 d_X5_clear s_X5_clear) (g_X5_clear : d_X5_clear + 1 ≤ d) {d_X0_holderOf : Nat} {s_X0_holderOf : zq_Sp} (h_X0_holderOf : zq_M yX0_holderOf cX0_holderOf 2 (some .int) 1 d_X0_holderOf s_X0_holderOf) (g_X0_holderOf : d_X0_holderOf + 1 ≤ d) {d_X11_jointGain : Nat} {s_X11_jointGain : zq_Sp} (h_X11_jointGain : zq_M yX11_jointGain cX11_jointGain 7 (some .int) 1 d_X11_jointGain s_X11_jointGain) (g_X11_jointGain : d_X11_jointGain + 1 ≤ d) {d_X5_add : Nat} {s_X5_add : zq_Sp} (h_X5_add : zq_M yX5_add cX5_add 3 none 0 d_X5_add s_X5_add) (g_X5_add : d_X5_add + 1 ≤ d) {J38 : zq_P} (j38 : zq_ok X 8 38 J38) {J69 : zq_P} (j69 : zq_ok X 8 69 J69) {Q : zq_Q} (hq : zq_R X (some .int) 1 Q) : zq_ok X 8 115 (xX11_trade_115 s_X11_isGuest s_X5_clear s_X0_holderOf s_X11_jointGain s_X5_add J38 J69 Q) := by
  refine zs_iinc C dX11_trade_115 (by decide) (by decide) ?_
  exact kX11_trade_118 C h_X11_isGuest g_X11_isGuest h_X5_clear g_X5_clear h_X0_holderOf g_X0_holderOf h_X11_jointGain g_X11_jointGain h_X5_add g_X5_add j38 j69 hq
def xX11_trade_108 (s_X11_isGuest : zq_Sp) (s_X5_clear : zq_Sp) (s_X0_holderOf : zq_Sp) (s_X11_jointGain : zq_Sp) (s_X5_add : zq_Sp) (J38 : zq_P) (J69 : zq_P) (Q : zq_Q) (ls : zq_L) (st : List Value) (h : zq_H) : Prop := (zi_istore 7 (zi_iload 7 (zi_if1 (fun x => x ≤ 0) (xX11_trade_118 s_X11_isGuest s_X5_clear s_X0_holderOf s_X11_jointGain s_X5_add J38 J69 Q) (xX11_trade_115 s_X11_isGuest s_X5_clear s_X0_holderOf s_X11_jointGain s_X5_add J38 J69 Q)))) ls st h
theorem kX11_trade_108 {X : zq_X} {d : Nat} (C : zq_C X cX11_trade 8 RX11 d) {d_X11_isGuest : Nat} {s_X11_isGuest : zq_Sp} (h_X11_isGuest : zq_M yX11_isGuest cX11_isGuest 2 (some .boolean) 1 d_X11_isGuest s_X11_isGuest) (g_X11_isGuest : d_X11_isGuest + 1 ≤ d) {d_X5_clear : Nat} {s_X5_clear : zq_Sp} (h_X5_clear : zq_M yX5_clear cX5_clear 1 none 0 d_X5_clear s_X5_clear) (g_X5_clear : d_X5_clear + 1 ≤ d) {d_X0_holderOf : Nat} {s_X0_holderOf : zq_Sp} (h_X0_holderOf : zq_M yX0_holderOf cX0_holderOf 2 (some .int) 1 d_X0_holderOf s_X0_holderOf) (g_X0_holderOf : d_X0_holderOf + 1 ≤ d) {d_X11_jointGain : Nat} {s_X11_jointGain : zq_Sp} (h_X11_jointGain : zq_M yX11_jointGain cX11_jointGain 7 (some .int) 1 d_X11_jointGain s_X11_jointGain) (g_X11_jointGain : d_X11_jointGain + 1 ≤ d) {d_X5_add : Nat} {s_X5_add : zq_Sp} (h_X5_add : zq_M yX5_add cX5_add 3 none 0 d_X5_add s_X5_add) (g_X5_add : d_X5_add + 1 ≤ d) {J38 : zq_P} (j38 : zq_ok X 8 38 J38) {J69 : zq_P} (j69 : zq_ok X 8 69 J69) {Q : zq_Q} (hq : zq_R X (some .int) 1 Q) : zq_ok X 8 108 (xX11_trade_108 s_X11_isGuest s_X5_clear s_X0_holderOf s_X11_jointGain s_X5_add J38 J69 Q) := by
  refine zs_istore C dX11_trade_108 (by decide) ?_
  refine zs_iload C dX11_trade_110 ?_
  exact zs_if_le C dX11_trade_112 (by decide) (kX11_trade_118 C h_X11_isGuest g_X11_isGuest h_X5_clear g_X5_clear h_X0_holderOf g_X0_holderOf h_X11_jointGain g_X11_jointGain h_X5_add g_X5_add j38 j69 hq) (kX11_trade_115 C h_X11_isGuest g_X11_isGuest h_X5_clear g_X5_clear h_X0_holderOf g_X0_holderOf h_X11_jointGain g_X11_jointGain h_X5_add g_X5_add j38 j69 hq)
def xX11_trade_107 (s_X11_isGuest : zq_Sp) (s_X5_clear : zq_Sp) (s_X0_holderOf : zq_Sp) (s_X11_jointGain : zq_Sp) (s_X5_add : zq_Sp) (J38 : zq_P) (J69 : zq_P) (Q : zq_Q) (ls : zq_L) (st : List Value) (h : zq_H) : Prop := (zi_push (.int 0) ((xX11_trade_108 s_X11_isGuest s_X5_clear s_X0_holderOf s_X11_jointGain s_X5_add J38 J69 Q))) ls st h
theorem kX11_trade_107 {X : zq_X} {d : Nat} (C : zq_C X cX11_trade 8 RX11 d) {d_X11_isGuest : Nat} {s_X11_isGuest : zq_Sp} (h_X11_isGuest : zq_M yX11_isGuest cX11_isGuest 2 (some .boolean) 1 d_X11_isGuest s_X11_isGuest) (g_X11_isGuest : d_X11_isGuest + 1 ≤ d) {d_X5_clear : Nat} {s_X5_clear : zq_Sp} (h_X5_clear : zq_M yX5_clear cX5_clear 1 none 0 d_X5_clear s_X5_clear) (g_X5_clear : d_X5_clear + 1 ≤ d) {d_X0_holderOf : Nat} {s_X0_holderOf : zq_Sp} (h_X0_holderOf : zq_M yX0_holderOf cX0_holderOf 2 (some .int) 1 d_X0_holderOf s_X0_holderOf) (g_X0_holderOf : d_X0_holderOf + 1 ≤ d) {d_X11_jointGain : Nat} {s_X11_jointGain : zq_Sp} (h_X11_jointGain : zq_M yX11_jointGain cX11_jointGain 7 (some .int) 1 d_X11_jointGain s_X11_jointGain) (g_X11_jointGain : d_X11_jointGain + 1 ≤ d) {d_X5_add : Nat} {s_X5_add : zq_Sp} (h_X5_add : zq_M yX5_add cX5_add 3 none 0 d_X5_add s_X5_add) (g_X5_add : d_X5_add + 1 ≤ d) {J38 : zq_P} (j38 : zq_ok X 8 38 J38) {J69 : zq_P} (j69 : zq_ok X 8 69 J69) {Q : zq_Q} (hq : zq_R X (some .int) 1 Q) : zq_ok X 8 107 (xX11_trade_107 s_X11_isGuest s_X5_clear s_X0_holderOf s_X11_jointGain s_X5_add J38 J69 Q) := by
  refine zs_iconst C dX11_trade_107 (by decide) ?_
  exact kX11_trade_108 C h_X11_isGuest g_X11_isGuest h_X5_clear g_X5_clear h_X0_holderOf g_X0_holderOf h_X11_jointGain g_X11_jointGain h_X5_add g_X5_add j38 j69 hq
def xX11_trade_94 (s_X11_isGuest : zq_Sp) (s_X5_clear : zq_Sp) (s_X0_holderOf : zq_Sp) (s_X11_jointGain : zq_Sp) (s_X5_add : zq_Sp) (J38 : zq_P) (J69 : zq_P) (Q : zq_Q) (ls : zq_L) (st : List Value) (h : zq_H) : Prop := (zi_aload 0 (zi_iload 1 (zi_iload 5 (zi_iload 2 (zi_iload 6 (zi_callV 4 0 s_X11_jointGain ((xX11_trade_108 s_X11_isGuest s_X5_clear s_X0_holderOf s_X11_jointGain s_X5_add J38 J69 Q)))))))) ls st h
theorem kX11_trade_94 {X : zq_X} {d : Nat} (C : zq_C X cX11_trade 8 RX11 d) {d_X11_isGuest : Nat} {s_X11_isGuest : zq_Sp} (h_X11_isGuest : zq_M yX11_isGuest cX11_isGuest 2 (some .boolean) 1 d_X11_isGuest s_X11_isGuest) (g_X11_isGuest : d_X11_isGuest + 1 ≤ d) {d_X5_clear : Nat} {s_X5_clear : zq_Sp} (h_X5_clear : zq_M yX5_clear cX5_clear 1 none 0 d_X5_clear s_X5_clear) (g_X5_clear : d_X5_clear + 1 ≤ d) {d_X0_holderOf : Nat} {s_X0_holderOf : zq_Sp} (h_X0_holderOf : zq_M yX0_holderOf cX0_holderOf 2 (some .int) 1 d_X0_holderOf s_X0_holderOf) (g_X0_holderOf : d_X0_holderOf + 1 ≤ d) {d_X11_jointGain : Nat} {s_X11_jointGain : zq_Sp} (h_X11_jointGain : zq_M yX11_jointGain cX11_jointGain 7 (some .int) 1 d_X11_jointGain s_X11_jointGain) (g_X11_jointGain : d_X11_jointGain + 1 ≤ d) {d_X5_add : Nat} {s_X5_add : zq_Sp} (h_X5_add : zq_M yX5_add cX5_add 3 none 0 d_X5_add s_X5_add) (g_X5_add : d_X5_add + 1 ≤ d) {J38 : zq_P} (j38 : zq_ok X 8 38 J38) {J69 : zq_P} (j69 : zq_ok X 8 69 J69) {Q : zq_Q} (hq : zq_R X (some .int) 1 Q) : zq_ok X 8 94 (xX11_trade_94 s_X11_isGuest s_X5_clear s_X0_holderOf s_X11_jointGain s_X5_add J38 J69 Q) := by
  refine zs_aload_n C dX11_trade_94 rfl ?_
  refine zs_iload_n C dX11_trade_95 rfl ?_
  refine zs_iload C dX11_trade_96 ?_
  refine zs_iload_n C dX11_trade_98 rfl ?_
  refine zs_iload C dX11_trade_99 ?_
  refine zs_callV C h_X11_jointGain g_X11_jointGain zy_X11_jointGain zp_0 (show vwCl[11]? = some (RX11, TX11, 16) from rfl) zw_718 zw_720 zs9_X11_jointGain dX11_trade_101 ?_
  exact zs_goto C dX11_trade_104 (by decide) (kX11_trade_108 C h_X11_isGuest g_X11_isGuest h_X5_clear g_X5_clear h_X0_holderOf g_X0_holderOf h_X11_jointGain g_X11_jointGain h_X5_add g_X5_add j38 j69 hq)
def xX11_trade_81 (s_X11_isGuest : zq_Sp) (s_X5_clear : zq_Sp) (s_X0_holderOf : zq_Sp) (s_X11_jointGain : zq_Sp) (s_X5_add : zq_Sp) (J38 : zq_P) (J69 : zq_P) (Q : zq_Q) (ls : zq_L) (st : List Value) (h : zq_H) : Prop := (zi_aload 0 (zi_getR 0 12 (zi_iload 6 (zi_callV 1 12 s_X0_holderOf (zi_iload 2 (zi_if2 (fun x y => x = y) (xX11_trade_94 s_X11_isGuest s_X5_clear s_X0_holderOf s_X11_jointGain s_X5_add J38 J69 Q) (xX11_trade_107 s_X11_isGuest s_X5_clear s_X0_holderOf s_X11_jointGain s_X5_add J38 J69 Q))))))) ls st h
theorem kX11_trade_81 {X : zq_X} {d : Nat} (C : zq_C X cX11_trade 8 RX11 d) {d_X11_isGuest : Nat} {s_X11_isGuest : zq_Sp} (h_X11_isGuest : zq_M yX11_isGuest cX11_isGuest 2 (some .boolean) 1 d_X11_isGuest s_X11_isGuest) (g_X11_isGuest : d_X11_isGuest + 1 ≤ d) {d_X5_clear : Nat} {s_X5_clear : zq_Sp} (h_X5_clear : zq_M yX5_clear cX5_clear 1 none 0 d_X5_clear s_X5_clear) (g_X5_clear : d_X5_clear + 1 ≤ d) {d_X0_holderOf : Nat} {s_X0_holderOf : zq_Sp} (h_X0_holderOf : zq_M yX0_holderOf cX0_holderOf 2 (some .int) 1 d_X0_holderOf s_X0_holderOf) (g_X0_holderOf : d_X0_holderOf + 1 ≤ d) {d_X11_jointGain : Nat} {s_X11_jointGain : zq_Sp} (h_X11_jointGain : zq_M yX11_jointGain cX11_jointGain 7 (some .int) 1 d_X11_jointGain s_X11_jointGain) (g_X11_jointGain : d_X11_jointGain + 1 ≤ d) {d_X5_add : Nat} {s_X5_add : zq_Sp} (h_X5_add : zq_M yX5_add cX5_add 3 none 0 d_X5_add s_X5_add) (g_X5_add : d_X5_add + 1 ≤ d) {J38 : zq_P} (j38 : zq_ok X 8 38 J38) {J69 : zq_P} (j69 : zq_ok X 8 69 J69) {Q : zq_Q} (hq : zq_R X (some .int) 1 Q) : zq_ok X 8 81 (xX11_trade_81 s_X11_isGuest s_X5_clear s_X0_holderOf s_X11_jointGain s_X5_add J38 J69 Q) := by
  refine zs_aload_n C dX11_trade_81 rfl ?_
  refine zs_getR C zp_0 zF11 (j := 4) ⟨by decide, rfl⟩ zw_319 dX11_trade_82 ?_
  refine zs_iload C dX11_trade_85 ?_
  refine zs_callV C h_X0_holderOf g_X0_holderOf zy_X0_holderOf zp_12 (show vwCl[0]? = some (RX0, TX0, 5) from rfl) zw_587 zw_588 zs9_X0_holderOf dX11_trade_87 ?_
  refine zs_iload_n C dX11_trade_90 rfl ?_
  exact zs_icmp_ne C dX11_trade_91 (by decide) (kX11_trade_107 C h_X11_isGuest g_X11_isGuest h_X5_clear g_X5_clear h_X0_holderOf g_X0_holderOf h_X11_jointGain g_X11_jointGain h_X5_add g_X5_add j38 j69 hq) (kX11_trade_94 C h_X11_isGuest g_X11_isGuest h_X5_clear g_X5_clear h_X0_holderOf g_X0_holderOf h_X11_jointGain g_X11_jointGain h_X5_add g_X5_add j38 j69 hq)
def xX11_trade_69 (s_X11_isGuest : zq_Sp) (s_X5_clear : zq_Sp) (s_X0_holderOf : zq_Sp) (s_X11_jointGain : zq_Sp) (s_X5_add : zq_Sp) (J38 : zq_P) (J69 : zq_P) (Q : zq_Q) (ls : zq_L) (st : List Value) (h : zq_H) : Prop := (zi_iload 6 (zi_aload 0 (zi_getR 0 40 (zi_getI 40 3 (zi_if2 (fun x y => y ≤ x) (xX11_trade_162 s_X11_isGuest s_X5_clear s_X0_holderOf s_X11_jointGain s_X5_add J38 J69 Q) (xX11_trade_81 s_X11_isGuest s_X5_clear s_X0_holderOf s_X11_jointGain s_X5_add J38 J69 Q)))))) ls st h
theorem kX11_trade_69 {X : zq_X} {d : Nat} (C : zq_C X cX11_trade 8 RX11 d) {d_X11_isGuest : Nat} {s_X11_isGuest : zq_Sp} (h_X11_isGuest : zq_M yX11_isGuest cX11_isGuest 2 (some .boolean) 1 d_X11_isGuest s_X11_isGuest) (g_X11_isGuest : d_X11_isGuest + 1 ≤ d) {d_X5_clear : Nat} {s_X5_clear : zq_Sp} (h_X5_clear : zq_M yX5_clear cX5_clear 1 none 0 d_X5_clear s_X5_clear) (g_X5_clear : d_X5_clear + 1 ≤ d) {d_X0_holderOf : Nat} {s_X0_holderOf : zq_Sp} (h_X0_holderOf : zq_M yX0_holderOf cX0_holderOf 2 (some .int) 1 d_X0_holderOf s_X0_holderOf) (g_X0_holderOf : d_X0_holderOf + 1 ≤ d) {d_X11_jointGain : Nat} {s_X11_jointGain : zq_Sp} (h_X11_jointGain : zq_M yX11_jointGain cX11_jointGain 7 (some .int) 1 d_X11_jointGain s_X11_jointGain) (g_X11_jointGain : d_X11_jointGain + 1 ≤ d) {d_X5_add : Nat} {s_X5_add : zq_Sp} (h_X5_add : zq_M yX5_add cX5_add 3 none 0 d_X5_add s_X5_add) (g_X5_add : d_X5_add + 1 ≤ d) {J38 : zq_P} (j38 : zq_ok X 8 38 J38) {J69 : zq_P} (j69 : zq_ok X 8 69 J69) {Q : zq_Q} (hq : zq_R X (some .int) 1 Q) : zq_ok X 8 69 (xX11_trade_69 s_X11_isGuest s_X5_clear s_X0_holderOf s_X11_jointGain s_X5_add J38 J69 Q) := by
  refine zs_iload C dX11_trade_69 ?_
  refine zs_aload_n C dX11_trade_71 rfl ?_
  refine zs_getR C zp_0 zF11 (j := 11) ⟨by decide, rfl⟩ zw_326 dX11_trade_72 ?_
  refine zs_getIN C zp_40 zF2 (j := 3) ⟨by decide, rfl⟩ zw_273 dX11_trade_75 ?_
  exact zs_icmp_ge C dX11_trade_78 (by decide) (kX11_trade_162 C h_X11_isGuest g_X11_isGuest h_X5_clear g_X5_clear h_X0_holderOf g_X0_holderOf h_X11_jointGain g_X11_jointGain h_X5_add g_X5_add j38 j69 hq) (kX11_trade_81 C h_X11_isGuest g_X11_isGuest h_X5_clear g_X5_clear h_X0_holderOf g_X0_holderOf h_X11_jointGain g_X11_jointGain h_X5_add g_X5_add j38 j69 hq)
def xX11_trade_66 (s_X11_isGuest : zq_Sp) (s_X5_clear : zq_Sp) (s_X0_holderOf : zq_Sp) (s_X11_jointGain : zq_Sp) (s_X5_add : zq_Sp) (J38 : zq_P) (J69 : zq_P) (Q : zq_Q) (ls : zq_L) (st : List Value) (h : zq_H) : Prop := (zi_push (.int 0) (zi_istore 6 (J69))) ls st h
theorem kX11_trade_66 {X : zq_X} {d : Nat} (C : zq_C X cX11_trade 8 RX11 d) {d_X11_isGuest : Nat} {s_X11_isGuest : zq_Sp} (h_X11_isGuest : zq_M yX11_isGuest cX11_isGuest 2 (some .boolean) 1 d_X11_isGuest s_X11_isGuest) (g_X11_isGuest : d_X11_isGuest + 1 ≤ d) {d_X5_clear : Nat} {s_X5_clear : zq_Sp} (h_X5_clear : zq_M yX5_clear cX5_clear 1 none 0 d_X5_clear s_X5_clear) (g_X5_clear : d_X5_clear + 1 ≤ d) {d_X0_holderOf : Nat} {s_X0_holderOf : zq_Sp} (h_X0_holderOf : zq_M yX0_holderOf cX0_holderOf 2 (some .int) 1 d_X0_holderOf s_X0_holderOf) (g_X0_holderOf : d_X0_holderOf + 1 ≤ d) {d_X11_jointGain : Nat} {s_X11_jointGain : zq_Sp} (h_X11_jointGain : zq_M yX11_jointGain cX11_jointGain 7 (some .int) 1 d_X11_jointGain s_X11_jointGain) (g_X11_jointGain : d_X11_jointGain + 1 ≤ d) {d_X5_add : Nat} {s_X5_add : zq_Sp} (h_X5_add : zq_M yX5_add cX5_add 3 none 0 d_X5_add s_X5_add) (g_X5_add : d_X5_add + 1 ≤ d) {J38 : zq_P} (j38 : zq_ok X 8 38 J38) {J69 : zq_P} (j69 : zq_ok X 8 69 J69) {Q : zq_Q} (hq : zq_R X (some .int) 1 Q) : zq_ok X 8 66 (xX11_trade_66 s_X11_isGuest s_X5_clear s_X0_holderOf s_X11_jointGain s_X5_add J38 J69 Q) := by
  refine zs_iconst C dX11_trade_66 (by decide) ?_
  refine zs_istore C dX11_trade_67 (by decide) ?_
  exact j69
def xX11_trade_63 (s_X11_isGuest : zq_Sp) (s_X5_clear : zq_Sp) (s_X0_holderOf : zq_Sp) (s_X11_jointGain : zq_Sp) (s_X5_add : zq_Sp) (J38 : zq_P) (J69 : zq_P) (Q : zq_Q) (ls : zq_L) (st : List Value) (h : zq_H) : Prop := ((xX11_trade_162 s_X11_isGuest s_X5_clear s_X0_holderOf s_X11_jointGain s_X5_add J38 J69 Q)) ls st h
theorem kX11_trade_63 {X : zq_X} {d : Nat} (C : zq_C X cX11_trade 8 RX11 d) {d_X11_isGuest : Nat} {s_X11_isGuest : zq_Sp} (h_X11_isGuest : zq_M yX11_isGuest cX11_isGuest 2 (some .boolean) 1 d_X11_isGuest s_X11_isGuest) (g_X11_isGuest : d_X11_isGuest + 1 ≤ d) {d_X5_clear : Nat} {s_X5_clear : zq_Sp} (h_X5_clear : zq_M yX5_clear cX5_clear 1 none 0 d_X5_clear s_X5_clear) (g_X5_clear : d_X5_clear + 1 ≤ d) {d_X0_holderOf : Nat} {s_X0_holderOf : zq_Sp} (h_X0_holderOf : zq_M yX0_holderOf cX0_holderOf 2 (some .int) 1 d_X0_holderOf s_X0_holderOf) (g_X0_holderOf : d_X0_holderOf + 1 ≤ d) {d_X11_jointGain : Nat} {s_X11_jointGain : zq_Sp} (h_X11_jointGain : zq_M yX11_jointGain cX11_jointGain 7 (some .int) 1 d_X11_jointGain s_X11_jointGain) (g_X11_jointGain : d_X11_jointGain + 1 ≤ d) {d_X5_add : Nat} {s_X5_add : zq_Sp} (h_X5_add : zq_M yX5_add cX5_add 3 none 0 d_X5_add s_X5_add) (g_X5_add : d_X5_add + 1 ≤ d) {J38 : zq_P} (j38 : zq_ok X 8 38 J38) {J69 : zq_P} (j69 : zq_ok X 8 69 J69) {Q : zq_Q} (hq : zq_R X (some .int) 1 Q) : zq_ok X 8 63 (xX11_trade_63 s_X11_isGuest s_X5_clear s_X0_holderOf s_X11_jointGain s_X5_add J38 J69 Q) := by
  exact zs_goto C dX11_trade_63 (by decide) (kX11_trade_162 C h_X11_isGuest g_X11_isGuest h_X5_clear g_X5_clear h_X0_holderOf g_X0_holderOf h_X11_jointGain g_X11_jointGain h_X5_add g_X5_add j38 j69 hq)
def xX11_trade_50 (s_X11_isGuest : zq_Sp) (s_X5_clear : zq_Sp) (s_X0_holderOf : zq_Sp) (s_X11_jointGain : zq_Sp) (s_X5_add : zq_Sp) (J38 : zq_P) (J69 : zq_P) (Q : zq_Q) (ls : zq_L) (st : List Value) (h : zq_H) : Prop := (zi_aload 0 (zi_getR 0 12 (zi_iload 5 (zi_callV 1 12 s_X0_holderOf (zi_iload 1 (zi_if2 (fun x y => x = y) (xX11_trade_66 s_X11_isGuest s_X5_clear s_X0_holderOf s_X11_jointGain s_X5_add J38 J69 Q) (xX11_trade_63 s_X11_isGuest s_X5_clear s_X0_holderOf s_X11_jointGain s_X5_add J38 J69 Q))))))) ls st h
theorem kX11_trade_50 {X : zq_X} {d : Nat} (C : zq_C X cX11_trade 8 RX11 d) {d_X11_isGuest : Nat} {s_X11_isGuest : zq_Sp} (h_X11_isGuest : zq_M yX11_isGuest cX11_isGuest 2 (some .boolean) 1 d_X11_isGuest s_X11_isGuest) (g_X11_isGuest : d_X11_isGuest + 1 ≤ d) {d_X5_clear : Nat} {s_X5_clear : zq_Sp} (h_X5_clear : zq_M yX5_clear cX5_clear 1 none 0 d_X5_clear s_X5_clear) (g_X5_clear : d_X5_clear + 1 ≤ d) {d_X0_holderOf : Nat} {s_X0_holderOf : zq_Sp} (h_X0_holderOf : zq_M yX0_holderOf cX0_holderOf 2 (some .int) 1 d_X0_holderOf s_X0_holderOf) (g_X0_holderOf : d_X0_holderOf + 1 ≤ d) {d_X11_jointGain : Nat} {s_X11_jointGain : zq_Sp} (h_X11_jointGain : zq_M yX11_jointGain cX11_jointGain 7 (some .int) 1 d_X11_jointGain s_X11_jointGain) (g_X11_jointGain : d_X11_jointGain + 1 ≤ d) {d_X5_add : Nat} {s_X5_add : zq_Sp} (h_X5_add : zq_M yX5_add cX5_add 3 none 0 d_X5_add s_X5_add) (g_X5_add : d_X5_add + 1 ≤ d) {J38 : zq_P} (j38 : zq_ok X 8 38 J38) {J69 : zq_P} (j69 : zq_ok X 8 69 J69) {Q : zq_Q} (hq : zq_R X (some .int) 1 Q) : zq_ok X 8 50 (xX11_trade_50 s_X11_isGuest s_X5_clear s_X0_holderOf s_X11_jointGain s_X5_add J38 J69 Q) := by
  refine zs_aload_n C dX11_trade_50 rfl ?_
  refine zs_getR C zp_0 zF11 (j := 4) ⟨by decide, rfl⟩ zw_319 dX11_trade_51 ?_
  refine zs_iload C dX11_trade_54 ?_
  refine zs_callV C h_X0_holderOf g_X0_holderOf zy_X0_holderOf zp_12 (show vwCl[0]? = some (RX0, TX0, 5) from rfl) zw_587 zw_588 zs9_X0_holderOf dX11_trade_56 ?_
  refine zs_iload_n C dX11_trade_59 rfl ?_
  exact zs_icmp_eq C dX11_trade_60 (by decide) (kX11_trade_66 C h_X11_isGuest g_X11_isGuest h_X5_clear g_X5_clear h_X0_holderOf g_X0_holderOf h_X11_jointGain g_X11_jointGain h_X5_add g_X5_add j38 j69 hq) (kX11_trade_63 C h_X11_isGuest g_X11_isGuest h_X5_clear g_X5_clear h_X0_holderOf g_X0_holderOf h_X11_jointGain g_X11_jointGain h_X5_add g_X5_add j38 j69 hq)
def xX11_trade_38 (s_X11_isGuest : zq_Sp) (s_X5_clear : zq_Sp) (s_X0_holderOf : zq_Sp) (s_X11_jointGain : zq_Sp) (s_X5_add : zq_Sp) (J38 : zq_P) (J69 : zq_P) (Q : zq_Q) (ls : zq_L) (st : List Value) (h : zq_H) : Prop := (zi_iload 5 (zi_aload 0 (zi_getR 0 40 (zi_getI 40 3 (zi_if2 (fun x y => y ≤ x) (xX11_trade_168 s_X11_isGuest s_X5_clear s_X0_holderOf s_X11_jointGain s_X5_add J38 J69 Q) (xX11_trade_50 s_X11_isGuest s_X5_clear s_X0_holderOf s_X11_jointGain s_X5_add J38 J69 Q)))))) ls st h
theorem kX11_trade_38 {X : zq_X} {d : Nat} (C : zq_C X cX11_trade 8 RX11 d) {d_X11_isGuest : Nat} {s_X11_isGuest : zq_Sp} (h_X11_isGuest : zq_M yX11_isGuest cX11_isGuest 2 (some .boolean) 1 d_X11_isGuest s_X11_isGuest) (g_X11_isGuest : d_X11_isGuest + 1 ≤ d) {d_X5_clear : Nat} {s_X5_clear : zq_Sp} (h_X5_clear : zq_M yX5_clear cX5_clear 1 none 0 d_X5_clear s_X5_clear) (g_X5_clear : d_X5_clear + 1 ≤ d) {d_X0_holderOf : Nat} {s_X0_holderOf : zq_Sp} (h_X0_holderOf : zq_M yX0_holderOf cX0_holderOf 2 (some .int) 1 d_X0_holderOf s_X0_holderOf) (g_X0_holderOf : d_X0_holderOf + 1 ≤ d) {d_X11_jointGain : Nat} {s_X11_jointGain : zq_Sp} (h_X11_jointGain : zq_M yX11_jointGain cX11_jointGain 7 (some .int) 1 d_X11_jointGain s_X11_jointGain) (g_X11_jointGain : d_X11_jointGain + 1 ≤ d) {d_X5_add : Nat} {s_X5_add : zq_Sp} (h_X5_add : zq_M yX5_add cX5_add 3 none 0 d_X5_add s_X5_add) (g_X5_add : d_X5_add + 1 ≤ d) {J38 : zq_P} (j38 : zq_ok X 8 38 J38) {J69 : zq_P} (j69 : zq_ok X 8 69 J69) {Q : zq_Q} (hq : zq_R X (some .int) 1 Q) : zq_ok X 8 38 (xX11_trade_38 s_X11_isGuest s_X5_clear s_X0_holderOf s_X11_jointGain s_X5_add J38 J69 Q) := by
  refine zs_iload C dX11_trade_38 ?_
  refine zs_aload_n C dX11_trade_40 rfl ?_
  refine zs_getR C zp_0 zF11 (j := 11) ⟨by decide, rfl⟩ zw_326 dX11_trade_41 ?_
  refine zs_getIN C zp_40 zF2 (j := 3) ⟨by decide, rfl⟩ zw_273 dX11_trade_44 ?_
  exact zs_icmp_ge C dX11_trade_47 (by decide) (kX11_trade_168 C h_X11_isGuest g_X11_isGuest h_X5_clear g_X5_clear h_X0_holderOf g_X0_holderOf h_X11_jointGain g_X11_jointGain h_X5_add g_X5_add j38 j69 hq) (kX11_trade_50 C h_X11_isGuest g_X11_isGuest h_X5_clear g_X5_clear h_X0_holderOf g_X0_holderOf h_X11_jointGain g_X11_jointGain h_X5_add g_X5_add j38 j69 hq)
def xX11_trade_23 (s_X11_isGuest : zq_Sp) (s_X5_clear : zq_Sp) (s_X0_holderOf : zq_Sp) (s_X11_jointGain : zq_Sp) (s_X5_add : zq_Sp) (J38 : zq_P) (J69 : zq_P) (Q : zq_Q) (ls : zq_L) (st : List Value) (h : zq_H) : Prop := (zi_push (.int 0) (zi_istore 3 (zi_push (.int 0) (zi_istore 4 (zi_aload 0 (zi_getR 0 3 (zi_callV 0 3 s_X5_clear (zi_push (.int 0) (zi_istore 5 (J38)))))))))) ls st h
theorem kX11_trade_23 {X : zq_X} {d : Nat} (C : zq_C X cX11_trade 8 RX11 d) {d_X11_isGuest : Nat} {s_X11_isGuest : zq_Sp} (h_X11_isGuest : zq_M yX11_isGuest cX11_isGuest 2 (some .boolean) 1 d_X11_isGuest s_X11_isGuest) (g_X11_isGuest : d_X11_isGuest + 1 ≤ d) {d_X5_clear : Nat} {s_X5_clear : zq_Sp} (h_X5_clear : zq_M yX5_clear cX5_clear 1 none 0 d_X5_clear s_X5_clear) (g_X5_clear : d_X5_clear + 1 ≤ d) {d_X0_holderOf : Nat} {s_X0_holderOf : zq_Sp} (h_X0_holderOf : zq_M yX0_holderOf cX0_holderOf 2 (some .int) 1 d_X0_holderOf s_X0_holderOf) (g_X0_holderOf : d_X0_holderOf + 1 ≤ d) {d_X11_jointGain : Nat} {s_X11_jointGain : zq_Sp} (h_X11_jointGain : zq_M yX11_jointGain cX11_jointGain 7 (some .int) 1 d_X11_jointGain s_X11_jointGain) (g_X11_jointGain : d_X11_jointGain + 1 ≤ d) {d_X5_add : Nat} {s_X5_add : zq_Sp} (h_X5_add : zq_M yX5_add cX5_add 3 none 0 d_X5_add s_X5_add) (g_X5_add : d_X5_add + 1 ≤ d) {J38 : zq_P} (j38 : zq_ok X 8 38 J38) {J69 : zq_P} (j69 : zq_ok X 8 69 J69) {Q : zq_Q} (hq : zq_R X (some .int) 1 Q) : zq_ok X 8 23 (xX11_trade_23 s_X11_isGuest s_X5_clear s_X0_holderOf s_X11_jointGain s_X5_add J38 J69 Q) := by
  refine zs_iconst C dX11_trade_23 (by decide) ?_
  refine zs_istore_n C dX11_trade_24 rfl (by decide) ?_
  refine zs_iconst C dX11_trade_25 (by decide) ?_
  refine zs_istore C dX11_trade_26 (by decide) ?_
  refine zs_aload_n C dX11_trade_28 rfl ?_
  refine zs_getR C zp_0 zF11 (j := 1) ⟨by decide, rfl⟩ zw_316 dX11_trade_29 ?_
  refine zs_callV C h_X5_clear g_X5_clear zy_X5_clear zp_3 (show vwCl[5]? = some (RX5, TX5, 2) from rfl) zw_650 zw_651 zs9_X5_clear dX11_trade_32 ?_
  refine zs_iconst C dX11_trade_35 (by decide) ?_
  refine zs_istore C dX11_trade_36 (by decide) ?_
  exact j38
def xX11_trade_21 (s_X11_isGuest : zq_Sp) (s_X5_clear : zq_Sp) (s_X0_holderOf : zq_Sp) (s_X11_jointGain : zq_Sp) (s_X5_add : zq_Sp) (J38 : zq_P) (J69 : zq_P) (Q : zq_Q) (ls : zq_L) (st : List Value) (h : zq_H) : Prop := (zi_push (.int (-1)) (zi_iret Q)) ls st h
theorem kX11_trade_21 {X : zq_X} {d : Nat} (C : zq_C X cX11_trade 8 RX11 d) {d_X11_isGuest : Nat} {s_X11_isGuest : zq_Sp} (h_X11_isGuest : zq_M yX11_isGuest cX11_isGuest 2 (some .boolean) 1 d_X11_isGuest s_X11_isGuest) (g_X11_isGuest : d_X11_isGuest + 1 ≤ d) {d_X5_clear : Nat} {s_X5_clear : zq_Sp} (h_X5_clear : zq_M yX5_clear cX5_clear 1 none 0 d_X5_clear s_X5_clear) (g_X5_clear : d_X5_clear + 1 ≤ d) {d_X0_holderOf : Nat} {s_X0_holderOf : zq_Sp} (h_X0_holderOf : zq_M yX0_holderOf cX0_holderOf 2 (some .int) 1 d_X0_holderOf s_X0_holderOf) (g_X0_holderOf : d_X0_holderOf + 1 ≤ d) {d_X11_jointGain : Nat} {s_X11_jointGain : zq_Sp} (h_X11_jointGain : zq_M yX11_jointGain cX11_jointGain 7 (some .int) 1 d_X11_jointGain s_X11_jointGain) (g_X11_jointGain : d_X11_jointGain + 1 ≤ d) {d_X5_add : Nat} {s_X5_add : zq_Sp} (h_X5_add : zq_M yX5_add cX5_add 3 none 0 d_X5_add s_X5_add) (g_X5_add : d_X5_add + 1 ≤ d) {J38 : zq_P} (j38 : zq_ok X 8 38 J38) {J69 : zq_P} (j69 : zq_ok X 8 69 J69) {Q : zq_Q} (hq : zq_R X (some .int) 1 Q) : zq_ok X 8 21 (xX11_trade_21 s_X11_isGuest s_X5_clear s_X0_holderOf s_X11_jointGain s_X5_add J38 J69 Q) := by
  refine zs_iconst C dX11_trade_21 (by decide) ?_
  exact zs_iret C hq dX11_trade_22
def xX11_trade_16 (s_X11_isGuest : zq_Sp) (s_X5_clear : zq_Sp) (s_X0_holderOf : zq_Sp) (s_X11_jointGain : zq_Sp) (s_X5_add : zq_Sp) (J38 : zq_P) (J69 : zq_P) (Q : zq_Q) (ls : zq_L) (st : List Value) (h : zq_H) : Prop := (zi_iload 1 (zi_iload 2 (zi_if2 (fun x y => x = y) (xX11_trade_21 s_X11_isGuest s_X5_clear s_X0_holderOf s_X11_jointGain s_X5_add J38 J69 Q) (xX11_trade_23 s_X11_isGuest s_X5_clear s_X0_holderOf s_X11_jointGain s_X5_add J38 J69 Q)))) ls st h
theorem kX11_trade_16 {X : zq_X} {d : Nat} (C : zq_C X cX11_trade 8 RX11 d) {d_X11_isGuest : Nat} {s_X11_isGuest : zq_Sp} (h_X11_isGuest : zq_M yX11_isGuest cX11_isGuest 2 (some .boolean) 1 d_X11_isGuest s_X11_isGuest) (g_X11_isGuest : d_X11_isGuest + 1 ≤ d) {d_X5_clear : Nat} {s_X5_clear : zq_Sp} (h_X5_clear : zq_M yX5_clear cX5_clear 1 none 0 d_X5_clear s_X5_clear) (g_X5_clear : d_X5_clear + 1 ≤ d) {d_X0_holderOf : Nat} {s_X0_holderOf : zq_Sp} (h_X0_holderOf : zq_M yX0_holderOf cX0_holderOf 2 (some .int) 1 d_X0_holderOf s_X0_holderOf) (g_X0_holderOf : d_X0_holderOf + 1 ≤ d) {d_X11_jointGain : Nat} {s_X11_jointGain : zq_Sp} (h_X11_jointGain : zq_M yX11_jointGain cX11_jointGain 7 (some .int) 1 d_X11_jointGain s_X11_jointGain) (g_X11_jointGain : d_X11_jointGain + 1 ≤ d) {d_X5_add : Nat} {s_X5_add : zq_Sp} (h_X5_add : zq_M yX5_add cX5_add 3 none 0 d_X5_add s_X5_add) (g_X5_add : d_X5_add + 1 ≤ d) {J38 : zq_P} (j38 : zq_ok X 8 38 J38) {J69 : zq_P} (j69 : zq_ok X 8 69 J69) {Q : zq_Q} (hq : zq_R X (some .int) 1 Q) : zq_ok X 8 16 (xX11_trade_16 s_X11_isGuest s_X5_clear s_X0_holderOf s_X11_jointGain s_X5_add J38 J69 Q) := by
  refine zs_iload_n C dX11_trade_16 rfl ?_
  refine zs_iload_n C dX11_trade_17 rfl ?_
  exact zs_icmp_ne C dX11_trade_18 (by decide) (kX11_trade_23 C h_X11_isGuest g_X11_isGuest h_X5_clear g_X5_clear h_X0_holderOf g_X0_holderOf h_X11_jointGain g_X11_jointGain h_X5_add g_X5_add j38 j69 hq) (kX11_trade_21 C h_X11_isGuest g_X11_isGuest h_X5_clear g_X5_clear h_X0_holderOf g_X0_holderOf h_X11_jointGain g_X11_jointGain h_X5_add g_X5_add j38 j69 hq)
def xX11_trade_8 (s_X11_isGuest : zq_Sp) (s_X5_clear : zq_Sp) (s_X0_holderOf : zq_Sp) (s_X11_jointGain : zq_Sp) (s_X5_add : zq_Sp) (J38 : zq_P) (J69 : zq_P) (Q : zq_Q) (ls : zq_L) (st : List Value) (h : zq_H) : Prop := (zi_aload 0 (zi_iload 2 (zi_callV 1 0 s_X11_isGuest (zi_if1 (fun x => x = 0) (xX11_trade_21 s_X11_isGuest s_X5_clear s_X0_holderOf s_X11_jointGain s_X5_add J38 J69 Q) (xX11_trade_16 s_X11_isGuest s_X5_clear s_X0_holderOf s_X11_jointGain s_X5_add J38 J69 Q))))) ls st h
theorem kX11_trade_8 {X : zq_X} {d : Nat} (C : zq_C X cX11_trade 8 RX11 d) {d_X11_isGuest : Nat} {s_X11_isGuest : zq_Sp} (h_X11_isGuest : zq_M yX11_isGuest cX11_isGuest 2 (some .boolean) 1 d_X11_isGuest s_X11_isGuest) (g_X11_isGuest : d_X11_isGuest + 1 ≤ d) {d_X5_clear : Nat} {s_X5_clear : zq_Sp} (h_X5_clear : zq_M yX5_clear cX5_clear 1 none 0 d_X5_clear s_X5_clear) (g_X5_clear : d_X5_clear + 1 ≤ d) {d_X0_holderOf : Nat} {s_X0_holderOf : zq_Sp} (h_X0_holderOf : zq_M yX0_holderOf cX0_holderOf 2 (some .int) 1 d_X0_holderOf s_X0_holderOf) (g_X0_holderOf : d_X0_holderOf + 1 ≤ d) {d_X11_jointGain : Nat} {s_X11_jointGain : zq_Sp} (h_X11_jointGain : zq_M yX11_jointGain cX11_jointGain 7 (some .int) 1 d_X11_jointGain s_X11_jointGain) (g_X11_jointGain : d_X11_jointGain + 1 ≤ d) {d_X5_add : Nat} {s_X5_add : zq_Sp} (h_X5_add : zq_M yX5_add cX5_add 3 none 0 d_X5_add s_X5_add) (g_X5_add : d_X5_add + 1 ≤ d) {J38 : zq_P} (j38 : zq_ok X 8 38 J38) {J69 : zq_P} (j69 : zq_ok X 8 69 J69) {Q : zq_Q} (hq : zq_R X (some .int) 1 Q) : zq_ok X 8 8 (xX11_trade_8 s_X11_isGuest s_X5_clear s_X0_holderOf s_X11_jointGain s_X5_add J38 J69 Q) := by
  refine zs_aload_n C dX11_trade_8 rfl ?_
  refine zs_iload_n C dX11_trade_9 rfl ?_
  refine zs_callV C h_X11_isGuest g_X11_isGuest zy_X11_isGuest zp_0 (show vwCl[11]? = some (RX11, TX11, 16) from rfl) zw_546 zw_548 zs9_X11_isGuest dX11_trade_10 ?_
  exact zs_if_eq C dX11_trade_13 (by decide) (kX11_trade_21 C h_X11_isGuest g_X11_isGuest h_X5_clear g_X5_clear h_X0_holderOf g_X0_holderOf h_X11_jointGain g_X11_jointGain h_X5_add g_X5_add j38 j69 hq) (kX11_trade_16 C h_X11_isGuest g_X11_isGuest h_X5_clear g_X5_clear h_X0_holderOf g_X0_holderOf h_X11_jointGain g_X11_jointGain h_X5_add g_X5_add j38 j69 hq)
def xX11_trade_0 (s_X11_isGuest : zq_Sp) (s_X5_clear : zq_Sp) (s_X0_holderOf : zq_Sp) (s_X11_jointGain : zq_Sp) (s_X5_add : zq_Sp) (J38 : zq_P) (J69 : zq_P) (Q : zq_Q) (ls : zq_L) (st : List Value) (h : zq_H) : Prop := (zi_aload 0 (zi_iload 1 (zi_callV 1 0 s_X11_isGuest (zi_if1 (fun x => x = 0) (xX11_trade_21 s_X11_isGuest s_X5_clear s_X0_holderOf s_X11_jointGain s_X5_add J38 J69 Q) (xX11_trade_8 s_X11_isGuest s_X5_clear s_X0_holderOf s_X11_jointGain s_X5_add J38 J69 Q))))) ls st h
theorem kX11_trade_0 {X : zq_X} {d : Nat} (C : zq_C X cX11_trade 8 RX11 d) {d_X11_isGuest : Nat} {s_X11_isGuest : zq_Sp} (h_X11_isGuest : zq_M yX11_isGuest cX11_isGuest 2 (some .boolean) 1 d_X11_isGuest s_X11_isGuest) (g_X11_isGuest : d_X11_isGuest + 1 ≤ d) {d_X5_clear : Nat} {s_X5_clear : zq_Sp} (h_X5_clear : zq_M yX5_clear cX5_clear 1 none 0 d_X5_clear s_X5_clear) (g_X5_clear : d_X5_clear + 1 ≤ d) {d_X0_holderOf : Nat} {s_X0_holderOf : zq_Sp} (h_X0_holderOf : zq_M yX0_holderOf cX0_holderOf 2 (some .int) 1 d_X0_holderOf s_X0_holderOf) (g_X0_holderOf : d_X0_holderOf + 1 ≤ d) {d_X11_jointGain : Nat} {s_X11_jointGain : zq_Sp} (h_X11_jointGain : zq_M yX11_jointGain cX11_jointGain 7 (some .int) 1 d_X11_jointGain s_X11_jointGain) (g_X11_jointGain : d_X11_jointGain + 1 ≤ d) {d_X5_add : Nat} {s_X5_add : zq_Sp} (h_X5_add : zq_M yX5_add cX5_add 3 none 0 d_X5_add s_X5_add) (g_X5_add : d_X5_add + 1 ≤ d) {J38 : zq_P} (j38 : zq_ok X 8 38 J38) {J69 : zq_P} (j69 : zq_ok X 8 69 J69) {Q : zq_Q} (hq : zq_R X (some .int) 1 Q) : zq_ok X 8 0 (xX11_trade_0 s_X11_isGuest s_X5_clear s_X0_holderOf s_X11_jointGain s_X5_add J38 J69 Q) := by
  refine zs_aload_n C dX11_trade_0 rfl ?_
  refine zs_iload_n C dX11_trade_1 rfl ?_
  refine zs_callV C h_X11_isGuest g_X11_isGuest zy_X11_isGuest zp_0 (show vwCl[11]? = some (RX11, TX11, 16) from rfl) zw_546 zw_548 zs9_X11_isGuest dX11_trade_2 ?_
  exact zs_if_eq C dX11_trade_5 (by decide) (kX11_trade_21 C h_X11_isGuest g_X11_isGuest h_X5_clear g_X5_clear h_X0_holderOf g_X0_holderOf h_X11_jointGain g_X11_jointGain h_X5_add g_X5_add j38 j69 hq) (kX11_trade_8 C h_X11_isGuest g_X11_isGuest h_X5_clear g_X5_clear h_X0_holderOf g_X0_holderOf h_X11_jointGain g_X11_jointGain h_X5_add g_X5_add j38 j69 hq)
theorem mX11_trade {d : Nat} {spec : zq_Sp} {σ38 : Type} {σ69 : Type} {d_X11_isGuest : Nat} {s_X11_isGuest : zq_Sp} (h_X11_isGuest : zq_M yX11_isGuest cX11_isGuest 2 (some .boolean) 1 d_X11_isGuest s_X11_isGuest) (g_X11_isGuest : d_X11_isGuest + 1 ≤ d) {d_X5_clear : Nat} {s_X5_clear : zq_Sp} (h_X5_clear : zq_M yX5_clear cX5_clear 1 none 0 d_X5_clear s_X5_clear) (g_X5_clear : d_X5_clear + 1 ≤ d) {d_X0_holderOf : Nat} {s_X0_holderOf : zq_Sp} (h_X0_holderOf : zq_M yX0_holderOf cX0_holderOf 2 (some .int) 1 d_X0_holderOf s_X0_holderOf) (g_X0_holderOf : d_X0_holderOf + 1 ≤ d) {d_X11_jointGain : Nat} {s_X11_jointGain : zq_Sp} (h_X11_jointGain : zq_M yX11_jointGain cX11_jointGain 7 (some .int) 1 d_X11_jointGain s_X11_jointGain) (g_X11_jointGain : d_X11_jointGain + 1 ≤ d) {d_X5_add : Nat} {s_X5_add : zq_Sp} (h_X5_add : zq_M yX5_add cX5_add 3 none 0 d_X5_add s_X5_add) (g_X5_add : d_X5_add + 1 ≤ d) (μ38 : σ38 → Nat) (I38 : zq_Q → σ38 → zq_P) (μ69 : σ69 → Nat) (I69 : zq_Q → σ69 → zq_P) (v : ∀ args h Q, spec args h Q → (zq_a args).length ≤ 8 ∧ xX11_trade_0 s_X11_isGuest s_X5_clear s_X0_holderOf s_X11_jointGain s_X5_add (fun ls st h => ∃ b, I38 Q b ls st h) (fun ls st h => ∃ b, I69 Q b ls st h) Q (zq_l0 8 args) [] h) (v38 : ∀ Q a ls st h, I38 Q a ls st h → xX11_trade_38 s_X11_isGuest s_X5_clear s_X0_holderOf s_X11_jointGain s_X5_add (fun ls st h => ∃ b, μ38 b < μ38 a ∧ I38 Q b ls st h) (fun ls st h => ∃ b, μ69 b < μ38 a ∧ I69 Q b ls st h) Q ls st h) (v69 : ∀ Q a ls st h, I69 Q a ls st h → xX11_trade_69 s_X11_isGuest s_X5_clear s_X0_holderOf s_X11_jointGain s_X5_add (fun ls st h => ∃ b, μ38 b < μ69 a ∧ I38 Q b ls st h) (fun ls st h => ∃ b, μ69 b < μ69 a ∧ I69 Q b ls st h) Q ls st h) : zq_M yX11_trade cX11_trade 8 (some .int) 1 d spec := by
  refine zq_met (by decide +kernel) (by decide) (fun X Q args h C hq hs => ⟨(v args h Q hs).1, _, ?_, (v args h Q hs).2⟩)
  have hl := zq_loop2 (X := X) (nL := 8) (pc1 := 38) (pc2 := 69) μ38 μ69 (I38 Q) (I69 Q) (fun J38 J69 => xX11_trade_38 s_X11_isGuest s_X5_clear s_X0_holderOf s_X11_jointGain s_X5_add J38 J69 Q) (fun J38 J69 => xX11_trade_69 s_X11_isGuest s_X5_clear s_X0_holderOf s_X11_jointGain s_X5_add J38 J69 Q) (fun j38 j69 => kX11_trade_38 C h_X11_isGuest g_X11_isGuest h_X5_clear g_X5_clear h_X0_holderOf g_X0_holderOf h_X11_jointGain g_X11_jointGain h_X5_add g_X5_add j38 j69 hq) (fun j38 j69 => kX11_trade_69 C h_X11_isGuest g_X11_isGuest h_X5_clear g_X5_clear h_X0_holderOf g_X0_holderOf h_X11_jointGain g_X11_jointGain h_X5_add g_X5_add j38 j69 hq) (v38 Q) (v69 Q)
  exact kX11_trade_0 C h_X11_isGuest g_X11_isGuest h_X5_clear g_X5_clear h_X0_holderOf g_X0_holderOf h_X11_jointGain g_X11_jointGain h_X5_add g_X5_add hl.1 hl.2 hq
/-! ToOneCrumb.slices(I)I -/
theorem dX11_slices_0 : decode cX11_slices 0 = .ok (.aload_n 0, 1) := by decide +kernel
theorem dX11_slices_1 : decode cX11_slices 1 = .ok (.iload_n 1, 1) := by decide +kernel
theorem dX11_slices_2 : decode cX11_slices 2 = .ok (.invokevirtual 257, 3) := by decide +kernel
theorem dX11_slices_5 : decode cX11_slices 5 = .ok (.ifCond .ne 5, 3) := by decide +kernel
theorem dX11_slices_8 : decode cX11_slices 8 = .ok (.iconst (-1), 1) := by decide +kernel
theorem dX11_slices_9 : decode cX11_slices 9 = .ok (.ireturn, 1) := by decide +kernel
theorem dX11_slices_10 : decode cX11_slices 10 = .ok (.aload_n 0, 1) := by decide +kernel
theorem dX11_slices_11 : decode cX11_slices 11 = .ok (.bipush 100, 2) := by decide +kernel
theorem dX11_slices_13 : decode cX11_slices 13 = .ok (.invokevirtual 260, 3) := by decide +kernel
theorem dX11_slices_16 : decode cX11_slices 16 = .ok (.aload_n 0, 1) := by decide +kernel
theorem dX11_slices_17 : decode cX11_slices 17 = .ok (.getfield 54, 3) := by decide +kernel
theorem dX11_slices_20 : decode cX11_slices 20 = .ok (.iload_n 1, 1) := by decide +kernel
theorem dX11_slices_21 : decode cX11_slices 21 = .ok (.invokevirtual 263, 3) := by decide +kernel
theorem dX11_slices_24 : decode cX11_slices 24 = .ok (.ifCond .ne 6, 3) := by decide +kernel
theorem dX11_slices_27 : decode cX11_slices 27 = .ok (.bipush (-2), 2) := by decide +kernel
theorem dX11_slices_29 : decode cX11_slices 29 = .ok (.ireturn, 1) := by decide +kernel
theorem dX11_slices_30 : decode cX11_slices 30 = .ok (.aload_n 0, 1) := by decide +kernel
theorem dX11_slices_31 : decode cX11_slices 31 = .ok (.getfield 19, 3) := by decide +kernel
theorem dX11_slices_34 : decode cX11_slices 34 = .ok (.invokevirtual 236, 3) := by decide +kernel
theorem dX11_slices_37 : decode cX11_slices 37 = .ok (.aload_n 0, 1) := by decide +kernel
theorem dX11_slices_38 : decode cX11_slices 38 = .ok (.getfield 54, 3) := by decide +kernel
theorem dX11_slices_41 : decode cX11_slices 41 = .ok (.iload_n 1, 1) := by decide +kernel
theorem dX11_slices_42 : decode cX11_slices 42 = .ok (.aload_n 0, 1) := by decide +kernel
theorem dX11_slices_43 : decode cX11_slices 43 = .ok (.getfield 19, 3) := by decide +kernel
theorem dX11_slices_46 : decode cX11_slices 46 = .ok (.invokevirtual 266, 3) := by decide +kernel
theorem dX11_slices_49 : decode cX11_slices 49 = .ok (.aload_n 0, 1) := by decide +kernel
theorem dX11_slices_50 : decode cX11_slices 50 = .ok (.getfield 54, 3) := by decide +kernel
theorem dX11_slices_53 : decode cX11_slices 53 = .ok (.getfield 270, 3) := by decide +kernel
theorem dX11_slices_56 : decode cX11_slices 56 = .ok (.iload_n 1, 1) := by decide +kernel
theorem dX11_slices_57 : decode cX11_slices 57 = .ok (.iaload, 1) := by decide +kernel
theorem dX11_slices_58 : decode cX11_slices 58 = .ok (.ireturn, 1) := by decide +kernel
def xX11_slices_30 (s_X11_areGuests : zq_Sp) (s_X11_placeGuests : zq_Sp) (s_X4_canServe : zq_Sp) (s_X5_clear : zq_Sp) (s_X4_tellOrder : zq_Sp) (Q : zq_Q) (ls : zq_L) (st : List Value) (h : zq_H) : Prop := (zi_aload 0 (zi_getR 0 3 (zi_callV 0 3 s_X5_clear (zi_aload 0 (zi_getR 0 22 (zi_iload 1 (zi_aload 0 (zi_getR 0 3 (zi_callV 2 22 s_X4_tellOrder (zi_aload 0 (zi_getR 0 22 (zi_getR 22 27 (zi_iload 1 (zi_aldI 27 64 (zi_iret Q))))))))))))))) ls st h
theorem kX11_slices_30 {X : zq_X} {d : Nat} (C : zq_C X cX11_slices 2 RX11 d) {d_X11_areGuests : Nat} {s_X11_areGuests : zq_Sp} (h_X11_areGuests : zq_M yX11_areGuests cX11_areGuests 2 (some .boolean) 1 d_X11_areGuests s_X11_areGuests) (g_X11_areGuests : d_X11_areGuests + 1 ≤ d) {d_X11_placeGuests : Nat} {s_X11_placeGuests : zq_Sp} (h_X11_placeGuests : zq_M yX11_placeGuests cX11_placeGuests 7 none 0 d_X11_placeGuests s_X11_placeGuests) (g_X11_placeGuests : d_X11_placeGuests + 1 ≤ d) {d_X4_canServe : Nat} {s_X4_canServe : zq_Sp} (h_X4_canServe : zq_M yX4_canServe cX4_canServe 2 (some .boolean) 1 d_X4_canServe s_X4_canServe) (g_X4_canServe : d_X4_canServe + 1 ≤ d) {d_X5_clear : Nat} {s_X5_clear : zq_Sp} (h_X5_clear : zq_M yX5_clear cX5_clear 1 none 0 d_X5_clear s_X5_clear) (g_X5_clear : d_X5_clear + 1 ≤ d) {d_X4_tellOrder : Nat} {s_X4_tellOrder : zq_Sp} (h_X4_tellOrder : zq_M yX4_tellOrder cX4_tellOrder 8 none 0 d_X4_tellOrder s_X4_tellOrder) (g_X4_tellOrder : d_X4_tellOrder + 1 ≤ d) {Q : zq_Q} (hq : zq_R X (some .int) 1 Q) : zq_ok X 2 30 (xX11_slices_30 s_X11_areGuests s_X11_placeGuests s_X4_canServe s_X5_clear s_X4_tellOrder Q) := by
  refine zs_aload_n C dX11_slices_30 rfl ?_
  refine zs_getR C zp_0 zF11 (j := 1) ⟨by decide, rfl⟩ zw_316 dX11_slices_31 ?_
  refine zs_callV C h_X5_clear g_X5_clear zy_X5_clear zp_3 (show vwCl[5]? = some (RX5, TX5, 2) from rfl) zw_650 zw_651 zs9_X5_clear dX11_slices_34 ?_
  refine zs_aload_n C dX11_slices_37 rfl ?_
  refine zs_getR C zp_0 zF11 (j := 6) ⟨by decide, rfl⟩ zw_321 dX11_slices_38 ?_
  refine zs_iload_n C dX11_slices_41 rfl ?_
  refine zs_aload_n C dX11_slices_42 rfl ?_
  refine zs_getR C zp_0 zF11 (j := 1) ⟨by decide, rfl⟩ zw_316 dX11_slices_43 ?_
  refine zs_callV C h_X4_tellOrder g_X4_tellOrder zy_X4_tellOrder zp_22 (show vwCl[4]? = some (RX4, TX4, 8) from rfl) zw_765 zw_766 zs9_X4_tellOrder dX11_slices_46 ?_
  refine zs_aload_n C dX11_slices_49 rfl ?_
  refine zs_getR C zp_0 zF11 (j := 6) ⟨by decide, rfl⟩ zw_321 dX11_slices_50 ?_
  refine zs_getRN C zp_22 zF4 (j := 4) ⟨by decide, rfl⟩ zw_182 dX11_slices_53 ?_
  refine zs_iload_n C dX11_slices_56 rfl ?_
  refine zs_iaload C zp_27 dX11_slices_57 ?_
  exact zs_iret C hq dX11_slices_58
def xX11_slices_27 (s_X11_areGuests : zq_Sp) (s_X11_placeGuests : zq_Sp) (s_X4_canServe : zq_Sp) (s_X5_clear : zq_Sp) (s_X4_tellOrder : zq_Sp) (Q : zq_Q) (ls : zq_L) (st : List Value) (h : zq_H) : Prop := (zi_push (.int (-2)) (zi_iret Q)) ls st h
theorem kX11_slices_27 {X : zq_X} {d : Nat} (C : zq_C X cX11_slices 2 RX11 d) {d_X11_areGuests : Nat} {s_X11_areGuests : zq_Sp} (h_X11_areGuests : zq_M yX11_areGuests cX11_areGuests 2 (some .boolean) 1 d_X11_areGuests s_X11_areGuests) (g_X11_areGuests : d_X11_areGuests + 1 ≤ d) {d_X11_placeGuests : Nat} {s_X11_placeGuests : zq_Sp} (h_X11_placeGuests : zq_M yX11_placeGuests cX11_placeGuests 7 none 0 d_X11_placeGuests s_X11_placeGuests) (g_X11_placeGuests : d_X11_placeGuests + 1 ≤ d) {d_X4_canServe : Nat} {s_X4_canServe : zq_Sp} (h_X4_canServe : zq_M yX4_canServe cX4_canServe 2 (some .boolean) 1 d_X4_canServe s_X4_canServe) (g_X4_canServe : d_X4_canServe + 1 ≤ d) {d_X5_clear : Nat} {s_X5_clear : zq_Sp} (h_X5_clear : zq_M yX5_clear cX5_clear 1 none 0 d_X5_clear s_X5_clear) (g_X5_clear : d_X5_clear + 1 ≤ d) {d_X4_tellOrder : Nat} {s_X4_tellOrder : zq_Sp} (h_X4_tellOrder : zq_M yX4_tellOrder cX4_tellOrder 8 none 0 d_X4_tellOrder s_X4_tellOrder) (g_X4_tellOrder : d_X4_tellOrder + 1 ≤ d) {Q : zq_Q} (hq : zq_R X (some .int) 1 Q) : zq_ok X 2 27 (xX11_slices_27 s_X11_areGuests s_X11_placeGuests s_X4_canServe s_X5_clear s_X4_tellOrder Q) := by
  refine zs_bipush C dX11_slices_27 (by decide) ?_
  exact zs_iret C hq dX11_slices_29
def xX11_slices_10 (s_X11_areGuests : zq_Sp) (s_X11_placeGuests : zq_Sp) (s_X4_canServe : zq_Sp) (s_X5_clear : zq_Sp) (s_X4_tellOrder : zq_Sp) (Q : zq_Q) (ls : zq_L) (st : List Value) (h : zq_H) : Prop := (zi_aload 0 (zi_push (.int 100) (zi_callV 1 0 s_X11_placeGuests (zi_aload 0 (zi_getR 0 22 (zi_iload 1 (zi_callV 1 22 s_X4_canServe (zi_if1 (fun x => x = 0) (xX11_slices_27 s_X11_areGuests s_X11_placeGuests s_X4_canServe s_X5_clear s_X4_tellOrder Q) (xX11_slices_30 s_X11_areGuests s_X11_placeGuests s_X4_canServe s_X5_clear s_X4_tellOrder Q))))))))) ls st h
theorem kX11_slices_10 {X : zq_X} {d : Nat} (C : zq_C X cX11_slices 2 RX11 d) {d_X11_areGuests : Nat} {s_X11_areGuests : zq_Sp} (h_X11_areGuests : zq_M yX11_areGuests cX11_areGuests 2 (some .boolean) 1 d_X11_areGuests s_X11_areGuests) (g_X11_areGuests : d_X11_areGuests + 1 ≤ d) {d_X11_placeGuests : Nat} {s_X11_placeGuests : zq_Sp} (h_X11_placeGuests : zq_M yX11_placeGuests cX11_placeGuests 7 none 0 d_X11_placeGuests s_X11_placeGuests) (g_X11_placeGuests : d_X11_placeGuests + 1 ≤ d) {d_X4_canServe : Nat} {s_X4_canServe : zq_Sp} (h_X4_canServe : zq_M yX4_canServe cX4_canServe 2 (some .boolean) 1 d_X4_canServe s_X4_canServe) (g_X4_canServe : d_X4_canServe + 1 ≤ d) {d_X5_clear : Nat} {s_X5_clear : zq_Sp} (h_X5_clear : zq_M yX5_clear cX5_clear 1 none 0 d_X5_clear s_X5_clear) (g_X5_clear : d_X5_clear + 1 ≤ d) {d_X4_tellOrder : Nat} {s_X4_tellOrder : zq_Sp} (h_X4_tellOrder : zq_M yX4_tellOrder cX4_tellOrder 8 none 0 d_X4_tellOrder s_X4_tellOrder) (g_X4_tellOrder : d_X4_tellOrder + 1 ≤ d) {Q : zq_Q} (hq : zq_R X (some .int) 1 Q) : zq_ok X 2 10 (xX11_slices_10 s_X11_areGuests s_X11_placeGuests s_X4_canServe s_X5_clear s_X4_tellOrder Q) := by
  refine zs_aload_n C dX11_slices_10 rfl ?_
  refine zs_bipush C dX11_slices_11 (by decide) ?_
  refine zs_callV C h_X11_placeGuests g_X11_placeGuests zy_X11_placeGuests zp_0 (show vwCl[11]? = some (RX11, TX11, 16) from rfl) zw_734 zw_736 zs9_X11_placeGuests dX11_slices_13 ?_
  refine zs_aload_n C dX11_slices_16 rfl ?_
  refine zs_getR C zp_0 zF11 (j := 6) ⟨by decide, rfl⟩ zw_321 dX11_slices_17 ?_
  refine zs_iload_n C dX11_slices_20 rfl ?_
  refine zs_callV C h_X4_canServe g_X4_canServe zy_X4_canServe zp_22 (show vwCl[4]? = some (RX4, TX4, 8) from rfl) zw_761 zw_762 zs9_X4_canServe dX11_slices_21 ?_
  exact zs_if_ne C dX11_slices_24 (by decide) (kX11_slices_30 C h_X11_areGuests g_X11_areGuests h_X11_placeGuests g_X11_placeGuests h_X4_canServe g_X4_canServe h_X5_clear g_X5_clear h_X4_tellOrder g_X4_tellOrder hq) (kX11_slices_27 C h_X11_areGuests g_X11_areGuests h_X11_placeGuests g_X11_placeGuests h_X4_canServe g_X4_canServe h_X5_clear g_X5_clear h_X4_tellOrder g_X4_tellOrder hq)
def xX11_slices_8 (s_X11_areGuests : zq_Sp) (s_X11_placeGuests : zq_Sp) (s_X4_canServe : zq_Sp) (s_X5_clear : zq_Sp) (s_X4_tellOrder : zq_Sp) (Q : zq_Q) (ls : zq_L) (st : List Value) (h : zq_H) : Prop := (zi_push (.int (-1)) (zi_iret Q)) ls st h
theorem kX11_slices_8 {X : zq_X} {d : Nat} (C : zq_C X cX11_slices 2 RX11 d) {d_X11_areGuests : Nat} {s_X11_areGuests : zq_Sp} (h_X11_areGuests : zq_M yX11_areGuests cX11_areGuests 2 (some .boolean) 1 d_X11_areGuests s_X11_areGuests) (g_X11_areGuests : d_X11_areGuests + 1 ≤ d) {d_X11_placeGuests : Nat} {s_X11_placeGuests : zq_Sp} (h_X11_placeGuests : zq_M yX11_placeGuests cX11_placeGuests 7 none 0 d_X11_placeGuests s_X11_placeGuests) (g_X11_placeGuests : d_X11_placeGuests + 1 ≤ d) {d_X4_canServe : Nat} {s_X4_canServe : zq_Sp} (h_X4_canServe : zq_M yX4_canServe cX4_canServe 2 (some .boolean) 1 d_X4_canServe s_X4_canServe) (g_X4_canServe : d_X4_canServe + 1 ≤ d) {d_X5_clear : Nat} {s_X5_clear : zq_Sp} (h_X5_clear : zq_M yX5_clear cX5_clear 1 none 0 d_X5_clear s_X5_clear) (g_X5_clear : d_X5_clear + 1 ≤ d) {d_X4_tellOrder : Nat} {s_X4_tellOrder : zq_Sp} (h_X4_tellOrder : zq_M yX4_tellOrder cX4_tellOrder 8 none 0 d_X4_tellOrder s_X4_tellOrder) (g_X4_tellOrder : d_X4_tellOrder + 1 ≤ d) {Q : zq_Q} (hq : zq_R X (some .int) 1 Q) : zq_ok X 2 8 (xX11_slices_8 s_X11_areGuests s_X11_placeGuests s_X4_canServe s_X5_clear s_X4_tellOrder Q) := by
  refine zs_iconst C dX11_slices_8 (by decide) ?_
  exact zs_iret C hq dX11_slices_9
def xX11_slices_0 (s_X11_areGuests : zq_Sp) (s_X11_placeGuests : zq_Sp) (s_X4_canServe : zq_Sp) (s_X5_clear : zq_Sp) (s_X4_tellOrder : zq_Sp) (Q : zq_Q) (ls : zq_L) (st : List Value) (h : zq_H) : Prop := (zi_aload 0 (zi_iload 1 (zi_callV 1 0 s_X11_areGuests (zi_if1 (fun x => x = 0) (xX11_slices_8 s_X11_areGuests s_X11_placeGuests s_X4_canServe s_X5_clear s_X4_tellOrder Q) (xX11_slices_10 s_X11_areGuests s_X11_placeGuests s_X4_canServe s_X5_clear s_X4_tellOrder Q))))) ls st h
theorem kX11_slices_0 {X : zq_X} {d : Nat} (C : zq_C X cX11_slices 2 RX11 d) {d_X11_areGuests : Nat} {s_X11_areGuests : zq_Sp} (h_X11_areGuests : zq_M yX11_areGuests cX11_areGuests 2 (some .boolean) 1 d_X11_areGuests s_X11_areGuests) (g_X11_areGuests : d_X11_areGuests + 1 ≤ d) {d_X11_placeGuests : Nat} {s_X11_placeGuests : zq_Sp} (h_X11_placeGuests : zq_M yX11_placeGuests cX11_placeGuests 7 none 0 d_X11_placeGuests s_X11_placeGuests) (g_X11_placeGuests : d_X11_placeGuests + 1 ≤ d) {d_X4_canServe : Nat} {s_X4_canServe : zq_Sp} (h_X4_canServe : zq_M yX4_canServe cX4_canServe 2 (some .boolean) 1 d_X4_canServe s_X4_canServe) (g_X4_canServe : d_X4_canServe + 1 ≤ d) {d_X5_clear : Nat} {s_X5_clear : zq_Sp} (h_X5_clear : zq_M yX5_clear cX5_clear 1 none 0 d_X5_clear s_X5_clear) (g_X5_clear : d_X5_clear + 1 ≤ d) {d_X4_tellOrder : Nat} {s_X4_tellOrder : zq_Sp} (h_X4_tellOrder : zq_M yX4_tellOrder cX4_tellOrder 8 none 0 d_X4_tellOrder s_X4_tellOrder) (g_X4_tellOrder : d_X4_tellOrder + 1 ≤ d) {Q : zq_Q} (hq : zq_R X (some .int) 1 Q) : zq_ok X 2 0 (xX11_slices_0 s_X11_areGuests s_X11_placeGuests s_X4_canServe s_X5_clear s_X4_tellOrder Q) := by
  refine zs_aload_n C dX11_slices_0 rfl ?_
  refine zs_iload_n C dX11_slices_1 rfl ?_
  refine zs_callV C h_X11_areGuests g_X11_areGuests zy_X11_areGuests zp_0 (show vwCl[11]? = some (RX11, TX11, 16) from rfl) zw_726 zw_728 zs9_X11_areGuests dX11_slices_2 ?_
  exact zs_if_ne C dX11_slices_5 (by decide) (kX11_slices_10 C h_X11_areGuests g_X11_areGuests h_X11_placeGuests g_X11_placeGuests h_X4_canServe g_X4_canServe h_X5_clear g_X5_clear h_X4_tellOrder g_X4_tellOrder hq) (kX11_slices_8 C h_X11_areGuests g_X11_areGuests h_X11_placeGuests g_X11_placeGuests h_X4_canServe g_X4_canServe h_X5_clear g_X5_clear h_X4_tellOrder g_X4_tellOrder hq)
theorem mX11_slices {d : Nat} {spec : zq_Sp} {d_X11_areGuests : Nat} {s_X11_areGuests : zq_Sp} (h_X11_areGuests : zq_M yX11_areGuests cX11_areGuests 2 (some .boolean) 1 d_X11_areGuests s_X11_areGuests) (g_X11_areGuests : d_X11_areGuests + 1 ≤ d) {d_X11_placeGuests : Nat} {s_X11_placeGuests : zq_Sp} (h_X11_placeGuests : zq_M yX11_placeGuests cX11_placeGuests 7 none 0 d_X11_placeGuests s_X11_placeGuests) (g_X11_placeGuests : d_X11_placeGuests + 1 ≤ d) {d_X4_canServe : Nat} {s_X4_canServe : zq_Sp} (h_X4_canServe : zq_M yX4_canServe cX4_canServe 2 (some .boolean) 1 d_X4_canServe s_X4_canServe) (g_X4_canServe : d_X4_canServe + 1 ≤ d) {d_X5_clear : Nat} {s_X5_clear : zq_Sp} (h_X5_clear : zq_M yX5_clear cX5_clear 1 none 0 d_X5_clear s_X5_clear) (g_X5_clear : d_X5_clear + 1 ≤ d) {d_X4_tellOrder : Nat} {s_X4_tellOrder : zq_Sp} (h_X4_tellOrder : zq_M yX4_tellOrder cX4_tellOrder 8 none 0 d_X4_tellOrder s_X4_tellOrder) (g_X4_tellOrder : d_X4_tellOrder + 1 ≤ d) (v : ∀ args h Q, spec args h Q → (zq_a args).length ≤ 2 ∧ xX11_slices_0 s_X11_areGuests s_X11_placeGuests s_X4_canServe s_X5_clear s_X4_tellOrder Q (zq_l0 2 args) [] h) : zq_M yX11_slices cX11_slices 2 (some .int) 1 d spec := by
  refine zq_met (by decide +kernel) (by decide) (fun X Q args h C hq hs => ⟨(v args h Q hs).1, _, ?_, (v args h Q hs).2⟩)
  exact kX11_slices_0 C h_X11_areGuests g_X11_areGuests h_X11_placeGuests g_X11_placeGuests h_X4_canServe g_X4_canServe h_X5_clear g_X5_clear h_X4_tellOrder g_X4_tellOrder hq
/-! ToOneCrumb.quarrel()I -/
theorem dX11_quarrel_0 : decode cX11_quarrel 0 = .ok (.aload_n 0, 1) := by decide +kernel
theorem dX11_quarrel_1 : decode cX11_quarrel 1 = .ok (.bipush 100, 2) := by decide +kernel
theorem dX11_quarrel_3 : decode cX11_quarrel 3 = .ok (.invokevirtual 260, 3) := by decide +kernel
theorem dX11_quarrel_6 : decode cX11_quarrel 6 = .ok (.iconst 0, 1) := by decide +kernel
theorem dX11_quarrel_7 : decode cX11_quarrel 7 = .ok (.istore_n 1, 1) := by decide +kernel
theorem dX11_quarrel_8 : decode cX11_quarrel 8 = .ok (.bipush 7, 2) := by decide +kernel
theorem dX11_quarrel_10 : decode cX11_quarrel 10 = .ok (.istore_n 2, 1) := by decide +kernel
theorem dX11_quarrel_11 : decode cX11_quarrel 11 = .ok (.aload_n 0, 1) := by decide +kernel
theorem dX11_quarrel_12 : decode cX11_quarrel 12 = .ok (.invokevirtual 273, 3) := by decide +kernel
theorem dX11_quarrel_15 : decode cX11_quarrel 15 = .ok (.istore_n 3, 1) := by decide +kernel
theorem dX11_quarrel_16 : decode cX11_quarrel 16 = .ok (.iconst 1, 1) := by decide +kernel
theorem dX11_quarrel_17 : decode cX11_quarrel 17 = .ok (.istore 4, 2) := by decide +kernel
theorem dX11_quarrel_19 : decode cX11_quarrel 19 = .ok (.iload 4, 2) := by decide +kernel
theorem dX11_quarrel_21 : decode cX11_quarrel 21 = .ok (.iload_n 3, 1) := by decide +kernel
theorem dX11_quarrel_22 : decode cX11_quarrel 22 = .ok (.if_icmp .gt 40, 3) := by decide +kernel
theorem dX11_quarrel_25 : decode cX11_quarrel 25 = .ok (.iload 4, 2) := by decide +kernel
theorem dX11_quarrel_27 : decode cX11_quarrel 27 = .ok (.invokestatic 244, 3) := by decide +kernel
theorem dX11_quarrel_30 : decode cX11_quarrel 30 = .ok (.istore 5, 2) := by decide +kernel
theorem dX11_quarrel_32 : decode cX11_quarrel 32 = .ok (.iload 5, 2) := by decide +kernel
theorem dX11_quarrel_34 : decode cX11_quarrel 34 = .ok (.iload_n 2, 1) := by decide +kernel
theorem dX11_quarrel_35 : decode cX11_quarrel 35 = .ok (.if_icmp .ge 21, 3) := by decide +kernel
theorem dX11_quarrel_38 : decode cX11_quarrel 38 = .ok (.aload_n 0, 1) := by decide +kernel
theorem dX11_quarrel_39 : decode cX11_quarrel 39 = .ok (.getfield 54, 3) := by decide +kernel
theorem dX11_quarrel_42 : decode cX11_quarrel 42 = .ok (.iload 4, 2) := by decide +kernel
theorem dX11_quarrel_44 : decode cX11_quarrel 44 = .ok (.invokevirtual 263, 3) := by decide +kernel
theorem dX11_quarrel_47 : decode cX11_quarrel 47 = .ok (.ifCond .ne 9, 3) := by decide +kernel
theorem dX11_quarrel_50 : decode cX11_quarrel 50 = .ok (.iload 5, 2) := by decide +kernel
theorem dX11_quarrel_52 : decode cX11_quarrel 52 = .ok (.istore_n 2, 1) := by decide +kernel
theorem dX11_quarrel_53 : decode cX11_quarrel 53 = .ok (.iload 4, 2) := by decide +kernel
theorem dX11_quarrel_55 : decode cX11_quarrel 55 = .ok (.istore_n 1, 1) := by decide +kernel
theorem dX11_quarrel_56 : decode cX11_quarrel 56 = .ok (.iinc 4 1, 3) := by decide +kernel
theorem dX11_quarrel_59 : decode cX11_quarrel 59 = .ok (.goto (-40), 3) := by decide +kernel
theorem dX11_quarrel_62 : decode cX11_quarrel 62 = .ok (.iload_n 1, 1) := by decide +kernel
theorem dX11_quarrel_63 : decode cX11_quarrel 63 = .ok (.ifCond .ne 6, 3) := by decide +kernel
theorem dX11_quarrel_66 : decode cX11_quarrel 66 = .ok (.bipush (-2), 2) := by decide +kernel
theorem dX11_quarrel_68 : decode cX11_quarrel 68 = .ok (.ireturn, 1) := by decide +kernel
theorem dX11_quarrel_69 : decode cX11_quarrel 69 = .ok (.aload_n 0, 1) := by decide +kernel
theorem dX11_quarrel_70 : decode cX11_quarrel 70 = .ok (.getfield 19, 3) := by decide +kernel
theorem dX11_quarrel_73 : decode cX11_quarrel 73 = .ok (.invokevirtual 236, 3) := by decide +kernel
theorem dX11_quarrel_76 : decode cX11_quarrel 76 = .ok (.aload_n 0, 1) := by decide +kernel
theorem dX11_quarrel_77 : decode cX11_quarrel 77 = .ok (.getfield 19, 3) := by decide +kernel
theorem dX11_quarrel_80 : decode cX11_quarrel 80 = .ok (.iload_n 2, 1) := by decide +kernel
theorem dX11_quarrel_81 : decode cX11_quarrel 81 = .ok (.i2l, 1) := by decide +kernel
theorem dX11_quarrel_82 : decode cX11_quarrel 82 = .ok (.invokevirtual 237, 3) := by decide +kernel
theorem dX11_quarrel_85 : decode cX11_quarrel 85 = .ok (.iload_n 1, 1) := by decide +kernel
theorem dX11_quarrel_86 : decode cX11_quarrel 86 = .ok (.ireturn, 1) := by decide +kernel
def xX11_quarrel_69 (s_X11_placeGuests : zq_Sp) (s_X11_everyone : zq_Sp) (s_J6_bitCount_0f7a4 : zq_Sp) (s_X4_canServe : zq_Sp) (s_X5_clear : zq_Sp) (s_X5_add : zq_Sp) (J19 : zq_P) (Q : zq_Q) (ls : zq_L) (st : List Value) (h : zq_H) : Prop := (zi_aload 0 (zi_getR 0 3 (zi_callV 0 3 s_X5_clear (zi_aload 0 (zi_getR 0 3 (zi_iload 2 (zi_i2l (zi_callV 1 3 s_X5_add (zi_iload 1 (zi_iret Q)))))))))) ls st h
theorem kX11_quarrel_69 {X : zq_X} {d : Nat} (C : zq_C X cX11_quarrel 6 RX11 d) {d_X11_placeGuests : Nat} {s_X11_placeGuests : zq_Sp} (h_X11_placeGuests : zq_M yX11_placeGuests cX11_placeGuests 7 none 0 d_X11_placeGuests s_X11_placeGuests) (g_X11_placeGuests : d_X11_placeGuests + 1 ≤ d) {d_X11_everyone : Nat} {s_X11_everyone : zq_Sp} (h_X11_everyone : zq_M yX11_everyone cX11_everyone 1 (some .int) 1 d_X11_everyone s_X11_everyone) (g_X11_everyone : d_X11_everyone + 1 ≤ d) {d_J6_bitCount_0f7a4 : Nat} {s_J6_bitCount_0f7a4 : zq_Sp} (h_J6_bitCount_0f7a4 : zq_M yJ6_bitCount_0f7a4 cJ6_bitCount_0f7a4 1 (some .int) 1 d_J6_bitCount_0f7a4 s_J6_bitCount_0f7a4) (g_J6_bitCount_0f7a4 : d_J6_bitCount_0f7a4 + 1 ≤ d) {d_X4_canServe : Nat} {s_X4_canServe : zq_Sp} (h_X4_canServe : zq_M yX4_canServe cX4_canServe 2 (some .boolean) 1 d_X4_canServe s_X4_canServe) (g_X4_canServe : d_X4_canServe + 1 ≤ d) {d_X5_clear : Nat} {s_X5_clear : zq_Sp} (h_X5_clear : zq_M yX5_clear cX5_clear 1 none 0 d_X5_clear s_X5_clear) (g_X5_clear : d_X5_clear + 1 ≤ d) {d_X5_add : Nat} {s_X5_add : zq_Sp} (h_X5_add : zq_M yX5_add cX5_add 3 none 0 d_X5_add s_X5_add) (g_X5_add : d_X5_add + 1 ≤ d) {J19 : zq_P} (j19 : zq_ok X 6 19 J19) {Q : zq_Q} (hq : zq_R X (some .int) 1 Q) : zq_ok X 6 69 (xX11_quarrel_69 s_X11_placeGuests s_X11_everyone s_J6_bitCount_0f7a4 s_X4_canServe s_X5_clear s_X5_add J19 Q) := by
  refine zs_aload_n C dX11_quarrel_69 rfl ?_
  refine zs_getR C zp_0 zF11 (j := 1) ⟨by decide, rfl⟩ zw_316 dX11_quarrel_70 ?_
  refine zs_callV C h_X5_clear g_X5_clear zy_X5_clear zp_3 (show vwCl[5]? = some (RX5, TX5, 2) from rfl) zw_650 zw_651 zs9_X5_clear dX11_quarrel_73 ?_
  refine zs_aload_n C dX11_quarrel_76 rfl ?_
  refine zs_getR C zp_0 zF11 (j := 1) ⟨by decide, rfl⟩ zw_316 dX11_quarrel_77 ?_
  refine zs_iload_n C dX11_quarrel_80 rfl ?_
  refine zs_i2l C dX11_quarrel_81 ?_
  refine zs_callV C h_X5_add g_X5_add zy_X5_add zp_3 (show vwCl[5]? = some (RX5, TX5, 2) from rfl) zw_654 zw_655 zs9_X5_add dX11_quarrel_82 ?_
  refine zs_iload_n C dX11_quarrel_85 rfl ?_
  exact zs_iret C hq dX11_quarrel_86
def xX11_quarrel_66 (s_X11_placeGuests : zq_Sp) (s_X11_everyone : zq_Sp) (s_J6_bitCount_0f7a4 : zq_Sp) (s_X4_canServe : zq_Sp) (s_X5_clear : zq_Sp) (s_X5_add : zq_Sp) (J19 : zq_P) (Q : zq_Q) (ls : zq_L) (st : List Value) (h : zq_H) : Prop := (zi_push (.int (-2)) (zi_iret Q)) ls st h
theorem kX11_quarrel_66 {X : zq_X} {d : Nat} (C : zq_C X cX11_quarrel 6 RX11 d) {d_X11_placeGuests : Nat} {s_X11_placeGuests : zq_Sp} (h_X11_placeGuests : zq_M yX11_placeGuests cX11_placeGuests 7 none 0 d_X11_placeGuests s_X11_placeGuests) (g_X11_placeGuests : d_X11_placeGuests + 1 ≤ d) {d_X11_everyone : Nat} {s_X11_everyone : zq_Sp} (h_X11_everyone : zq_M yX11_everyone cX11_everyone 1 (some .int) 1 d_X11_everyone s_X11_everyone) (g_X11_everyone : d_X11_everyone + 1 ≤ d) {d_J6_bitCount_0f7a4 : Nat} {s_J6_bitCount_0f7a4 : zq_Sp} (h_J6_bitCount_0f7a4 : zq_M yJ6_bitCount_0f7a4 cJ6_bitCount_0f7a4 1 (some .int) 1 d_J6_bitCount_0f7a4 s_J6_bitCount_0f7a4) (g_J6_bitCount_0f7a4 : d_J6_bitCount_0f7a4 + 1 ≤ d) {d_X4_canServe : Nat} {s_X4_canServe : zq_Sp} (h_X4_canServe : zq_M yX4_canServe cX4_canServe 2 (some .boolean) 1 d_X4_canServe s_X4_canServe) (g_X4_canServe : d_X4_canServe + 1 ≤ d) {d_X5_clear : Nat} {s_X5_clear : zq_Sp} (h_X5_clear : zq_M yX5_clear cX5_clear 1 none 0 d_X5_clear s_X5_clear) (g_X5_clear : d_X5_clear + 1 ≤ d) {d_X5_add : Nat} {s_X5_add : zq_Sp} (h_X5_add : zq_M yX5_add cX5_add 3 none 0 d_X5_add s_X5_add) (g_X5_add : d_X5_add + 1 ≤ d) {J19 : zq_P} (j19 : zq_ok X 6 19 J19) {Q : zq_Q} (hq : zq_R X (some .int) 1 Q) : zq_ok X 6 66 (xX11_quarrel_66 s_X11_placeGuests s_X11_everyone s_J6_bitCount_0f7a4 s_X4_canServe s_X5_clear s_X5_add J19 Q) := by
  refine zs_bipush C dX11_quarrel_66 (by decide) ?_
  exact zs_iret C hq dX11_quarrel_68
def xX11_quarrel_62 (s_X11_placeGuests : zq_Sp) (s_X11_everyone : zq_Sp) (s_J6_bitCount_0f7a4 : zq_Sp) (s_X4_canServe : zq_Sp) (s_X5_clear : zq_Sp) (s_X5_add : zq_Sp) (J19 : zq_P) (Q : zq_Q) (ls : zq_L) (st : List Value) (h : zq_H) : Prop := (zi_iload 1 (zi_if1 (fun x => x = 0) (xX11_quarrel_66 s_X11_placeGuests s_X11_everyone s_J6_bitCount_0f7a4 s_X4_canServe s_X5_clear s_X5_add J19 Q) (xX11_quarrel_69 s_X11_placeGuests s_X11_everyone s_J6_bitCount_0f7a4 s_X4_canServe s_X5_clear s_X5_add J19 Q))) ls st h
theorem kX11_quarrel_62 {X : zq_X} {d : Nat} (C : zq_C X cX11_quarrel 6 RX11 d) {d_X11_placeGuests : Nat} {s_X11_placeGuests : zq_Sp} (h_X11_placeGuests : zq_M yX11_placeGuests cX11_placeGuests 7 none 0 d_X11_placeGuests s_X11_placeGuests) (g_X11_placeGuests : d_X11_placeGuests + 1 ≤ d) {d_X11_everyone : Nat} {s_X11_everyone : zq_Sp} (h_X11_everyone : zq_M yX11_everyone cX11_everyone 1 (some .int) 1 d_X11_everyone s_X11_everyone) (g_X11_everyone : d_X11_everyone + 1 ≤ d) {d_J6_bitCount_0f7a4 : Nat} {s_J6_bitCount_0f7a4 : zq_Sp} (h_J6_bitCount_0f7a4 : zq_M yJ6_bitCount_0f7a4 cJ6_bitCount_0f7a4 1 (some .int) 1 d_J6_bitCount_0f7a4 s_J6_bitCount_0f7a4) (g_J6_bitCount_0f7a4 : d_J6_bitCount_0f7a4 + 1 ≤ d) {d_X4_canServe : Nat} {s_X4_canServe : zq_Sp} (h_X4_canServe : zq_M yX4_canServe cX4_canServe 2 (some .boolean) 1 d_X4_canServe s_X4_canServe) (g_X4_canServe : d_X4_canServe + 1 ≤ d) {d_X5_clear : Nat} {s_X5_clear : zq_Sp} (h_X5_clear : zq_M yX5_clear cX5_clear 1 none 0 d_X5_clear s_X5_clear) (g_X5_clear : d_X5_clear + 1 ≤ d) {d_X5_add : Nat} {s_X5_add : zq_Sp} (h_X5_add : zq_M yX5_add cX5_add 3 none 0 d_X5_add s_X5_add) (g_X5_add : d_X5_add + 1 ≤ d) {J19 : zq_P} (j19 : zq_ok X 6 19 J19) {Q : zq_Q} (hq : zq_R X (some .int) 1 Q) : zq_ok X 6 62 (xX11_quarrel_62 s_X11_placeGuests s_X11_everyone s_J6_bitCount_0f7a4 s_X4_canServe s_X5_clear s_X5_add J19 Q) := by
  refine zs_iload_n C dX11_quarrel_62 rfl ?_
  exact zs_if_ne C dX11_quarrel_63 (by decide) (kX11_quarrel_69 C h_X11_placeGuests g_X11_placeGuests h_X11_everyone g_X11_everyone h_J6_bitCount_0f7a4 g_J6_bitCount_0f7a4 h_X4_canServe g_X4_canServe h_X5_clear g_X5_clear h_X5_add g_X5_add j19 hq) (kX11_quarrel_66 C h_X11_placeGuests g_X11_placeGuests h_X11_everyone g_X11_everyone h_J6_bitCount_0f7a4 g_J6_bitCount_0f7a4 h_X4_canServe g_X4_canServe h_X5_clear g_X5_clear h_X5_add g_X5_add j19 hq)
def xX11_quarrel_56 (s_X11_placeGuests : zq_Sp) (s_X11_everyone : zq_Sp) (s_J6_bitCount_0f7a4 : zq_Sp) (s_X4_canServe : zq_Sp) (s_X5_clear : zq_Sp) (s_X5_add : zq_Sp) (J19 : zq_P) (Q : zq_Q) (ls : zq_L) (st : List Value) (h : zq_H) : Prop := (zi_iinc 4 1 (J19)) ls st h
theorem kX11_quarrel_56 {X : zq_X} {d : Nat} (C : zq_C X cX11_quarrel 6 RX11 d) {d_X11_placeGuests : Nat} {s_X11_placeGuests : zq_Sp} (h_X11_placeGuests : zq_M yX11_placeGuests cX11_placeGuests 7 none 0 d_X11_placeGuests s_X11_placeGuests) (g_X11_placeGuests : d_X11_placeGuests + 1 ≤ d) {d_X11_everyone : Nat} {s_X11_everyone : zq_Sp} (h_X11_everyone : zq_M yX11_everyone cX11_everyone 1 (some .int) 1 d_X11_everyone s_X11_everyone) (g_X11_everyone : d_X11_everyone + 1 ≤ d) {d_J6_bitCount_0f7a4 : Nat} {s_J6_bitCount_0f7a4 : zq_Sp} (h_J6_bitCount_0f7a4 : zq_M yJ6_bitCount_0f7a4 cJ6_bitCount_0f7a4 1 (some .int) 1 d_J6_bitCount_0f7a4 s_J6_bitCount_0f7a4) (g_J6_bitCount_0f7a4 : d_J6_bitCount_0f7a4 + 1 ≤ d) {d_X4_canServe : Nat} {s_X4_canServe : zq_Sp} (h_X4_canServe : zq_M yX4_canServe cX4_canServe 2 (some .boolean) 1 d_X4_canServe s_X4_canServe) (g_X4_canServe : d_X4_canServe + 1 ≤ d) {d_X5_clear : Nat} {s_X5_clear : zq_Sp} (h_X5_clear : zq_M yX5_clear cX5_clear 1 none 0 d_X5_clear s_X5_clear) (g_X5_clear : d_X5_clear + 1 ≤ d) {d_X5_add : Nat} {s_X5_add : zq_Sp} (h_X5_add : zq_M yX5_add cX5_add 3 none 0 d_X5_add s_X5_add) (g_X5_add : d_X5_add + 1 ≤ d) {J19 : zq_P} (j19 : zq_ok X 6 19 J19) {Q : zq_Q} (hq : zq_R X (some .int) 1 Q) : zq_ok X 6 56 (xX11_quarrel_56 s_X11_placeGuests s_X11_everyone s_J6_bitCount_0f7a4 s_X4_canServe s_X5_clear s_X5_add J19 Q) := by
  refine zs_iinc C dX11_quarrel_56 (by decide) (by decide) ?_
  exact zs_goto C dX11_quarrel_59 (by decide) (j19)
def xX11_quarrel_50 (s_X11_placeGuests : zq_Sp) (s_X11_everyone : zq_Sp) (s_J6_bitCount_0f7a4 : zq_Sp) (s_X4_canServe : zq_Sp) (s_X5_clear : zq_Sp) (s_X5_add : zq_Sp) (J19 : zq_P) (Q : zq_Q) (ls : zq_L) (st : List Value) (h : zq_H) : Prop := (zi_iload 5 (zi_istore 2 (zi_iload 4 (zi_istore 1 ((xX11_quarrel_56 s_X11_placeGuests s_X11_everyone s_J6_bitCount_0f7a4 s_X4_canServe s_X5_clear s_X5_add J19 Q)))))) ls st h
theorem kX11_quarrel_50 {X : zq_X} {d : Nat} (C : zq_C X cX11_quarrel 6 RX11 d) {d_X11_placeGuests : Nat} {s_X11_placeGuests : zq_Sp} (h_X11_placeGuests : zq_M yX11_placeGuests cX11_placeGuests 7 none 0 d_X11_placeGuests s_X11_placeGuests) (g_X11_placeGuests : d_X11_placeGuests + 1 ≤ d) {d_X11_everyone : Nat} {s_X11_everyone : zq_Sp} (h_X11_everyone : zq_M yX11_everyone cX11_everyone 1 (some .int) 1 d_X11_everyone s_X11_everyone) (g_X11_everyone : d_X11_everyone + 1 ≤ d) {d_J6_bitCount_0f7a4 : Nat} {s_J6_bitCount_0f7a4 : zq_Sp} (h_J6_bitCount_0f7a4 : zq_M yJ6_bitCount_0f7a4 cJ6_bitCount_0f7a4 1 (some .int) 1 d_J6_bitCount_0f7a4 s_J6_bitCount_0f7a4) (g_J6_bitCount_0f7a4 : d_J6_bitCount_0f7a4 + 1 ≤ d) {d_X4_canServe : Nat} {s_X4_canServe : zq_Sp} (h_X4_canServe : zq_M yX4_canServe cX4_canServe 2 (some .boolean) 1 d_X4_canServe s_X4_canServe) (g_X4_canServe : d_X4_canServe + 1 ≤ d) {d_X5_clear : Nat} {s_X5_clear : zq_Sp} (h_X5_clear : zq_M yX5_clear cX5_clear 1 none 0 d_X5_clear s_X5_clear) (g_X5_clear : d_X5_clear + 1 ≤ d) {d_X5_add : Nat} {s_X5_add : zq_Sp} (h_X5_add : zq_M yX5_add cX5_add 3 none 0 d_X5_add s_X5_add) (g_X5_add : d_X5_add + 1 ≤ d) {J19 : zq_P} (j19 : zq_ok X 6 19 J19) {Q : zq_Q} (hq : zq_R X (some .int) 1 Q) : zq_ok X 6 50 (xX11_quarrel_50 s_X11_placeGuests s_X11_everyone s_J6_bitCount_0f7a4 s_X4_canServe s_X5_clear s_X5_add J19 Q) := by
  refine zs_iload C dX11_quarrel_50 ?_
  refine zs_istore_n C dX11_quarrel_52 rfl (by decide) ?_
  refine zs_iload C dX11_quarrel_53 ?_
  refine zs_istore_n C dX11_quarrel_55 rfl (by decide) ?_
  exact kX11_quarrel_56 C h_X11_placeGuests g_X11_placeGuests h_X11_everyone g_X11_everyone h_J6_bitCount_0f7a4 g_J6_bitCount_0f7a4 h_X4_canServe g_X4_canServe h_X5_clear g_X5_clear h_X5_add g_X5_add j19 hq
def xX11_quarrel_38 (s_X11_placeGuests : zq_Sp) (s_X11_everyone : zq_Sp) (s_J6_bitCount_0f7a4 : zq_Sp) (s_X4_canServe : zq_Sp) (s_X5_clear : zq_Sp) (s_X5_add : zq_Sp) (J19 : zq_P) (Q : zq_Q) (ls : zq_L) (st : List Value) (h : zq_H) : Prop := (zi_aload 0 (zi_getR 0 22 (zi_iload 4 (zi_callV 1 22 s_X4_canServe (zi_if1 (fun x => x = 0) (xX11_quarrel_50 s_X11_placeGuests s_X11_everyone s_J6_bitCount_0f7a4 s_X4_canServe s_X5_clear s_X5_add J19 Q) (xX11_quarrel_56 s_X11_placeGuests s_X11_everyone s_J6_bitCount_0f7a4 s_X4_canServe s_X5_clear s_X5_add J19 Q)))))) ls st h
theorem kX11_quarrel_38 {X : zq_X} {d : Nat} (C : zq_C X cX11_quarrel 6 RX11 d) {d_X11_placeGuests : Nat} {s_X11_placeGuests : zq_Sp} (h_X11_placeGuests : zq_M yX11_placeGuests cX11_placeGuests 7 none 0 d_X11_placeGuests s_X11_placeGuests) (g_X11_placeGuests : d_X11_placeGuests + 1 ≤ d) {d_X11_everyone : Nat} {s_X11_everyone : zq_Sp} (h_X11_everyone : zq_M yX11_everyone cX11_everyone 1 (some .int) 1 d_X11_everyone s_X11_everyone) (g_X11_everyone : d_X11_everyone + 1 ≤ d) {d_J6_bitCount_0f7a4 : Nat} {s_J6_bitCount_0f7a4 : zq_Sp} (h_J6_bitCount_0f7a4 : zq_M yJ6_bitCount_0f7a4 cJ6_bitCount_0f7a4 1 (some .int) 1 d_J6_bitCount_0f7a4 s_J6_bitCount_0f7a4) (g_J6_bitCount_0f7a4 : d_J6_bitCount_0f7a4 + 1 ≤ d) {d_X4_canServe : Nat} {s_X4_canServe : zq_Sp} (h_X4_canServe : zq_M yX4_canServe cX4_canServe 2 (some .boolean) 1 d_X4_canServe s_X4_canServe) (g_X4_canServe : d_X4_canServe + 1 ≤ d) {d_X5_clear : Nat} {s_X5_clear : zq_Sp} (h_X5_clear : zq_M yX5_clear cX5_clear 1 none 0 d_X5_clear s_X5_clear) (g_X5_clear : d_X5_clear + 1 ≤ d) {d_X5_add : Nat} {s_X5_add : zq_Sp} (h_X5_add : zq_M yX5_add cX5_add 3 none 0 d_X5_add s_X5_add) (g_X5_add : d_X5_add + 1 ≤ d) {J19 : zq_P} (j19 : zq_ok X 6 19 J19) {Q : zq_Q} (hq : zq_R X (some .int) 1 Q) : zq_ok X 6 38 (xX11_quarrel_38 s_X11_placeGuests s_X11_everyone s_J6_bitCount_0f7a4 s_X4_canServe s_X5_clear s_X5_add J19 Q) := by
  refine zs_aload_n C dX11_quarrel_38 rfl ?_
  refine zs_getR C zp_0 zF11 (j := 6) ⟨by decide, rfl⟩ zw_321 dX11_quarrel_39 ?_
  refine zs_iload C dX11_quarrel_42 ?_
  refine zs_callV C h_X4_canServe g_X4_canServe zy_X4_canServe zp_22 (show vwCl[4]? = some (RX4, TX4, 8) from rfl) zw_761 zw_762 zs9_X4_canServe dX11_quarrel_44 ?_
  exact zs_if_ne C dX11_quarrel_47 (by decide) (kX11_quarrel_56 C h_X11_placeGuests g_X11_placeGuests h_X11_everyone g_X11_everyone h_J6_bitCount_0f7a4 g_J6_bitCount_0f7a4 h_X4_canServe g_X4_canServe h_X5_clear g_X5_clear h_X5_add g_X5_add j19 hq) (kX11_quarrel_50 C h_X11_placeGuests g_X11_placeGuests h_X11_everyone g_X11_everyone h_J6_bitCount_0f7a4 g_J6_bitCount_0f7a4 h_X4_canServe g_X4_canServe h_X5_clear g_X5_clear h_X5_add g_X5_add j19 hq)
def xX11_quarrel_25 (s_X11_placeGuests : zq_Sp) (s_X11_everyone : zq_Sp) (s_J6_bitCount_0f7a4 : zq_Sp) (s_X4_canServe : zq_Sp) (s_X5_clear : zq_Sp) (s_X5_add : zq_Sp) (J19 : zq_P) (Q : zq_Q) (ls : zq_L) (st : List Value) (h : zq_H) : Prop := (zi_iload 4 (zi_callS 1 s_J6_bitCount_0f7a4 (zi_istore 5 (zi_iload 5 (zi_iload 2 (zi_if2 (fun x y => y ≤ x) (xX11_quarrel_56 s_X11_placeGuests s_X11_everyone s_J6_bitCount_0f7a4 s_X4_canServe s_X5_clear s_X5_add J19 Q) (xX11_quarrel_38 s_X11_placeGuests s_X11_everyone s_J6_bitCount_0f7a4 s_X4_canServe s_X5_clear s_X5_add J19 Q))))))) ls st h
theorem kX11_quarrel_25 {X : zq_X} {d : Nat} (C : zq_C X cX11_quarrel 6 RX11 d) {d_X11_placeGuests : Nat} {s_X11_placeGuests : zq_Sp} (h_X11_placeGuests : zq_M yX11_placeGuests cX11_placeGuests 7 none 0 d_X11_placeGuests s_X11_placeGuests) (g_X11_placeGuests : d_X11_placeGuests + 1 ≤ d) {d_X11_everyone : Nat} {s_X11_everyone : zq_Sp} (h_X11_everyone : zq_M yX11_everyone cX11_everyone 1 (some .int) 1 d_X11_everyone s_X11_everyone) (g_X11_everyone : d_X11_everyone + 1 ≤ d) {d_J6_bitCount_0f7a4 : Nat} {s_J6_bitCount_0f7a4 : zq_Sp} (h_J6_bitCount_0f7a4 : zq_M yJ6_bitCount_0f7a4 cJ6_bitCount_0f7a4 1 (some .int) 1 d_J6_bitCount_0f7a4 s_J6_bitCount_0f7a4) (g_J6_bitCount_0f7a4 : d_J6_bitCount_0f7a4 + 1 ≤ d) {d_X4_canServe : Nat} {s_X4_canServe : zq_Sp} (h_X4_canServe : zq_M yX4_canServe cX4_canServe 2 (some .boolean) 1 d_X4_canServe s_X4_canServe) (g_X4_canServe : d_X4_canServe + 1 ≤ d) {d_X5_clear : Nat} {s_X5_clear : zq_Sp} (h_X5_clear : zq_M yX5_clear cX5_clear 1 none 0 d_X5_clear s_X5_clear) (g_X5_clear : d_X5_clear + 1 ≤ d) {d_X5_add : Nat} {s_X5_add : zq_Sp} (h_X5_add : zq_M yX5_add cX5_add 3 none 0 d_X5_add s_X5_add) (g_X5_add : d_X5_add + 1 ≤ d) {J19 : zq_P} (j19 : zq_ok X 6 19 J19) {Q : zq_Q} (hq : zq_R X (some .int) 1 Q) : zq_ok X 6 25 (xX11_quarrel_25 s_X11_placeGuests s_X11_everyone s_J6_bitCount_0f7a4 s_X4_canServe s_X5_clear s_X5_add J19 Q) := by
  refine zs_iload C dX11_quarrel_25 ?_
  refine zs_callS C h_J6_bitCount_0f7a4 g_J6_bitCount_0f7a4 zy_J6_bitCount_0f7a4 zw_695 zw_696 dX11_quarrel_27 ?_
  refine zs_istore C dX11_quarrel_30 (by decide) ?_
  refine zs_iload C dX11_quarrel_32 ?_
  refine zs_iload_n C dX11_quarrel_34 rfl ?_
  exact zs_icmp_ge C dX11_quarrel_35 (by decide) (kX11_quarrel_56 C h_X11_placeGuests g_X11_placeGuests h_X11_everyone g_X11_everyone h_J6_bitCount_0f7a4 g_J6_bitCount_0f7a4 h_X4_canServe g_X4_canServe h_X5_clear g_X5_clear h_X5_add g_X5_add j19 hq) (kX11_quarrel_38 C h_X11_placeGuests g_X11_placeGuests h_X11_everyone g_X11_everyone h_J6_bitCount_0f7a4 g_J6_bitCount_0f7a4 h_X4_canServe g_X4_canServe h_X5_clear g_X5_clear h_X5_add g_X5_add j19 hq)
def xX11_quarrel_19 (s_X11_placeGuests : zq_Sp) (s_X11_everyone : zq_Sp) (s_J6_bitCount_0f7a4 : zq_Sp) (s_X4_canServe : zq_Sp) (s_X5_clear : zq_Sp) (s_X5_add : zq_Sp) (J19 : zq_P) (Q : zq_Q) (ls : zq_L) (st : List Value) (h : zq_H) : Prop := (zi_iload 4 (zi_iload 3 (zi_if2 (fun x y => y < x) (xX11_quarrel_62 s_X11_placeGuests s_X11_everyone s_J6_bitCount_0f7a4 s_X4_canServe s_X5_clear s_X5_add J19 Q) (xX11_quarrel_25 s_X11_placeGuests s_X11_everyone s_J6_bitCount_0f7a4 s_X4_canServe s_X5_clear s_X5_add J19 Q)))) ls st h
theorem kX11_quarrel_19 {X : zq_X} {d : Nat} (C : zq_C X cX11_quarrel 6 RX11 d) {d_X11_placeGuests : Nat} {s_X11_placeGuests : zq_Sp} (h_X11_placeGuests : zq_M yX11_placeGuests cX11_placeGuests 7 none 0 d_X11_placeGuests s_X11_placeGuests) (g_X11_placeGuests : d_X11_placeGuests + 1 ≤ d) {d_X11_everyone : Nat} {s_X11_everyone : zq_Sp} (h_X11_everyone : zq_M yX11_everyone cX11_everyone 1 (some .int) 1 d_X11_everyone s_X11_everyone) (g_X11_everyone : d_X11_everyone + 1 ≤ d) {d_J6_bitCount_0f7a4 : Nat} {s_J6_bitCount_0f7a4 : zq_Sp} (h_J6_bitCount_0f7a4 : zq_M yJ6_bitCount_0f7a4 cJ6_bitCount_0f7a4 1 (some .int) 1 d_J6_bitCount_0f7a4 s_J6_bitCount_0f7a4) (g_J6_bitCount_0f7a4 : d_J6_bitCount_0f7a4 + 1 ≤ d) {d_X4_canServe : Nat} {s_X4_canServe : zq_Sp} (h_X4_canServe : zq_M yX4_canServe cX4_canServe 2 (some .boolean) 1 d_X4_canServe s_X4_canServe) (g_X4_canServe : d_X4_canServe + 1 ≤ d) {d_X5_clear : Nat} {s_X5_clear : zq_Sp} (h_X5_clear : zq_M yX5_clear cX5_clear 1 none 0 d_X5_clear s_X5_clear) (g_X5_clear : d_X5_clear + 1 ≤ d) {d_X5_add : Nat} {s_X5_add : zq_Sp} (h_X5_add : zq_M yX5_add cX5_add 3 none 0 d_X5_add s_X5_add) (g_X5_add : d_X5_add + 1 ≤ d) {J19 : zq_P} (j19 : zq_ok X 6 19 J19) {Q : zq_Q} (hq : zq_R X (some .int) 1 Q) : zq_ok X 6 19 (xX11_quarrel_19 s_X11_placeGuests s_X11_everyone s_J6_bitCount_0f7a4 s_X4_canServe s_X5_clear s_X5_add J19 Q) := by
  refine zs_iload C dX11_quarrel_19 ?_
  refine zs_iload_n C dX11_quarrel_21 rfl ?_
  exact zs_icmp_gt C dX11_quarrel_22 (by decide) (kX11_quarrel_62 C h_X11_placeGuests g_X11_placeGuests h_X11_everyone g_X11_everyone h_J6_bitCount_0f7a4 g_J6_bitCount_0f7a4 h_X4_canServe g_X4_canServe h_X5_clear g_X5_clear h_X5_add g_X5_add j19 hq) (kX11_quarrel_25 C h_X11_placeGuests g_X11_placeGuests h_X11_everyone g_X11_everyone h_J6_bitCount_0f7a4 g_J6_bitCount_0f7a4 h_X4_canServe g_X4_canServe h_X5_clear g_X5_clear h_X5_add g_X5_add j19 hq)
def xX11_quarrel_0 (s_X11_placeGuests : zq_Sp) (s_X11_everyone : zq_Sp) (s_J6_bitCount_0f7a4 : zq_Sp) (s_X4_canServe : zq_Sp) (s_X5_clear : zq_Sp) (s_X5_add : zq_Sp) (J19 : zq_P) (Q : zq_Q) (ls : zq_L) (st : List Value) (h : zq_H) : Prop := (zi_aload 0 (zi_push (.int 100) (zi_callV 1 0 s_X11_placeGuests (zi_push (.int 0) (zi_istore 1 (zi_push (.int 7) (zi_istore 2 (zi_aload 0 (zi_callV 0 0 s_X11_everyone (zi_istore 3 (zi_push (.int 1) (zi_istore 4 (J19))))))))))))) ls st h
theorem kX11_quarrel_0 {X : zq_X} {d : Nat} (C : zq_C X cX11_quarrel 6 RX11 d) {d_X11_placeGuests : Nat} {s_X11_placeGuests : zq_Sp} (h_X11_placeGuests : zq_M yX11_placeGuests cX11_placeGuests 7 none 0 d_X11_placeGuests s_X11_placeGuests) (g_X11_placeGuests : d_X11_placeGuests + 1 ≤ d) {d_X11_everyone : Nat} {s_X11_everyone : zq_Sp} (h_X11_everyone : zq_M yX11_everyone cX11_everyone 1 (some .int) 1 d_X11_everyone s_X11_everyone) (g_X11_everyone : d_X11_everyone + 1 ≤ d) {d_J6_bitCount_0f7a4 : Nat} {s_J6_bitCount_0f7a4 : zq_Sp} (h_J6_bitCount_0f7a4 : zq_M yJ6_bitCount_0f7a4 cJ6_bitCount_0f7a4 1 (some .int) 1 d_J6_bitCount_0f7a4 s_J6_bitCount_0f7a4) (g_J6_bitCount_0f7a4 : d_J6_bitCount_0f7a4 + 1 ≤ d) {d_X4_canServe : Nat} {s_X4_canServe : zq_Sp} (h_X4_canServe : zq_M yX4_canServe cX4_canServe 2 (some .boolean) 1 d_X4_canServe s_X4_canServe) (g_X4_canServe : d_X4_canServe + 1 ≤ d) {d_X5_clear : Nat} {s_X5_clear : zq_Sp} (h_X5_clear : zq_M yX5_clear cX5_clear 1 none 0 d_X5_clear s_X5_clear) (g_X5_clear : d_X5_clear + 1 ≤ d) {d_X5_add : Nat} {s_X5_add : zq_Sp} (h_X5_add : zq_M yX5_add cX5_add 3 none 0 d_X5_add s_X5_add) (g_X5_add : d_X5_add + 1 ≤ d) {J19 : zq_P} (j19 : zq_ok X 6 19 J19) {Q : zq_Q} (hq : zq_R X (some .int) 1 Q) : zq_ok X 6 0 (xX11_quarrel_0 s_X11_placeGuests s_X11_everyone s_J6_bitCount_0f7a4 s_X4_canServe s_X5_clear s_X5_add J19 Q) := by
  refine zs_aload_n C dX11_quarrel_0 rfl ?_
  refine zs_bipush C dX11_quarrel_1 (by decide) ?_
  refine zs_callV C h_X11_placeGuests g_X11_placeGuests zy_X11_placeGuests zp_0 (show vwCl[11]? = some (RX11, TX11, 16) from rfl) zw_734 zw_736 zs9_X11_placeGuests dX11_quarrel_3 ?_
  refine zs_iconst C dX11_quarrel_6 (by decide) ?_
  refine zs_istore_n C dX11_quarrel_7 rfl (by decide) ?_
  refine zs_bipush C dX11_quarrel_8 (by decide) ?_
  refine zs_istore_n C dX11_quarrel_10 rfl (by decide) ?_
  refine zs_aload_n C dX11_quarrel_11 rfl ?_
  refine zs_callV C h_X11_everyone g_X11_everyone zy_X11_everyone zp_0 (show vwCl[11]? = some (RX11, TX11, 16) from rfl) zw_730 zw_732 zs9_X11_everyone dX11_quarrel_12 ?_
  refine zs_istore_n C dX11_quarrel_15 rfl (by decide) ?_
  refine zs_iconst C dX11_quarrel_16 (by decide) ?_
  refine zs_istore C dX11_quarrel_17 (by decide) ?_
  exact j19
theorem mX11_quarrel {d : Nat} {spec : zq_Sp} {σ19 : Type} {d_X11_placeGuests : Nat} {s_X11_placeGuests : zq_Sp} (h_X11_placeGuests : zq_M yX11_placeGuests cX11_placeGuests 7 none 0 d_X11_placeGuests s_X11_placeGuests) (g_X11_placeGuests : d_X11_placeGuests + 1 ≤ d) {d_X11_everyone : Nat} {s_X11_everyone : zq_Sp} (h_X11_everyone : zq_M yX11_everyone cX11_everyone 1 (some .int) 1 d_X11_everyone s_X11_everyone) (g_X11_everyone : d_X11_everyone + 1 ≤ d) {d_J6_bitCount_0f7a4 : Nat} {s_J6_bitCount_0f7a4 : zq_Sp} (h_J6_bitCount_0f7a4 : zq_M yJ6_bitCount_0f7a4 cJ6_bitCount_0f7a4 1 (some .int) 1 d_J6_bitCount_0f7a4 s_J6_bitCount_0f7a4) (g_J6_bitCount_0f7a4 : d_J6_bitCount_0f7a4 + 1 ≤ d) {d_X4_canServe : Nat} {s_X4_canServe : zq_Sp} (h_X4_canServe : zq_M yX4_canServe cX4_canServe 2 (some .boolean) 1 d_X4_canServe s_X4_canServe) (g_X4_canServe : d_X4_canServe + 1 ≤ d) {d_X5_clear : Nat} {s_X5_clear : zq_Sp} (h_X5_clear : zq_M yX5_clear cX5_clear 1 none 0 d_X5_clear s_X5_clear) (g_X5_clear : d_X5_clear + 1 ≤ d) {d_X5_add : Nat} {s_X5_add : zq_Sp} (h_X5_add : zq_M yX5_add cX5_add 3 none 0 d_X5_add s_X5_add) (g_X5_add : d_X5_add + 1 ≤ d) (μ19 : σ19 → Nat) (I19 : zq_Q → σ19 → zq_P) (v : ∀ args h Q, spec args h Q → (zq_a args).length ≤ 6 ∧ xX11_quarrel_0 s_X11_placeGuests s_X11_everyone s_J6_bitCount_0f7a4 s_X4_canServe s_X5_clear s_X5_add (fun ls st h => ∃ b, I19 Q b ls st h) Q (zq_l0 6 args) [] h) (v19 : ∀ Q a ls st h, I19 Q a ls st h → xX11_quarrel_19 s_X11_placeGuests s_X11_everyone s_J6_bitCount_0f7a4 s_X4_canServe s_X5_clear s_X5_add (fun ls st h => ∃ b, μ19 b < μ19 a ∧ I19 Q b ls st h) Q ls st h) : zq_M yX11_quarrel cX11_quarrel 6 (some .int) 1 d spec := by
  refine zq_met (by decide +kernel) (by decide) (fun X Q args h C hq hs => ⟨(v args h Q hs).1, _, ?_, (v args h Q hs).2⟩)
  have hl := zq_loop1 (X := X) (nL := 6) (pc1 := 19) μ19 (I19 Q) (fun J19 => xX11_quarrel_19 s_X11_placeGuests s_X11_everyone s_J6_bitCount_0f7a4 s_X4_canServe s_X5_clear s_X5_add J19 Q) (fun j19 => kX11_quarrel_19 C h_X11_placeGuests g_X11_placeGuests h_X11_everyone g_X11_everyone h_J6_bitCount_0f7a4 g_J6_bitCount_0f7a4 h_X4_canServe g_X4_canServe h_X5_clear g_X5_clear h_X5_add g_X5_add j19 hq) (v19 Q)
  exact kX11_quarrel_0 C h_X11_placeGuests g_X11_placeGuests h_X11_everyone g_X11_everyone h_J6_bitCount_0f7a4 g_J6_bitCount_0f7a4 h_X4_canServe g_X4_canServe h_X5_clear g_X5_clear h_X5_add g_X5_add hl hq
/-! ToOneCrumb.stretch()I -/
theorem dX11_stretch_0 : decode cX11_stretch 0 = .ok (.aload_n 0, 1) := by decide +kernel
theorem dX11_stretch_1 : decode cX11_stretch 1 = .ok (.getfield 26, 3) := by decide +kernel
theorem dX11_stretch_4 : decode cX11_stretch 4 = .ok (.getfield 243, 3) := by decide +kernel
theorem dX11_stretch_7 : decode cX11_stretch 7 = .ok (.ifCond .ne 6, 3) := by decide +kernel
theorem dX11_stretch_10 : decode cX11_stretch 10 = .ok (.bipush (-2), 2) := by decide +kernel
theorem dX11_stretch_12 : decode cX11_stretch 12 = .ok (.ireturn, 1) := by decide +kernel
theorem dX11_stretch_13 : decode cX11_stretch 13 = .ok (.iconst 0, 1) := by decide +kernel
theorem dX11_stretch_14 : decode cX11_stretch 14 = .ok (.istore_n 1, 1) := by decide +kernel
theorem dX11_stretch_15 : decode cX11_stretch 15 = .ok (.sipush 200, 3) := by decide +kernel
theorem dX11_stretch_18 : decode cX11_stretch 18 = .ok (.istore_n 2, 1) := by decide +kernel
theorem dX11_stretch_19 : decode cX11_stretch 19 = .ok (.iconst 0, 1) := by decide +kernel
theorem dX11_stretch_20 : decode cX11_stretch 20 = .ok (.istore_n 3, 1) := by decide +kernel
theorem dX11_stretch_21 : decode cX11_stretch 21 = .ok (.iload_n 3, 1) := by decide +kernel
theorem dX11_stretch_22 : decode cX11_stretch 22 = .ok (.sipush 200, 3) := by decide +kernel
theorem dX11_stretch_25 : decode cX11_stretch 25 = .ok (.if_icmp .ge 54, 3) := by decide +kernel
theorem dX11_stretch_28 : decode cX11_stretch 28 = .ok (.iload_n 1, 1) := by decide +kernel
theorem dX11_stretch_29 : decode cX11_stretch 29 = .ok (.iload_n 2, 1) := by decide +kernel
theorem dX11_stretch_30 : decode cX11_stretch 30 = .ok (.if_icmp .ge 49, 3) := by decide +kernel
theorem dX11_stretch_33 : decode cX11_stretch 33 = .ok (.iload_n 1, 1) := by decide +kernel
theorem dX11_stretch_34 : decode cX11_stretch 34 = .ok (.iload_n 2, 1) := by decide +kernel
theorem dX11_stretch_35 : decode cX11_stretch 35 = .ok (.iadd, 1) := by decide +kernel
theorem dX11_stretch_36 : decode cX11_stretch 36 = .ok (.iconst 1, 1) := by decide +kernel
theorem dX11_stretch_37 : decode cX11_stretch 37 = .ok (.iadd, 1) := by decide +kernel
theorem dX11_stretch_38 : decode cX11_stretch 38 = .ok (.iconst 2, 1) := by decide +kernel
theorem dX11_stretch_39 : decode cX11_stretch 39 = .ok (.idiv, 1) := by decide +kernel
theorem dX11_stretch_40 : decode cX11_stretch 40 = .ok (.istore 4, 2) := by decide +kernel
theorem dX11_stretch_42 : decode cX11_stretch 42 = .ok (.aload_n 0, 1) := by decide +kernel
theorem dX11_stretch_43 : decode cX11_stretch 43 = .ok (.iload 4, 2) := by decide +kernel
theorem dX11_stretch_45 : decode cX11_stretch 45 = .ok (.invokevirtual 260, 3) := by decide +kernel
theorem dX11_stretch_48 : decode cX11_stretch 48 = .ok (.aload_n 0, 1) := by decide +kernel
theorem dX11_stretch_49 : decode cX11_stretch 49 = .ok (.getfield 54, 3) := by decide +kernel
theorem dX11_stretch_52 : decode cX11_stretch 52 = .ok (.aload_n 0, 1) := by decide +kernel
theorem dX11_stretch_53 : decode cX11_stretch 53 = .ok (.invokevirtual 273, 3) := by decide +kernel
theorem dX11_stretch_56 : decode cX11_stretch 56 = .ok (.invokevirtual 263, 3) := by decide +kernel
theorem dX11_stretch_59 : decode cX11_stretch 59 = .ok (.ifCond .eq 9, 3) := by decide +kernel
theorem dX11_stretch_62 : decode cX11_stretch 62 = .ok (.iload 4, 2) := by decide +kernel
theorem dX11_stretch_64 : decode cX11_stretch 64 = .ok (.istore_n 1, 1) := by decide +kernel
theorem dX11_stretch_65 : decode cX11_stretch 65 = .ok (.goto 8, 3) := by decide +kernel
theorem dX11_stretch_68 : decode cX11_stretch 68 = .ok (.iload 4, 2) := by decide +kernel
theorem dX11_stretch_70 : decode cX11_stretch 70 = .ok (.iconst 1, 1) := by decide +kernel
theorem dX11_stretch_71 : decode cX11_stretch 71 = .ok (.isub, 1) := by decide +kernel
theorem dX11_stretch_72 : decode cX11_stretch 72 = .ok (.istore_n 2, 1) := by decide +kernel
theorem dX11_stretch_73 : decode cX11_stretch 73 = .ok (.iinc 3 1, 3) := by decide +kernel
theorem dX11_stretch_76 : decode cX11_stretch 76 = .ok (.goto (-55), 3) := by decide +kernel
theorem dX11_stretch_79 : decode cX11_stretch 79 = .ok (.iload_n 1, 1) := by decide +kernel
theorem dX11_stretch_80 : decode cX11_stretch 80 = .ok (.ireturn, 1) := by decide +kernel
def xX11_stretch_79 (s_X11_placeGuests : zq_Sp) (s_X11_everyone : zq_Sp) (s_X4_canServe : zq_Sp) (J21 : zq_P) (Q : zq_Q) (ls : zq_L) (st : List Value) (h : zq_H) : Prop := (zi_iload 1 (zi_iret Q)) ls st h
theorem kX11_stretch_79 {X : zq_X} {d : Nat} (C : zq_C X cX11_stretch 5 RX11 d) {d_X11_placeGuests : Nat} {s_X11_placeGuests : zq_Sp} (h_X11_placeGuests : zq_M yX11_placeGuests cX11_placeGuests 7 none 0 d_X11_placeGuests s_X11_placeGuests) (g_X11_placeGuests : d_X11_placeGuests + 1 ≤ d) {d_X11_everyone : Nat} {s_X11_everyone : zq_Sp} (h_X11_everyone : zq_M yX11_everyone cX11_everyone 1 (some .int) 1 d_X11_everyone s_X11_everyone) (g_X11_everyone : d_X11_everyone + 1 ≤ d) {d_X4_canServe : Nat} {s_X4_canServe : zq_Sp} (h_X4_canServe : zq_M yX4_canServe cX4_canServe 2 (some .boolean) 1 d_X4_canServe s_X4_canServe) (g_X4_canServe : d_X4_canServe + 1 ≤ d) {J21 : zq_P} (j21 : zq_ok X 5 21 J21) {Q : zq_Q} (hq : zq_R X (some .int) 1 Q) : zq_ok X 5 79 (xX11_stretch_79 s_X11_placeGuests s_X11_everyone s_X4_canServe J21 Q) := by
  refine zs_iload_n C dX11_stretch_79 rfl ?_
  exact zs_iret C hq dX11_stretch_80
def xX11_stretch_73 (s_X11_placeGuests : zq_Sp) (s_X11_everyone : zq_Sp) (s_X4_canServe : zq_Sp) (J21 : zq_P) (Q : zq_Q) (ls : zq_L) (st : List Value) (h : zq_H) : Prop := (zi_iinc 3 1 (J21)) ls st h
theorem kX11_stretch_73 {X : zq_X} {d : Nat} (C : zq_C X cX11_stretch 5 RX11 d) {d_X11_placeGuests : Nat} {s_X11_placeGuests : zq_Sp} (h_X11_placeGuests : zq_M yX11_placeGuests cX11_placeGuests 7 none 0 d_X11_placeGuests s_X11_placeGuests) (g_X11_placeGuests : d_X11_placeGuests + 1 ≤ d) {d_X11_everyone : Nat} {s_X11_everyone : zq_Sp} (h_X11_everyone : zq_M yX11_everyone cX11_everyone 1 (some .int) 1 d_X11_everyone s_X11_everyone) (g_X11_everyone : d_X11_everyone + 1 ≤ d) {d_X4_canServe : Nat} {s_X4_canServe : zq_Sp} (h_X4_canServe : zq_M yX4_canServe cX4_canServe 2 (some .boolean) 1 d_X4_canServe s_X4_canServe) (g_X4_canServe : d_X4_canServe + 1 ≤ d) {J21 : zq_P} (j21 : zq_ok X 5 21 J21) {Q : zq_Q} (hq : zq_R X (some .int) 1 Q) : zq_ok X 5 73 (xX11_stretch_73 s_X11_placeGuests s_X11_everyone s_X4_canServe J21 Q) := by
  refine zs_iinc C dX11_stretch_73 (by decide) (by decide) ?_
  exact zs_goto C dX11_stretch_76 (by decide) (j21)
def xX11_stretch_68 (s_X11_placeGuests : zq_Sp) (s_X11_everyone : zq_Sp) (s_X4_canServe : zq_Sp) (J21 : zq_P) (Q : zq_Q) (ls : zq_L) (st : List Value) (h : zq_H) : Prop := (zi_iload 4 (zi_push (.int 1) (zi_i2 (fun x y => x - y) (zi_istore 2 ((xX11_stretch_73 s_X11_placeGuests s_X11_everyone s_X4_canServe J21 Q)))))) ls st h
theorem kX11_stretch_68 {X : zq_X} {d : Nat} (C : zq_C X cX11_stretch 5 RX11 d) {d_X11_placeGuests : Nat} {s_X11_placeGuests : zq_Sp} (h_X11_placeGuests : zq_M yX11_placeGuests cX11_placeGuests 7 none 0 d_X11_placeGuests s_X11_placeGuests) (g_X11_placeGuests : d_X11_placeGuests + 1 ≤ d) {d_X11_everyone : Nat} {s_X11_everyone : zq_Sp} (h_X11_everyone : zq_M yX11_everyone cX11_everyone 1 (some .int) 1 d_X11_everyone s_X11_everyone) (g_X11_everyone : d_X11_everyone + 1 ≤ d) {d_X4_canServe : Nat} {s_X4_canServe : zq_Sp} (h_X4_canServe : zq_M yX4_canServe cX4_canServe 2 (some .boolean) 1 d_X4_canServe s_X4_canServe) (g_X4_canServe : d_X4_canServe + 1 ≤ d) {J21 : zq_P} (j21 : zq_ok X 5 21 J21) {Q : zq_Q} (hq : zq_R X (some .int) 1 Q) : zq_ok X 5 68 (xX11_stretch_68 s_X11_placeGuests s_X11_everyone s_X4_canServe J21 Q) := by
  refine zs_iload C dX11_stretch_68 ?_
  refine zs_iconst C dX11_stretch_70 (by decide) ?_
  refine zs_isub C dX11_stretch_71 ?_
  refine zs_istore_n C dX11_stretch_72 rfl (by decide) ?_
  exact kX11_stretch_73 C h_X11_placeGuests g_X11_placeGuests h_X11_everyone g_X11_everyone h_X4_canServe g_X4_canServe j21 hq
def xX11_stretch_62 (s_X11_placeGuests : zq_Sp) (s_X11_everyone : zq_Sp) (s_X4_canServe : zq_Sp) (J21 : zq_P) (Q : zq_Q) (ls : zq_L) (st : List Value) (h : zq_H) : Prop := (zi_iload 4 (zi_istore 1 ((xX11_stretch_73 s_X11_placeGuests s_X11_everyone s_X4_canServe J21 Q)))) ls st h
theorem kX11_stretch_62 {X : zq_X} {d : Nat} (C : zq_C X cX11_stretch 5 RX11 d) {d_X11_placeGuests : Nat} {s_X11_placeGuests : zq_Sp} (h_X11_placeGuests : zq_M yX11_placeGuests cX11_placeGuests 7 none 0 d_X11_placeGuests s_X11_placeGuests) (g_X11_placeGuests : d_X11_placeGuests + 1 ≤ d) {d_X11_everyone : Nat} {s_X11_everyone : zq_Sp} (h_X11_everyone : zq_M yX11_everyone cX11_everyone 1 (some .int) 1 d_X11_everyone s_X11_everyone) (g_X11_everyone : d_X11_everyone + 1 ≤ d) {d_X4_canServe : Nat} {s_X4_canServe : zq_Sp} (h_X4_canServe : zq_M yX4_canServe cX4_canServe 2 (some .boolean) 1 d_X4_canServe s_X4_canServe) (g_X4_canServe : d_X4_canServe + 1 ≤ d) {J21 : zq_P} (j21 : zq_ok X 5 21 J21) {Q : zq_Q} (hq : zq_R X (some .int) 1 Q) : zq_ok X 5 62 (xX11_stretch_62 s_X11_placeGuests s_X11_everyone s_X4_canServe J21 Q) := by
  refine zs_iload C dX11_stretch_62 ?_
  refine zs_istore_n C dX11_stretch_64 rfl (by decide) ?_
  exact zs_goto C dX11_stretch_65 (by decide) (kX11_stretch_73 C h_X11_placeGuests g_X11_placeGuests h_X11_everyone g_X11_everyone h_X4_canServe g_X4_canServe j21 hq)
def xX11_stretch_33 (s_X11_placeGuests : zq_Sp) (s_X11_everyone : zq_Sp) (s_X4_canServe : zq_Sp) (J21 : zq_P) (Q : zq_Q) (ls : zq_L) (st : List Value) (h : zq_H) : Prop := (zi_iload 1 (zi_iload 2 (zi_i2 (fun x y => x + y) (zi_push (.int 1) (zi_i2 (fun x y => x + y) (zi_push (.int 2) (zi_idv (fun x y => x / y) (zi_istore 4 (zi_aload 0 (zi_iload 4 (zi_callV 1 0 s_X11_placeGuests (zi_aload 0 (zi_getR 0 22 (zi_aload 0 (zi_callV 0 0 s_X11_everyone (zi_callV 1 22 s_X4_canServe (zi_if1 (fun x => x = 0) (xX11_stretch_68 s_X11_placeGuests s_X11_everyone s_X4_canServe J21 Q) (xX11_stretch_62 s_X11_placeGuests s_X11_everyone s_X4_canServe J21 Q)))))))))))))))))) ls st h
theorem kX11_stretch_33 {X : zq_X} {d : Nat} (C : zq_C X cX11_stretch 5 RX11 d) {d_X11_placeGuests : Nat} {s_X11_placeGuests : zq_Sp} (h_X11_placeGuests : zq_M yX11_placeGuests cX11_placeGuests 7 none 0 d_X11_placeGuests s_X11_placeGuests) (g_X11_placeGuests : d_X11_placeGuests + 1 ≤ d) {d_X11_everyone : Nat} {s_X11_everyone : zq_Sp} (h_X11_everyone : zq_M yX11_everyone cX11_everyone 1 (some .int) 1 d_X11_everyone s_X11_everyone) (g_X11_everyone : d_X11_everyone + 1 ≤ d) {d_X4_canServe : Nat} {s_X4_canServe : zq_Sp} (h_X4_canServe : zq_M yX4_canServe cX4_canServe 2 (some .boolean) 1 d_X4_canServe s_X4_canServe) (g_X4_canServe : d_X4_canServe + 1 ≤ d) {J21 : zq_P} (j21 : zq_ok X 5 21 J21) {Q : zq_Q} (hq : zq_R X (some .int) 1 Q) : zq_ok X 5 33 (xX11_stretch_33 s_X11_placeGuests s_X11_everyone s_X4_canServe J21 Q) := by
  refine zs_iload_n C dX11_stretch_33 rfl ?_
  refine zs_iload_n C dX11_stretch_34 rfl ?_
  refine zs_iadd C dX11_stretch_35 ?_
  refine zs_iconst C dX11_stretch_36 (by decide) ?_
  refine zs_iadd C dX11_stretch_37 ?_
  refine zs_iconst C dX11_stretch_38 (by decide) ?_
  refine zs_idiv C dX11_stretch_39 ?_
  refine zs_istore C dX11_stretch_40 (by decide) ?_
  refine zs_aload_n C dX11_stretch_42 rfl ?_
  refine zs_iload C dX11_stretch_43 ?_
  refine zs_callV C h_X11_placeGuests g_X11_placeGuests zy_X11_placeGuests zp_0 (show vwCl[11]? = some (RX11, TX11, 16) from rfl) zw_734 zw_736 zs9_X11_placeGuests dX11_stretch_45 ?_
  refine zs_aload_n C dX11_stretch_48 rfl ?_
  refine zs_getR C zp_0 zF11 (j := 6) ⟨by decide, rfl⟩ zw_321 dX11_stretch_49 ?_
  refine zs_aload_n C dX11_stretch_52 rfl ?_
  refine zs_callV C h_X11_everyone g_X11_everyone zy_X11_everyone zp_0 (show vwCl[11]? = some (RX11, TX11, 16) from rfl) zw_730 zw_732 zs9_X11_everyone dX11_stretch_53 ?_
  refine zs_callV C h_X4_canServe g_X4_canServe zy_X4_canServe zp_22 (show vwCl[4]? = some (RX4, TX4, 8) from rfl) zw_761 zw_762 zs9_X4_canServe dX11_stretch_56 ?_
  exact zs_if_eq C dX11_stretch_59 (by decide) (kX11_stretch_68 C h_X11_placeGuests g_X11_placeGuests h_X11_everyone g_X11_everyone h_X4_canServe g_X4_canServe j21 hq) (kX11_stretch_62 C h_X11_placeGuests g_X11_placeGuests h_X11_everyone g_X11_everyone h_X4_canServe g_X4_canServe j21 hq)
def xX11_stretch_28 (s_X11_placeGuests : zq_Sp) (s_X11_everyone : zq_Sp) (s_X4_canServe : zq_Sp) (J21 : zq_P) (Q : zq_Q) (ls : zq_L) (st : List Value) (h : zq_H) : Prop := (zi_iload 1 (zi_iload 2 (zi_if2 (fun x y => y ≤ x) (xX11_stretch_79 s_X11_placeGuests s_X11_everyone s_X4_canServe J21 Q) (xX11_stretch_33 s_X11_placeGuests s_X11_everyone s_X4_canServe J21 Q)))) ls st h
theorem kX11_stretch_28 {X : zq_X} {d : Nat} (C : zq_C X cX11_stretch 5 RX11 d) {d_X11_placeGuests : Nat} {s_X11_placeGuests : zq_Sp} (h_X11_placeGuests : zq_M yX11_placeGuests cX11_placeGuests 7 none 0 d_X11_placeGuests s_X11_placeGuests) (g_X11_placeGuests : d_X11_placeGuests + 1 ≤ d) {d_X11_everyone : Nat} {s_X11_everyone : zq_Sp} (h_X11_everyone : zq_M yX11_everyone cX11_everyone 1 (some .int) 1 d_X11_everyone s_X11_everyone) (g_X11_everyone : d_X11_everyone + 1 ≤ d) {d_X4_canServe : Nat} {s_X4_canServe : zq_Sp} (h_X4_canServe : zq_M yX4_canServe cX4_canServe 2 (some .boolean) 1 d_X4_canServe s_X4_canServe) (g_X4_canServe : d_X4_canServe + 1 ≤ d) {J21 : zq_P} (j21 : zq_ok X 5 21 J21) {Q : zq_Q} (hq : zq_R X (some .int) 1 Q) : zq_ok X 5 28 (xX11_stretch_28 s_X11_placeGuests s_X11_everyone s_X4_canServe J21 Q) := by
  refine zs_iload_n C dX11_stretch_28 rfl ?_
  refine zs_iload_n C dX11_stretch_29 rfl ?_
  exact zs_icmp_ge C dX11_stretch_30 (by decide) (kX11_stretch_79 C h_X11_placeGuests g_X11_placeGuests h_X11_everyone g_X11_everyone h_X4_canServe g_X4_canServe j21 hq) (kX11_stretch_33 C h_X11_placeGuests g_X11_placeGuests h_X11_everyone g_X11_everyone h_X4_canServe g_X4_canServe j21 hq)
def xX11_stretch_21 (s_X11_placeGuests : zq_Sp) (s_X11_everyone : zq_Sp) (s_X4_canServe : zq_Sp) (J21 : zq_P) (Q : zq_Q) (ls : zq_L) (st : List Value) (h : zq_H) : Prop := (zi_iload 3 (zi_push (.int 200) (zi_if2 (fun x y => y ≤ x) (xX11_stretch_79 s_X11_placeGuests s_X11_everyone s_X4_canServe J21 Q) (xX11_stretch_28 s_X11_placeGuests s_X11_everyone s_X4_canServe J21 Q)))) ls st h
theorem kX11_stretch_21 {X : zq_X} {d : Nat} (C : zq_C X cX11_stretch 5 RX11 d) {d_X11_placeGuests : Nat} {s_X11_placeGuests : zq_Sp} (h_X11_placeGuests : zq_M yX11_placeGuests cX11_placeGuests 7 none 0 d_X11_placeGuests s_X11_placeGuests) (g_X11_placeGuests : d_X11_placeGuests + 1 ≤ d) {d_X11_everyone : Nat} {s_X11_everyone : zq_Sp} (h_X11_everyone : zq_M yX11_everyone cX11_everyone 1 (some .int) 1 d_X11_everyone s_X11_everyone) (g_X11_everyone : d_X11_everyone + 1 ≤ d) {d_X4_canServe : Nat} {s_X4_canServe : zq_Sp} (h_X4_canServe : zq_M yX4_canServe cX4_canServe 2 (some .boolean) 1 d_X4_canServe s_X4_canServe) (g_X4_canServe : d_X4_canServe + 1 ≤ d) {J21 : zq_P} (j21 : zq_ok X 5 21 J21) {Q : zq_Q} (hq : zq_R X (some .int) 1 Q) : zq_ok X 5 21 (xX11_stretch_21 s_X11_placeGuests s_X11_everyone s_X4_canServe J21 Q) := by
  refine zs_iload_n C dX11_stretch_21 rfl ?_
  refine zs_sipush C dX11_stretch_22 (by decide) ?_
  exact zs_icmp_ge C dX11_stretch_25 (by decide) (kX11_stretch_79 C h_X11_placeGuests g_X11_placeGuests h_X11_everyone g_X11_everyone h_X4_canServe g_X4_canServe j21 hq) (kX11_stretch_28 C h_X11_placeGuests g_X11_placeGuests h_X11_everyone g_X11_everyone h_X4_canServe g_X4_canServe j21 hq)
def xX11_stretch_13 (s_X11_placeGuests : zq_Sp) (s_X11_everyone : zq_Sp) (s_X4_canServe : zq_Sp) (J21 : zq_P) (Q : zq_Q) (ls : zq_L) (st : List Value) (h : zq_H) : Prop := (zi_push (.int 0) (zi_istore 1 (zi_push (.int 200) (zi_istore 2 (zi_push (.int 0) (zi_istore 3 (J21))))))) ls st h
theorem kX11_stretch_13 {X : zq_X} {d : Nat} (C : zq_C X cX11_stretch 5 RX11 d) {d_X11_placeGuests : Nat} {s_X11_placeGuests : zq_Sp} (h_X11_placeGuests : zq_M yX11_placeGuests cX11_placeGuests 7 none 0 d_X11_placeGuests s_X11_placeGuests) (g_X11_placeGuests : d_X11_placeGuests + 1 ≤ d) {d_X11_everyone : Nat} {s_X11_everyone : zq_Sp} (h_X11_everyone : zq_M yX11_everyone cX11_everyone 1 (some .int) 1 d_X11_everyone s_X11_everyone) (g_X11_everyone : d_X11_everyone + 1 ≤ d) {d_X4_canServe : Nat} {s_X4_canServe : zq_Sp} (h_X4_canServe : zq_M yX4_canServe cX4_canServe 2 (some .boolean) 1 d_X4_canServe s_X4_canServe) (g_X4_canServe : d_X4_canServe + 1 ≤ d) {J21 : zq_P} (j21 : zq_ok X 5 21 J21) {Q : zq_Q} (hq : zq_R X (some .int) 1 Q) : zq_ok X 5 13 (xX11_stretch_13 s_X11_placeGuests s_X11_everyone s_X4_canServe J21 Q) := by
  refine zs_iconst C dX11_stretch_13 (by decide) ?_
  refine zs_istore_n C dX11_stretch_14 rfl (by decide) ?_
  refine zs_sipush C dX11_stretch_15 (by decide) ?_
  refine zs_istore_n C dX11_stretch_18 rfl (by decide) ?_
  refine zs_iconst C dX11_stretch_19 (by decide) ?_
  refine zs_istore_n C dX11_stretch_20 rfl (by decide) ?_
  exact j21
def xX11_stretch_10 (s_X11_placeGuests : zq_Sp) (s_X11_everyone : zq_Sp) (s_X4_canServe : zq_Sp) (J21 : zq_P) (Q : zq_Q) (ls : zq_L) (st : List Value) (h : zq_H) : Prop := (zi_push (.int (-2)) (zi_iret Q)) ls st h
theorem kX11_stretch_10 {X : zq_X} {d : Nat} (C : zq_C X cX11_stretch 5 RX11 d) {d_X11_placeGuests : Nat} {s_X11_placeGuests : zq_Sp} (h_X11_placeGuests : zq_M yX11_placeGuests cX11_placeGuests 7 none 0 d_X11_placeGuests s_X11_placeGuests) (g_X11_placeGuests : d_X11_placeGuests + 1 ≤ d) {d_X11_everyone : Nat} {s_X11_everyone : zq_Sp} (h_X11_everyone : zq_M yX11_everyone cX11_everyone 1 (some .int) 1 d_X11_everyone s_X11_everyone) (g_X11_everyone : d_X11_everyone + 1 ≤ d) {d_X4_canServe : Nat} {s_X4_canServe : zq_Sp} (h_X4_canServe : zq_M yX4_canServe cX4_canServe 2 (some .boolean) 1 d_X4_canServe s_X4_canServe) (g_X4_canServe : d_X4_canServe + 1 ≤ d) {J21 : zq_P} (j21 : zq_ok X 5 21 J21) {Q : zq_Q} (hq : zq_R X (some .int) 1 Q) : zq_ok X 5 10 (xX11_stretch_10 s_X11_placeGuests s_X11_everyone s_X4_canServe J21 Q) := by
  refine zs_bipush C dX11_stretch_10 (by decide) ?_
  exact zs_iret C hq dX11_stretch_12
def xX11_stretch_0 (s_X11_placeGuests : zq_Sp) (s_X11_everyone : zq_Sp) (s_X4_canServe : zq_Sp) (J21 : zq_P) (Q : zq_Q) (ls : zq_L) (st : List Value) (h : zq_H) : Prop := (zi_aload 0 (zi_getR 0 5 (zi_getI 5 3 (zi_if1 (fun x => x = 0) (xX11_stretch_10 s_X11_placeGuests s_X11_everyone s_X4_canServe J21 Q) (xX11_stretch_13 s_X11_placeGuests s_X11_everyone s_X4_canServe J21 Q))))) ls st h
theorem kX11_stretch_0 {X : zq_X} {d : Nat} (C : zq_C X cX11_stretch 5 RX11 d) {d_X11_placeGuests : Nat} {s_X11_placeGuests : zq_Sp} (h_X11_placeGuests : zq_M yX11_placeGuests cX11_placeGuests 7 none 0 d_X11_placeGuests s_X11_placeGuests) (g_X11_placeGuests : d_X11_placeGuests + 1 ≤ d) {d_X11_everyone : Nat} {s_X11_everyone : zq_Sp} (h_X11_everyone : zq_M yX11_everyone cX11_everyone 1 (some .int) 1 d_X11_everyone s_X11_everyone) (g_X11_everyone : d_X11_everyone + 1 ≤ d) {d_X4_canServe : Nat} {s_X4_canServe : zq_Sp} (h_X4_canServe : zq_M yX4_canServe cX4_canServe 2 (some .boolean) 1 d_X4_canServe s_X4_canServe) (g_X4_canServe : d_X4_canServe + 1 ≤ d) {J21 : zq_P} (j21 : zq_ok X 5 21 J21) {Q : zq_Q} (hq : zq_R X (some .int) 1 Q) : zq_ok X 5 0 (xX11_stretch_0 s_X11_placeGuests s_X11_everyone s_X4_canServe J21 Q) := by
  refine zs_aload_n C dX11_stretch_0 rfl ?_
  refine zs_getR C zp_0 zF11 (j := 2) ⟨by decide, rfl⟩ zw_317 dX11_stretch_1 ?_
  refine zs_getIN C zp_5 zF3 (j := 3) ⟨by decide, rfl⟩ zw_85 dX11_stretch_4 ?_
  exact zs_if_ne C dX11_stretch_7 (by decide) (kX11_stretch_13 C h_X11_placeGuests g_X11_placeGuests h_X11_everyone g_X11_everyone h_X4_canServe g_X4_canServe j21 hq) (kX11_stretch_10 C h_X11_placeGuests g_X11_placeGuests h_X11_everyone g_X11_everyone h_X4_canServe g_X4_canServe j21 hq)
theorem mX11_stretch {d : Nat} {spec : zq_Sp} {σ21 : Type} {d_X11_placeGuests : Nat} {s_X11_placeGuests : zq_Sp} (h_X11_placeGuests : zq_M yX11_placeGuests cX11_placeGuests 7 none 0 d_X11_placeGuests s_X11_placeGuests) (g_X11_placeGuests : d_X11_placeGuests + 1 ≤ d) {d_X11_everyone : Nat} {s_X11_everyone : zq_Sp} (h_X11_everyone : zq_M yX11_everyone cX11_everyone 1 (some .int) 1 d_X11_everyone s_X11_everyone) (g_X11_everyone : d_X11_everyone + 1 ≤ d) {d_X4_canServe : Nat} {s_X4_canServe : zq_Sp} (h_X4_canServe : zq_M yX4_canServe cX4_canServe 2 (some .boolean) 1 d_X4_canServe s_X4_canServe) (g_X4_canServe : d_X4_canServe + 1 ≤ d) (μ21 : σ21 → Nat) (I21 : zq_Q → σ21 → zq_P) (v : ∀ args h Q, spec args h Q → (zq_a args).length ≤ 5 ∧ xX11_stretch_0 s_X11_placeGuests s_X11_everyone s_X4_canServe (fun ls st h => ∃ b, I21 Q b ls st h) Q (zq_l0 5 args) [] h) (v21 : ∀ Q a ls st h, I21 Q a ls st h → xX11_stretch_21 s_X11_placeGuests s_X11_everyone s_X4_canServe (fun ls st h => ∃ b, μ21 b < μ21 a ∧ I21 Q b ls st h) Q ls st h) : zq_M yX11_stretch cX11_stretch 5 (some .int) 1 d spec := by
  refine zq_met (by decide +kernel) (by decide) (fun X Q args h C hq hs => ⟨(v args h Q hs).1, _, ?_, (v args h Q hs).2⟩)
  have hl := zq_loop1 (X := X) (nL := 5) (pc1 := 21) μ21 (I21 Q) (fun J21 => xX11_stretch_21 s_X11_placeGuests s_X11_everyone s_X4_canServe J21 Q) (fun j21 => kX11_stretch_21 C h_X11_placeGuests g_X11_placeGuests h_X11_everyone g_X11_everyone h_X4_canServe g_X4_canServe j21 hq) (v21 Q)
  exact kX11_stretch_0 C h_X11_placeGuests g_X11_placeGuests h_X11_everyone g_X11_everyone h_X4_canServe g_X4_canServe hl hq
/-! ToOneCrumb.richest(II)I -/
theorem dX11_richest_0 : decode cX11_richest 0 = .ok (.aload_n 0, 1) := by decide +kernel
theorem dX11_richest_1 : decode cX11_richest 1 = .ok (.iload_n 1, 1) := by decide +kernel
theorem dX11_richest_2 : decode cX11_richest 2 = .ok (.invokevirtual 171, 3) := by decide +kernel
theorem dX11_richest_5 : decode cX11_richest 5 = .ok (.ifCond .eq 19, 3) := by decide +kernel
theorem dX11_richest_8 : decode cX11_richest 8 = .ok (.iload_n 2, 1) := by decide +kernel
theorem dX11_richest_9 : decode cX11_richest 9 = .ok (.iconst 1, 1) := by decide +kernel
theorem dX11_richest_10 : decode cX11_richest 10 = .ok (.if_icmp .lt 14, 3) := by decide +kernel
theorem dX11_richest_13 : decode cX11_richest 13 = .ok (.iload_n 2, 1) := by decide +kernel
theorem dX11_richest_14 : decode cX11_richest 14 = .ok (.aload_n 0, 1) := by decide +kernel
theorem dX11_richest_15 : decode cX11_richest 15 = .ok (.getfield 82, 3) := by decide +kernel
theorem dX11_richest_18 : decode cX11_richest 18 = .ok (.getfield 128, 3) := by decide +kernel
theorem dX11_richest_21 : decode cX11_richest 21 = .ok (.if_icmp .le 5, 3) := by decide +kernel
theorem dX11_richest_24 : decode cX11_richest 24 = .ok (.iconst (-1), 1) := by decide +kernel
theorem dX11_richest_25 : decode cX11_richest 25 = .ok (.ireturn, 1) := by decide +kernel
theorem dX11_richest_26 : decode cX11_richest 26 = .ok (.iconst 0, 1) := by decide +kernel
theorem dX11_richest_27 : decode cX11_richest 27 = .ok (.istore_n 3, 1) := by decide +kernel
theorem dX11_richest_28 : decode cX11_richest 28 = .ok (.iconst 1, 1) := by decide +kernel
theorem dX11_richest_29 : decode cX11_richest 29 = .ok (.istore 4, 2) := by decide +kernel
theorem dX11_richest_31 : decode cX11_richest 31 = .ok (.iload 4, 2) := by decide +kernel
theorem dX11_richest_33 : decode cX11_richest 33 = .ok (.iload_n 2, 1) := by decide +kernel
theorem dX11_richest_34 : decode cX11_richest 34 = .ok (.iadd, 1) := by decide +kernel
theorem dX11_richest_35 : decode cX11_richest 35 = .ok (.aload_n 0, 1) := by decide +kernel
theorem dX11_richest_36 : decode cX11_richest 36 = .ok (.getfield 82, 3) := by decide +kernel
theorem dX11_richest_39 : decode cX11_richest 39 = .ok (.getfield 128, 3) := by decide +kernel
theorem dX11_richest_42 : decode cX11_richest 42 = .ok (.if_icmp .gt 41, 3) := by decide +kernel
theorem dX11_richest_45 : decode cX11_richest 45 = .ok (.aload_n 0, 1) := by decide +kernel
theorem dX11_richest_46 : decode cX11_richest 46 = .ok (.getfield 33, 3) := by decide +kernel
theorem dX11_richest_49 : decode cX11_richest 49 = .ok (.iload_n 1, 1) := by decide +kernel
theorem dX11_richest_50 : decode cX11_richest 50 = .ok (.iload 4, 2) := by decide +kernel
theorem dX11_richest_52 : decode cX11_richest 52 = .ok (.iload 4, 2) := by decide +kernel
theorem dX11_richest_54 : decode cX11_richest 54 = .ok (.iload_n 2, 1) := by decide +kernel
theorem dX11_richest_55 : decode cX11_richest 55 = .ok (.iadd, 1) := by decide +kernel
theorem dX11_richest_56 : decode cX11_richest 56 = .ok (.invokevirtual 276, 3) := by decide +kernel
theorem dX11_richest_59 : decode cX11_richest 59 = .ok (.aload_n 0, 1) := by decide +kernel
theorem dX11_richest_60 : decode cX11_richest 60 = .ok (.getfield 33, 3) := by decide +kernel
theorem dX11_richest_63 : decode cX11_richest 63 = .ok (.iload_n 1, 1) := by decide +kernel
theorem dX11_richest_64 : decode cX11_richest 64 = .ok (.iload_n 3, 1) := by decide +kernel
theorem dX11_richest_65 : decode cX11_richest 65 = .ok (.iload_n 3, 1) := by decide +kernel
theorem dX11_richest_66 : decode cX11_richest 66 = .ok (.iload_n 2, 1) := by decide +kernel
theorem dX11_richest_67 : decode cX11_richest 67 = .ok (.iadd, 1) := by decide +kernel
theorem dX11_richest_68 : decode cX11_richest 68 = .ok (.invokevirtual 276, 3) := by decide +kernel
theorem dX11_richest_71 : decode cX11_richest 71 = .ok (.if_icmp .le 6, 3) := by decide +kernel
theorem dX11_richest_74 : decode cX11_richest 74 = .ok (.iload 4, 2) := by decide +kernel
theorem dX11_richest_76 : decode cX11_richest 76 = .ok (.istore_n 3, 1) := by decide +kernel
theorem dX11_richest_77 : decode cX11_richest 77 = .ok (.iinc 4 1, 3) := by decide +kernel
theorem dX11_richest_80 : decode cX11_richest 80 = .ok (.goto (-49), 3) := by decide +kernel
theorem dX11_richest_83 : decode cX11_richest 83 = .ok (.aload_n 0, 1) := by decide +kernel
theorem dX11_richest_84 : decode cX11_richest 84 = .ok (.getfield 19, 3) := by decide +kernel
theorem dX11_richest_87 : decode cX11_richest 87 = .ok (.invokevirtual 236, 3) := by decide +kernel
theorem dX11_richest_90 : decode cX11_richest 90 = .ok (.aload_n 0, 1) := by decide +kernel
theorem dX11_richest_91 : decode cX11_richest 91 = .ok (.getfield 19, 3) := by decide +kernel
theorem dX11_richest_94 : decode cX11_richest 94 = .ok (.aload_n 0, 1) := by decide +kernel
theorem dX11_richest_95 : decode cX11_richest 95 = .ok (.getfield 33, 3) := by decide +kernel
theorem dX11_richest_98 : decode cX11_richest 98 = .ok (.iload_n 1, 1) := by decide +kernel
theorem dX11_richest_99 : decode cX11_richest 99 = .ok (.iload_n 3, 1) := by decide +kernel
theorem dX11_richest_100 : decode cX11_richest 100 = .ok (.iload_n 3, 1) := by decide +kernel
theorem dX11_richest_101 : decode cX11_richest 101 = .ok (.iload_n 2, 1) := by decide +kernel
theorem dX11_richest_102 : decode cX11_richest 102 = .ok (.iadd, 1) := by decide +kernel
theorem dX11_richest_103 : decode cX11_richest 103 = .ok (.invokevirtual 276, 3) := by decide +kernel
theorem dX11_richest_106 : decode cX11_richest 106 = .ok (.i2l, 1) := by decide +kernel
theorem dX11_richest_107 : decode cX11_richest 107 = .ok (.invokevirtual 237, 3) := by decide +kernel
theorem dX11_richest_110 : decode cX11_richest 110 = .ok (.iload_n 3, 1) := by decide +kernel
theorem dX11_richest_111 : decode cX11_richest 111 = .ok (.ireturn, 1) := by decide +kernel
def xX11_richest_83 (s_X11_isGuest : zq_Sp) (s_X10_between : zq_Sp) (s_X5_clear : zq_Sp) (s_X5_add : zq_Sp) (J31 : zq_P) (Q : zq_Q) (ls : zq_L) (st : List Value) (h : zq_H) : Prop := (zi_aload 0 (zi_getR 0 3 (zi_callV 0 3 s_X5_clear (zi_aload 0 (zi_getR 0 3 (zi_aload 0 (zi_getR 0 9 (zi_iload 1 (zi_iload 3 (zi_iload 3 (zi_iload 2 (zi_i2 (fun x y => x + y) (zi_callV 3 9 s_X10_between (zi_i2l (zi_callV 1 3 s_X5_add (zi_iload 3 (zi_iret Q))))))))))))))))) ls st h
theorem kX11_richest_83 {X : zq_X} {d : Nat} (C : zq_C X cX11_richest 5 RX11 d) {d_X11_isGuest : Nat} {s_X11_isGuest : zq_Sp} (h_X11_isGuest : zq_M yX11_isGuest cX11_isGuest 2 (some .boolean) 1 d_X11_isGuest s_X11_isGuest) (g_X11_isGuest : d_X11_isGuest + 1 ≤ d) {d_X10_between : Nat} {s_X10_between : zq_Sp} (h_X10_between : zq_M yX10_between cX10_between 4 (some .int) 1 d_X10_between s_X10_between) (g_X10_between : d_X10_between + 1 ≤ d) {d_X5_clear : Nat} {s_X5_clear : zq_Sp} (h_X5_clear : zq_M yX5_clear cX5_clear 1 none 0 d_X5_clear s_X5_clear) (g_X5_clear : d_X5_clear + 1 ≤ d) {d_X5_add : Nat} {s_X5_add : zq_Sp} (h_X5_add : zq_M yX5_add cX5_add 3 none 0 d_X5_add s_X5_add) (g_X5_add : d_X5_add + 1 ≤ d) {J31 : zq_P} (j31 : zq_ok X 5 31 J31) {Q : zq_Q} (hq : zq_R X (some .int) 1 Q) : zq_ok X 5 83 (xX11_richest_83 s_X11_isGuest s_X10_between s_X5_clear s_X5_add J31 Q) := by
  refine zs_aload_n C dX11_richest_83 rfl ?_
  refine zs_getR C zp_0 zF11 (j := 1) ⟨by decide, rfl⟩ zw_316 dX11_richest_84 ?_
  refine zs_callV C h_X5_clear g_X5_clear zy_X5_clear zp_3 (show vwCl[5]? = some (RX5, TX5, 2) from rfl) zw_650 zw_651 zs9_X5_clear dX11_richest_87 ?_
  refine zs_aload_n C dX11_richest_90 rfl ?_
  refine zs_getR C zp_0 zF11 (j := 1) ⟨by decide, rfl⟩ zw_316 dX11_richest_91 ?_
  refine zs_aload_n C dX11_richest_94 rfl ?_
  refine zs_getR C zp_0 zF11 (j := 3) ⟨by decide, rfl⟩ zw_318 dX11_richest_95 ?_
  refine zs_iload_n C dX11_richest_98 rfl ?_
  refine zs_iload_n C dX11_richest_99 rfl ?_
  refine zs_iload_n C dX11_richest_100 rfl ?_
  refine zs_iload_n C dX11_richest_101 rfl ?_
  refine zs_iadd C dX11_richest_102 ?_
  refine zs_callV C h_X10_between g_X10_between zy_X10_between zp_9 (show vwCl[10]? = some (RX10, TX10, 3) from rfl) zw_597 zw_598 zs9_X10_between dX11_richest_103 ?_
  refine zs_i2l C dX11_richest_106 ?_
  refine zs_callV C h_X5_add g_X5_add zy_X5_add zp_3 (show vwCl[5]? = some (RX5, TX5, 2) from rfl) zw_654 zw_655 zs9_X5_add dX11_richest_107 ?_
  refine zs_iload_n C dX11_richest_110 rfl ?_
  exact zs_iret C hq dX11_richest_111
def xX11_richest_77 (s_X11_isGuest : zq_Sp) (s_X10_between : zq_Sp) (s_X5_clear : zq_Sp) (s_X5_add : zq_Sp) (J31 : zq_P) (Q : zq_Q) (ls : zq_L) (st : List Value) (h : zq_H) : Prop := (zi_iinc 4 1 (J31)) ls st h
theorem kX11_richest_77 {X : zq_X} {d : Nat} (C : zq_C X cX11_richest 5 RX11 d) {d_X11_isGuest : Nat} {s_X11_isGuest : zq_Sp} (h_X11_isGuest : zq_M yX11_isGuest cX11_isGuest 2 (some .boolean) 1 d_X11_isGuest s_X11_isGuest) (g_X11_isGuest : d_X11_isGuest + 1 ≤ d) {d_X10_between : Nat} {s_X10_between : zq_Sp} (h_X10_between : zq_M yX10_between cX10_between 4 (some .int) 1 d_X10_between s_X10_between) (g_X10_between : d_X10_between + 1 ≤ d) {d_X5_clear : Nat} {s_X5_clear : zq_Sp} (h_X5_clear : zq_M yX5_clear cX5_clear 1 none 0 d_X5_clear s_X5_clear) (g_X5_clear : d_X5_clear + 1 ≤ d) {d_X5_add : Nat} {s_X5_add : zq_Sp} (h_X5_add : zq_M yX5_add cX5_add 3 none 0 d_X5_add s_X5_add) (g_X5_add : d_X5_add + 1 ≤ d) {J31 : zq_P} (j31 : zq_ok X 5 31 J31) {Q : zq_Q} (hq : zq_R X (some .int) 1 Q) : zq_ok X 5 77 (xX11_richest_77 s_X11_isGuest s_X10_between s_X5_clear s_X5_add J31 Q) := by
  refine zs_iinc C dX11_richest_77 (by decide) (by decide) ?_
  exact zs_goto C dX11_richest_80 (by decide) (j31)
def xX11_richest_74 (s_X11_isGuest : zq_Sp) (s_X10_between : zq_Sp) (s_X5_clear : zq_Sp) (s_X5_add : zq_Sp) (J31 : zq_P) (Q : zq_Q) (ls : zq_L) (st : List Value) (h : zq_H) : Prop := (zi_iload 4 (zi_istore 3 ((xX11_richest_77 s_X11_isGuest s_X10_between s_X5_clear s_X5_add J31 Q)))) ls st h
theorem kX11_richest_74 {X : zq_X} {d : Nat} (C : zq_C X cX11_richest 5 RX11 d) {d_X11_isGuest : Nat} {s_X11_isGuest : zq_Sp} (h_X11_isGuest : zq_M yX11_isGuest cX11_isGuest 2 (some .boolean) 1 d_X11_isGuest s_X11_isGuest) (g_X11_isGuest : d_X11_isGuest + 1 ≤ d) {d_X10_between : Nat} {s_X10_between : zq_Sp} (h_X10_between : zq_M yX10_between cX10_between 4 (some .int) 1 d_X10_between s_X10_between) (g_X10_between : d_X10_between + 1 ≤ d) {d_X5_clear : Nat} {s_X5_clear : zq_Sp} (h_X5_clear : zq_M yX5_clear cX5_clear 1 none 0 d_X5_clear s_X5_clear) (g_X5_clear : d_X5_clear + 1 ≤ d) {d_X5_add : Nat} {s_X5_add : zq_Sp} (h_X5_add : zq_M yX5_add cX5_add 3 none 0 d_X5_add s_X5_add) (g_X5_add : d_X5_add + 1 ≤ d) {J31 : zq_P} (j31 : zq_ok X 5 31 J31) {Q : zq_Q} (hq : zq_R X (some .int) 1 Q) : zq_ok X 5 74 (xX11_richest_74 s_X11_isGuest s_X10_between s_X5_clear s_X5_add J31 Q) := by
  refine zs_iload C dX11_richest_74 ?_
  refine zs_istore_n C dX11_richest_76 rfl (by decide) ?_
  exact kX11_richest_77 C h_X11_isGuest g_X11_isGuest h_X10_between g_X10_between h_X5_clear g_X5_clear h_X5_add g_X5_add j31 hq
def xX11_richest_45 (s_X11_isGuest : zq_Sp) (s_X10_between : zq_Sp) (s_X5_clear : zq_Sp) (s_X5_add : zq_Sp) (J31 : zq_P) (Q : zq_Q) (ls : zq_L) (st : List Value) (h : zq_H) : Prop := (zi_aload 0 (zi_getR 0 9 (zi_iload 1 (zi_iload 4 (zi_iload 4 (zi_iload 2 (zi_i2 (fun x y => x + y) (zi_callV 3 9 s_X10_between (zi_aload 0 (zi_getR 0 9 (zi_iload 1 (zi_iload 3 (zi_iload 3 (zi_iload 2 (zi_i2 (fun x y => x + y) (zi_callV 3 9 s_X10_between (zi_if2 (fun x y => x ≤ y) (xX11_richest_77 s_X11_isGuest s_X10_between s_X5_clear s_X5_add J31 Q) (xX11_richest_74 s_X11_isGuest s_X10_between s_X5_clear s_X5_add J31 Q)))))))))))))))))) ls st h
theorem kX11_richest_45 {X : zq_X} {d : Nat} (C : zq_C X cX11_richest 5 RX11 d) {d_X11_isGuest : Nat} {s_X11_isGuest : zq_Sp} (h_X11_isGuest : zq_M yX11_isGuest cX11_isGuest 2 (some .boolean) 1 d_X11_isGuest s_X11_isGuest) (g_X11_isGuest : d_X11_isGuest + 1 ≤ d) {d_X10_between : Nat} {s_X10_between : zq_Sp} (h_X10_between : zq_M yX10_between cX10_between 4 (some .int) 1 d_X10_between s_X10_between) (g_X10_between : d_X10_between + 1 ≤ d) {d_X5_clear : Nat} {s_X5_clear : zq_Sp} (h_X5_clear : zq_M yX5_clear cX5_clear 1 none 0 d_X5_clear s_X5_clear) (g_X5_clear : d_X5_clear + 1 ≤ d) {d_X5_add : Nat} {s_X5_add : zq_Sp} (h_X5_add : zq_M yX5_add cX5_add 3 none 0 d_X5_add s_X5_add) (g_X5_add : d_X5_add + 1 ≤ d) {J31 : zq_P} (j31 : zq_ok X 5 31 J31) {Q : zq_Q} (hq : zq_R X (some .int) 1 Q) : zq_ok X 5 45 (xX11_richest_45 s_X11_isGuest s_X10_between s_X5_clear s_X5_add J31 Q) := by
  refine zs_aload_n C dX11_richest_45 rfl ?_
  refine zs_getR C zp_0 zF11 (j := 3) ⟨by decide, rfl⟩ zw_318 dX11_richest_46 ?_
  refine zs_iload_n C dX11_richest_49 rfl ?_
  refine zs_iload C dX11_richest_50 ?_
  refine zs_iload C dX11_richest_52 ?_
  refine zs_iload_n C dX11_richest_54 rfl ?_
  refine zs_iadd C dX11_richest_55 ?_
  refine zs_callV C h_X10_between g_X10_between zy_X10_between zp_9 (show vwCl[10]? = some (RX10, TX10, 3) from rfl) zw_597 zw_598 zs9_X10_between dX11_richest_56 ?_
  refine zs_aload_n C dX11_richest_59 rfl ?_
  refine zs_getR C zp_0 zF11 (j := 3) ⟨by decide, rfl⟩ zw_318 dX11_richest_60 ?_
  refine zs_iload_n C dX11_richest_63 rfl ?_
  refine zs_iload_n C dX11_richest_64 rfl ?_
  refine zs_iload_n C dX11_richest_65 rfl ?_
  refine zs_iload_n C dX11_richest_66 rfl ?_
  refine zs_iadd C dX11_richest_67 ?_
  refine zs_callV C h_X10_between g_X10_between zy_X10_between zp_9 (show vwCl[10]? = some (RX10, TX10, 3) from rfl) zw_597 zw_598 zs9_X10_between dX11_richest_68 ?_
  exact zs_icmp_le C dX11_richest_71 (by decide) (kX11_richest_77 C h_X11_isGuest g_X11_isGuest h_X10_between g_X10_between h_X5_clear g_X5_clear h_X5_add g_X5_add j31 hq) (kX11_richest_74 C h_X11_isGuest g_X11_isGuest h_X10_between g_X10_between h_X5_clear g_X5_clear h_X5_add g_X5_add j31 hq)
def xX11_richest_31 (s_X11_isGuest : zq_Sp) (s_X10_between : zq_Sp) (s_X5_clear : zq_Sp) (s_X5_add : zq_Sp) (J31 : zq_P) (Q : zq_Q) (ls : zq_L) (st : List Value) (h : zq_H) : Prop := (zi_iload 4 (zi_iload 2 (zi_i2 (fun x y => x + y) (zi_aload 0 (zi_getR 0 40 (zi_getI 40 3 (zi_if2 (fun x y => y < x) (xX11_richest_83 s_X11_isGuest s_X10_between s_X5_clear s_X5_add J31 Q) (xX11_richest_45 s_X11_isGuest s_X10_between s_X5_clear s_X5_add J31 Q)))))))) ls st h
theorem kX11_richest_31 {X : zq_X} {d : Nat} (C : zq_C X cX11_richest 5 RX11 d) {d_X11_isGuest : Nat} {s_X11_isGuest : zq_Sp} (h_X11_isGuest : zq_M yX11_isGuest cX11_isGuest 2 (some .boolean) 1 d_X11_isGuest s_X11_isGuest) (g_X11_isGuest : d_X11_isGuest + 1 ≤ d) {d_X10_between : Nat} {s_X10_between : zq_Sp} (h_X10_between : zq_M yX10_between cX10_between 4 (some .int) 1 d_X10_between s_X10_between) (g_X10_between : d_X10_between + 1 ≤ d) {d_X5_clear : Nat} {s_X5_clear : zq_Sp} (h_X5_clear : zq_M yX5_clear cX5_clear 1 none 0 d_X5_clear s_X5_clear) (g_X5_clear : d_X5_clear + 1 ≤ d) {d_X5_add : Nat} {s_X5_add : zq_Sp} (h_X5_add : zq_M yX5_add cX5_add 3 none 0 d_X5_add s_X5_add) (g_X5_add : d_X5_add + 1 ≤ d) {J31 : zq_P} (j31 : zq_ok X 5 31 J31) {Q : zq_Q} (hq : zq_R X (some .int) 1 Q) : zq_ok X 5 31 (xX11_richest_31 s_X11_isGuest s_X10_between s_X5_clear s_X5_add J31 Q) := by
  refine zs_iload C dX11_richest_31 ?_
  refine zs_iload_n C dX11_richest_33 rfl ?_
  refine zs_iadd C dX11_richest_34 ?_
  refine zs_aload_n C dX11_richest_35 rfl ?_
  refine zs_getR C zp_0 zF11 (j := 11) ⟨by decide, rfl⟩ zw_326 dX11_richest_36 ?_
  refine zs_getIN C zp_40 zF2 (j := 3) ⟨by decide, rfl⟩ zw_273 dX11_richest_39 ?_
  exact zs_icmp_gt C dX11_richest_42 (by decide) (kX11_richest_83 C h_X11_isGuest g_X11_isGuest h_X10_between g_X10_between h_X5_clear g_X5_clear h_X5_add g_X5_add j31 hq) (kX11_richest_45 C h_X11_isGuest g_X11_isGuest h_X10_between g_X10_between h_X5_clear g_X5_clear h_X5_add g_X5_add j31 hq)
def xX11_richest_26 (s_X11_isGuest : zq_Sp) (s_X10_between : zq_Sp) (s_X5_clear : zq_Sp) (s_X5_add : zq_Sp) (J31 : zq_P) (Q : zq_Q) (ls : zq_L) (st : List Value) (h : zq_H) : Prop := (zi_push (.int 0) (zi_istore 3 (zi_push (.int 1) (zi_istore 4 (J31))))) ls st h
theorem kX11_richest_26 {X : zq_X} {d : Nat} (C : zq_C X cX11_richest 5 RX11 d) {d_X11_isGuest : Nat} {s_X11_isGuest : zq_Sp} (h_X11_isGuest : zq_M yX11_isGuest cX11_isGuest 2 (some .boolean) 1 d_X11_isGuest s_X11_isGuest) (g_X11_isGuest : d_X11_isGuest + 1 ≤ d) {d_X10_between : Nat} {s_X10_between : zq_Sp} (h_X10_between : zq_M yX10_between cX10_between 4 (some .int) 1 d_X10_between s_X10_between) (g_X10_between : d_X10_between + 1 ≤ d) {d_X5_clear : Nat} {s_X5_clear : zq_Sp} (h_X5_clear : zq_M yX5_clear cX5_clear 1 none 0 d_X5_clear s_X5_clear) (g_X5_clear : d_X5_clear + 1 ≤ d) {d_X5_add : Nat} {s_X5_add : zq_Sp} (h_X5_add : zq_M yX5_add cX5_add 3 none 0 d_X5_add s_X5_add) (g_X5_add : d_X5_add + 1 ≤ d) {J31 : zq_P} (j31 : zq_ok X 5 31 J31) {Q : zq_Q} (hq : zq_R X (some .int) 1 Q) : zq_ok X 5 26 (xX11_richest_26 s_X11_isGuest s_X10_between s_X5_clear s_X5_add J31 Q) := by
  refine zs_iconst C dX11_richest_26 (by decide) ?_
  refine zs_istore_n C dX11_richest_27 rfl (by decide) ?_
  refine zs_iconst C dX11_richest_28 (by decide) ?_
  refine zs_istore C dX11_richest_29 (by decide) ?_
  exact j31
def xX11_richest_24 (s_X11_isGuest : zq_Sp) (s_X10_between : zq_Sp) (s_X5_clear : zq_Sp) (s_X5_add : zq_Sp) (J31 : zq_P) (Q : zq_Q) (ls : zq_L) (st : List Value) (h : zq_H) : Prop := (zi_push (.int (-1)) (zi_iret Q)) ls st h
theorem kX11_richest_24 {X : zq_X} {d : Nat} (C : zq_C X cX11_richest 5 RX11 d) {d_X11_isGuest : Nat} {s_X11_isGuest : zq_Sp} (h_X11_isGuest : zq_M yX11_isGuest cX11_isGuest 2 (some .boolean) 1 d_X11_isGuest s_X11_isGuest) (g_X11_isGuest : d_X11_isGuest + 1 ≤ d) {d_X10_between : Nat} {s_X10_between : zq_Sp} (h_X10_between : zq_M yX10_between cX10_between 4 (some .int) 1 d_X10_between s_X10_between) (g_X10_between : d_X10_between + 1 ≤ d) {d_X5_clear : Nat} {s_X5_clear : zq_Sp} (h_X5_clear : zq_M yX5_clear cX5_clear 1 none 0 d_X5_clear s_X5_clear) (g_X5_clear : d_X5_clear + 1 ≤ d) {d_X5_add : Nat} {s_X5_add : zq_Sp} (h_X5_add : zq_M yX5_add cX5_add 3 none 0 d_X5_add s_X5_add) (g_X5_add : d_X5_add + 1 ≤ d) {J31 : zq_P} (j31 : zq_ok X 5 31 J31) {Q : zq_Q} (hq : zq_R X (some .int) 1 Q) : zq_ok X 5 24 (xX11_richest_24 s_X11_isGuest s_X10_between s_X5_clear s_X5_add J31 Q) := by
  refine zs_iconst C dX11_richest_24 (by decide) ?_
  exact zs_iret C hq dX11_richest_25
def xX11_richest_13 (s_X11_isGuest : zq_Sp) (s_X10_between : zq_Sp) (s_X5_clear : zq_Sp) (s_X5_add : zq_Sp) (J31 : zq_P) (Q : zq_Q) (ls : zq_L) (st : List Value) (h : zq_H) : Prop := (zi_iload 2 (zi_aload 0 (zi_getR 0 40 (zi_getI 40 3 (zi_if2 (fun x y => x ≤ y) (xX11_richest_26 s_X11_isGuest s_X10_between s_X5_clear s_X5_add J31 Q) (xX11_richest_24 s_X11_isGuest s_X10_between s_X5_clear s_X5_add J31 Q)))))) ls st h
theorem kX11_richest_13 {X : zq_X} {d : Nat} (C : zq_C X cX11_richest 5 RX11 d) {d_X11_isGuest : Nat} {s_X11_isGuest : zq_Sp} (h_X11_isGuest : zq_M yX11_isGuest cX11_isGuest 2 (some .boolean) 1 d_X11_isGuest s_X11_isGuest) (g_X11_isGuest : d_X11_isGuest + 1 ≤ d) {d_X10_between : Nat} {s_X10_between : zq_Sp} (h_X10_between : zq_M yX10_between cX10_between 4 (some .int) 1 d_X10_between s_X10_between) (g_X10_between : d_X10_between + 1 ≤ d) {d_X5_clear : Nat} {s_X5_clear : zq_Sp} (h_X5_clear : zq_M yX5_clear cX5_clear 1 none 0 d_X5_clear s_X5_clear) (g_X5_clear : d_X5_clear + 1 ≤ d) {d_X5_add : Nat} {s_X5_add : zq_Sp} (h_X5_add : zq_M yX5_add cX5_add 3 none 0 d_X5_add s_X5_add) (g_X5_add : d_X5_add + 1 ≤ d) {J31 : zq_P} (j31 : zq_ok X 5 31 J31) {Q : zq_Q} (hq : zq_R X (some .int) 1 Q) : zq_ok X 5 13 (xX11_richest_13 s_X11_isGuest s_X10_between s_X5_clear s_X5_add J31 Q) := by
  refine zs_iload_n C dX11_richest_13 rfl ?_
  refine zs_aload_n C dX11_richest_14 rfl ?_
  refine zs_getR C zp_0 zF11 (j := 11) ⟨by decide, rfl⟩ zw_326 dX11_richest_15 ?_
  refine zs_getIN C zp_40 zF2 (j := 3) ⟨by decide, rfl⟩ zw_273 dX11_richest_18 ?_
  exact zs_icmp_le C dX11_richest_21 (by decide) (kX11_richest_26 C h_X11_isGuest g_X11_isGuest h_X10_between g_X10_between h_X5_clear g_X5_clear h_X5_add g_X5_add j31 hq) (kX11_richest_24 C h_X11_isGuest g_X11_isGuest h_X10_between g_X10_between h_X5_clear g_X5_clear h_X5_add g_X5_add j31 hq)
def xX11_richest_8 (s_X11_isGuest : zq_Sp) (s_X10_between : zq_Sp) (s_X5_clear : zq_Sp) (s_X5_add : zq_Sp) (J31 : zq_P) (Q : zq_Q) (ls : zq_L) (st : List Value) (h : zq_H) : Prop := (zi_iload 2 (zi_push (.int 1) (zi_if2 (fun x y => x < y) (xX11_richest_24 s_X11_isGuest s_X10_between s_X5_clear s_X5_add J31 Q) (xX11_richest_13 s_X11_isGuest s_X10_between s_X5_clear s_X5_add J31 Q)))) ls st h
theorem kX11_richest_8 {X : zq_X} {d : Nat} (C : zq_C X cX11_richest 5 RX11 d) {d_X11_isGuest : Nat} {s_X11_isGuest : zq_Sp} (h_X11_isGuest : zq_M yX11_isGuest cX11_isGuest 2 (some .boolean) 1 d_X11_isGuest s_X11_isGuest) (g_X11_isGuest : d_X11_isGuest + 1 ≤ d) {d_X10_between : Nat} {s_X10_between : zq_Sp} (h_X10_between : zq_M yX10_between cX10_between 4 (some .int) 1 d_X10_between s_X10_between) (g_X10_between : d_X10_between + 1 ≤ d) {d_X5_clear : Nat} {s_X5_clear : zq_Sp} (h_X5_clear : zq_M yX5_clear cX5_clear 1 none 0 d_X5_clear s_X5_clear) (g_X5_clear : d_X5_clear + 1 ≤ d) {d_X5_add : Nat} {s_X5_add : zq_Sp} (h_X5_add : zq_M yX5_add cX5_add 3 none 0 d_X5_add s_X5_add) (g_X5_add : d_X5_add + 1 ≤ d) {J31 : zq_P} (j31 : zq_ok X 5 31 J31) {Q : zq_Q} (hq : zq_R X (some .int) 1 Q) : zq_ok X 5 8 (xX11_richest_8 s_X11_isGuest s_X10_between s_X5_clear s_X5_add J31 Q) := by
  refine zs_iload_n C dX11_richest_8 rfl ?_
  refine zs_iconst C dX11_richest_9 (by decide) ?_
  exact zs_icmp_lt C dX11_richest_10 (by decide) (kX11_richest_24 C h_X11_isGuest g_X11_isGuest h_X10_between g_X10_between h_X5_clear g_X5_clear h_X5_add g_X5_add j31 hq) (kX11_richest_13 C h_X11_isGuest g_X11_isGuest h_X10_between g_X10_between h_X5_clear g_X5_clear h_X5_add g_X5_add j31 hq)
def xX11_richest_0 (s_X11_isGuest : zq_Sp) (s_X10_between : zq_Sp) (s_X5_clear : zq_Sp) (s_X5_add : zq_Sp) (J31 : zq_P) (Q : zq_Q) (ls : zq_L) (st : List Value) (h : zq_H) : Prop := (zi_aload 0 (zi_iload 1 (zi_callV 1 0 s_X11_isGuest (zi_if1 (fun x => x = 0) (xX11_richest_24 s_X11_isGuest s_X10_between s_X5_clear s_X5_add J31 Q) (xX11_richest_8 s_X11_isGuest s_X10_between s_X5_clear s_X5_add J31 Q))))) ls st h
theorem kX11_richest_0 {X : zq_X} {d : Nat} (C : zq_C X cX11_richest 5 RX11 d) {d_X11_isGuest : Nat} {s_X11_isGuest : zq_Sp} (h_X11_isGuest : zq_M yX11_isGuest cX11_isGuest 2 (some .boolean) 1 d_X11_isGuest s_X11_isGuest) (g_X11_isGuest : d_X11_isGuest + 1 ≤ d) {d_X10_between : Nat} {s_X10_between : zq_Sp} (h_X10_between : zq_M yX10_between cX10_between 4 (some .int) 1 d_X10_between s_X10_between) (g_X10_between : d_X10_between + 1 ≤ d) {d_X5_clear : Nat} {s_X5_clear : zq_Sp} (h_X5_clear : zq_M yX5_clear cX5_clear 1 none 0 d_X5_clear s_X5_clear) (g_X5_clear : d_X5_clear + 1 ≤ d) {d_X5_add : Nat} {s_X5_add : zq_Sp} (h_X5_add : zq_M yX5_add cX5_add 3 none 0 d_X5_add s_X5_add) (g_X5_add : d_X5_add + 1 ≤ d) {J31 : zq_P} (j31 : zq_ok X 5 31 J31) {Q : zq_Q} (hq : zq_R X (some .int) 1 Q) : zq_ok X 5 0 (xX11_richest_0 s_X11_isGuest s_X10_between s_X5_clear s_X5_add J31 Q) := by
  refine zs_aload_n C dX11_richest_0 rfl ?_
  refine zs_iload_n C dX11_richest_1 rfl ?_
  refine zs_callV C h_X11_isGuest g_X11_isGuest zy_X11_isGuest zp_0 (show vwCl[11]? = some (RX11, TX11, 16) from rfl) zw_546 zw_548 zs9_X11_isGuest dX11_richest_2 ?_
  exact zs_if_eq C dX11_richest_5 (by decide) (kX11_richest_24 C h_X11_isGuest g_X11_isGuest h_X10_between g_X10_between h_X5_clear g_X5_clear h_X5_add g_X5_add j31 hq) (kX11_richest_8 C h_X11_isGuest g_X11_isGuest h_X10_between g_X10_between h_X5_clear g_X5_clear h_X5_add g_X5_add j31 hq)
theorem mX11_richest {d : Nat} {spec : zq_Sp} {σ31 : Type} {d_X11_isGuest : Nat} {s_X11_isGuest : zq_Sp} (h_X11_isGuest : zq_M yX11_isGuest cX11_isGuest 2 (some .boolean) 1 d_X11_isGuest s_X11_isGuest) (g_X11_isGuest : d_X11_isGuest + 1 ≤ d) {d_X10_between : Nat} {s_X10_between : zq_Sp} (h_X10_between : zq_M yX10_between cX10_between 4 (some .int) 1 d_X10_between s_X10_between) (g_X10_between : d_X10_between + 1 ≤ d) {d_X5_clear : Nat} {s_X5_clear : zq_Sp} (h_X5_clear : zq_M yX5_clear cX5_clear 1 none 0 d_X5_clear s_X5_clear) (g_X5_clear : d_X5_clear + 1 ≤ d) {d_X5_add : Nat} {s_X5_add : zq_Sp} (h_X5_add : zq_M yX5_add cX5_add 3 none 0 d_X5_add s_X5_add) (g_X5_add : d_X5_add + 1 ≤ d) (μ31 : σ31 → Nat) (I31 : zq_Q → σ31 → zq_P) (v : ∀ args h Q, spec args h Q → (zq_a args).length ≤ 5 ∧ xX11_richest_0 s_X11_isGuest s_X10_between s_X5_clear s_X5_add (fun ls st h => ∃ b, I31 Q b ls st h) Q (zq_l0 5 args) [] h) (v31 : ∀ Q a ls st h, I31 Q a ls st h → xX11_richest_31 s_X11_isGuest s_X10_between s_X5_clear s_X5_add (fun ls st h => ∃ b, μ31 b < μ31 a ∧ I31 Q b ls st h) Q ls st h) : zq_M yX11_richest cX11_richest 5 (some .int) 1 d spec := by
  refine zq_met (by decide +kernel) (by decide) (fun X Q args h C hq hs => ⟨(v args h Q hs).1, _, ?_, (v args h Q hs).2⟩)
  have hl := zq_loop1 (X := X) (nL := 5) (pc1 := 31) μ31 (I31 Q) (fun J31 => xX11_richest_31 s_X11_isGuest s_X10_between s_X5_clear s_X5_add J31 Q) (fun j31 => kX11_richest_31 C h_X11_isGuest g_X11_isGuest h_X10_between g_X10_between h_X5_clear g_X5_clear h_X5_add g_X5_add j31 hq) (v31 Q)
  exact kX11_richest_0 C h_X11_isGuest g_X11_isGuest h_X10_between g_X10_between h_X5_clear g_X5_clear h_X5_add g_X5_add hl hq
/-! ToOneCrumb.parts(II)I -/
theorem dX11_parts_0 : decode cX11_parts 0 = .ok (.aload_n 0, 1) := by decide +kernel
theorem dX11_parts_1 : decode cX11_parts 1 = .ok (.iload_n 1, 1) := by decide +kernel
theorem dX11_parts_2 : decode cX11_parts 2 = .ok (.invokevirtual 171, 3) := by decide +kernel
theorem dX11_parts_5 : decode cX11_parts 5 = .ok (.ifCond .eq 14, 3) := by decide +kernel
theorem dX11_parts_8 : decode cX11_parts 8 = .ok (.iload_n 2, 1) := by decide +kernel
theorem dX11_parts_9 : decode cX11_parts 9 = .ok (.iconst 1, 1) := by decide +kernel
theorem dX11_parts_10 : decode cX11_parts 10 = .ok (.if_icmp .lt 9, 3) := by decide +kernel
theorem dX11_parts_13 : decode cX11_parts 13 = .ok (.iload_n 2, 1) := by decide +kernel
theorem dX11_parts_14 : decode cX11_parts 14 = .ok (.bipush 6, 2) := by decide +kernel
theorem dX11_parts_16 : decode cX11_parts 16 = .ok (.if_icmp .le 5, 3) := by decide +kernel
theorem dX11_parts_19 : decode cX11_parts 19 = .ok (.iconst (-1), 1) := by decide +kernel
theorem dX11_parts_20 : decode cX11_parts 20 = .ok (.ireturn, 1) := by decide +kernel
theorem dX11_parts_21 : decode cX11_parts 21 = .ok (.aload_n 0, 1) := by decide +kernel
theorem dX11_parts_22 : decode cX11_parts 22 = .ok (.getfield 82, 3) := by decide +kernel
theorem dX11_parts_25 : decode cX11_parts 25 = .ok (.getfield 128, 3) := by decide +kernel
theorem dX11_parts_28 : decode cX11_parts 28 = .ok (.iload_n 2, 1) := by decide +kernel
theorem dX11_parts_29 : decode cX11_parts 29 = .ok (.if_icmp .ge 6, 3) := by decide +kernel
theorem dX11_parts_32 : decode cX11_parts 32 = .ok (.bipush (-2), 2) := by decide +kernel
theorem dX11_parts_34 : decode cX11_parts 34 = .ok (.ireturn, 1) := by decide +kernel
theorem dX11_parts_35 : decode cX11_parts 35 = .ok (.aload_n 0, 1) := by decide +kernel
theorem dX11_parts_36 : decode cX11_parts 36 = .ok (.iload_n 1, 1) := by decide +kernel
theorem dX11_parts_37 : decode cX11_parts 37 = .ok (.iload_n 2, 1) := by decide +kernel
theorem dX11_parts_38 : decode cX11_parts 38 = .ok (.invokevirtual 279, 3) := by decide +kernel
theorem dX11_parts_41 : decode cX11_parts 41 = .ok (.istore_n 3, 1) := by decide +kernel
theorem dX11_parts_42 : decode cX11_parts 42 = .ok (.iconst 0, 1) := by decide +kernel
theorem dX11_parts_43 : decode cX11_parts 43 = .ok (.istore 4, 2) := by decide +kernel
theorem dX11_parts_45 : decode cX11_parts 45 = .ok (.aload_n 0, 1) := by decide +kernel
theorem dX11_parts_46 : decode cX11_parts 46 = .ok (.getfield 19, 3) := by decide +kernel
theorem dX11_parts_49 : decode cX11_parts 49 = .ok (.invokevirtual 236, 3) := by decide +kernel
theorem dX11_parts_52 : decode cX11_parts 52 = .ok (.iconst 1, 1) := by decide +kernel
theorem dX11_parts_53 : decode cX11_parts 53 = .ok (.istore 5, 2) := by decide +kernel
theorem dX11_parts_55 : decode cX11_parts 55 = .ok (.iload 5, 2) := by decide +kernel
theorem dX11_parts_57 : decode cX11_parts 57 = .ok (.iload_n 2, 1) := by decide +kernel
theorem dX11_parts_58 : decode cX11_parts 58 = .ok (.if_icmp .ge 65, 3) := by decide +kernel
theorem dX11_parts_61 : decode cX11_parts 61 = .ok (.iload 4, 2) := by decide +kernel
theorem dX11_parts_63 : decode cX11_parts 63 = .ok (.iconst 1, 1) := by decide +kernel
theorem dX11_parts_64 : decode cX11_parts 64 = .ok (.iadd, 1) := by decide +kernel
theorem dX11_parts_65 : decode cX11_parts 65 = .ok (.istore 6, 2) := by decide +kernel
theorem dX11_parts_67 : decode cX11_parts 67 = .ok (.iload 6, 2) := by decide +kernel
theorem dX11_parts_69 : decode cX11_parts 69 = .ok (.aload_n 0, 1) := by decide +kernel
theorem dX11_parts_70 : decode cX11_parts 70 = .ok (.getfield 82, 3) := by decide +kernel
theorem dX11_parts_73 : decode cX11_parts 73 = .ok (.getfield 128, 3) := by decide +kernel
theorem dX11_parts_76 : decode cX11_parts 76 = .ok (.if_icmp .ge 25, 3) := by decide +kernel
theorem dX11_parts_79 : decode cX11_parts 79 = .ok (.aload_n 0, 1) := by decide +kernel
theorem dX11_parts_80 : decode cX11_parts 80 = .ok (.getfield 33, 3) := by decide +kernel
theorem dX11_parts_83 : decode cX11_parts 83 = .ok (.iload_n 1, 1) := by decide +kernel
theorem dX11_parts_84 : decode cX11_parts 84 = .ok (.iload 4, 2) := by decide +kernel
theorem dX11_parts_86 : decode cX11_parts 86 = .ok (.iload 6, 2) := by decide +kernel
theorem dX11_parts_88 : decode cX11_parts 88 = .ok (.invokevirtual 276, 3) := by decide +kernel
theorem dX11_parts_91 : decode cX11_parts 91 = .ok (.iload_n 3, 1) := by decide +kernel
theorem dX11_parts_92 : decode cX11_parts 92 = .ok (.if_icmp .ge 9, 3) := by decide +kernel
theorem dX11_parts_95 : decode cX11_parts 95 = .ok (.iinc 6 1, 3) := by decide +kernel
theorem dX11_parts_98 : decode cX11_parts 98 = .ok (.goto (-31), 3) := by decide +kernel
theorem dX11_parts_101 : decode cX11_parts 101 = .ok (.aload_n 0, 1) := by decide +kernel
theorem dX11_parts_102 : decode cX11_parts 102 = .ok (.getfield 19, 3) := by decide +kernel
theorem dX11_parts_105 : decode cX11_parts 105 = .ok (.iload 6, 2) := by decide +kernel
theorem dX11_parts_107 : decode cX11_parts 107 = .ok (.iconst 1, 1) := by decide +kernel
theorem dX11_parts_108 : decode cX11_parts 108 = .ok (.isub, 1) := by decide +kernel
theorem dX11_parts_109 : decode cX11_parts 109 = .ok (.i2l, 1) := by decide +kernel
theorem dX11_parts_110 : decode cX11_parts 110 = .ok (.invokevirtual 237, 3) := by decide +kernel
theorem dX11_parts_113 : decode cX11_parts 113 = .ok (.iload 6, 2) := by decide +kernel
theorem dX11_parts_115 : decode cX11_parts 115 = .ok (.istore 4, 2) := by decide +kernel
theorem dX11_parts_117 : decode cX11_parts 117 = .ok (.iinc 5 1, 3) := by decide +kernel
theorem dX11_parts_120 : decode cX11_parts 120 = .ok (.goto (-65), 3) := by decide +kernel
theorem dX11_parts_123 : decode cX11_parts 123 = .ok (.aload_n 0, 1) := by decide +kernel
theorem dX11_parts_124 : decode cX11_parts 124 = .ok (.getfield 19, 3) := by decide +kernel
theorem dX11_parts_127 : decode cX11_parts 127 = .ok (.aload_n 0, 1) := by decide +kernel
theorem dX11_parts_128 : decode cX11_parts 128 = .ok (.getfield 82, 3) := by decide +kernel
theorem dX11_parts_131 : decode cX11_parts 131 = .ok (.getfield 128, 3) := by decide +kernel
theorem dX11_parts_134 : decode cX11_parts 134 = .ok (.iconst 1, 1) := by decide +kernel
theorem dX11_parts_135 : decode cX11_parts 135 = .ok (.isub, 1) := by decide +kernel
theorem dX11_parts_136 : decode cX11_parts 136 = .ok (.i2l, 1) := by decide +kernel
theorem dX11_parts_137 : decode cX11_parts 137 = .ok (.invokevirtual 237, 3) := by decide +kernel
theorem dX11_parts_140 : decode cX11_parts 140 = .ok (.iload_n 3, 1) := by decide +kernel
theorem dX11_parts_141 : decode cX11_parts 141 = .ok (.ireturn, 1) := by decide +kernel
def xX11_parts_123 (s_X11_isGuest : zq_Sp) (s_X11_bestOfLeasts : zq_Sp) (s_X5_clear : zq_Sp) (s_X10_between : zq_Sp) (s_X5_add : zq_Sp) (J55 : zq_P) (J67 : zq_P) (Q : zq_Q) (ls : zq_L) (st : List Value) (h : zq_H) : Prop := (zi_aload 0 (zi_getR 0 3 (zi_aload 0 (zi_getR 0 40 (zi_getI 40 3 (zi_push (.int 1) (zi_i2 (fun x y => x - y) (zi_i2l (zi_callV 1 3 s_X5_add (zi_iload 3 (zi_iret Q))))))))))) ls st h
theorem kX11_parts_123 {X : zq_X} {d : Nat} (C : zq_C X cX11_parts 7 RX11 d) {d_X11_isGuest : Nat} {s_X11_isGuest : zq_Sp} (h_X11_isGuest : zq_M yX11_isGuest cX11_isGuest 2 (some .boolean) 1 d_X11_isGuest s_X11_isGuest) (g_X11_isGuest : d_X11_isGuest + 1 ≤ d) {d_X11_bestOfLeasts : Nat} {s_X11_bestOfLeasts : zq_Sp} (h_X11_bestOfLeasts : zq_M yX11_bestOfLeasts cX11_bestOfLeasts 8 (some .int) 1 d_X11_bestOfLeasts s_X11_bestOfLeasts) (g_X11_bestOfLeasts : d_X11_bestOfLeasts + 1 ≤ d) {d_X5_clear : Nat} {s_X5_clear : zq_Sp} (h_X5_clear : zq_M yX5_clear cX5_clear 1 none 0 d_X5_clear s_X5_clear) (g_X5_clear : d_X5_clear + 1 ≤ d) {d_X10_between : Nat} {s_X10_between : zq_Sp} (h_X10_between : zq_M yX10_between cX10_between 4 (some .int) 1 d_X10_between s_X10_between) (g_X10_between : d_X10_between + 1 ≤ d) {d_X5_add : Nat} {s_X5_add : zq_Sp} (h_X5_add : zq_M yX5_add cX5_add 3 none 0 d_X5_add s_X5_add) (g_X5_add : d_X5_add + 1 ≤ d) {J55 : zq_P} (j55 : zq_ok X 7 55 J55) {J67 : zq_P} (j67 : zq_ok X 7 67 J67) {Q : zq_Q} (hq : zq_R X (some .int) 1 Q) : zq_ok X 7 123 (xX11_parts_123 s_X11_isGuest s_X11_bestOfLeasts s_X5_clear s_X10_between s_X5_add J55 J67 Q) := by
  refine zs_aload_n C dX11_parts_123 rfl ?_
  refine zs_getR C zp_0 zF11 (j := 1) ⟨by decide, rfl⟩ zw_316 dX11_parts_124 ?_
  refine zs_aload_n C dX11_parts_127 rfl ?_
  refine zs_getR C zp_0 zF11 (j := 11) ⟨by decide, rfl⟩ zw_326 dX11_parts_128 ?_
  refine zs_getIN C zp_40 zF2 (j := 3) ⟨by decide, rfl⟩ zw_273 dX11_parts_131 ?_
  refine zs_iconst C dX11_parts_134 (by decide) ?_
  refine zs_isub C dX11_parts_135 ?_
  refine zs_i2l C dX11_parts_136 ?_
  refine zs_callV C h_X5_add g_X5_add zy_X5_add zp_3 (show vwCl[5]? = some (RX5, TX5, 2) from rfl) zw_654 zw_655 zs9_X5_add dX11_parts_137 ?_
  refine zs_iload_n C dX11_parts_140 rfl ?_
  exact zs_iret C hq dX11_parts_141
def xX11_parts_101 (s_X11_isGuest : zq_Sp) (s_X11_bestOfLeasts : zq_Sp) (s_X5_clear : zq_Sp) (s_X10_between : zq_Sp) (s_X5_add : zq_Sp) (J55 : zq_P) (J67 : zq_P) (Q : zq_Q) (ls : zq_L) (st : List Value) (h : zq_H) : Prop := (zi_aload 0 (zi_getR 0 3 (zi_iload 6 (zi_push (.int 1) (zi_i2 (fun x y => x - y) (zi_i2l (zi_callV 1 3 s_X5_add (zi_iload 6 (zi_istore 4 (zi_iinc 5 1 (J55))))))))))) ls st h
theorem kX11_parts_101 {X : zq_X} {d : Nat} (C : zq_C X cX11_parts 7 RX11 d) {d_X11_isGuest : Nat} {s_X11_isGuest : zq_Sp} (h_X11_isGuest : zq_M yX11_isGuest cX11_isGuest 2 (some .boolean) 1 d_X11_isGuest s_X11_isGuest) (g_X11_isGuest : d_X11_isGuest + 1 ≤ d) {d_X11_bestOfLeasts : Nat} {s_X11_bestOfLeasts : zq_Sp} (h_X11_bestOfLeasts : zq_M yX11_bestOfLeasts cX11_bestOfLeasts 8 (some .int) 1 d_X11_bestOfLeasts s_X11_bestOfLeasts) (g_X11_bestOfLeasts : d_X11_bestOfLeasts + 1 ≤ d) {d_X5_clear : Nat} {s_X5_clear : zq_Sp} (h_X5_clear : zq_M yX5_clear cX5_clear 1 none 0 d_X5_clear s_X5_clear) (g_X5_clear : d_X5_clear + 1 ≤ d) {d_X10_between : Nat} {s_X10_between : zq_Sp} (h_X10_between : zq_M yX10_between cX10_between 4 (some .int) 1 d_X10_between s_X10_between) (g_X10_between : d_X10_between + 1 ≤ d) {d_X5_add : Nat} {s_X5_add : zq_Sp} (h_X5_add : zq_M yX5_add cX5_add 3 none 0 d_X5_add s_X5_add) (g_X5_add : d_X5_add + 1 ≤ d) {J55 : zq_P} (j55 : zq_ok X 7 55 J55) {J67 : zq_P} (j67 : zq_ok X 7 67 J67) {Q : zq_Q} (hq : zq_R X (some .int) 1 Q) : zq_ok X 7 101 (xX11_parts_101 s_X11_isGuest s_X11_bestOfLeasts s_X5_clear s_X10_between s_X5_add J55 J67 Q) := by
  refine zs_aload_n C dX11_parts_101 rfl ?_
  refine zs_getR C zp_0 zF11 (j := 1) ⟨by decide, rfl⟩ zw_316 dX11_parts_102 ?_
  refine zs_iload C dX11_parts_105 ?_
  refine zs_iconst C dX11_parts_107 (by decide) ?_
  refine zs_isub C dX11_parts_108 ?_
  refine zs_i2l C dX11_parts_109 ?_
  refine zs_callV C h_X5_add g_X5_add zy_X5_add zp_3 (show vwCl[5]? = some (RX5, TX5, 2) from rfl) zw_654 zw_655 zs9_X5_add dX11_parts_110 ?_
  refine zs_iload C dX11_parts_113 ?_
  refine zs_istore C dX11_parts_115 (by decide) ?_
  refine zs_iinc C dX11_parts_117 (by decide) (by decide) ?_
  exact zs_goto C dX11_parts_120 (by decide) (j55)
def xX11_parts_95 (s_X11_isGuest : zq_Sp) (s_X11_bestOfLeasts : zq_Sp) (s_X5_clear : zq_Sp) (s_X10_between : zq_Sp) (s_X5_add : zq_Sp) (J55 : zq_P) (J67 : zq_P) (Q : zq_Q) (ls : zq_L) (st : List Value) (h : zq_H) : Prop := (zi_iinc 6 1 (J67)) ls st h
theorem kX11_parts_95 {X : zq_X} {d : Nat} (C : zq_C X cX11_parts 7 RX11 d) {d_X11_isGuest : Nat} {s_X11_isGuest : zq_Sp} (h_X11_isGuest : zq_M yX11_isGuest cX11_isGuest 2 (some .boolean) 1 d_X11_isGuest s_X11_isGuest) (g_X11_isGuest : d_X11_isGuest + 1 ≤ d) {d_X11_bestOfLeasts : Nat} {s_X11_bestOfLeasts : zq_Sp} (h_X11_bestOfLeasts : zq_M yX11_bestOfLeasts cX11_bestOfLeasts 8 (some .int) 1 d_X11_bestOfLeasts s_X11_bestOfLeasts) (g_X11_bestOfLeasts : d_X11_bestOfLeasts + 1 ≤ d) {d_X5_clear : Nat} {s_X5_clear : zq_Sp} (h_X5_clear : zq_M yX5_clear cX5_clear 1 none 0 d_X5_clear s_X5_clear) (g_X5_clear : d_X5_clear + 1 ≤ d) {d_X10_between : Nat} {s_X10_between : zq_Sp} (h_X10_between : zq_M yX10_between cX10_between 4 (some .int) 1 d_X10_between s_X10_between) (g_X10_between : d_X10_between + 1 ≤ d) {d_X5_add : Nat} {s_X5_add : zq_Sp} (h_X5_add : zq_M yX5_add cX5_add 3 none 0 d_X5_add s_X5_add) (g_X5_add : d_X5_add + 1 ≤ d) {J55 : zq_P} (j55 : zq_ok X 7 55 J55) {J67 : zq_P} (j67 : zq_ok X 7 67 J67) {Q : zq_Q} (hq : zq_R X (some .int) 1 Q) : zq_ok X 7 95 (xX11_parts_95 s_X11_isGuest s_X11_bestOfLeasts s_X5_clear s_X10_between s_X5_add J55 J67 Q) := by
  refine zs_iinc C dX11_parts_95 (by decide) (by decide) ?_
  exact zs_goto C dX11_parts_98 (by decide) (j67)
def xX11_parts_79 (s_X11_isGuest : zq_Sp) (s_X11_bestOfLeasts : zq_Sp) (s_X5_clear : zq_Sp) (s_X10_between : zq_Sp) (s_X5_add : zq_Sp) (J55 : zq_P) (J67 : zq_P) (Q : zq_Q) (ls : zq_L) (st : List Value) (h : zq_H) : Prop := (zi_aload 0 (zi_getR 0 9 (zi_iload 1 (zi_iload 4 (zi_iload 6 (zi_callV 3 9 s_X10_between (zi_iload 3 (zi_if2 (fun x y => y ≤ x) (xX11_parts_101 s_X11_isGuest s_X11_bestOfLeasts s_X5_clear s_X10_between s_X5_add J55 J67 Q) (xX11_parts_95 s_X11_isGuest s_X11_bestOfLeasts s_X5_clear s_X10_between s_X5_add J55 J67 Q))))))))) ls st h
theorem kX11_parts_79 {X : zq_X} {d : Nat} (C : zq_C X cX11_parts 7 RX11 d) {d_X11_isGuest : Nat} {s_X11_isGuest : zq_Sp} (h_X11_isGuest : zq_M yX11_isGuest cX11_isGuest 2 (some .boolean) 1 d_X11_isGuest s_X11_isGuest) (g_X11_isGuest : d_X11_isGuest + 1 ≤ d) {d_X11_bestOfLeasts : Nat} {s_X11_bestOfLeasts : zq_Sp} (h_X11_bestOfLeasts : zq_M yX11_bestOfLeasts cX11_bestOfLeasts 8 (some .int) 1 d_X11_bestOfLeasts s_X11_bestOfLeasts) (g_X11_bestOfLeasts : d_X11_bestOfLeasts + 1 ≤ d) {d_X5_clear : Nat} {s_X5_clear : zq_Sp} (h_X5_clear : zq_M yX5_clear cX5_clear 1 none 0 d_X5_clear s_X5_clear) (g_X5_clear : d_X5_clear + 1 ≤ d) {d_X10_between : Nat} {s_X10_between : zq_Sp} (h_X10_between : zq_M yX10_between cX10_between 4 (some .int) 1 d_X10_between s_X10_between) (g_X10_between : d_X10_between + 1 ≤ d) {d_X5_add : Nat} {s_X5_add : zq_Sp} (h_X5_add : zq_M yX5_add cX5_add 3 none 0 d_X5_add s_X5_add) (g_X5_add : d_X5_add + 1 ≤ d) {J55 : zq_P} (j55 : zq_ok X 7 55 J55) {J67 : zq_P} (j67 : zq_ok X 7 67 J67) {Q : zq_Q} (hq : zq_R X (some .int) 1 Q) : zq_ok X 7 79 (xX11_parts_79 s_X11_isGuest s_X11_bestOfLeasts s_X5_clear s_X10_between s_X5_add J55 J67 Q) := by
  refine zs_aload_n C dX11_parts_79 rfl ?_
  refine zs_getR C zp_0 zF11 (j := 3) ⟨by decide, rfl⟩ zw_318 dX11_parts_80 ?_
  refine zs_iload_n C dX11_parts_83 rfl ?_
  refine zs_iload C dX11_parts_84 ?_
  refine zs_iload C dX11_parts_86 ?_
  refine zs_callV C h_X10_between g_X10_between zy_X10_between zp_9 (show vwCl[10]? = some (RX10, TX10, 3) from rfl) zw_597 zw_598 zs9_X10_between dX11_parts_88 ?_
  refine zs_iload_n C dX11_parts_91 rfl ?_
  exact zs_icmp_ge C dX11_parts_92 (by decide) (kX11_parts_101 C h_X11_isGuest g_X11_isGuest h_X11_bestOfLeasts g_X11_bestOfLeasts h_X5_clear g_X5_clear h_X10_between g_X10_between h_X5_add g_X5_add j55 j67 hq) (kX11_parts_95 C h_X11_isGuest g_X11_isGuest h_X11_bestOfLeasts g_X11_bestOfLeasts h_X5_clear g_X5_clear h_X10_between g_X10_between h_X5_add g_X5_add j55 j67 hq)
def xX11_parts_67 (s_X11_isGuest : zq_Sp) (s_X11_bestOfLeasts : zq_Sp) (s_X5_clear : zq_Sp) (s_X10_between : zq_Sp) (s_X5_add : zq_Sp) (J55 : zq_P) (J67 : zq_P) (Q : zq_Q) (ls : zq_L) (st : List Value) (h : zq_H) : Prop := (zi_iload 6 (zi_aload 0 (zi_getR 0 40 (zi_getI 40 3 (zi_if2 (fun x y => y ≤ x) (xX11_parts_101 s_X11_isGuest s_X11_bestOfLeasts s_X5_clear s_X10_between s_X5_add J55 J67 Q) (xX11_parts_79 s_X11_isGuest s_X11_bestOfLeasts s_X5_clear s_X10_between s_X5_add J55 J67 Q)))))) ls st h
theorem kX11_parts_67 {X : zq_X} {d : Nat} (C : zq_C X cX11_parts 7 RX11 d) {d_X11_isGuest : Nat} {s_X11_isGuest : zq_Sp} (h_X11_isGuest : zq_M yX11_isGuest cX11_isGuest 2 (some .boolean) 1 d_X11_isGuest s_X11_isGuest) (g_X11_isGuest : d_X11_isGuest + 1 ≤ d) {d_X11_bestOfLeasts : Nat} {s_X11_bestOfLeasts : zq_Sp} (h_X11_bestOfLeasts : zq_M yX11_bestOfLeasts cX11_bestOfLeasts 8 (some .int) 1 d_X11_bestOfLeasts s_X11_bestOfLeasts) (g_X11_bestOfLeasts : d_X11_bestOfLeasts + 1 ≤ d) {d_X5_clear : Nat} {s_X5_clear : zq_Sp} (h_X5_clear : zq_M yX5_clear cX5_clear 1 none 0 d_X5_clear s_X5_clear) (g_X5_clear : d_X5_clear + 1 ≤ d) {d_X10_between : Nat} {s_X10_between : zq_Sp} (h_X10_between : zq_M yX10_between cX10_between 4 (some .int) 1 d_X10_between s_X10_between) (g_X10_between : d_X10_between + 1 ≤ d) {d_X5_add : Nat} {s_X5_add : zq_Sp} (h_X5_add : zq_M yX5_add cX5_add 3 none 0 d_X5_add s_X5_add) (g_X5_add : d_X5_add + 1 ≤ d) {J55 : zq_P} (j55 : zq_ok X 7 55 J55) {J67 : zq_P} (j67 : zq_ok X 7 67 J67) {Q : zq_Q} (hq : zq_R X (some .int) 1 Q) : zq_ok X 7 67 (xX11_parts_67 s_X11_isGuest s_X11_bestOfLeasts s_X5_clear s_X10_between s_X5_add J55 J67 Q) := by
  refine zs_iload C dX11_parts_67 ?_
  refine zs_aload_n C dX11_parts_69 rfl ?_
  refine zs_getR C zp_0 zF11 (j := 11) ⟨by decide, rfl⟩ zw_326 dX11_parts_70 ?_
  refine zs_getIN C zp_40 zF2 (j := 3) ⟨by decide, rfl⟩ zw_273 dX11_parts_73 ?_
  exact zs_icmp_ge C dX11_parts_76 (by decide) (kX11_parts_101 C h_X11_isGuest g_X11_isGuest h_X11_bestOfLeasts g_X11_bestOfLeasts h_X5_clear g_X5_clear h_X10_between g_X10_between h_X5_add g_X5_add j55 j67 hq) (kX11_parts_79 C h_X11_isGuest g_X11_isGuest h_X11_bestOfLeasts g_X11_bestOfLeasts h_X5_clear g_X5_clear h_X10_between g_X10_between h_X5_add g_X5_add j55 j67 hq)
def xX11_parts_61 (s_X11_isGuest : zq_Sp) (s_X11_bestOfLeasts : zq_Sp) (s_X5_clear : zq_Sp) (s_X10_between : zq_Sp) (s_X5_add : zq_Sp) (J55 : zq_P) (J67 : zq_P) (Q : zq_Q) (ls : zq_L) (st : List Value) (h : zq_H) : Prop := (zi_iload 4 (zi_push (.int 1) (zi_i2 (fun x y => x + y) (zi_istore 6 (J67))))) ls st h
theorem kX11_parts_61 {X : zq_X} {d : Nat} (C : zq_C X cX11_parts 7 RX11 d) {d_X11_isGuest : Nat} {s_X11_isGuest : zq_Sp} (h_X11_isGuest : zq_M yX11_isGuest cX11_isGuest 2 (some .boolean) 1 d_X11_isGuest s_X11_isGuest) (g_X11_isGuest : d_X11_isGuest + 1 ≤ d) {d_X11_bestOfLeasts : Nat} {s_X11_bestOfLeasts : zq_Sp} (h_X11_bestOfLeasts : zq_M yX11_bestOfLeasts cX11_bestOfLeasts 8 (some .int) 1 d_X11_bestOfLeasts s_X11_bestOfLeasts) (g_X11_bestOfLeasts : d_X11_bestOfLeasts + 1 ≤ d) {d_X5_clear : Nat} {s_X5_clear : zq_Sp} (h_X5_clear : zq_M yX5_clear cX5_clear 1 none 0 d_X5_clear s_X5_clear) (g_X5_clear : d_X5_clear + 1 ≤ d) {d_X10_between : Nat} {s_X10_between : zq_Sp} (h_X10_between : zq_M yX10_between cX10_between 4 (some .int) 1 d_X10_between s_X10_between) (g_X10_between : d_X10_between + 1 ≤ d) {d_X5_add : Nat} {s_X5_add : zq_Sp} (h_X5_add : zq_M yX5_add cX5_add 3 none 0 d_X5_add s_X5_add) (g_X5_add : d_X5_add + 1 ≤ d) {J55 : zq_P} (j55 : zq_ok X 7 55 J55) {J67 : zq_P} (j67 : zq_ok X 7 67 J67) {Q : zq_Q} (hq : zq_R X (some .int) 1 Q) : zq_ok X 7 61 (xX11_parts_61 s_X11_isGuest s_X11_bestOfLeasts s_X5_clear s_X10_between s_X5_add J55 J67 Q) := by
  refine zs_iload C dX11_parts_61 ?_
  refine zs_iconst C dX11_parts_63 (by decide) ?_
  refine zs_iadd C dX11_parts_64 ?_
  refine zs_istore C dX11_parts_65 (by decide) ?_
  exact j67
def xX11_parts_55 (s_X11_isGuest : zq_Sp) (s_X11_bestOfLeasts : zq_Sp) (s_X5_clear : zq_Sp) (s_X10_between : zq_Sp) (s_X5_add : zq_Sp) (J55 : zq_P) (J67 : zq_P) (Q : zq_Q) (ls : zq_L) (st : List Value) (h : zq_H) : Prop := (zi_iload 5 (zi_iload 2 (zi_if2 (fun x y => y ≤ x) (xX11_parts_123 s_X11_isGuest s_X11_bestOfLeasts s_X5_clear s_X10_between s_X5_add J55 J67 Q) (xX11_parts_61 s_X11_isGuest s_X11_bestOfLeasts s_X5_clear s_X10_between s_X5_add J55 J67 Q)))) ls st h
theorem kX11_parts_55 {X : zq_X} {d : Nat} (C : zq_C X cX11_parts 7 RX11 d) {d_X11_isGuest : Nat} {s_X11_isGuest : zq_Sp} (h_X11_isGuest : zq_M yX11_isGuest cX11_isGuest 2 (some .boolean) 1 d_X11_isGuest s_X11_isGuest) (g_X11_isGuest : d_X11_isGuest + 1 ≤ d) {d_X11_bestOfLeasts : Nat} {s_X11_bestOfLeasts : zq_Sp} (h_X11_bestOfLeasts : zq_M yX11_bestOfLeasts cX11_bestOfLeasts 8 (some .int) 1 d_X11_bestOfLeasts s_X11_bestOfLeasts) (g_X11_bestOfLeasts : d_X11_bestOfLeasts + 1 ≤ d) {d_X5_clear : Nat} {s_X5_clear : zq_Sp} (h_X5_clear : zq_M yX5_clear cX5_clear 1 none 0 d_X5_clear s_X5_clear) (g_X5_clear : d_X5_clear + 1 ≤ d) {d_X10_between : Nat} {s_X10_between : zq_Sp} (h_X10_between : zq_M yX10_between cX10_between 4 (some .int) 1 d_X10_between s_X10_between) (g_X10_between : d_X10_between + 1 ≤ d) {d_X5_add : Nat} {s_X5_add : zq_Sp} (h_X5_add : zq_M yX5_add cX5_add 3 none 0 d_X5_add s_X5_add) (g_X5_add : d_X5_add + 1 ≤ d) {J55 : zq_P} (j55 : zq_ok X 7 55 J55) {J67 : zq_P} (j67 : zq_ok X 7 67 J67) {Q : zq_Q} (hq : zq_R X (some .int) 1 Q) : zq_ok X 7 55 (xX11_parts_55 s_X11_isGuest s_X11_bestOfLeasts s_X5_clear s_X10_between s_X5_add J55 J67 Q) := by
  refine zs_iload C dX11_parts_55 ?_
  refine zs_iload_n C dX11_parts_57 rfl ?_
  exact zs_icmp_ge C dX11_parts_58 (by decide) (kX11_parts_123 C h_X11_isGuest g_X11_isGuest h_X11_bestOfLeasts g_X11_bestOfLeasts h_X5_clear g_X5_clear h_X10_between g_X10_between h_X5_add g_X5_add j55 j67 hq) (kX11_parts_61 C h_X11_isGuest g_X11_isGuest h_X11_bestOfLeasts g_X11_bestOfLeasts h_X5_clear g_X5_clear h_X10_between g_X10_between h_X5_add g_X5_add j55 j67 hq)
def xX11_parts_35 (s_X11_isGuest : zq_Sp) (s_X11_bestOfLeasts : zq_Sp) (s_X5_clear : zq_Sp) (s_X10_between : zq_Sp) (s_X5_add : zq_Sp) (J55 : zq_P) (J67 : zq_P) (Q : zq_Q) (ls : zq_L) (st : List Value) (h : zq_H) : Prop := (zi_aload 0 (zi_iload 1 (zi_iload 2 (zi_callV 2 0 s_X11_bestOfLeasts (zi_istore 3 (zi_push (.int 0) (zi_istore 4 (zi_aload 0 (zi_getR 0 3 (zi_callV 0 3 s_X5_clear (zi_push (.int 1) (zi_istore 5 (J55))))))))))))) ls st h
theorem kX11_parts_35 {X : zq_X} {d : Nat} (C : zq_C X cX11_parts 7 RX11 d) {d_X11_isGuest : Nat} {s_X11_isGuest : zq_Sp} (h_X11_isGuest : zq_M yX11_isGuest cX11_isGuest 2 (some .boolean) 1 d_X11_isGuest s_X11_isGuest) (g_X11_isGuest : d_X11_isGuest + 1 ≤ d) {d_X11_bestOfLeasts : Nat} {s_X11_bestOfLeasts : zq_Sp} (h_X11_bestOfLeasts : zq_M yX11_bestOfLeasts cX11_bestOfLeasts 8 (some .int) 1 d_X11_bestOfLeasts s_X11_bestOfLeasts) (g_X11_bestOfLeasts : d_X11_bestOfLeasts + 1 ≤ d) {d_X5_clear : Nat} {s_X5_clear : zq_Sp} (h_X5_clear : zq_M yX5_clear cX5_clear 1 none 0 d_X5_clear s_X5_clear) (g_X5_clear : d_X5_clear + 1 ≤ d) {d_X10_between : Nat} {s_X10_between : zq_Sp} (h_X10_between : zq_M yX10_between cX10_between 4 (some .int) 1 d_X10_between s_X10_between) (g_X10_between : d_X10_between + 1 ≤ d) {d_X5_add : Nat} {s_X5_add : zq_Sp} (h_X5_add : zq_M yX5_add cX5_add 3 none 0 d_X5_add s_X5_add) (g_X5_add : d_X5_add + 1 ≤ d) {J55 : zq_P} (j55 : zq_ok X 7 55 J55) {J67 : zq_P} (j67 : zq_ok X 7 67 J67) {Q : zq_Q} (hq : zq_R X (some .int) 1 Q) : zq_ok X 7 35 (xX11_parts_35 s_X11_isGuest s_X11_bestOfLeasts s_X5_clear s_X10_between s_X5_add J55 J67 Q) := by
  refine zs_aload_n C dX11_parts_35 rfl ?_
  refine zs_iload_n C dX11_parts_36 rfl ?_
  refine zs_iload_n C dX11_parts_37 rfl ?_
  refine zs_callV C h_X11_bestOfLeasts g_X11_bestOfLeasts zy_X11_bestOfLeasts zp_0 (show vwCl[11]? = some (RX11, TX11, 16) from rfl) zw_792 zw_794 zs9_X11_bestOfLeasts dX11_parts_38 ?_
  refine zs_istore_n C dX11_parts_41 rfl (by decide) ?_
  refine zs_iconst C dX11_parts_42 (by decide) ?_
  refine zs_istore C dX11_parts_43 (by decide) ?_
  refine zs_aload_n C dX11_parts_45 rfl ?_
  refine zs_getR C zp_0 zF11 (j := 1) ⟨by decide, rfl⟩ zw_316 dX11_parts_46 ?_
  refine zs_callV C h_X5_clear g_X5_clear zy_X5_clear zp_3 (show vwCl[5]? = some (RX5, TX5, 2) from rfl) zw_650 zw_651 zs9_X5_clear dX11_parts_49 ?_
  refine zs_iconst C dX11_parts_52 (by decide) ?_
  refine zs_istore C dX11_parts_53 (by decide) ?_
  exact j55
def xX11_parts_32 (s_X11_isGuest : zq_Sp) (s_X11_bestOfLeasts : zq_Sp) (s_X5_clear : zq_Sp) (s_X10_between : zq_Sp) (s_X5_add : zq_Sp) (J55 : zq_P) (J67 : zq_P) (Q : zq_Q) (ls : zq_L) (st : List Value) (h : zq_H) : Prop := (zi_push (.int (-2)) (zi_iret Q)) ls st h
theorem kX11_parts_32 {X : zq_X} {d : Nat} (C : zq_C X cX11_parts 7 RX11 d) {d_X11_isGuest : Nat} {s_X11_isGuest : zq_Sp} (h_X11_isGuest : zq_M yX11_isGuest cX11_isGuest 2 (some .boolean) 1 d_X11_isGuest s_X11_isGuest) (g_X11_isGuest : d_X11_isGuest + 1 ≤ d) {d_X11_bestOfLeasts : Nat} {s_X11_bestOfLeasts : zq_Sp} (h_X11_bestOfLeasts : zq_M yX11_bestOfLeasts cX11_bestOfLeasts 8 (some .int) 1 d_X11_bestOfLeasts s_X11_bestOfLeasts) (g_X11_bestOfLeasts : d_X11_bestOfLeasts + 1 ≤ d) {d_X5_clear : Nat} {s_X5_clear : zq_Sp} (h_X5_clear : zq_M yX5_clear cX5_clear 1 none 0 d_X5_clear s_X5_clear) (g_X5_clear : d_X5_clear + 1 ≤ d) {d_X10_between : Nat} {s_X10_between : zq_Sp} (h_X10_between : zq_M yX10_between cX10_between 4 (some .int) 1 d_X10_between s_X10_between) (g_X10_between : d_X10_between + 1 ≤ d) {d_X5_add : Nat} {s_X5_add : zq_Sp} (h_X5_add : zq_M yX5_add cX5_add 3 none 0 d_X5_add s_X5_add) (g_X5_add : d_X5_add + 1 ≤ d) {J55 : zq_P} (j55 : zq_ok X 7 55 J55) {J67 : zq_P} (j67 : zq_ok X 7 67 J67) {Q : zq_Q} (hq : zq_R X (some .int) 1 Q) : zq_ok X 7 32 (xX11_parts_32 s_X11_isGuest s_X11_bestOfLeasts s_X5_clear s_X10_between s_X5_add J55 J67 Q) := by
  refine zs_bipush C dX11_parts_32 (by decide) ?_
  exact zs_iret C hq dX11_parts_34
def xX11_parts_21 (s_X11_isGuest : zq_Sp) (s_X11_bestOfLeasts : zq_Sp) (s_X5_clear : zq_Sp) (s_X10_between : zq_Sp) (s_X5_add : zq_Sp) (J55 : zq_P) (J67 : zq_P) (Q : zq_Q) (ls : zq_L) (st : List Value) (h : zq_H) : Prop := (zi_aload 0 (zi_getR 0 40 (zi_getI 40 3 (zi_iload 2 (zi_if2 (fun x y => y ≤ x) (xX11_parts_35 s_X11_isGuest s_X11_bestOfLeasts s_X5_clear s_X10_between s_X5_add J55 J67 Q) (xX11_parts_32 s_X11_isGuest s_X11_bestOfLeasts s_X5_clear s_X10_between s_X5_add J55 J67 Q)))))) ls st h
theorem kX11_parts_21 {X : zq_X} {d : Nat} (C : zq_C X cX11_parts 7 RX11 d) {d_X11_isGuest : Nat} {s_X11_isGuest : zq_Sp} (h_X11_isGuest : zq_M yX11_isGuest cX11_isGuest 2 (some .boolean) 1 d_X11_isGuest s_X11_isGuest) (g_X11_isGuest : d_X11_isGuest + 1 ≤ d) {d_X11_bestOfLeasts : Nat} {s_X11_bestOfLeasts : zq_Sp} (h_X11_bestOfLeasts : zq_M yX11_bestOfLeasts cX11_bestOfLeasts 8 (some .int) 1 d_X11_bestOfLeasts s_X11_bestOfLeasts) (g_X11_bestOfLeasts : d_X11_bestOfLeasts + 1 ≤ d) {d_X5_clear : Nat} {s_X5_clear : zq_Sp} (h_X5_clear : zq_M yX5_clear cX5_clear 1 none 0 d_X5_clear s_X5_clear) (g_X5_clear : d_X5_clear + 1 ≤ d) {d_X10_between : Nat} {s_X10_between : zq_Sp} (h_X10_between : zq_M yX10_between cX10_between 4 (some .int) 1 d_X10_between s_X10_between) (g_X10_between : d_X10_between + 1 ≤ d) {d_X5_add : Nat} {s_X5_add : zq_Sp} (h_X5_add : zq_M yX5_add cX5_add 3 none 0 d_X5_add s_X5_add) (g_X5_add : d_X5_add + 1 ≤ d) {J55 : zq_P} (j55 : zq_ok X 7 55 J55) {J67 : zq_P} (j67 : zq_ok X 7 67 J67) {Q : zq_Q} (hq : zq_R X (some .int) 1 Q) : zq_ok X 7 21 (xX11_parts_21 s_X11_isGuest s_X11_bestOfLeasts s_X5_clear s_X10_between s_X5_add J55 J67 Q) := by
  refine zs_aload_n C dX11_parts_21 rfl ?_
  refine zs_getR C zp_0 zF11 (j := 11) ⟨by decide, rfl⟩ zw_326 dX11_parts_22 ?_
  refine zs_getIN C zp_40 zF2 (j := 3) ⟨by decide, rfl⟩ zw_273 dX11_parts_25 ?_
  refine zs_iload_n C dX11_parts_28 rfl ?_
  exact zs_icmp_ge C dX11_parts_29 (by decide) (kX11_parts_35 C h_X11_isGuest g_X11_isGuest h_X11_bestOfLeasts g_X11_bestOfLeasts h_X5_clear g_X5_clear h_X10_between g_X10_between h_X5_add g_X5_add j55 j67 hq) (kX11_parts_32 C h_X11_isGuest g_X11_isGuest h_X11_bestOfLeasts g_X11_bestOfLeasts h_X5_clear g_X5_clear h_X10_between g_X10_between h_X5_add g_X5_add j55 j67 hq)
def xX11_parts_19 (s_X11_isGuest : zq_Sp) (s_X11_bestOfLeasts : zq_Sp) (s_X5_clear : zq_Sp) (s_X10_between : zq_Sp) (s_X5_add : zq_Sp) (J55 : zq_P) (J67 : zq_P) (Q : zq_Q) (ls : zq_L) (st : List Value) (h : zq_H) : Prop := (zi_push (.int (-1)) (zi_iret Q)) ls st h
theorem kX11_parts_19 {X : zq_X} {d : Nat} (C : zq_C X cX11_parts 7 RX11 d) {d_X11_isGuest : Nat} {s_X11_isGuest : zq_Sp} (h_X11_isGuest : zq_M yX11_isGuest cX11_isGuest 2 (some .boolean) 1 d_X11_isGuest s_X11_isGuest) (g_X11_isGuest : d_X11_isGuest + 1 ≤ d) {d_X11_bestOfLeasts : Nat} {s_X11_bestOfLeasts : zq_Sp} (h_X11_bestOfLeasts : zq_M yX11_bestOfLeasts cX11_bestOfLeasts 8 (some .int) 1 d_X11_bestOfLeasts s_X11_bestOfLeasts) (g_X11_bestOfLeasts : d_X11_bestOfLeasts + 1 ≤ d) {d_X5_clear : Nat} {s_X5_clear : zq_Sp} (h_X5_clear : zq_M yX5_clear cX5_clear 1 none 0 d_X5_clear s_X5_clear) (g_X5_clear : d_X5_clear + 1 ≤ d) {d_X10_between : Nat} {s_X10_between : zq_Sp} (h_X10_between : zq_M yX10_between cX10_between 4 (some .int) 1 d_X10_between s_X10_between) (g_X10_between : d_X10_between + 1 ≤ d) {d_X5_add : Nat} {s_X5_add : zq_Sp} (h_X5_add : zq_M yX5_add cX5_add 3 none 0 d_X5_add s_X5_add) (g_X5_add : d_X5_add + 1 ≤ d) {J55 : zq_P} (j55 : zq_ok X 7 55 J55) {J67 : zq_P} (j67 : zq_ok X 7 67 J67) {Q : zq_Q} (hq : zq_R X (some .int) 1 Q) : zq_ok X 7 19 (xX11_parts_19 s_X11_isGuest s_X11_bestOfLeasts s_X5_clear s_X10_between s_X5_add J55 J67 Q) := by
  refine zs_iconst C dX11_parts_19 (by decide) ?_
  exact zs_iret C hq dX11_parts_20
def xX11_parts_13 (s_X11_isGuest : zq_Sp) (s_X11_bestOfLeasts : zq_Sp) (s_X5_clear : zq_Sp) (s_X10_between : zq_Sp) (s_X5_add : zq_Sp) (J55 : zq_P) (J67 : zq_P) (Q : zq_Q) (ls : zq_L) (st : List Value) (h : zq_H) : Prop := (zi_iload 2 (zi_push (.int 6) (zi_if2 (fun x y => x ≤ y) (xX11_parts_21 s_X11_isGuest s_X11_bestOfLeasts s_X5_clear s_X10_between s_X5_add J55 J67 Q) (xX11_parts_19 s_X11_isGuest s_X11_bestOfLeasts s_X5_clear s_X10_between s_X5_add J55 J67 Q)))) ls st h
theorem kX11_parts_13 {X : zq_X} {d : Nat} (C : zq_C X cX11_parts 7 RX11 d) {d_X11_isGuest : Nat} {s_X11_isGuest : zq_Sp} (h_X11_isGuest : zq_M yX11_isGuest cX11_isGuest 2 (some .boolean) 1 d_X11_isGuest s_X11_isGuest) (g_X11_isGuest : d_X11_isGuest + 1 ≤ d) {d_X11_bestOfLeasts : Nat} {s_X11_bestOfLeasts : zq_Sp} (h_X11_bestOfLeasts : zq_M yX11_bestOfLeasts cX11_bestOfLeasts 8 (some .int) 1 d_X11_bestOfLeasts s_X11_bestOfLeasts) (g_X11_bestOfLeasts : d_X11_bestOfLeasts + 1 ≤ d) {d_X5_clear : Nat} {s_X5_clear : zq_Sp} (h_X5_clear : zq_M yX5_clear cX5_clear 1 none 0 d_X5_clear s_X5_clear) (g_X5_clear : d_X5_clear + 1 ≤ d) {d_X10_between : Nat} {s_X10_between : zq_Sp} (h_X10_between : zq_M yX10_between cX10_between 4 (some .int) 1 d_X10_between s_X10_between) (g_X10_between : d_X10_between + 1 ≤ d) {d_X5_add : Nat} {s_X5_add : zq_Sp} (h_X5_add : zq_M yX5_add cX5_add 3 none 0 d_X5_add s_X5_add) (g_X5_add : d_X5_add + 1 ≤ d) {J55 : zq_P} (j55 : zq_ok X 7 55 J55) {J67 : zq_P} (j67 : zq_ok X 7 67 J67) {Q : zq_Q} (hq : zq_R X (some .int) 1 Q) : zq_ok X 7 13 (xX11_parts_13 s_X11_isGuest s_X11_bestOfLeasts s_X5_clear s_X10_between s_X5_add J55 J67 Q) := by
  refine zs_iload_n C dX11_parts_13 rfl ?_
  refine zs_bipush C dX11_parts_14 (by decide) ?_
  exact zs_icmp_le C dX11_parts_16 (by decide) (kX11_parts_21 C h_X11_isGuest g_X11_isGuest h_X11_bestOfLeasts g_X11_bestOfLeasts h_X5_clear g_X5_clear h_X10_between g_X10_between h_X5_add g_X5_add j55 j67 hq) (kX11_parts_19 C h_X11_isGuest g_X11_isGuest h_X11_bestOfLeasts g_X11_bestOfLeasts h_X5_clear g_X5_clear h_X10_between g_X10_between h_X5_add g_X5_add j55 j67 hq)
def xX11_parts_8 (s_X11_isGuest : zq_Sp) (s_X11_bestOfLeasts : zq_Sp) (s_X5_clear : zq_Sp) (s_X10_between : zq_Sp) (s_X5_add : zq_Sp) (J55 : zq_P) (J67 : zq_P) (Q : zq_Q) (ls : zq_L) (st : List Value) (h : zq_H) : Prop := (zi_iload 2 (zi_push (.int 1) (zi_if2 (fun x y => x < y) (xX11_parts_19 s_X11_isGuest s_X11_bestOfLeasts s_X5_clear s_X10_between s_X5_add J55 J67 Q) (xX11_parts_13 s_X11_isGuest s_X11_bestOfLeasts s_X5_clear s_X10_between s_X5_add J55 J67 Q)))) ls st h
theorem kX11_parts_8 {X : zq_X} {d : Nat} (C : zq_C X cX11_parts 7 RX11 d) {d_X11_isGuest : Nat} {s_X11_isGuest : zq_Sp} (h_X11_isGuest : zq_M yX11_isGuest cX11_isGuest 2 (some .boolean) 1 d_X11_isGuest s_X11_isGuest) (g_X11_isGuest : d_X11_isGuest + 1 ≤ d) {d_X11_bestOfLeasts : Nat} {s_X11_bestOfLeasts : zq_Sp} (h_X11_bestOfLeasts : zq_M yX11_bestOfLeasts cX11_bestOfLeasts 8 (some .int) 1 d_X11_bestOfLeasts s_X11_bestOfLeasts) (g_X11_bestOfLeasts : d_X11_bestOfLeasts + 1 ≤ d) {d_X5_clear : Nat} {s_X5_clear : zq_Sp} (h_X5_clear : zq_M yX5_clear cX5_clear 1 none 0 d_X5_clear s_X5_clear) (g_X5_clear : d_X5_clear + 1 ≤ d) {d_X10_between : Nat} {s_X10_between : zq_Sp} (h_X10_between : zq_M yX10_between cX10_between 4 (some .int) 1 d_X10_between s_X10_between) (g_X10_between : d_X10_between + 1 ≤ d) {d_X5_add : Nat} {s_X5_add : zq_Sp} (h_X5_add : zq_M yX5_add cX5_add 3 none 0 d_X5_add s_X5_add) (g_X5_add : d_X5_add + 1 ≤ d) {J55 : zq_P} (j55 : zq_ok X 7 55 J55) {J67 : zq_P} (j67 : zq_ok X 7 67 J67) {Q : zq_Q} (hq : zq_R X (some .int) 1 Q) : zq_ok X 7 8 (xX11_parts_8 s_X11_isGuest s_X11_bestOfLeasts s_X5_clear s_X10_between s_X5_add J55 J67 Q) := by
  refine zs_iload_n C dX11_parts_8 rfl ?_
  refine zs_iconst C dX11_parts_9 (by decide) ?_
  exact zs_icmp_lt C dX11_parts_10 (by decide) (kX11_parts_19 C h_X11_isGuest g_X11_isGuest h_X11_bestOfLeasts g_X11_bestOfLeasts h_X5_clear g_X5_clear h_X10_between g_X10_between h_X5_add g_X5_add j55 j67 hq) (kX11_parts_13 C h_X11_isGuest g_X11_isGuest h_X11_bestOfLeasts g_X11_bestOfLeasts h_X5_clear g_X5_clear h_X10_between g_X10_between h_X5_add g_X5_add j55 j67 hq)
def xX11_parts_0 (s_X11_isGuest : zq_Sp) (s_X11_bestOfLeasts : zq_Sp) (s_X5_clear : zq_Sp) (s_X10_between : zq_Sp) (s_X5_add : zq_Sp) (J55 : zq_P) (J67 : zq_P) (Q : zq_Q) (ls : zq_L) (st : List Value) (h : zq_H) : Prop := (zi_aload 0 (zi_iload 1 (zi_callV 1 0 s_X11_isGuest (zi_if1 (fun x => x = 0) (xX11_parts_19 s_X11_isGuest s_X11_bestOfLeasts s_X5_clear s_X10_between s_X5_add J55 J67 Q) (xX11_parts_8 s_X11_isGuest s_X11_bestOfLeasts s_X5_clear s_X10_between s_X5_add J55 J67 Q))))) ls st h
theorem kX11_parts_0 {X : zq_X} {d : Nat} (C : zq_C X cX11_parts 7 RX11 d) {d_X11_isGuest : Nat} {s_X11_isGuest : zq_Sp} (h_X11_isGuest : zq_M yX11_isGuest cX11_isGuest 2 (some .boolean) 1 d_X11_isGuest s_X11_isGuest) (g_X11_isGuest : d_X11_isGuest + 1 ≤ d) {d_X11_bestOfLeasts : Nat} {s_X11_bestOfLeasts : zq_Sp} (h_X11_bestOfLeasts : zq_M yX11_bestOfLeasts cX11_bestOfLeasts 8 (some .int) 1 d_X11_bestOfLeasts s_X11_bestOfLeasts) (g_X11_bestOfLeasts : d_X11_bestOfLeasts + 1 ≤ d) {d_X5_clear : Nat} {s_X5_clear : zq_Sp} (h_X5_clear : zq_M yX5_clear cX5_clear 1 none 0 d_X5_clear s_X5_clear) (g_X5_clear : d_X5_clear + 1 ≤ d) {d_X10_between : Nat} {s_X10_between : zq_Sp} (h_X10_between : zq_M yX10_between cX10_between 4 (some .int) 1 d_X10_between s_X10_between) (g_X10_between : d_X10_between + 1 ≤ d) {d_X5_add : Nat} {s_X5_add : zq_Sp} (h_X5_add : zq_M yX5_add cX5_add 3 none 0 d_X5_add s_X5_add) (g_X5_add : d_X5_add + 1 ≤ d) {J55 : zq_P} (j55 : zq_ok X 7 55 J55) {J67 : zq_P} (j67 : zq_ok X 7 67 J67) {Q : zq_Q} (hq : zq_R X (some .int) 1 Q) : zq_ok X 7 0 (xX11_parts_0 s_X11_isGuest s_X11_bestOfLeasts s_X5_clear s_X10_between s_X5_add J55 J67 Q) := by
  refine zs_aload_n C dX11_parts_0 rfl ?_
  refine zs_iload_n C dX11_parts_1 rfl ?_
  refine zs_callV C h_X11_isGuest g_X11_isGuest zy_X11_isGuest zp_0 (show vwCl[11]? = some (RX11, TX11, 16) from rfl) zw_546 zw_548 zs9_X11_isGuest dX11_parts_2 ?_
  exact zs_if_eq C dX11_parts_5 (by decide) (kX11_parts_19 C h_X11_isGuest g_X11_isGuest h_X11_bestOfLeasts g_X11_bestOfLeasts h_X5_clear g_X5_clear h_X10_between g_X10_between h_X5_add g_X5_add j55 j67 hq) (kX11_parts_8 C h_X11_isGuest g_X11_isGuest h_X11_bestOfLeasts g_X11_bestOfLeasts h_X5_clear g_X5_clear h_X10_between g_X10_between h_X5_add g_X5_add j55 j67 hq)
theorem mX11_parts {d : Nat} {spec : zq_Sp} {σ55 : Type} {σ67 : Type} {d_X11_isGuest : Nat} {s_X11_isGuest : zq_Sp} (h_X11_isGuest : zq_M yX11_isGuest cX11_isGuest 2 (some .boolean) 1 d_X11_isGuest s_X11_isGuest) (g_X11_isGuest : d_X11_isGuest + 1 ≤ d) {d_X11_bestOfLeasts : Nat} {s_X11_bestOfLeasts : zq_Sp} (h_X11_bestOfLeasts : zq_M yX11_bestOfLeasts cX11_bestOfLeasts 8 (some .int) 1 d_X11_bestOfLeasts s_X11_bestOfLeasts) (g_X11_bestOfLeasts : d_X11_bestOfLeasts + 1 ≤ d) {d_X5_clear : Nat} {s_X5_clear : zq_Sp} (h_X5_clear : zq_M yX5_clear cX5_clear 1 none 0 d_X5_clear s_X5_clear) (g_X5_clear : d_X5_clear + 1 ≤ d) {d_X10_between : Nat} {s_X10_between : zq_Sp} (h_X10_between : zq_M yX10_between cX10_between 4 (some .int) 1 d_X10_between s_X10_between) (g_X10_between : d_X10_between + 1 ≤ d) {d_X5_add : Nat} {s_X5_add : zq_Sp} (h_X5_add : zq_M yX5_add cX5_add 3 none 0 d_X5_add s_X5_add) (g_X5_add : d_X5_add + 1 ≤ d) (μ55 : σ55 → Nat) (I55 : zq_Q → σ55 → zq_P) (μ67 : σ67 → Nat) (I67 : zq_Q → σ67 → zq_P) (v : ∀ args h Q, spec args h Q → (zq_a args).length ≤ 7 ∧ xX11_parts_0 s_X11_isGuest s_X11_bestOfLeasts s_X5_clear s_X10_between s_X5_add (fun ls st h => ∃ b, I55 Q b ls st h) (fun ls st h => ∃ b, I67 Q b ls st h) Q (zq_l0 7 args) [] h) (v55 : ∀ Q a ls st h, I55 Q a ls st h → xX11_parts_55 s_X11_isGuest s_X11_bestOfLeasts s_X5_clear s_X10_between s_X5_add (fun ls st h => ∃ b, μ55 b < μ55 a ∧ I55 Q b ls st h) (fun ls st h => ∃ b, μ67 b < μ55 a ∧ I67 Q b ls st h) Q ls st h) (v67 : ∀ Q a ls st h, I67 Q a ls st h → xX11_parts_67 s_X11_isGuest s_X11_bestOfLeasts s_X5_clear s_X10_between s_X5_add (fun ls st h => ∃ b, μ55 b < μ67 a ∧ I55 Q b ls st h) (fun ls st h => ∃ b, μ67 b < μ67 a ∧ I67 Q b ls st h) Q ls st h) : zq_M yX11_parts cX11_parts 7 (some .int) 1 d spec := by
  refine zq_met (by decide +kernel) (by decide) (fun X Q args h C hq hs => ⟨(v args h Q hs).1, _, ?_, (v args h Q hs).2⟩)
  have hl := zq_loop2 (X := X) (nL := 7) (pc1 := 55) (pc2 := 67) μ55 μ67 (I55 Q) (I67 Q) (fun J55 J67 => xX11_parts_55 s_X11_isGuest s_X11_bestOfLeasts s_X5_clear s_X10_between s_X5_add J55 J67 Q) (fun J55 J67 => xX11_parts_67 s_X11_isGuest s_X11_bestOfLeasts s_X5_clear s_X10_between s_X5_add J55 J67 Q) (fun j55 j67 => kX11_parts_55 C h_X11_isGuest g_X11_isGuest h_X11_bestOfLeasts g_X11_bestOfLeasts h_X5_clear g_X5_clear h_X10_between g_X10_between h_X5_add g_X5_add j55 j67 hq) (fun j55 j67 => kX11_parts_67 C h_X11_isGuest g_X11_isGuest h_X11_bestOfLeasts g_X11_bestOfLeasts h_X5_clear g_X5_clear h_X10_between g_X10_between h_X5_add g_X5_add j55 j67 hq) (v55 Q) (v67 Q)
  exact kX11_parts_0 C h_X11_isGuest g_X11_isGuest h_X11_bestOfLeasts g_X11_bestOfLeasts h_X5_clear g_X5_clear h_X10_between g_X10_between h_X5_add g_X5_add hl.1 hl.2 hq
/-! ToOneCrumb.calm()I -/
theorem dX11_calm_0 : decode cX11_calm 0 = .ok (.aload_n 0, 1) := by decide +kernel
theorem dX11_calm_1 : decode cX11_calm 1 = .ok (.getfield 26, 3) := by decide +kernel
theorem dX11_calm_4 : decode cX11_calm 4 = .ok (.getfield 243, 3) := by decide +kernel
theorem dX11_calm_7 : decode cX11_calm 7 = .ok (.iconst 4, 1) := by decide +kernel
theorem dX11_calm_8 : decode cX11_calm 8 = .ok (.if_icmp .le 6, 3) := by decide +kernel
theorem dX11_calm_11 : decode cX11_calm 11 = .ok (.bipush (-3), 2) := by decide +kernel
theorem dX11_calm_13 : decode cX11_calm 13 = .ok (.ireturn, 1) := by decide +kernel
theorem dX11_calm_14 : decode cX11_calm 14 = .ok (.aload_n 0, 1) := by decide +kernel
theorem dX11_calm_15 : decode cX11_calm 15 = .ok (.getfield 26, 3) := by decide +kernel
theorem dX11_calm_18 : decode cX11_calm 18 = .ok (.getfield 243, 3) := by decide +kernel
theorem dX11_calm_21 : decode cX11_calm 21 = .ok (.ifCond .ne 6, 3) := by decide +kernel
theorem dX11_calm_24 : decode cX11_calm 24 = .ok (.bipush (-2), 2) := by decide +kernel
theorem dX11_calm_26 : decode cX11_calm 26 = .ok (.ireturn, 1) := by decide +kernel
theorem dX11_calm_27 : decode cX11_calm 27 = .ok (.aload_n 0, 1) := by decide +kernel
theorem dX11_calm_28 : decode cX11_calm 28 = .ok (.getfield 19, 3) := by decide +kernel
theorem dX11_calm_31 : decode cX11_calm 31 = .ok (.invokevirtual 236, 3) := by decide +kernel
theorem dX11_calm_34 : decode cX11_calm 34 = .ok (.aload_n 0, 1) := by decide +kernel
theorem dX11_calm_35 : decode cX11_calm 35 = .ok (.getfield 61, 3) := by decide +kernel
theorem dX11_calm_38 : decode cX11_calm 38 = .ok (.aload_n 0, 1) := by decide +kernel
theorem dX11_calm_39 : decode cX11_calm 39 = .ok (.getfield 33, 3) := by decide +kernel
theorem dX11_calm_42 : decode cX11_calm 42 = .ok (.aload_n 0, 1) := by decide +kernel
theorem dX11_calm_43 : decode cX11_calm 43 = .ok (.getfield 26, 3) := by decide +kernel
theorem dX11_calm_46 : decode cX11_calm 46 = .ok (.getfield 243, 3) := by decide +kernel
theorem dX11_calm_49 : decode cX11_calm 49 = .ok (.aload_n 0, 1) := by decide +kernel
theorem dX11_calm_50 : decode cX11_calm 50 = .ok (.getfield 19, 3) := by decide +kernel
theorem dX11_calm_53 : decode cX11_calm 53 = .ok (.invokevirtual 282, 3) := by decide +kernel
theorem dX11_calm_56 : decode cX11_calm 56 = .ok (.ireturn, 1) := by decide +kernel
def xX11_calm_27 (s_X5_clear : zq_Sp) (s_X7_ways : zq_Sp) (Q : zq_Q) (ls : zq_L) (st : List Value) (h : zq_H) : Prop := (zi_aload 0 (zi_getR 0 3 (zi_callV 0 3 s_X5_clear (zi_aload 0 (zi_getR 0 29 (zi_aload 0 (zi_getR 0 9 (zi_aload 0 (zi_getR 0 5 (zi_getI 5 3 (zi_aload 0 (zi_getR 0 3 (zi_callV 3 29 s_X7_ways (zi_iret Q)))))))))))))) ls st h
theorem kX11_calm_27 {X : zq_X} {d : Nat} (C : zq_C X cX11_calm 1 RX11 d) {d_X5_clear : Nat} {s_X5_clear : zq_Sp} (h_X5_clear : zq_M yX5_clear cX5_clear 1 none 0 d_X5_clear s_X5_clear) (g_X5_clear : d_X5_clear + 1 ≤ d) {d_X7_ways : Nat} {s_X7_ways : zq_Sp} (h_X7_ways : zq_M yX7_ways cX7_ways 5 (some .int) 1 d_X7_ways s_X7_ways) (g_X7_ways : d_X7_ways + 1 ≤ d) {Q : zq_Q} (hq : zq_R X (some .int) 1 Q) : zq_ok X 1 27 (xX11_calm_27 s_X5_clear s_X7_ways Q) := by
  refine zs_aload_n C dX11_calm_27 rfl ?_
  refine zs_getR C zp_0 zF11 (j := 1) ⟨by decide, rfl⟩ zw_316 dX11_calm_28 ?_
  refine zs_callV C h_X5_clear g_X5_clear zy_X5_clear zp_3 (show vwCl[5]? = some (RX5, TX5, 2) from rfl) zw_650 zw_651 zs9_X5_clear dX11_calm_31 ?_
  refine zs_aload_n C dX11_calm_34 rfl ?_
  refine zs_getR C zp_0 zF11 (j := 7) ⟨by decide, rfl⟩ zw_322 dX11_calm_35 ?_
  refine zs_aload_n C dX11_calm_38 rfl ?_
  refine zs_getR C zp_0 zF11 (j := 3) ⟨by decide, rfl⟩ zw_318 dX11_calm_39 ?_
  refine zs_aload_n C dX11_calm_42 rfl ?_
  refine zs_getR C zp_0 zF11 (j := 2) ⟨by decide, rfl⟩ zw_317 dX11_calm_43 ?_
  refine zs_getIN C zp_5 zF3 (j := 3) ⟨by decide, rfl⟩ zw_85 dX11_calm_46 ?_
  refine zs_aload_n C dX11_calm_49 rfl ?_
  refine zs_getR C zp_0 zF11 (j := 1) ⟨by decide, rfl⟩ zw_316 dX11_calm_50 ?_
  refine zs_callV C h_X7_ways g_X7_ways zy_X7_ways zp_29 (show vwCl[7]? = some (RX7, TX7, 7) from rfl) zw_800 zw_801 zs9_X7_ways dX11_calm_53 ?_
  exact zs_iret C hq dX11_calm_56
def xX11_calm_24 (s_X5_clear : zq_Sp) (s_X7_ways : zq_Sp) (Q : zq_Q) (ls : zq_L) (st : List Value) (h : zq_H) : Prop := (zi_push (.int (-2)) (zi_iret Q)) ls st h
theorem kX11_calm_24 {X : zq_X} {d : Nat} (C : zq_C X cX11_calm 1 RX11 d) {d_X5_clear : Nat} {s_X5_clear : zq_Sp} (h_X5_clear : zq_M yX5_clear cX5_clear 1 none 0 d_X5_clear s_X5_clear) (g_X5_clear : d_X5_clear + 1 ≤ d) {d_X7_ways : Nat} {s_X7_ways : zq_Sp} (h_X7_ways : zq_M yX7_ways cX7_ways 5 (some .int) 1 d_X7_ways s_X7_ways) (g_X7_ways : d_X7_ways + 1 ≤ d) {Q : zq_Q} (hq : zq_R X (some .int) 1 Q) : zq_ok X 1 24 (xX11_calm_24 s_X5_clear s_X7_ways Q) := by
  refine zs_bipush C dX11_calm_24 (by decide) ?_
  exact zs_iret C hq dX11_calm_26
def xX11_calm_14 (s_X5_clear : zq_Sp) (s_X7_ways : zq_Sp) (Q : zq_Q) (ls : zq_L) (st : List Value) (h : zq_H) : Prop := (zi_aload 0 (zi_getR 0 5 (zi_getI 5 3 (zi_if1 (fun x => x = 0) (xX11_calm_24 s_X5_clear s_X7_ways Q) (xX11_calm_27 s_X5_clear s_X7_ways Q))))) ls st h
theorem kX11_calm_14 {X : zq_X} {d : Nat} (C : zq_C X cX11_calm 1 RX11 d) {d_X5_clear : Nat} {s_X5_clear : zq_Sp} (h_X5_clear : zq_M yX5_clear cX5_clear 1 none 0 d_X5_clear s_X5_clear) (g_X5_clear : d_X5_clear + 1 ≤ d) {d_X7_ways : Nat} {s_X7_ways : zq_Sp} (h_X7_ways : zq_M yX7_ways cX7_ways 5 (some .int) 1 d_X7_ways s_X7_ways) (g_X7_ways : d_X7_ways + 1 ≤ d) {Q : zq_Q} (hq : zq_R X (some .int) 1 Q) : zq_ok X 1 14 (xX11_calm_14 s_X5_clear s_X7_ways Q) := by
  refine zs_aload_n C dX11_calm_14 rfl ?_
  refine zs_getR C zp_0 zF11 (j := 2) ⟨by decide, rfl⟩ zw_317 dX11_calm_15 ?_
  refine zs_getIN C zp_5 zF3 (j := 3) ⟨by decide, rfl⟩ zw_85 dX11_calm_18 ?_
  exact zs_if_ne C dX11_calm_21 (by decide) (kX11_calm_27 C h_X5_clear g_X5_clear h_X7_ways g_X7_ways hq) (kX11_calm_24 C h_X5_clear g_X5_clear h_X7_ways g_X7_ways hq)
def xX11_calm_11 (s_X5_clear : zq_Sp) (s_X7_ways : zq_Sp) (Q : zq_Q) (ls : zq_L) (st : List Value) (h : zq_H) : Prop := (zi_push (.int (-3)) (zi_iret Q)) ls st h
theorem kX11_calm_11 {X : zq_X} {d : Nat} (C : zq_C X cX11_calm 1 RX11 d) {d_X5_clear : Nat} {s_X5_clear : zq_Sp} (h_X5_clear : zq_M yX5_clear cX5_clear 1 none 0 d_X5_clear s_X5_clear) (g_X5_clear : d_X5_clear + 1 ≤ d) {d_X7_ways : Nat} {s_X7_ways : zq_Sp} (h_X7_ways : zq_M yX7_ways cX7_ways 5 (some .int) 1 d_X7_ways s_X7_ways) (g_X7_ways : d_X7_ways + 1 ≤ d) {Q : zq_Q} (hq : zq_R X (some .int) 1 Q) : zq_ok X 1 11 (xX11_calm_11 s_X5_clear s_X7_ways Q) := by
  refine zs_bipush C dX11_calm_11 (by decide) ?_
  exact zs_iret C hq dX11_calm_13
def xX11_calm_0 (s_X5_clear : zq_Sp) (s_X7_ways : zq_Sp) (Q : zq_Q) (ls : zq_L) (st : List Value) (h : zq_H) : Prop := (zi_aload 0 (zi_getR 0 5 (zi_getI 5 3 (zi_push (.int 4) (zi_if2 (fun x y => x ≤ y) (xX11_calm_14 s_X5_clear s_X7_ways Q) (xX11_calm_11 s_X5_clear s_X7_ways Q)))))) ls st h
theorem kX11_calm_0 {X : zq_X} {d : Nat} (C : zq_C X cX11_calm 1 RX11 d) {d_X5_clear : Nat} {s_X5_clear : zq_Sp} (h_X5_clear : zq_M yX5_clear cX5_clear 1 none 0 d_X5_clear s_X5_clear) (g_X5_clear : d_X5_clear + 1 ≤ d) {d_X7_ways : Nat} {s_X7_ways : zq_Sp} (h_X7_ways : zq_M yX7_ways cX7_ways 5 (some .int) 1 d_X7_ways s_X7_ways) (g_X7_ways : d_X7_ways + 1 ≤ d) {Q : zq_Q} (hq : zq_R X (some .int) 1 Q) : zq_ok X 1 0 (xX11_calm_0 s_X5_clear s_X7_ways Q) := by
  refine zs_aload_n C dX11_calm_0 rfl ?_
  refine zs_getR C zp_0 zF11 (j := 2) ⟨by decide, rfl⟩ zw_317 dX11_calm_1 ?_
  refine zs_getIN C zp_5 zF3 (j := 3) ⟨by decide, rfl⟩ zw_85 dX11_calm_4 ?_
  refine zs_iconst C dX11_calm_7 (by decide) ?_
  exact zs_icmp_le C dX11_calm_8 (by decide) (kX11_calm_14 C h_X5_clear g_X5_clear h_X7_ways g_X7_ways hq) (kX11_calm_11 C h_X5_clear g_X5_clear h_X7_ways g_X7_ways hq)
theorem mX11_calm {d : Nat} {spec : zq_Sp} {d_X5_clear : Nat} {s_X5_clear : zq_Sp} (h_X5_clear : zq_M yX5_clear cX5_clear 1 none 0 d_X5_clear s_X5_clear) (g_X5_clear : d_X5_clear + 1 ≤ d) {d_X7_ways : Nat} {s_X7_ways : zq_Sp} (h_X7_ways : zq_M yX7_ways cX7_ways 5 (some .int) 1 d_X7_ways s_X7_ways) (g_X7_ways : d_X7_ways + 1 ≤ d) (v : ∀ args h Q, spec args h Q → (zq_a args).length ≤ 1 ∧ xX11_calm_0 s_X5_clear s_X7_ways Q (zq_l0 1 args) [] h) : zq_M yX11_calm cX11_calm 1 (some .int) 1 d spec := by
  refine zq_met (by decide +kernel) (by decide) (fun X Q args h C hq hs => ⟨(v args h Q hs).1, _, ?_, (v args h Q hs).2⟩)
  exact kX11_calm_0 C h_X5_clear g_X5_clear h_X7_ways g_X7_ways hq
/-! ToOneCrumb.cuts(II)I -/
theorem dX11_cuts_0 : decode cX11_cuts 0 = .ok (.aload_n 0, 1) := by decide +kernel
theorem dX11_cuts_1 : decode cX11_cuts 1 = .ok (.iload_n 1, 1) := by decide +kernel
theorem dX11_cuts_2 : decode cX11_cuts 2 = .ok (.invokevirtual 171, 3) := by decide +kernel
theorem dX11_cuts_5 : decode cX11_cuts 5 = .ok (.ifCond .eq 26, 3) := by decide +kernel
theorem dX11_cuts_8 : decode cX11_cuts 8 = .ok (.aload_n 0, 1) := by decide +kernel
theorem dX11_cuts_9 : decode cX11_cuts 9 = .ok (.iload_n 2, 1) := by decide +kernel
theorem dX11_cuts_10 : decode cX11_cuts 10 = .ok (.invokevirtual 171, 3) := by decide +kernel
theorem dX11_cuts_13 : decode cX11_cuts 13 = .ok (.ifCond .eq 18, 3) := by decide +kernel
theorem dX11_cuts_16 : decode cX11_cuts 16 = .ok (.iload_n 1, 1) := by decide +kernel
theorem dX11_cuts_17 : decode cX11_cuts 17 = .ok (.iload_n 2, 1) := by decide +kernel
theorem dX11_cuts_18 : decode cX11_cuts 18 = .ok (.if_icmp .eq 13, 3) := by decide +kernel
theorem dX11_cuts_21 : decode cX11_cuts 21 = .ok (.aload_n 0, 1) := by decide +kernel
theorem dX11_cuts_22 : decode cX11_cuts 22 = .ok (.getfield 82, 3) := by decide +kernel
theorem dX11_cuts_25 : decode cX11_cuts 25 = .ok (.getfield 128, 3) := by decide +kernel
theorem dX11_cuts_28 : decode cX11_cuts 28 = .ok (.ifCond .ne 5, 3) := by decide +kernel
theorem dX11_cuts_31 : decode cX11_cuts 31 = .ok (.iconst (-1), 1) := by decide +kernel
theorem dX11_cuts_32 : decode cX11_cuts 32 = .ok (.ireturn, 1) := by decide +kernel
theorem dX11_cuts_33 : decode cX11_cuts 33 = .ok (.aload_n 0, 1) := by decide +kernel
theorem dX11_cuts_34 : decode cX11_cuts 34 = .ok (.getfield 33, 3) := by decide +kernel
theorem dX11_cuts_37 : decode cX11_cuts 37 = .ok (.iload_n 1, 1) := by decide +kernel
theorem dX11_cuts_38 : decode cX11_cuts 38 = .ok (.invokevirtual 186, 3) := by decide +kernel
theorem dX11_cuts_41 : decode cX11_cuts 41 = .ok (.istore_n 3, 1) := by decide +kernel
theorem dX11_cuts_42 : decode cX11_cuts 42 = .ok (.iconst 0, 1) := by decide +kernel
theorem dX11_cuts_43 : decode cX11_cuts 43 = .ok (.istore 4, 2) := by decide +kernel
theorem dX11_cuts_45 : decode cX11_cuts 45 = .ok (.iload_n 3, 1) := by decide +kernel
theorem dX11_cuts_46 : decode cX11_cuts 46 = .ok (.istore 5, 2) := by decide +kernel
theorem dX11_cuts_48 : decode cX11_cuts 48 = .ok (.iconst 1, 1) := by decide +kernel
theorem dX11_cuts_49 : decode cX11_cuts 49 = .ok (.istore 6, 2) := by decide +kernel
theorem dX11_cuts_51 : decode cX11_cuts 51 = .ok (.iload 6, 2) := by decide +kernel
theorem dX11_cuts_53 : decode cX11_cuts 53 = .ok (.aload_n 0, 1) := by decide +kernel
theorem dX11_cuts_54 : decode cX11_cuts 54 = .ok (.getfield 82, 3) := by decide +kernel
theorem dX11_cuts_57 : decode cX11_cuts 57 = .ok (.getfield 128, 3) := by decide +kernel
theorem dX11_cuts_60 : decode cX11_cuts 60 = .ok (.if_icmp .gt 44, 3) := by decide +kernel
theorem dX11_cuts_63 : decode cX11_cuts 63 = .ok (.iload_n 3, 1) := by decide +kernel
theorem dX11_cuts_64 : decode cX11_cuts 64 = .ok (.iconst 2, 1) := by decide +kernel
theorem dX11_cuts_65 : decode cX11_cuts 65 = .ok (.aload_n 0, 1) := by decide +kernel
theorem dX11_cuts_66 : decode cX11_cuts 66 = .ok (.getfield 33, 3) := by decide +kernel
theorem dX11_cuts_69 : decode cX11_cuts 69 = .ok (.iload_n 1, 1) := by decide +kernel
theorem dX11_cuts_70 : decode cX11_cuts 70 = .ok (.iconst 0, 1) := by decide +kernel
theorem dX11_cuts_71 : decode cX11_cuts 71 = .ok (.iload 6, 2) := by decide +kernel
theorem dX11_cuts_73 : decode cX11_cuts 73 = .ok (.invokevirtual 276, 3) := by decide +kernel
theorem dX11_cuts_76 : decode cX11_cuts 76 = .ok (.imul, 1) := by decide +kernel
theorem dX11_cuts_77 : decode cX11_cuts 77 = .ok (.isub, 1) := by decide +kernel
theorem dX11_cuts_78 : decode cX11_cuts 78 = .ok (.invokestatic 286, 3) := by decide +kernel
theorem dX11_cuts_81 : decode cX11_cuts 81 = .ok (.istore 7, 2) := by decide +kernel
theorem dX11_cuts_83 : decode cX11_cuts 83 = .ok (.iload 7, 2) := by decide +kernel
theorem dX11_cuts_85 : decode cX11_cuts 85 = .ok (.iload 5, 2) := by decide +kernel
theorem dX11_cuts_87 : decode cX11_cuts 87 = .ok (.if_icmp .ge 11, 3) := by decide +kernel
theorem dX11_cuts_90 : decode cX11_cuts 90 = .ok (.iload 7, 2) := by decide +kernel
theorem dX11_cuts_92 : decode cX11_cuts 92 = .ok (.istore 5, 2) := by decide +kernel
theorem dX11_cuts_94 : decode cX11_cuts 94 = .ok (.iload 6, 2) := by decide +kernel
theorem dX11_cuts_96 : decode cX11_cuts 96 = .ok (.istore 4, 2) := by decide +kernel
theorem dX11_cuts_98 : decode cX11_cuts 98 = .ok (.iinc 6 1, 3) := by decide +kernel
theorem dX11_cuts_101 : decode cX11_cuts 101 = .ok (.goto (-50), 3) := by decide +kernel
theorem dX11_cuts_104 : decode cX11_cuts 104 = .ok (.aload_n 0, 1) := by decide +kernel
theorem dX11_cuts_105 : decode cX11_cuts 105 = .ok (.getfield 33, 3) := by decide +kernel
theorem dX11_cuts_108 : decode cX11_cuts 108 = .ok (.iload_n 2, 1) := by decide +kernel
theorem dX11_cuts_109 : decode cX11_cuts 109 = .ok (.iconst 0, 1) := by decide +kernel
theorem dX11_cuts_110 : decode cX11_cuts 110 = .ok (.iload 4, 2) := by decide +kernel
theorem dX11_cuts_112 : decode cX11_cuts 112 = .ok (.invokevirtual 276, 3) := by decide +kernel
theorem dX11_cuts_115 : decode cX11_cuts 115 = .ok (.istore 6, 2) := by decide +kernel
theorem dX11_cuts_117 : decode cX11_cuts 117 = .ok (.aload_n 0, 1) := by decide +kernel
theorem dX11_cuts_118 : decode cX11_cuts 118 = .ok (.getfield 33, 3) := by decide +kernel
theorem dX11_cuts_121 : decode cX11_cuts 121 = .ok (.iload_n 2, 1) := by decide +kernel
theorem dX11_cuts_122 : decode cX11_cuts 122 = .ok (.iload 4, 2) := by decide +kernel
theorem dX11_cuts_124 : decode cX11_cuts 124 = .ok (.aload_n 0, 1) := by decide +kernel
theorem dX11_cuts_125 : decode cX11_cuts 125 = .ok (.getfield 82, 3) := by decide +kernel
theorem dX11_cuts_128 : decode cX11_cuts 128 = .ok (.getfield 128, 3) := by decide +kernel
theorem dX11_cuts_131 : decode cX11_cuts 131 = .ok (.invokevirtual 276, 3) := by decide +kernel
theorem dX11_cuts_134 : decode cX11_cuts 134 = .ok (.istore 7, 2) := by decide +kernel
theorem dX11_cuts_136 : decode cX11_cuts 136 = .ok (.iload 6, 2) := by decide +kernel
theorem dX11_cuts_138 : decode cX11_cuts 138 = .ok (.iload 7, 2) := by decide +kernel
theorem dX11_cuts_140 : decode cX11_cuts 140 = .ok (.if_icmp .lt 7, 3) := by decide +kernel
theorem dX11_cuts_143 : decode cX11_cuts 143 = .ok (.iconst 1, 1) := by decide +kernel
theorem dX11_cuts_144 : decode cX11_cuts 144 = .ok (.goto 4, 3) := by decide +kernel
theorem dX11_cuts_147 : decode cX11_cuts 147 = .ok (.iconst 0, 1) := by decide +kernel
theorem dX11_cuts_148 : decode cX11_cuts 148 = .ok (.istore 8, 2) := by decide +kernel
theorem dX11_cuts_150 : decode cX11_cuts 150 = .ok (.aload_n 0, 1) := by decide +kernel
theorem dX11_cuts_151 : decode cX11_cuts 151 = .ok (.getfield 33, 3) := by decide +kernel
theorem dX11_cuts_154 : decode cX11_cuts 154 = .ok (.iload_n 1, 1) := by decide +kernel
theorem dX11_cuts_155 : decode cX11_cuts 155 = .ok (.iconst 0, 1) := by decide +kernel
theorem dX11_cuts_156 : decode cX11_cuts 156 = .ok (.iload 4, 2) := by decide +kernel
theorem dX11_cuts_158 : decode cX11_cuts 158 = .ok (.invokevirtual 276, 3) := by decide +kernel
theorem dX11_cuts_161 : decode cX11_cuts 161 = .ok (.istore 9, 2) := by decide +kernel
theorem dX11_cuts_163 : decode cX11_cuts 163 = .ok (.aload_n 0, 1) := by decide +kernel
theorem dX11_cuts_164 : decode cX11_cuts 164 = .ok (.getfield 19, 3) := by decide +kernel
theorem dX11_cuts_167 : decode cX11_cuts 167 = .ok (.invokevirtual 236, 3) := by decide +kernel
theorem dX11_cuts_170 : decode cX11_cuts 170 = .ok (.aload_n 0, 1) := by decide +kernel
theorem dX11_cuts_171 : decode cX11_cuts 171 = .ok (.getfield 19, 3) := by decide +kernel
theorem dX11_cuts_174 : decode cX11_cuts 174 = .ok (.iload 8, 2) := by decide +kernel
theorem dX11_cuts_176 : decode cX11_cuts 176 = .ok (.ifCond .eq 11, 3) := by decide +kernel
theorem dX11_cuts_179 : decode cX11_cuts 179 = .ok (.iload_n 3, 1) := by decide +kernel
theorem dX11_cuts_180 : decode cX11_cuts 180 = .ok (.iload 9, 2) := by decide +kernel
theorem dX11_cuts_182 : decode cX11_cuts 182 = .ok (.isub, 1) := by decide +kernel
theorem dX11_cuts_183 : decode cX11_cuts 183 = .ok (.i2l, 1) := by decide +kernel
theorem dX11_cuts_184 : decode cX11_cuts 184 = .ok (.goto 6, 3) := by decide +kernel
theorem dX11_cuts_187 : decode cX11_cuts 187 = .ok (.iload 9, 2) := by decide +kernel
theorem dX11_cuts_189 : decode cX11_cuts 189 = .ok (.i2l, 1) := by decide +kernel
theorem dX11_cuts_190 : decode cX11_cuts 190 = .ok (.invokevirtual 237, 3) := by decide +kernel
theorem dX11_cuts_193 : decode cX11_cuts 193 = .ok (.aload_n 0, 1) := by decide +kernel
theorem dX11_cuts_194 : decode cX11_cuts 194 = .ok (.getfield 19, 3) := by decide +kernel
theorem dX11_cuts_197 : decode cX11_cuts 197 = .ok (.iload 8, 2) := by decide +kernel
theorem dX11_cuts_199 : decode cX11_cuts 199 = .ok (.ifCond .eq 9, 3) := by decide +kernel
theorem dX11_cuts_202 : decode cX11_cuts 202 = .ok (.iload 6, 2) := by decide +kernel
theorem dX11_cuts_204 : decode cX11_cuts 204 = .ok (.i2l, 1) := by decide +kernel
theorem dX11_cuts_205 : decode cX11_cuts 205 = .ok (.goto 6, 3) := by decide +kernel
theorem dX11_cuts_208 : decode cX11_cuts 208 = .ok (.iload 7, 2) := by decide +kernel
theorem dX11_cuts_210 : decode cX11_cuts 210 = .ok (.i2l, 1) := by decide +kernel
theorem dX11_cuts_211 : decode cX11_cuts 211 = .ok (.invokevirtual 237, 3) := by decide +kernel
theorem dX11_cuts_214 : decode cX11_cuts 214 = .ok (.aload_n 0, 1) := by decide +kernel
theorem dX11_cuts_215 : decode cX11_cuts 215 = .ok (.getfield 19, 3) := by decide +kernel
theorem dX11_cuts_218 : decode cX11_cuts 218 = .ok (.iload 8, 2) := by decide +kernel
theorem dX11_cuts_220 : decode cX11_cuts 220 = .ok (.ifCond .eq 7, 3) := by decide +kernel
theorem dX11_cuts_223 : decode cX11_cuts 223 = .ok (.lconst 0, 1) := by decide +kernel
theorem dX11_cuts_224 : decode cX11_cuts 224 = .ok (.goto 4, 3) := by decide +kernel
theorem dX11_cuts_227 : decode cX11_cuts 227 = .ok (.lconst 1, 1) := by decide +kernel
theorem dX11_cuts_228 : decode cX11_cuts 228 = .ok (.invokevirtual 237, 3) := by decide +kernel
theorem dX11_cuts_231 : decode cX11_cuts 231 = .ok (.iload 4, 2) := by decide +kernel
theorem dX11_cuts_233 : decode cX11_cuts 233 = .ok (.ireturn, 1) := by decide +kernel
def xX11_cuts_228 (s_X11_isGuest : zq_Sp) (s_X10_whole : zq_Sp) (s_X10_between : zq_Sp) (s_X5_clear : zq_Sp) (s_X5_add : zq_Sp) (J51 : zq_P) (Q : zq_Q) (ls : zq_L) (st : List Value) (h : zq_H) : Prop := (zi_callV 1 3 s_X5_add (zi_iload 4 (zi_iret Q))) ls st h
theorem kX11_cuts_228 {X : zq_X} {d : Nat} (C : zq_C X cX11_cuts 10 RX11 d) (hd1 : 1 ≤ d) {d_X11_isGuest : Nat} {s_X11_isGuest : zq_Sp} (h_X11_isGuest : zq_M yX11_isGuest cX11_isGuest 2 (some .boolean) 1 d_X11_isGuest s_X11_isGuest) (g_X11_isGuest : d_X11_isGuest + 1 ≤ d) {d_X10_whole : Nat} {s_X10_whole : zq_Sp} (h_X10_whole : zq_M yX10_whole cX10_whole 2 (some .int) 1 d_X10_whole s_X10_whole) (g_X10_whole : d_X10_whole + 1 ≤ d) {d_X10_between : Nat} {s_X10_between : zq_Sp} (h_X10_between : zq_M yX10_between cX10_between 4 (some .int) 1 d_X10_between s_X10_between) (g_X10_between : d_X10_between + 1 ≤ d) {d_X5_clear : Nat} {s_X5_clear : zq_Sp} (h_X5_clear : zq_M yX5_clear cX5_clear 1 none 0 d_X5_clear s_X5_clear) (g_X5_clear : d_X5_clear + 1 ≤ d) {d_X5_add : Nat} {s_X5_add : zq_Sp} (h_X5_add : zq_M yX5_add cX5_add 3 none 0 d_X5_add s_X5_add) (g_X5_add : d_X5_add + 1 ≤ d) {J51 : zq_P} (j51 : zq_ok X 10 51 J51) {Q : zq_Q} (hq : zq_R X (some .int) 1 Q) : zq_ok X 10 228 (xX11_cuts_228 s_X11_isGuest s_X10_whole s_X10_between s_X5_clear s_X5_add J51 Q) := by
  refine zs_callV C h_X5_add g_X5_add zy_X5_add zp_3 (show vwCl[5]? = some (RX5, TX5, 2) from rfl) zw_654 zw_655 zs9_X5_add dX11_cuts_228 ?_
  refine zs_iload C dX11_cuts_231 ?_
  exact zs_iret C hq dX11_cuts_233
def xX11_cuts_227 (s_X11_isGuest : zq_Sp) (s_X10_whole : zq_Sp) (s_X10_between : zq_Sp) (s_X5_clear : zq_Sp) (s_X5_add : zq_Sp) (J51 : zq_P) (Q : zq_Q) (ls : zq_L) (st : List Value) (h : zq_H) : Prop := (zi_push (.long 1) ((xX11_cuts_228 s_X11_isGuest s_X10_whole s_X10_between s_X5_clear s_X5_add J51 Q))) ls st h
theorem kX11_cuts_227 {X : zq_X} {d : Nat} (C : zq_C X cX11_cuts 10 RX11 d) (hd1 : 1 ≤ d) {d_X11_isGuest : Nat} {s_X11_isGuest : zq_Sp} (h_X11_isGuest : zq_M yX11_isGuest cX11_isGuest 2 (some .boolean) 1 d_X11_isGuest s_X11_isGuest) (g_X11_isGuest : d_X11_isGuest + 1 ≤ d) {d_X10_whole : Nat} {s_X10_whole : zq_Sp} (h_X10_whole : zq_M yX10_whole cX10_whole 2 (some .int) 1 d_X10_whole s_X10_whole) (g_X10_whole : d_X10_whole + 1 ≤ d) {d_X10_between : Nat} {s_X10_between : zq_Sp} (h_X10_between : zq_M yX10_between cX10_between 4 (some .int) 1 d_X10_between s_X10_between) (g_X10_between : d_X10_between + 1 ≤ d) {d_X5_clear : Nat} {s_X5_clear : zq_Sp} (h_X5_clear : zq_M yX5_clear cX5_clear 1 none 0 d_X5_clear s_X5_clear) (g_X5_clear : d_X5_clear + 1 ≤ d) {d_X5_add : Nat} {s_X5_add : zq_Sp} (h_X5_add : zq_M yX5_add cX5_add 3 none 0 d_X5_add s_X5_add) (g_X5_add : d_X5_add + 1 ≤ d) {J51 : zq_P} (j51 : zq_ok X 10 51 J51) {Q : zq_Q} (hq : zq_R X (some .int) 1 Q) : zq_ok X 10 227 (xX11_cuts_227 s_X11_isGuest s_X10_whole s_X10_between s_X5_clear s_X5_add J51 Q) := by
  refine zs_lconst C dX11_cuts_227 (by decide) ?_
  exact kX11_cuts_228 C hd1 h_X11_isGuest g_X11_isGuest h_X10_whole g_X10_whole h_X10_between g_X10_between h_X5_clear g_X5_clear h_X5_add g_X5_add j51 hq
def xX11_cuts_223 (s_X11_isGuest : zq_Sp) (s_X10_whole : zq_Sp) (s_X10_between : zq_Sp) (s_X5_clear : zq_Sp) (s_X5_add : zq_Sp) (J51 : zq_P) (Q : zq_Q) (ls : zq_L) (st : List Value) (h : zq_H) : Prop := (zi_push (.long 0) ((xX11_cuts_228 s_X11_isGuest s_X10_whole s_X10_between s_X5_clear s_X5_add J51 Q))) ls st h
theorem kX11_cuts_223 {X : zq_X} {d : Nat} (C : zq_C X cX11_cuts 10 RX11 d) (hd1 : 1 ≤ d) {d_X11_isGuest : Nat} {s_X11_isGuest : zq_Sp} (h_X11_isGuest : zq_M yX11_isGuest cX11_isGuest 2 (some .boolean) 1 d_X11_isGuest s_X11_isGuest) (g_X11_isGuest : d_X11_isGuest + 1 ≤ d) {d_X10_whole : Nat} {s_X10_whole : zq_Sp} (h_X10_whole : zq_M yX10_whole cX10_whole 2 (some .int) 1 d_X10_whole s_X10_whole) (g_X10_whole : d_X10_whole + 1 ≤ d) {d_X10_between : Nat} {s_X10_between : zq_Sp} (h_X10_between : zq_M yX10_between cX10_between 4 (some .int) 1 d_X10_between s_X10_between) (g_X10_between : d_X10_between + 1 ≤ d) {d_X5_clear : Nat} {s_X5_clear : zq_Sp} (h_X5_clear : zq_M yX5_clear cX5_clear 1 none 0 d_X5_clear s_X5_clear) (g_X5_clear : d_X5_clear + 1 ≤ d) {d_X5_add : Nat} {s_X5_add : zq_Sp} (h_X5_add : zq_M yX5_add cX5_add 3 none 0 d_X5_add s_X5_add) (g_X5_add : d_X5_add + 1 ≤ d) {J51 : zq_P} (j51 : zq_ok X 10 51 J51) {Q : zq_Q} (hq : zq_R X (some .int) 1 Q) : zq_ok X 10 223 (xX11_cuts_223 s_X11_isGuest s_X10_whole s_X10_between s_X5_clear s_X5_add J51 Q) := by
  refine zs_lconst C dX11_cuts_223 (by decide) ?_
  exact zs_goto C dX11_cuts_224 (by decide) (kX11_cuts_228 C hd1 h_X11_isGuest g_X11_isGuest h_X10_whole g_X10_whole h_X10_between g_X10_between h_X5_clear g_X5_clear h_X5_add g_X5_add j51 hq)
def xX11_cuts_211 (s_X11_isGuest : zq_Sp) (s_X10_whole : zq_Sp) (s_X10_between : zq_Sp) (s_X5_clear : zq_Sp) (s_X5_add : zq_Sp) (J51 : zq_P) (Q : zq_Q) (ls : zq_L) (st : List Value) (h : zq_H) : Prop := (zi_callV 1 3 s_X5_add (zi_aload 0 (zi_getR 0 3 (zi_iload 8 (zi_if1 (fun x => x = 0) (xX11_cuts_227 s_X11_isGuest s_X10_whole s_X10_between s_X5_clear s_X5_add J51 Q) (xX11_cuts_223 s_X11_isGuest s_X10_whole s_X10_between s_X5_clear s_X5_add J51 Q)))))) ls st h
theorem kX11_cuts_211 {X : zq_X} {d : Nat} (C : zq_C X cX11_cuts 10 RX11 d) (hd1 : 1 ≤ d) {d_X11_isGuest : Nat} {s_X11_isGuest : zq_Sp} (h_X11_isGuest : zq_M yX11_isGuest cX11_isGuest 2 (some .boolean) 1 d_X11_isGuest s_X11_isGuest) (g_X11_isGuest : d_X11_isGuest + 1 ≤ d) {d_X10_whole : Nat} {s_X10_whole : zq_Sp} (h_X10_whole : zq_M yX10_whole cX10_whole 2 (some .int) 1 d_X10_whole s_X10_whole) (g_X10_whole : d_X10_whole + 1 ≤ d) {d_X10_between : Nat} {s_X10_between : zq_Sp} (h_X10_between : zq_M yX10_between cX10_between 4 (some .int) 1 d_X10_between s_X10_between) (g_X10_between : d_X10_between + 1 ≤ d) {d_X5_clear : Nat} {s_X5_clear : zq_Sp} (h_X5_clear : zq_M yX5_clear cX5_clear 1 none 0 d_X5_clear s_X5_clear) (g_X5_clear : d_X5_clear + 1 ≤ d) {d_X5_add : Nat} {s_X5_add : zq_Sp} (h_X5_add : zq_M yX5_add cX5_add 3 none 0 d_X5_add s_X5_add) (g_X5_add : d_X5_add + 1 ≤ d) {J51 : zq_P} (j51 : zq_ok X 10 51 J51) {Q : zq_Q} (hq : zq_R X (some .int) 1 Q) : zq_ok X 10 211 (xX11_cuts_211 s_X11_isGuest s_X10_whole s_X10_between s_X5_clear s_X5_add J51 Q) := by
  refine zs_callV C h_X5_add g_X5_add zy_X5_add zp_3 (show vwCl[5]? = some (RX5, TX5, 2) from rfl) zw_654 zw_655 zs9_X5_add dX11_cuts_211 ?_
  refine zs_aload_n C dX11_cuts_214 rfl ?_
  refine zs_getR C zp_0 zF11 (j := 1) ⟨by decide, rfl⟩ zw_316 dX11_cuts_215 ?_
  refine zs_iload C dX11_cuts_218 ?_
  exact zs_if_eq C dX11_cuts_220 (by decide) (kX11_cuts_227 C hd1 h_X11_isGuest g_X11_isGuest h_X10_whole g_X10_whole h_X10_between g_X10_between h_X5_clear g_X5_clear h_X5_add g_X5_add j51 hq) (kX11_cuts_223 C hd1 h_X11_isGuest g_X11_isGuest h_X10_whole g_X10_whole h_X10_between g_X10_between h_X5_clear g_X5_clear h_X5_add g_X5_add j51 hq)
def xX11_cuts_208 (s_X11_isGuest : zq_Sp) (s_X10_whole : zq_Sp) (s_X10_between : zq_Sp) (s_X5_clear : zq_Sp) (s_X5_add : zq_Sp) (J51 : zq_P) (Q : zq_Q) (ls : zq_L) (st : List Value) (h : zq_H) : Prop := (zi_iload 7 (zi_i2l ((xX11_cuts_211 s_X11_isGuest s_X10_whole s_X10_between s_X5_clear s_X5_add J51 Q)))) ls st h
theorem kX11_cuts_208 {X : zq_X} {d : Nat} (C : zq_C X cX11_cuts 10 RX11 d) (hd1 : 1 ≤ d) {d_X11_isGuest : Nat} {s_X11_isGuest : zq_Sp} (h_X11_isGuest : zq_M yX11_isGuest cX11_isGuest 2 (some .boolean) 1 d_X11_isGuest s_X11_isGuest) (g_X11_isGuest : d_X11_isGuest + 1 ≤ d) {d_X10_whole : Nat} {s_X10_whole : zq_Sp} (h_X10_whole : zq_M yX10_whole cX10_whole 2 (some .int) 1 d_X10_whole s_X10_whole) (g_X10_whole : d_X10_whole + 1 ≤ d) {d_X10_between : Nat} {s_X10_between : zq_Sp} (h_X10_between : zq_M yX10_between cX10_between 4 (some .int) 1 d_X10_between s_X10_between) (g_X10_between : d_X10_between + 1 ≤ d) {d_X5_clear : Nat} {s_X5_clear : zq_Sp} (h_X5_clear : zq_M yX5_clear cX5_clear 1 none 0 d_X5_clear s_X5_clear) (g_X5_clear : d_X5_clear + 1 ≤ d) {d_X5_add : Nat} {s_X5_add : zq_Sp} (h_X5_add : zq_M yX5_add cX5_add 3 none 0 d_X5_add s_X5_add) (g_X5_add : d_X5_add + 1 ≤ d) {J51 : zq_P} (j51 : zq_ok X 10 51 J51) {Q : zq_Q} (hq : zq_R X (some .int) 1 Q) : zq_ok X 10 208 (xX11_cuts_208 s_X11_isGuest s_X10_whole s_X10_between s_X5_clear s_X5_add J51 Q) := by
  refine zs_iload C dX11_cuts_208 ?_
  refine zs_i2l C dX11_cuts_210 ?_
  exact kX11_cuts_211 C hd1 h_X11_isGuest g_X11_isGuest h_X10_whole g_X10_whole h_X10_between g_X10_between h_X5_clear g_X5_clear h_X5_add g_X5_add j51 hq
def xX11_cuts_202 (s_X11_isGuest : zq_Sp) (s_X10_whole : zq_Sp) (s_X10_between : zq_Sp) (s_X5_clear : zq_Sp) (s_X5_add : zq_Sp) (J51 : zq_P) (Q : zq_Q) (ls : zq_L) (st : List Value) (h : zq_H) : Prop := (zi_iload 6 (zi_i2l ((xX11_cuts_211 s_X11_isGuest s_X10_whole s_X10_between s_X5_clear s_X5_add J51 Q)))) ls st h
theorem kX11_cuts_202 {X : zq_X} {d : Nat} (C : zq_C X cX11_cuts 10 RX11 d) (hd1 : 1 ≤ d) {d_X11_isGuest : Nat} {s_X11_isGuest : zq_Sp} (h_X11_isGuest : zq_M yX11_isGuest cX11_isGuest 2 (some .boolean) 1 d_X11_isGuest s_X11_isGuest) (g_X11_isGuest : d_X11_isGuest + 1 ≤ d) {d_X10_whole : Nat} {s_X10_whole : zq_Sp} (h_X10_whole : zq_M yX10_whole cX10_whole 2 (some .int) 1 d_X10_whole s_X10_whole) (g_X10_whole : d_X10_whole + 1 ≤ d) {d_X10_between : Nat} {s_X10_between : zq_Sp} (h_X10_between : zq_M yX10_between cX10_between 4 (some .int) 1 d_X10_between s_X10_between) (g_X10_between : d_X10_between + 1 ≤ d) {d_X5_clear : Nat} {s_X5_clear : zq_Sp} (h_X5_clear : zq_M yX5_clear cX5_clear 1 none 0 d_X5_clear s_X5_clear) (g_X5_clear : d_X5_clear + 1 ≤ d) {d_X5_add : Nat} {s_X5_add : zq_Sp} (h_X5_add : zq_M yX5_add cX5_add 3 none 0 d_X5_add s_X5_add) (g_X5_add : d_X5_add + 1 ≤ d) {J51 : zq_P} (j51 : zq_ok X 10 51 J51) {Q : zq_Q} (hq : zq_R X (some .int) 1 Q) : zq_ok X 10 202 (xX11_cuts_202 s_X11_isGuest s_X10_whole s_X10_between s_X5_clear s_X5_add J51 Q) := by
  refine zs_iload C dX11_cuts_202 ?_
  refine zs_i2l C dX11_cuts_204 ?_
  exact zs_goto C dX11_cuts_205 (by decide) (kX11_cuts_211 C hd1 h_X11_isGuest g_X11_isGuest h_X10_whole g_X10_whole h_X10_between g_X10_between h_X5_clear g_X5_clear h_X5_add g_X5_add j51 hq)
def xX11_cuts_190 (s_X11_isGuest : zq_Sp) (s_X10_whole : zq_Sp) (s_X10_between : zq_Sp) (s_X5_clear : zq_Sp) (s_X5_add : zq_Sp) (J51 : zq_P) (Q : zq_Q) (ls : zq_L) (st : List Value) (h : zq_H) : Prop := (zi_callV 1 3 s_X5_add (zi_aload 0 (zi_getR 0 3 (zi_iload 8 (zi_if1 (fun x => x = 0) (xX11_cuts_208 s_X11_isGuest s_X10_whole s_X10_between s_X5_clear s_X5_add J51 Q) (xX11_cuts_202 s_X11_isGuest s_X10_whole s_X10_between s_X5_clear s_X5_add J51 Q)))))) ls st h
theorem kX11_cuts_190 {X : zq_X} {d : Nat} (C : zq_C X cX11_cuts 10 RX11 d) (hd1 : 1 ≤ d) {d_X11_isGuest : Nat} {s_X11_isGuest : zq_Sp} (h_X11_isGuest : zq_M yX11_isGuest cX11_isGuest 2 (some .boolean) 1 d_X11_isGuest s_X11_isGuest) (g_X11_isGuest : d_X11_isGuest + 1 ≤ d) {d_X10_whole : Nat} {s_X10_whole : zq_Sp} (h_X10_whole : zq_M yX10_whole cX10_whole 2 (some .int) 1 d_X10_whole s_X10_whole) (g_X10_whole : d_X10_whole + 1 ≤ d) {d_X10_between : Nat} {s_X10_between : zq_Sp} (h_X10_between : zq_M yX10_between cX10_between 4 (some .int) 1 d_X10_between s_X10_between) (g_X10_between : d_X10_between + 1 ≤ d) {d_X5_clear : Nat} {s_X5_clear : zq_Sp} (h_X5_clear : zq_M yX5_clear cX5_clear 1 none 0 d_X5_clear s_X5_clear) (g_X5_clear : d_X5_clear + 1 ≤ d) {d_X5_add : Nat} {s_X5_add : zq_Sp} (h_X5_add : zq_M yX5_add cX5_add 3 none 0 d_X5_add s_X5_add) (g_X5_add : d_X5_add + 1 ≤ d) {J51 : zq_P} (j51 : zq_ok X 10 51 J51) {Q : zq_Q} (hq : zq_R X (some .int) 1 Q) : zq_ok X 10 190 (xX11_cuts_190 s_X11_isGuest s_X10_whole s_X10_between s_X5_clear s_X5_add J51 Q) := by
  refine zs_callV C h_X5_add g_X5_add zy_X5_add zp_3 (show vwCl[5]? = some (RX5, TX5, 2) from rfl) zw_654 zw_655 zs9_X5_add dX11_cuts_190 ?_
  refine zs_aload_n C dX11_cuts_193 rfl ?_
  refine zs_getR C zp_0 zF11 (j := 1) ⟨by decide, rfl⟩ zw_316 dX11_cuts_194 ?_
  refine zs_iload C dX11_cuts_197 ?_
  exact zs_if_eq C dX11_cuts_199 (by decide) (kX11_cuts_208 C hd1 h_X11_isGuest g_X11_isGuest h_X10_whole g_X10_whole h_X10_between g_X10_between h_X5_clear g_X5_clear h_X5_add g_X5_add j51 hq) (kX11_cuts_202 C hd1 h_X11_isGuest g_X11_isGuest h_X10_whole g_X10_whole h_X10_between g_X10_between h_X5_clear g_X5_clear h_X5_add g_X5_add j51 hq)
def xX11_cuts_187 (s_X11_isGuest : zq_Sp) (s_X10_whole : zq_Sp) (s_X10_between : zq_Sp) (s_X5_clear : zq_Sp) (s_X5_add : zq_Sp) (J51 : zq_P) (Q : zq_Q) (ls : zq_L) (st : List Value) (h : zq_H) : Prop := (zi_iload 9 (zi_i2l ((xX11_cuts_190 s_X11_isGuest s_X10_whole s_X10_between s_X5_clear s_X5_add J51 Q)))) ls st h
theorem kX11_cuts_187 {X : zq_X} {d : Nat} (C : zq_C X cX11_cuts 10 RX11 d) (hd1 : 1 ≤ d) {d_X11_isGuest : Nat} {s_X11_isGuest : zq_Sp} (h_X11_isGuest : zq_M yX11_isGuest cX11_isGuest 2 (some .boolean) 1 d_X11_isGuest s_X11_isGuest) (g_X11_isGuest : d_X11_isGuest + 1 ≤ d) {d_X10_whole : Nat} {s_X10_whole : zq_Sp} (h_X10_whole : zq_M yX10_whole cX10_whole 2 (some .int) 1 d_X10_whole s_X10_whole) (g_X10_whole : d_X10_whole + 1 ≤ d) {d_X10_between : Nat} {s_X10_between : zq_Sp} (h_X10_between : zq_M yX10_between cX10_between 4 (some .int) 1 d_X10_between s_X10_between) (g_X10_between : d_X10_between + 1 ≤ d) {d_X5_clear : Nat} {s_X5_clear : zq_Sp} (h_X5_clear : zq_M yX5_clear cX5_clear 1 none 0 d_X5_clear s_X5_clear) (g_X5_clear : d_X5_clear + 1 ≤ d) {d_X5_add : Nat} {s_X5_add : zq_Sp} (h_X5_add : zq_M yX5_add cX5_add 3 none 0 d_X5_add s_X5_add) (g_X5_add : d_X5_add + 1 ≤ d) {J51 : zq_P} (j51 : zq_ok X 10 51 J51) {Q : zq_Q} (hq : zq_R X (some .int) 1 Q) : zq_ok X 10 187 (xX11_cuts_187 s_X11_isGuest s_X10_whole s_X10_between s_X5_clear s_X5_add J51 Q) := by
  refine zs_iload C dX11_cuts_187 ?_
  refine zs_i2l C dX11_cuts_189 ?_
  exact kX11_cuts_190 C hd1 h_X11_isGuest g_X11_isGuest h_X10_whole g_X10_whole h_X10_between g_X10_between h_X5_clear g_X5_clear h_X5_add g_X5_add j51 hq
def xX11_cuts_179 (s_X11_isGuest : zq_Sp) (s_X10_whole : zq_Sp) (s_X10_between : zq_Sp) (s_X5_clear : zq_Sp) (s_X5_add : zq_Sp) (J51 : zq_P) (Q : zq_Q) (ls : zq_L) (st : List Value) (h : zq_H) : Prop := (zi_iload 3 (zi_iload 9 (zi_i2 (fun x y => x - y) (zi_i2l ((xX11_cuts_190 s_X11_isGuest s_X10_whole s_X10_between s_X5_clear s_X5_add J51 Q)))))) ls st h
theorem kX11_cuts_179 {X : zq_X} {d : Nat} (C : zq_C X cX11_cuts 10 RX11 d) (hd1 : 1 ≤ d) {d_X11_isGuest : Nat} {s_X11_isGuest : zq_Sp} (h_X11_isGuest : zq_M yX11_isGuest cX11_isGuest 2 (some .boolean) 1 d_X11_isGuest s_X11_isGuest) (g_X11_isGuest : d_X11_isGuest + 1 ≤ d) {d_X10_whole : Nat} {s_X10_whole : zq_Sp} (h_X10_whole : zq_M yX10_whole cX10_whole 2 (some .int) 1 d_X10_whole s_X10_whole) (g_X10_whole : d_X10_whole + 1 ≤ d) {d_X10_between : Nat} {s_X10_between : zq_Sp} (h_X10_between : zq_M yX10_between cX10_between 4 (some .int) 1 d_X10_between s_X10_between) (g_X10_between : d_X10_between + 1 ≤ d) {d_X5_clear : Nat} {s_X5_clear : zq_Sp} (h_X5_clear : zq_M yX5_clear cX5_clear 1 none 0 d_X5_clear s_X5_clear) (g_X5_clear : d_X5_clear + 1 ≤ d) {d_X5_add : Nat} {s_X5_add : zq_Sp} (h_X5_add : zq_M yX5_add cX5_add 3 none 0 d_X5_add s_X5_add) (g_X5_add : d_X5_add + 1 ≤ d) {J51 : zq_P} (j51 : zq_ok X 10 51 J51) {Q : zq_Q} (hq : zq_R X (some .int) 1 Q) : zq_ok X 10 179 (xX11_cuts_179 s_X11_isGuest s_X10_whole s_X10_between s_X5_clear s_X5_add J51 Q) := by
  refine zs_iload_n C dX11_cuts_179 rfl ?_
  refine zs_iload C dX11_cuts_180 ?_
  refine zs_isub C dX11_cuts_182 ?_
  refine zs_i2l C dX11_cuts_183 ?_
  exact zs_goto C dX11_cuts_184 (by decide) (kX11_cuts_190 C hd1 h_X11_isGuest g_X11_isGuest h_X10_whole g_X10_whole h_X10_between g_X10_between h_X5_clear g_X5_clear h_X5_add g_X5_add j51 hq)
def xX11_cuts_148 (s_X11_isGuest : zq_Sp) (s_X10_whole : zq_Sp) (s_X10_between : zq_Sp) (s_X5_clear : zq_Sp) (s_X5_add : zq_Sp) (J51 : zq_P) (Q : zq_Q) (ls : zq_L) (st : List Value) (h : zq_H) : Prop := (zi_istore 8 (zi_aload 0 (zi_getR 0 9 (zi_iload 1 (zi_push (.int 0) (zi_iload 4 (zi_callV 3 9 s_X10_between (zi_istore 9 (zi_aload 0 (zi_getR 0 3 (zi_callV 0 3 s_X5_clear (zi_aload 0 (zi_getR 0 3 (zi_iload 8 (zi_if1 (fun x => x = 0) (xX11_cuts_187 s_X11_isGuest s_X10_whole s_X10_between s_X5_clear s_X5_add J51 Q) (xX11_cuts_179 s_X11_isGuest s_X10_whole s_X10_between s_X5_clear s_X5_add J51 Q)))))))))))))))) ls st h
theorem kX11_cuts_148 {X : zq_X} {d : Nat} (C : zq_C X cX11_cuts 10 RX11 d) (hd1 : 1 ≤ d) {d_X11_isGuest : Nat} {s_X11_isGuest : zq_Sp} (h_X11_isGuest : zq_M yX11_isGuest cX11_isGuest 2 (some .boolean) 1 d_X11_isGuest s_X11_isGuest) (g_X11_isGuest : d_X11_isGuest + 1 ≤ d) {d_X10_whole : Nat} {s_X10_whole : zq_Sp} (h_X10_whole : zq_M yX10_whole cX10_whole 2 (some .int) 1 d_X10_whole s_X10_whole) (g_X10_whole : d_X10_whole + 1 ≤ d) {d_X10_between : Nat} {s_X10_between : zq_Sp} (h_X10_between : zq_M yX10_between cX10_between 4 (some .int) 1 d_X10_between s_X10_between) (g_X10_between : d_X10_between + 1 ≤ d) {d_X5_clear : Nat} {s_X5_clear : zq_Sp} (h_X5_clear : zq_M yX5_clear cX5_clear 1 none 0 d_X5_clear s_X5_clear) (g_X5_clear : d_X5_clear + 1 ≤ d) {d_X5_add : Nat} {s_X5_add : zq_Sp} (h_X5_add : zq_M yX5_add cX5_add 3 none 0 d_X5_add s_X5_add) (g_X5_add : d_X5_add + 1 ≤ d) {J51 : zq_P} (j51 : zq_ok X 10 51 J51) {Q : zq_Q} (hq : zq_R X (some .int) 1 Q) : zq_ok X 10 148 (xX11_cuts_148 s_X11_isGuest s_X10_whole s_X10_between s_X5_clear s_X5_add J51 Q) := by
  refine zs_istore C dX11_cuts_148 (by decide) ?_
  refine zs_aload_n C dX11_cuts_150 rfl ?_
  refine zs_getR C zp_0 zF11 (j := 3) ⟨by decide, rfl⟩ zw_318 dX11_cuts_151 ?_
  refine zs_iload_n C dX11_cuts_154 rfl ?_
  refine zs_iconst C dX11_cuts_155 (by decide) ?_
  refine zs_iload C dX11_cuts_156 ?_
  refine zs_callV C h_X10_between g_X10_between zy_X10_between zp_9 (show vwCl[10]? = some (RX10, TX10, 3) from rfl) zw_597 zw_598 zs9_X10_between dX11_cuts_158 ?_
  refine zs_istore C dX11_cuts_161 (by decide) ?_
  refine zs_aload_n C dX11_cuts_163 rfl ?_
  refine zs_getR C zp_0 zF11 (j := 1) ⟨by decide, rfl⟩ zw_316 dX11_cuts_164 ?_
  refine zs_callV C h_X5_clear g_X5_clear zy_X5_clear zp_3 (show vwCl[5]? = some (RX5, TX5, 2) from rfl) zw_650 zw_651 zs9_X5_clear dX11_cuts_167 ?_
  refine zs_aload_n C dX11_cuts_170 rfl ?_
  refine zs_getR C zp_0 zF11 (j := 1) ⟨by decide, rfl⟩ zw_316 dX11_cuts_171 ?_
  refine zs_iload C dX11_cuts_174 ?_
  exact zs_if_eq C dX11_cuts_176 (by decide) (kX11_cuts_187 C hd1 h_X11_isGuest g_X11_isGuest h_X10_whole g_X10_whole h_X10_between g_X10_between h_X5_clear g_X5_clear h_X5_add g_X5_add j51 hq) (kX11_cuts_179 C hd1 h_X11_isGuest g_X11_isGuest h_X10_whole g_X10_whole h_X10_between g_X10_between h_X5_clear g_X5_clear h_X5_add g_X5_add j51 hq)
def xX11_cuts_147 (s_X11_isGuest : zq_Sp) (s_X10_whole : zq_Sp) (s_X10_between : zq_Sp) (s_X5_clear : zq_Sp) (s_X5_add : zq_Sp) (J51 : zq_P) (Q : zq_Q) (ls : zq_L) (st : List Value) (h : zq_H) : Prop := (zi_push (.int 0) ((xX11_cuts_148 s_X11_isGuest s_X10_whole s_X10_between s_X5_clear s_X5_add J51 Q))) ls st h
theorem kX11_cuts_147 {X : zq_X} {d : Nat} (C : zq_C X cX11_cuts 10 RX11 d) (hd1 : 1 ≤ d) {d_X11_isGuest : Nat} {s_X11_isGuest : zq_Sp} (h_X11_isGuest : zq_M yX11_isGuest cX11_isGuest 2 (some .boolean) 1 d_X11_isGuest s_X11_isGuest) (g_X11_isGuest : d_X11_isGuest + 1 ≤ d) {d_X10_whole : Nat} {s_X10_whole : zq_Sp} (h_X10_whole : zq_M yX10_whole cX10_whole 2 (some .int) 1 d_X10_whole s_X10_whole) (g_X10_whole : d_X10_whole + 1 ≤ d) {d_X10_between : Nat} {s_X10_between : zq_Sp} (h_X10_between : zq_M yX10_between cX10_between 4 (some .int) 1 d_X10_between s_X10_between) (g_X10_between : d_X10_between + 1 ≤ d) {d_X5_clear : Nat} {s_X5_clear : zq_Sp} (h_X5_clear : zq_M yX5_clear cX5_clear 1 none 0 d_X5_clear s_X5_clear) (g_X5_clear : d_X5_clear + 1 ≤ d) {d_X5_add : Nat} {s_X5_add : zq_Sp} (h_X5_add : zq_M yX5_add cX5_add 3 none 0 d_X5_add s_X5_add) (g_X5_add : d_X5_add + 1 ≤ d) {J51 : zq_P} (j51 : zq_ok X 10 51 J51) {Q : zq_Q} (hq : zq_R X (some .int) 1 Q) : zq_ok X 10 147 (xX11_cuts_147 s_X11_isGuest s_X10_whole s_X10_between s_X5_clear s_X5_add J51 Q) := by
  refine zs_iconst C dX11_cuts_147 (by decide) ?_
  exact kX11_cuts_148 C hd1 h_X11_isGuest g_X11_isGuest h_X10_whole g_X10_whole h_X10_between g_X10_between h_X5_clear g_X5_clear h_X5_add g_X5_add j51 hq
def xX11_cuts_143 (s_X11_isGuest : zq_Sp) (s_X10_whole : zq_Sp) (s_X10_between : zq_Sp) (s_X5_clear : zq_Sp) (s_X5_add : zq_Sp) (J51 : zq_P) (Q : zq_Q) (ls : zq_L) (st : List Value) (h : zq_H) : Prop := (zi_push (.int 1) ((xX11_cuts_148 s_X11_isGuest s_X10_whole s_X10_between s_X5_clear s_X5_add J51 Q))) ls st h
theorem kX11_cuts_143 {X : zq_X} {d : Nat} (C : zq_C X cX11_cuts 10 RX11 d) (hd1 : 1 ≤ d) {d_X11_isGuest : Nat} {s_X11_isGuest : zq_Sp} (h_X11_isGuest : zq_M yX11_isGuest cX11_isGuest 2 (some .boolean) 1 d_X11_isGuest s_X11_isGuest) (g_X11_isGuest : d_X11_isGuest + 1 ≤ d) {d_X10_whole : Nat} {s_X10_whole : zq_Sp} (h_X10_whole : zq_M yX10_whole cX10_whole 2 (some .int) 1 d_X10_whole s_X10_whole) (g_X10_whole : d_X10_whole + 1 ≤ d) {d_X10_between : Nat} {s_X10_between : zq_Sp} (h_X10_between : zq_M yX10_between cX10_between 4 (some .int) 1 d_X10_between s_X10_between) (g_X10_between : d_X10_between + 1 ≤ d) {d_X5_clear : Nat} {s_X5_clear : zq_Sp} (h_X5_clear : zq_M yX5_clear cX5_clear 1 none 0 d_X5_clear s_X5_clear) (g_X5_clear : d_X5_clear + 1 ≤ d) {d_X5_add : Nat} {s_X5_add : zq_Sp} (h_X5_add : zq_M yX5_add cX5_add 3 none 0 d_X5_add s_X5_add) (g_X5_add : d_X5_add + 1 ≤ d) {J51 : zq_P} (j51 : zq_ok X 10 51 J51) {Q : zq_Q} (hq : zq_R X (some .int) 1 Q) : zq_ok X 10 143 (xX11_cuts_143 s_X11_isGuest s_X10_whole s_X10_between s_X5_clear s_X5_add J51 Q) := by
  refine zs_iconst C dX11_cuts_143 (by decide) ?_
  exact zs_goto C dX11_cuts_144 (by decide) (kX11_cuts_148 C hd1 h_X11_isGuest g_X11_isGuest h_X10_whole g_X10_whole h_X10_between g_X10_between h_X5_clear g_X5_clear h_X5_add g_X5_add j51 hq)
def xX11_cuts_104 (s_X11_isGuest : zq_Sp) (s_X10_whole : zq_Sp) (s_X10_between : zq_Sp) (s_X5_clear : zq_Sp) (s_X5_add : zq_Sp) (J51 : zq_P) (Q : zq_Q) (ls : zq_L) (st : List Value) (h : zq_H) : Prop := (zi_aload 0 (zi_getR 0 9 (zi_iload 2 (zi_push (.int 0) (zi_iload 4 (zi_callV 3 9 s_X10_between (zi_istore 6 (zi_aload 0 (zi_getR 0 9 (zi_iload 2 (zi_iload 4 (zi_aload 0 (zi_getR 0 40 (zi_getI 40 3 (zi_callV 3 9 s_X10_between (zi_istore 7 (zi_iload 6 (zi_iload 7 (zi_if2 (fun x y => x < y) (xX11_cuts_147 s_X11_isGuest s_X10_whole s_X10_between s_X5_clear s_X5_add J51 Q) (xX11_cuts_143 s_X11_isGuest s_X10_whole s_X10_between s_X5_clear s_X5_add J51 Q)))))))))))))))))))) ls st h
theorem kX11_cuts_104 {X : zq_X} {d : Nat} (C : zq_C X cX11_cuts 10 RX11 d) (hd1 : 1 ≤ d) {d_X11_isGuest : Nat} {s_X11_isGuest : zq_Sp} (h_X11_isGuest : zq_M yX11_isGuest cX11_isGuest 2 (some .boolean) 1 d_X11_isGuest s_X11_isGuest) (g_X11_isGuest : d_X11_isGuest + 1 ≤ d) {d_X10_whole : Nat} {s_X10_whole : zq_Sp} (h_X10_whole : zq_M yX10_whole cX10_whole 2 (some .int) 1 d_X10_whole s_X10_whole) (g_X10_whole : d_X10_whole + 1 ≤ d) {d_X10_between : Nat} {s_X10_between : zq_Sp} (h_X10_between : zq_M yX10_between cX10_between 4 (some .int) 1 d_X10_between s_X10_between) (g_X10_between : d_X10_between + 1 ≤ d) {d_X5_clear : Nat} {s_X5_clear : zq_Sp} (h_X5_clear : zq_M yX5_clear cX5_clear 1 none 0 d_X5_clear s_X5_clear) (g_X5_clear : d_X5_clear + 1 ≤ d) {d_X5_add : Nat} {s_X5_add : zq_Sp} (h_X5_add : zq_M yX5_add cX5_add 3 none 0 d_X5_add s_X5_add) (g_X5_add : d_X5_add + 1 ≤ d) {J51 : zq_P} (j51 : zq_ok X 10 51 J51) {Q : zq_Q} (hq : zq_R X (some .int) 1 Q) : zq_ok X 10 104 (xX11_cuts_104 s_X11_isGuest s_X10_whole s_X10_between s_X5_clear s_X5_add J51 Q) := by
  refine zs_aload_n C dX11_cuts_104 rfl ?_
  refine zs_getR C zp_0 zF11 (j := 3) ⟨by decide, rfl⟩ zw_318 dX11_cuts_105 ?_
  refine zs_iload_n C dX11_cuts_108 rfl ?_
  refine zs_iconst C dX11_cuts_109 (by decide) ?_
  refine zs_iload C dX11_cuts_110 ?_
  refine zs_callV C h_X10_between g_X10_between zy_X10_between zp_9 (show vwCl[10]? = some (RX10, TX10, 3) from rfl) zw_597 zw_598 zs9_X10_between dX11_cuts_112 ?_
  refine zs_istore C dX11_cuts_115 (by decide) ?_
  refine zs_aload_n C dX11_cuts_117 rfl ?_
  refine zs_getR C zp_0 zF11 (j := 3) ⟨by decide, rfl⟩ zw_318 dX11_cuts_118 ?_
  refine zs_iload_n C dX11_cuts_121 rfl ?_
  refine zs_iload C dX11_cuts_122 ?_
  refine zs_aload_n C dX11_cuts_124 rfl ?_
  refine zs_getR C zp_0 zF11 (j := 11) ⟨by decide, rfl⟩ zw_326 dX11_cuts_125 ?_
  refine zs_getIN C zp_40 zF2 (j := 3) ⟨by decide, rfl⟩ zw_273 dX11_cuts_128 ?_
  refine zs_callV C h_X10_between g_X10_between zy_X10_between zp_9 (show vwCl[10]? = some (RX10, TX10, 3) from rfl) zw_597 zw_598 zs9_X10_between dX11_cuts_131 ?_
  refine zs_istore C dX11_cuts_134 (by decide) ?_
  refine zs_iload C dX11_cuts_136 ?_
  refine zs_iload C dX11_cuts_138 ?_
  exact zs_icmp_lt C dX11_cuts_140 (by decide) (kX11_cuts_147 C hd1 h_X11_isGuest g_X11_isGuest h_X10_whole g_X10_whole h_X10_between g_X10_between h_X5_clear g_X5_clear h_X5_add g_X5_add j51 hq) (kX11_cuts_143 C hd1 h_X11_isGuest g_X11_isGuest h_X10_whole g_X10_whole h_X10_between g_X10_between h_X5_clear g_X5_clear h_X5_add g_X5_add j51 hq)
def xX11_cuts_98 (s_X11_isGuest : zq_Sp) (s_X10_whole : zq_Sp) (s_X10_between : zq_Sp) (s_X5_clear : zq_Sp) (s_X5_add : zq_Sp) (J51 : zq_P) (Q : zq_Q) (ls : zq_L) (st : List Value) (h : zq_H) : Prop := (zi_iinc 6 1 (J51)) ls st h
theorem kX11_cuts_98 {X : zq_X} {d : Nat} (C : zq_C X cX11_cuts 10 RX11 d) (hd1 : 1 ≤ d) {d_X11_isGuest : Nat} {s_X11_isGuest : zq_Sp} (h_X11_isGuest : zq_M yX11_isGuest cX11_isGuest 2 (some .boolean) 1 d_X11_isGuest s_X11_isGuest) (g_X11_isGuest : d_X11_isGuest + 1 ≤ d) {d_X10_whole : Nat} {s_X10_whole : zq_Sp} (h_X10_whole : zq_M yX10_whole cX10_whole 2 (some .int) 1 d_X10_whole s_X10_whole) (g_X10_whole : d_X10_whole + 1 ≤ d) {d_X10_between : Nat} {s_X10_between : zq_Sp} (h_X10_between : zq_M yX10_between cX10_between 4 (some .int) 1 d_X10_between s_X10_between) (g_X10_between : d_X10_between + 1 ≤ d) {d_X5_clear : Nat} {s_X5_clear : zq_Sp} (h_X5_clear : zq_M yX5_clear cX5_clear 1 none 0 d_X5_clear s_X5_clear) (g_X5_clear : d_X5_clear + 1 ≤ d) {d_X5_add : Nat} {s_X5_add : zq_Sp} (h_X5_add : zq_M yX5_add cX5_add 3 none 0 d_X5_add s_X5_add) (g_X5_add : d_X5_add + 1 ≤ d) {J51 : zq_P} (j51 : zq_ok X 10 51 J51) {Q : zq_Q} (hq : zq_R X (some .int) 1 Q) : zq_ok X 10 98 (xX11_cuts_98 s_X11_isGuest s_X10_whole s_X10_between s_X5_clear s_X5_add J51 Q) := by
  refine zs_iinc C dX11_cuts_98 (by decide) (by decide) ?_
  exact zs_goto C dX11_cuts_101 (by decide) (j51)
def xX11_cuts_90 (s_X11_isGuest : zq_Sp) (s_X10_whole : zq_Sp) (s_X10_between : zq_Sp) (s_X5_clear : zq_Sp) (s_X5_add : zq_Sp) (J51 : zq_P) (Q : zq_Q) (ls : zq_L) (st : List Value) (h : zq_H) : Prop := (zi_iload 7 (zi_istore 5 (zi_iload 6 (zi_istore 4 ((xX11_cuts_98 s_X11_isGuest s_X10_whole s_X10_between s_X5_clear s_X5_add J51 Q)))))) ls st h
theorem kX11_cuts_90 {X : zq_X} {d : Nat} (C : zq_C X cX11_cuts 10 RX11 d) (hd1 : 1 ≤ d) {d_X11_isGuest : Nat} {s_X11_isGuest : zq_Sp} (h_X11_isGuest : zq_M yX11_isGuest cX11_isGuest 2 (some .boolean) 1 d_X11_isGuest s_X11_isGuest) (g_X11_isGuest : d_X11_isGuest + 1 ≤ d) {d_X10_whole : Nat} {s_X10_whole : zq_Sp} (h_X10_whole : zq_M yX10_whole cX10_whole 2 (some .int) 1 d_X10_whole s_X10_whole) (g_X10_whole : d_X10_whole + 1 ≤ d) {d_X10_between : Nat} {s_X10_between : zq_Sp} (h_X10_between : zq_M yX10_between cX10_between 4 (some .int) 1 d_X10_between s_X10_between) (g_X10_between : d_X10_between + 1 ≤ d) {d_X5_clear : Nat} {s_X5_clear : zq_Sp} (h_X5_clear : zq_M yX5_clear cX5_clear 1 none 0 d_X5_clear s_X5_clear) (g_X5_clear : d_X5_clear + 1 ≤ d) {d_X5_add : Nat} {s_X5_add : zq_Sp} (h_X5_add : zq_M yX5_add cX5_add 3 none 0 d_X5_add s_X5_add) (g_X5_add : d_X5_add + 1 ≤ d) {J51 : zq_P} (j51 : zq_ok X 10 51 J51) {Q : zq_Q} (hq : zq_R X (some .int) 1 Q) : zq_ok X 10 90 (xX11_cuts_90 s_X11_isGuest s_X10_whole s_X10_between s_X5_clear s_X5_add J51 Q) := by
  refine zs_iload C dX11_cuts_90 ?_
  refine zs_istore C dX11_cuts_92 (by decide) ?_
  refine zs_iload C dX11_cuts_94 ?_
  refine zs_istore C dX11_cuts_96 (by decide) ?_
  exact kX11_cuts_98 C hd1 h_X11_isGuest g_X11_isGuest h_X10_whole g_X10_whole h_X10_between g_X10_between h_X5_clear g_X5_clear h_X5_add g_X5_add j51 hq
def xX11_cuts_63 (s_X11_isGuest : zq_Sp) (s_X10_whole : zq_Sp) (s_X10_between : zq_Sp) (s_X5_clear : zq_Sp) (s_X5_add : zq_Sp) (J51 : zq_P) (Q : zq_Q) (ls : zq_L) (st : List Value) (h : zq_H) : Prop := (zi_iload 3 (zi_push (.int 2) (zi_aload 0 (zi_getR 0 9 (zi_iload 1 (zi_push (.int 0) (zi_iload 6 (zi_callV 3 9 s_X10_between (zi_i2 (fun x y => x * y) (zi_i2 (fun x y => x - y) (zi_m1 zf_abs (zi_istore 7 (zi_iload 7 (zi_iload 5 (zi_if2 (fun x y => y ≤ x) (xX11_cuts_98 s_X11_isGuest s_X10_whole s_X10_between s_X5_clear s_X5_add J51 Q) (xX11_cuts_90 s_X11_isGuest s_X10_whole s_X10_between s_X5_clear s_X5_add J51 Q)))))))))))))))) ls st h
theorem kX11_cuts_63 {X : zq_X} {d : Nat} (C : zq_C X cX11_cuts 10 RX11 d) (hd1 : 1 ≤ d) {d_X11_isGuest : Nat} {s_X11_isGuest : zq_Sp} (h_X11_isGuest : zq_M yX11_isGuest cX11_isGuest 2 (some .boolean) 1 d_X11_isGuest s_X11_isGuest) (g_X11_isGuest : d_X11_isGuest + 1 ≤ d) {d_X10_whole : Nat} {s_X10_whole : zq_Sp} (h_X10_whole : zq_M yX10_whole cX10_whole 2 (some .int) 1 d_X10_whole s_X10_whole) (g_X10_whole : d_X10_whole + 1 ≤ d) {d_X10_between : Nat} {s_X10_between : zq_Sp} (h_X10_between : zq_M yX10_between cX10_between 4 (some .int) 1 d_X10_between s_X10_between) (g_X10_between : d_X10_between + 1 ≤ d) {d_X5_clear : Nat} {s_X5_clear : zq_Sp} (h_X5_clear : zq_M yX5_clear cX5_clear 1 none 0 d_X5_clear s_X5_clear) (g_X5_clear : d_X5_clear + 1 ≤ d) {d_X5_add : Nat} {s_X5_add : zq_Sp} (h_X5_add : zq_M yX5_add cX5_add 3 none 0 d_X5_add s_X5_add) (g_X5_add : d_X5_add + 1 ≤ d) {J51 : zq_P} (j51 : zq_ok X 10 51 J51) {Q : zq_Q} (hq : zq_R X (some .int) 1 Q) : zq_ok X 10 63 (xX11_cuts_63 s_X11_isGuest s_X10_whole s_X10_between s_X5_clear s_X5_add J51 Q) := by
  refine zs_iload_n C dX11_cuts_63 rfl ?_
  refine zs_iconst C dX11_cuts_64 (by decide) ?_
  refine zs_aload_n C dX11_cuts_65 rfl ?_
  refine zs_getR C zp_0 zF11 (j := 3) ⟨by decide, rfl⟩ zw_318 dX11_cuts_66 ?_
  refine zs_iload_n C dX11_cuts_69 rfl ?_
  refine zs_iconst C dX11_cuts_70 (by decide) ?_
  refine zs_iload C dX11_cuts_71 ?_
  refine zs_callV C h_X10_between g_X10_between zy_X10_between zp_9 (show vwCl[10]? = some (RX10, TX10, 3) from rfl) zw_597 zw_598 zs9_X10_between dX11_cuts_73 ?_
  refine zs_imul C dX11_cuts_76 ?_
  refine zs_isub C dX11_cuts_77 ?_
  refine zs_mabs C hd1 zw_837 zw_838 zw_14 zw_839 dX11_cuts_78 ?_
  refine zs_istore C dX11_cuts_81 (by decide) ?_
  refine zs_iload C dX11_cuts_83 ?_
  refine zs_iload C dX11_cuts_85 ?_
  exact zs_icmp_ge C dX11_cuts_87 (by decide) (kX11_cuts_98 C hd1 h_X11_isGuest g_X11_isGuest h_X10_whole g_X10_whole h_X10_between g_X10_between h_X5_clear g_X5_clear h_X5_add g_X5_add j51 hq) (kX11_cuts_90 C hd1 h_X11_isGuest g_X11_isGuest h_X10_whole g_X10_whole h_X10_between g_X10_between h_X5_clear g_X5_clear h_X5_add g_X5_add j51 hq)
def xX11_cuts_51 (s_X11_isGuest : zq_Sp) (s_X10_whole : zq_Sp) (s_X10_between : zq_Sp) (s_X5_clear : zq_Sp) (s_X5_add : zq_Sp) (J51 : zq_P) (Q : zq_Q) (ls : zq_L) (st : List Value) (h : zq_H) : Prop := (zi_iload 6 (zi_aload 0 (zi_getR 0 40 (zi_getI 40 3 (zi_if2 (fun x y => y < x) (xX11_cuts_104 s_X11_isGuest s_X10_whole s_X10_between s_X5_clear s_X5_add J51 Q) (xX11_cuts_63 s_X11_isGuest s_X10_whole s_X10_between s_X5_clear s_X5_add J51 Q)))))) ls st h
theorem kX11_cuts_51 {X : zq_X} {d : Nat} (C : zq_C X cX11_cuts 10 RX11 d) (hd1 : 1 ≤ d) {d_X11_isGuest : Nat} {s_X11_isGuest : zq_Sp} (h_X11_isGuest : zq_M yX11_isGuest cX11_isGuest 2 (some .boolean) 1 d_X11_isGuest s_X11_isGuest) (g_X11_isGuest : d_X11_isGuest + 1 ≤ d) {d_X10_whole : Nat} {s_X10_whole : zq_Sp} (h_X10_whole : zq_M yX10_whole cX10_whole 2 (some .int) 1 d_X10_whole s_X10_whole) (g_X10_whole : d_X10_whole + 1 ≤ d) {d_X10_between : Nat} {s_X10_between : zq_Sp} (h_X10_between : zq_M yX10_between cX10_between 4 (some .int) 1 d_X10_between s_X10_between) (g_X10_between : d_X10_between + 1 ≤ d) {d_X5_clear : Nat} {s_X5_clear : zq_Sp} (h_X5_clear : zq_M yX5_clear cX5_clear 1 none 0 d_X5_clear s_X5_clear) (g_X5_clear : d_X5_clear + 1 ≤ d) {d_X5_add : Nat} {s_X5_add : zq_Sp} (h_X5_add : zq_M yX5_add cX5_add 3 none 0 d_X5_add s_X5_add) (g_X5_add : d_X5_add + 1 ≤ d) {J51 : zq_P} (j51 : zq_ok X 10 51 J51) {Q : zq_Q} (hq : zq_R X (some .int) 1 Q) : zq_ok X 10 51 (xX11_cuts_51 s_X11_isGuest s_X10_whole s_X10_between s_X5_clear s_X5_add J51 Q) := by
  refine zs_iload C dX11_cuts_51 ?_
  refine zs_aload_n C dX11_cuts_53 rfl ?_
  refine zs_getR C zp_0 zF11 (j := 11) ⟨by decide, rfl⟩ zw_326 dX11_cuts_54 ?_
  refine zs_getIN C zp_40 zF2 (j := 3) ⟨by decide, rfl⟩ zw_273 dX11_cuts_57 ?_
  exact zs_icmp_gt C dX11_cuts_60 (by decide) (kX11_cuts_104 C hd1 h_X11_isGuest g_X11_isGuest h_X10_whole g_X10_whole h_X10_between g_X10_between h_X5_clear g_X5_clear h_X5_add g_X5_add j51 hq) (kX11_cuts_63 C hd1 h_X11_isGuest g_X11_isGuest h_X10_whole g_X10_whole h_X10_between g_X10_between h_X5_clear g_X5_clear h_X5_add g_X5_add j51 hq)
def xX11_cuts_33 (s_X11_isGuest : zq_Sp) (s_X10_whole : zq_Sp) (s_X10_between : zq_Sp) (s_X5_clear : zq_Sp) (s_X5_add : zq_Sp) (J51 : zq_P) (Q : zq_Q) (ls : zq_L) (st : List Value) (h : zq_H) : Prop := (zi_aload 0 (zi_getR 0 9 (zi_iload 1 (zi_callV 1 9 s_X10_whole (zi_istore 3 (zi_push (.int 0) (zi_istore 4 (zi_iload 3 (zi_istore 5 (zi_push (.int 1) (zi_istore 6 (J51)))))))))))) ls st h
theorem kX11_cuts_33 {X : zq_X} {d : Nat} (C : zq_C X cX11_cuts 10 RX11 d) (hd1 : 1 ≤ d) {d_X11_isGuest : Nat} {s_X11_isGuest : zq_Sp} (h_X11_isGuest : zq_M yX11_isGuest cX11_isGuest 2 (some .boolean) 1 d_X11_isGuest s_X11_isGuest) (g_X11_isGuest : d_X11_isGuest + 1 ≤ d) {d_X10_whole : Nat} {s_X10_whole : zq_Sp} (h_X10_whole : zq_M yX10_whole cX10_whole 2 (some .int) 1 d_X10_whole s_X10_whole) (g_X10_whole : d_X10_whole + 1 ≤ d) {d_X10_between : Nat} {s_X10_between : zq_Sp} (h_X10_between : zq_M yX10_between cX10_between 4 (some .int) 1 d_X10_between s_X10_between) (g_X10_between : d_X10_between + 1 ≤ d) {d_X5_clear : Nat} {s_X5_clear : zq_Sp} (h_X5_clear : zq_M yX5_clear cX5_clear 1 none 0 d_X5_clear s_X5_clear) (g_X5_clear : d_X5_clear + 1 ≤ d) {d_X5_add : Nat} {s_X5_add : zq_Sp} (h_X5_add : zq_M yX5_add cX5_add 3 none 0 d_X5_add s_X5_add) (g_X5_add : d_X5_add + 1 ≤ d) {J51 : zq_P} (j51 : zq_ok X 10 51 J51) {Q : zq_Q} (hq : zq_R X (some .int) 1 Q) : zq_ok X 10 33 (xX11_cuts_33 s_X11_isGuest s_X10_whole s_X10_between s_X5_clear s_X5_add J51 Q) := by
  refine zs_aload_n C dX11_cuts_33 rfl ?_
  refine zs_getR C zp_0 zF11 (j := 3) ⟨by decide, rfl⟩ zw_318 dX11_cuts_34 ?_
  refine zs_iload_n C dX11_cuts_37 rfl ?_
  refine zs_callV C h_X10_whole g_X10_whole zy_X10_whole zp_9 (show vwCl[10]? = some (RX10, TX10, 3) from rfl) zw_690 zw_691 zs9_X10_whole dX11_cuts_38 ?_
  refine zs_istore_n C dX11_cuts_41 rfl (by decide) ?_
  refine zs_iconst C dX11_cuts_42 (by decide) ?_
  refine zs_istore C dX11_cuts_43 (by decide) ?_
  refine zs_iload_n C dX11_cuts_45 rfl ?_
  refine zs_istore C dX11_cuts_46 (by decide) ?_
  refine zs_iconst C dX11_cuts_48 (by decide) ?_
  refine zs_istore C dX11_cuts_49 (by decide) ?_
  exact j51
def xX11_cuts_31 (s_X11_isGuest : zq_Sp) (s_X10_whole : zq_Sp) (s_X10_between : zq_Sp) (s_X5_clear : zq_Sp) (s_X5_add : zq_Sp) (J51 : zq_P) (Q : zq_Q) (ls : zq_L) (st : List Value) (h : zq_H) : Prop := (zi_push (.int (-1)) (zi_iret Q)) ls st h
theorem kX11_cuts_31 {X : zq_X} {d : Nat} (C : zq_C X cX11_cuts 10 RX11 d) (hd1 : 1 ≤ d) {d_X11_isGuest : Nat} {s_X11_isGuest : zq_Sp} (h_X11_isGuest : zq_M yX11_isGuest cX11_isGuest 2 (some .boolean) 1 d_X11_isGuest s_X11_isGuest) (g_X11_isGuest : d_X11_isGuest + 1 ≤ d) {d_X10_whole : Nat} {s_X10_whole : zq_Sp} (h_X10_whole : zq_M yX10_whole cX10_whole 2 (some .int) 1 d_X10_whole s_X10_whole) (g_X10_whole : d_X10_whole + 1 ≤ d) {d_X10_between : Nat} {s_X10_between : zq_Sp} (h_X10_between : zq_M yX10_between cX10_between 4 (some .int) 1 d_X10_between s_X10_between) (g_X10_between : d_X10_between + 1 ≤ d) {d_X5_clear : Nat} {s_X5_clear : zq_Sp} (h_X5_clear : zq_M yX5_clear cX5_clear 1 none 0 d_X5_clear s_X5_clear) (g_X5_clear : d_X5_clear + 1 ≤ d) {d_X5_add : Nat} {s_X5_add : zq_Sp} (h_X5_add : zq_M yX5_add cX5_add 3 none 0 d_X5_add s_X5_add) (g_X5_add : d_X5_add + 1 ≤ d) {J51 : zq_P} (j51 : zq_ok X 10 51 J51) {Q : zq_Q} (hq : zq_R X (some .int) 1 Q) : zq_ok X 10 31 (xX11_cuts_31 s_X11_isGuest s_X10_whole s_X10_between s_X5_clear s_X5_add J51 Q) := by
  refine zs_iconst C dX11_cuts_31 (by decide) ?_
  exact zs_iret C hq dX11_cuts_32
def xX11_cuts_21 (s_X11_isGuest : zq_Sp) (s_X10_whole : zq_Sp) (s_X10_between : zq_Sp) (s_X5_clear : zq_Sp) (s_X5_add : zq_Sp) (J51 : zq_P) (Q : zq_Q) (ls : zq_L) (st : List Value) (h : zq_H) : Prop := (zi_aload 0 (zi_getR 0 40 (zi_getI 40 3 (zi_if1 (fun x => x = 0) (xX11_cuts_31 s_X11_isGuest s_X10_whole s_X10_between s_X5_clear s_X5_add J51 Q) (xX11_cuts_33 s_X11_isGuest s_X10_whole s_X10_between s_X5_clear s_X5_add J51 Q))))) ls st h
theorem kX11_cuts_21 {X : zq_X} {d : Nat} (C : zq_C X cX11_cuts 10 RX11 d) (hd1 : 1 ≤ d) {d_X11_isGuest : Nat} {s_X11_isGuest : zq_Sp} (h_X11_isGuest : zq_M yX11_isGuest cX11_isGuest 2 (some .boolean) 1 d_X11_isGuest s_X11_isGuest) (g_X11_isGuest : d_X11_isGuest + 1 ≤ d) {d_X10_whole : Nat} {s_X10_whole : zq_Sp} (h_X10_whole : zq_M yX10_whole cX10_whole 2 (some .int) 1 d_X10_whole s_X10_whole) (g_X10_whole : d_X10_whole + 1 ≤ d) {d_X10_between : Nat} {s_X10_between : zq_Sp} (h_X10_between : zq_M yX10_between cX10_between 4 (some .int) 1 d_X10_between s_X10_between) (g_X10_between : d_X10_between + 1 ≤ d) {d_X5_clear : Nat} {s_X5_clear : zq_Sp} (h_X5_clear : zq_M yX5_clear cX5_clear 1 none 0 d_X5_clear s_X5_clear) (g_X5_clear : d_X5_clear + 1 ≤ d) {d_X5_add : Nat} {s_X5_add : zq_Sp} (h_X5_add : zq_M yX5_add cX5_add 3 none 0 d_X5_add s_X5_add) (g_X5_add : d_X5_add + 1 ≤ d) {J51 : zq_P} (j51 : zq_ok X 10 51 J51) {Q : zq_Q} (hq : zq_R X (some .int) 1 Q) : zq_ok X 10 21 (xX11_cuts_21 s_X11_isGuest s_X10_whole s_X10_between s_X5_clear s_X5_add J51 Q) := by
  refine zs_aload_n C dX11_cuts_21 rfl ?_
  refine zs_getR C zp_0 zF11 (j := 11) ⟨by decide, rfl⟩ zw_326 dX11_cuts_22 ?_
  refine zs_getIN C zp_40 zF2 (j := 3) ⟨by decide, rfl⟩ zw_273 dX11_cuts_25 ?_
  exact zs_if_ne C dX11_cuts_28 (by decide) (kX11_cuts_33 C hd1 h_X11_isGuest g_X11_isGuest h_X10_whole g_X10_whole h_X10_between g_X10_between h_X5_clear g_X5_clear h_X5_add g_X5_add j51 hq) (kX11_cuts_31 C hd1 h_X11_isGuest g_X11_isGuest h_X10_whole g_X10_whole h_X10_between g_X10_between h_X5_clear g_X5_clear h_X5_add g_X5_add j51 hq)
def xX11_cuts_16 (s_X11_isGuest : zq_Sp) (s_X10_whole : zq_Sp) (s_X10_between : zq_Sp) (s_X5_clear : zq_Sp) (s_X5_add : zq_Sp) (J51 : zq_P) (Q : zq_Q) (ls : zq_L) (st : List Value) (h : zq_H) : Prop := (zi_iload 1 (zi_iload 2 (zi_if2 (fun x y => x = y) (xX11_cuts_31 s_X11_isGuest s_X10_whole s_X10_between s_X5_clear s_X5_add J51 Q) (xX11_cuts_21 s_X11_isGuest s_X10_whole s_X10_between s_X5_clear s_X5_add J51 Q)))) ls st h
theorem kX11_cuts_16 {X : zq_X} {d : Nat} (C : zq_C X cX11_cuts 10 RX11 d) (hd1 : 1 ≤ d) {d_X11_isGuest : Nat} {s_X11_isGuest : zq_Sp} (h_X11_isGuest : zq_M yX11_isGuest cX11_isGuest 2 (some .boolean) 1 d_X11_isGuest s_X11_isGuest) (g_X11_isGuest : d_X11_isGuest + 1 ≤ d) {d_X10_whole : Nat} {s_X10_whole : zq_Sp} (h_X10_whole : zq_M yX10_whole cX10_whole 2 (some .int) 1 d_X10_whole s_X10_whole) (g_X10_whole : d_X10_whole + 1 ≤ d) {d_X10_between : Nat} {s_X10_between : zq_Sp} (h_X10_between : zq_M yX10_between cX10_between 4 (some .int) 1 d_X10_between s_X10_between) (g_X10_between : d_X10_between + 1 ≤ d) {d_X5_clear : Nat} {s_X5_clear : zq_Sp} (h_X5_clear : zq_M yX5_clear cX5_clear 1 none 0 d_X5_clear s_X5_clear) (g_X5_clear : d_X5_clear + 1 ≤ d) {d_X5_add : Nat} {s_X5_add : zq_Sp} (h_X5_add : zq_M yX5_add cX5_add 3 none 0 d_X5_add s_X5_add) (g_X5_add : d_X5_add + 1 ≤ d) {J51 : zq_P} (j51 : zq_ok X 10 51 J51) {Q : zq_Q} (hq : zq_R X (some .int) 1 Q) : zq_ok X 10 16 (xX11_cuts_16 s_X11_isGuest s_X10_whole s_X10_between s_X5_clear s_X5_add J51 Q) := by
  refine zs_iload_n C dX11_cuts_16 rfl ?_
  refine zs_iload_n C dX11_cuts_17 rfl ?_
  exact zs_icmp_eq C dX11_cuts_18 (by decide) (kX11_cuts_31 C hd1 h_X11_isGuest g_X11_isGuest h_X10_whole g_X10_whole h_X10_between g_X10_between h_X5_clear g_X5_clear h_X5_add g_X5_add j51 hq) (kX11_cuts_21 C hd1 h_X11_isGuest g_X11_isGuest h_X10_whole g_X10_whole h_X10_between g_X10_between h_X5_clear g_X5_clear h_X5_add g_X5_add j51 hq)
def xX11_cuts_8 (s_X11_isGuest : zq_Sp) (s_X10_whole : zq_Sp) (s_X10_between : zq_Sp) (s_X5_clear : zq_Sp) (s_X5_add : zq_Sp) (J51 : zq_P) (Q : zq_Q) (ls : zq_L) (st : List Value) (h : zq_H) : Prop := (zi_aload 0 (zi_iload 2 (zi_callV 1 0 s_X11_isGuest (zi_if1 (fun x => x = 0) (xX11_cuts_31 s_X11_isGuest s_X10_whole s_X10_between s_X5_clear s_X5_add J51 Q) (xX11_cuts_16 s_X11_isGuest s_X10_whole s_X10_between s_X5_clear s_X5_add J51 Q))))) ls st h
theorem kX11_cuts_8 {X : zq_X} {d : Nat} (C : zq_C X cX11_cuts 10 RX11 d) (hd1 : 1 ≤ d) {d_X11_isGuest : Nat} {s_X11_isGuest : zq_Sp} (h_X11_isGuest : zq_M yX11_isGuest cX11_isGuest 2 (some .boolean) 1 d_X11_isGuest s_X11_isGuest) (g_X11_isGuest : d_X11_isGuest + 1 ≤ d) {d_X10_whole : Nat} {s_X10_whole : zq_Sp} (h_X10_whole : zq_M yX10_whole cX10_whole 2 (some .int) 1 d_X10_whole s_X10_whole) (g_X10_whole : d_X10_whole + 1 ≤ d) {d_X10_between : Nat} {s_X10_between : zq_Sp} (h_X10_between : zq_M yX10_between cX10_between 4 (some .int) 1 d_X10_between s_X10_between) (g_X10_between : d_X10_between + 1 ≤ d) {d_X5_clear : Nat} {s_X5_clear : zq_Sp} (h_X5_clear : zq_M yX5_clear cX5_clear 1 none 0 d_X5_clear s_X5_clear) (g_X5_clear : d_X5_clear + 1 ≤ d) {d_X5_add : Nat} {s_X5_add : zq_Sp} (h_X5_add : zq_M yX5_add cX5_add 3 none 0 d_X5_add s_X5_add) (g_X5_add : d_X5_add + 1 ≤ d) {J51 : zq_P} (j51 : zq_ok X 10 51 J51) {Q : zq_Q} (hq : zq_R X (some .int) 1 Q) : zq_ok X 10 8 (xX11_cuts_8 s_X11_isGuest s_X10_whole s_X10_between s_X5_clear s_X5_add J51 Q) := by
  refine zs_aload_n C dX11_cuts_8 rfl ?_
  refine zs_iload_n C dX11_cuts_9 rfl ?_
  refine zs_callV C h_X11_isGuest g_X11_isGuest zy_X11_isGuest zp_0 (show vwCl[11]? = some (RX11, TX11, 16) from rfl) zw_546 zw_548 zs9_X11_isGuest dX11_cuts_10 ?_
  exact zs_if_eq C dX11_cuts_13 (by decide) (kX11_cuts_31 C hd1 h_X11_isGuest g_X11_isGuest h_X10_whole g_X10_whole h_X10_between g_X10_between h_X5_clear g_X5_clear h_X5_add g_X5_add j51 hq) (kX11_cuts_16 C hd1 h_X11_isGuest g_X11_isGuest h_X10_whole g_X10_whole h_X10_between g_X10_between h_X5_clear g_X5_clear h_X5_add g_X5_add j51 hq)
def xX11_cuts_0 (s_X11_isGuest : zq_Sp) (s_X10_whole : zq_Sp) (s_X10_between : zq_Sp) (s_X5_clear : zq_Sp) (s_X5_add : zq_Sp) (J51 : zq_P) (Q : zq_Q) (ls : zq_L) (st : List Value) (h : zq_H) : Prop := (zi_aload 0 (zi_iload 1 (zi_callV 1 0 s_X11_isGuest (zi_if1 (fun x => x = 0) (xX11_cuts_31 s_X11_isGuest s_X10_whole s_X10_between s_X5_clear s_X5_add J51 Q) (xX11_cuts_8 s_X11_isGuest s_X10_whole s_X10_between s_X5_clear s_X5_add J51 Q))))) ls st h
theorem kX11_cuts_0 {X : zq_X} {d : Nat} (C : zq_C X cX11_cuts 10 RX11 d) (hd1 : 1 ≤ d) {d_X11_isGuest : Nat} {s_X11_isGuest : zq_Sp} (h_X11_isGuest : zq_M yX11_isGuest cX11_isGuest 2 (some .boolean) 1 d_X11_isGuest s_X11_isGuest) (g_X11_isGuest : d_X11_isGuest + 1 ≤ d) {d_X10_whole : Nat} {s_X10_whole : zq_Sp} (h_X10_whole : zq_M yX10_whole cX10_whole 2 (some .int) 1 d_X10_whole s_X10_whole) (g_X10_whole : d_X10_whole + 1 ≤ d) {d_X10_between : Nat} {s_X10_between : zq_Sp} (h_X10_between : zq_M yX10_between cX10_between 4 (some .int) 1 d_X10_between s_X10_between) (g_X10_between : d_X10_between + 1 ≤ d) {d_X5_clear : Nat} {s_X5_clear : zq_Sp} (h_X5_clear : zq_M yX5_clear cX5_clear 1 none 0 d_X5_clear s_X5_clear) (g_X5_clear : d_X5_clear + 1 ≤ d) {d_X5_add : Nat} {s_X5_add : zq_Sp} (h_X5_add : zq_M yX5_add cX5_add 3 none 0 d_X5_add s_X5_add) (g_X5_add : d_X5_add + 1 ≤ d) {J51 : zq_P} (j51 : zq_ok X 10 51 J51) {Q : zq_Q} (hq : zq_R X (some .int) 1 Q) : zq_ok X 10 0 (xX11_cuts_0 s_X11_isGuest s_X10_whole s_X10_between s_X5_clear s_X5_add J51 Q) := by
  refine zs_aload_n C dX11_cuts_0 rfl ?_
  refine zs_iload_n C dX11_cuts_1 rfl ?_
  refine zs_callV C h_X11_isGuest g_X11_isGuest zy_X11_isGuest zp_0 (show vwCl[11]? = some (RX11, TX11, 16) from rfl) zw_546 zw_548 zs9_X11_isGuest dX11_cuts_2 ?_
  exact zs_if_eq C dX11_cuts_5 (by decide) (kX11_cuts_31 C hd1 h_X11_isGuest g_X11_isGuest h_X10_whole g_X10_whole h_X10_between g_X10_between h_X5_clear g_X5_clear h_X5_add g_X5_add j51 hq) (kX11_cuts_8 C hd1 h_X11_isGuest g_X11_isGuest h_X10_whole g_X10_whole h_X10_between g_X10_between h_X5_clear g_X5_clear h_X5_add g_X5_add j51 hq)
theorem mX11_cuts {d : Nat} {spec : zq_Sp} {σ51 : Type} {d_X11_isGuest : Nat} {s_X11_isGuest : zq_Sp} (h_X11_isGuest : zq_M yX11_isGuest cX11_isGuest 2 (some .boolean) 1 d_X11_isGuest s_X11_isGuest) (g_X11_isGuest : d_X11_isGuest + 1 ≤ d) {d_X10_whole : Nat} {s_X10_whole : zq_Sp} (h_X10_whole : zq_M yX10_whole cX10_whole 2 (some .int) 1 d_X10_whole s_X10_whole) (g_X10_whole : d_X10_whole + 1 ≤ d) {d_X10_between : Nat} {s_X10_between : zq_Sp} (h_X10_between : zq_M yX10_between cX10_between 4 (some .int) 1 d_X10_between s_X10_between) (g_X10_between : d_X10_between + 1 ≤ d) {d_X5_clear : Nat} {s_X5_clear : zq_Sp} (h_X5_clear : zq_M yX5_clear cX5_clear 1 none 0 d_X5_clear s_X5_clear) (g_X5_clear : d_X5_clear + 1 ≤ d) {d_X5_add : Nat} {s_X5_add : zq_Sp} (h_X5_add : zq_M yX5_add cX5_add 3 none 0 d_X5_add s_X5_add) (g_X5_add : d_X5_add + 1 ≤ d) (hd1 : 1 ≤ d) (μ51 : σ51 → Nat) (I51 : zq_Q → σ51 → zq_P) (v : ∀ args h Q, spec args h Q → (zq_a args).length ≤ 10 ∧ xX11_cuts_0 s_X11_isGuest s_X10_whole s_X10_between s_X5_clear s_X5_add (fun ls st h => ∃ b, I51 Q b ls st h) Q (zq_l0 10 args) [] h) (v51 : ∀ Q a ls st h, I51 Q a ls st h → xX11_cuts_51 s_X11_isGuest s_X10_whole s_X10_between s_X5_clear s_X5_add (fun ls st h => ∃ b, μ51 b < μ51 a ∧ I51 Q b ls st h) Q ls st h) : zq_M yX11_cuts cX11_cuts 10 (some .int) 1 d spec := by
  refine zq_met (by decide +kernel) (by decide) (fun X Q args h C hq hs => ⟨(v args h Q hs).1, _, ?_, (v args h Q hs).2⟩)
  have hl := zq_loop1 (X := X) (nL := 10) (pc1 := 51) μ51 (I51 Q) (fun J51 => xX11_cuts_51 s_X11_isGuest s_X10_whole s_X10_between s_X5_clear s_X5_add J51 Q) (fun j51 => kX11_cuts_51 C hd1 h_X11_isGuest g_X11_isGuest h_X10_whole g_X10_whole h_X10_between g_X10_between h_X5_clear g_X5_clear h_X5_add g_X5_add j51 hq) (v51 Q)
  exact kX11_cuts_0 C hd1 h_X11_isGuest g_X11_isGuest h_X10_whole g_X10_whole h_X10_between g_X10_between h_X5_clear g_X5_clear h_X5_add g_X5_add hl hq
/-! ToOneCrumb.byturns()I -/
theorem dX11_byturns_0 : decode cX11_byturns 0 = .ok (.aload_n 0, 1) := by decide +kernel
theorem dX11_byturns_1 : decode cX11_byturns 1 = .ok (.getfield 68, 3) := by decide +kernel
theorem dX11_byturns_4 : decode cX11_byturns 4 = .ok (.aload_n 0, 1) := by decide +kernel
theorem dX11_byturns_5 : decode cX11_byturns 5 = .ok (.getfield 10, 3) := by decide +kernel
theorem dX11_byturns_8 : decode cX11_byturns 8 = .ok (.aload_n 0, 1) := by decide +kernel
theorem dX11_byturns_9 : decode cX11_byturns 9 = .ok (.getfield 26, 3) := by decide +kernel
theorem dX11_byturns_12 : decode cX11_byturns 12 = .ok (.getfield 243, 3) := by decide +kernel
theorem dX11_byturns_15 : decode cX11_byturns 15 = .ok (.invokevirtual 291, 3) := by decide +kernel
theorem dX11_byturns_18 : decode cX11_byturns 18 = .ok (.istore_n 1, 1) := by decide +kernel
theorem dX11_byturns_19 : decode cX11_byturns 19 = .ok (.aload_n 0, 1) := by decide +kernel
theorem dX11_byturns_20 : decode cX11_byturns 20 = .ok (.getfield 10, 3) := by decide +kernel
theorem dX11_byturns_23 : decode cX11_byturns 23 = .ok (.invokevirtual 111, 3) := by decide +kernel
theorem dX11_byturns_26 : decode cX11_byturns 26 = .ok (.iload_n 1, 1) := by decide +kernel
theorem dX11_byturns_27 : decode cX11_byturns 27 = .ok (.ifCond .ne 11, 3) := by decide +kernel
theorem dX11_byturns_30 : decode cX11_byturns 30 = .ok (.aload_n 0, 1) := by decide +kernel
theorem dX11_byturns_31 : decode cX11_byturns 31 = .ok (.getfield 10, 3) := by decide +kernel
theorem dX11_byturns_34 : decode cX11_byturns 34 = .ok (.invokevirtual 114, 3) := by decide +kernel
theorem dX11_byturns_37 : decode cX11_byturns 37 = .ok (.ireturn, 1) := by decide +kernel
theorem dX11_byturns_38 : decode cX11_byturns 38 = .ok (.aload_n 0, 1) := by decide +kernel
theorem dX11_byturns_39 : decode cX11_byturns 39 = .ok (.getfield 68, 3) := by decide +kernel
theorem dX11_byturns_42 : decode cX11_byturns 42 = .ok (.aload_n 0, 1) := by decide +kernel
theorem dX11_byturns_43 : decode cX11_byturns 43 = .ok (.getfield 33, 3) := by decide +kernel
theorem dX11_byturns_46 : decode cX11_byturns 46 = .ok (.invokevirtual 294, 3) := by decide +kernel
theorem dX11_byturns_49 : decode cX11_byturns 49 = .ok (.aload_n 0, 1) := by decide +kernel
theorem dX11_byturns_50 : decode cX11_byturns 50 = .ok (.getfield 68, 3) := by decide +kernel
theorem dX11_byturns_53 : decode cX11_byturns 53 = .ok (.aload_n 0, 1) := by decide +kernel
theorem dX11_byturns_54 : decode cX11_byturns 54 = .ok (.getfield 33, 3) := by decide +kernel
theorem dX11_byturns_57 : decode cX11_byturns 57 = .ok (.invokevirtual 298, 3) := by decide +kernel
theorem dX11_byturns_60 : decode cX11_byturns 60 = .ok (.istore_n 2, 1) := by decide +kernel
theorem dX11_byturns_61 : decode cX11_byturns 61 = .ok (.aload_n 0, 1) := by decide +kernel
theorem dX11_byturns_62 : decode cX11_byturns 62 = .ok (.getfield 19, 3) := by decide +kernel
theorem dX11_byturns_65 : decode cX11_byturns 65 = .ok (.invokevirtual 236, 3) := by decide +kernel
theorem dX11_byturns_68 : decode cX11_byturns 68 = .ok (.iconst 0, 1) := by decide +kernel
theorem dX11_byturns_69 : decode cX11_byturns 69 = .ok (.istore_n 3, 1) := by decide +kernel
theorem dX11_byturns_70 : decode cX11_byturns 70 = .ok (.iload_n 3, 1) := by decide +kernel
theorem dX11_byturns_71 : decode cX11_byturns 71 = .ok (.aload_n 0, 1) := by decide +kernel
theorem dX11_byturns_72 : decode cX11_byturns 72 = .ok (.getfield 26, 3) := by decide +kernel
theorem dX11_byturns_75 : decode cX11_byturns 75 = .ok (.getfield 243, 3) := by decide +kernel
theorem dX11_byturns_78 : decode cX11_byturns 78 = .ok (.if_icmp .ge 26, 3) := by decide +kernel
theorem dX11_byturns_81 : decode cX11_byturns 81 = .ok (.aload_n 0, 1) := by decide +kernel
theorem dX11_byturns_82 : decode cX11_byturns 82 = .ok (.getfield 19, 3) := by decide +kernel
theorem dX11_byturns_85 : decode cX11_byturns 85 = .ok (.aload_n 0, 1) := by decide +kernel
theorem dX11_byturns_86 : decode cX11_byturns 86 = .ok (.getfield 68, 3) := by decide +kernel
theorem dX11_byturns_89 : decode cX11_byturns 89 = .ok (.getfield 302, 3) := by decide +kernel
theorem dX11_byturns_92 : decode cX11_byturns 92 = .ok (.iload_n 3, 1) := by decide +kernel
theorem dX11_byturns_93 : decode cX11_byturns 93 = .ok (.iaload, 1) := by decide +kernel
theorem dX11_byturns_94 : decode cX11_byturns 94 = .ok (.i2l, 1) := by decide +kernel
theorem dX11_byturns_95 : decode cX11_byturns 95 = .ok (.invokevirtual 237, 3) := by decide +kernel
theorem dX11_byturns_98 : decode cX11_byturns 98 = .ok (.iinc 3 1, 3) := by decide +kernel
theorem dX11_byturns_101 : decode cX11_byturns 101 = .ok (.goto (-31), 3) := by decide +kernel
theorem dX11_byturns_104 : decode cX11_byturns 104 = .ok (.iload_n 2, 1) := by decide +kernel
theorem dX11_byturns_105 : decode cX11_byturns 105 = .ok (.ireturn, 1) := by decide +kernel
def xX11_byturns_104 (s_X9_read : zq_Sp) (s_X8_clear : zq_Sp) (s_X8_fault : zq_Sp) (s_X9_startTaking : zq_Sp) (s_X9_takeAll : zq_Sp) (s_X5_clear : zq_Sp) (s_X5_add : zq_Sp) (J70 : zq_P) (Q : zq_Q) (ls : zq_L) (st : List Value) (h : zq_H) : Prop := (zi_iload 2 (zi_iret Q)) ls st h
theorem kX11_byturns_104 {X : zq_X} {d : Nat} (C : zq_C X cX11_byturns 4 RX11 d) {d_X9_read : Nat} {s_X9_read : zq_Sp} (h_X9_read : zq_M yX9_read cX9_read 4 (some .boolean) 1 d_X9_read s_X9_read) (g_X9_read : d_X9_read + 1 ≤ d) {d_X8_clear : Nat} {s_X8_clear : zq_Sp} (h_X8_clear : zq_M yX8_clear cX8_clear 1 none 0 d_X8_clear s_X8_clear) (g_X8_clear : d_X8_clear + 1 ≤ d) {d_X8_fault : Nat} {s_X8_fault : zq_Sp} (h_X8_fault : zq_M yX8_fault cX8_fault 1 (some .int) 1 d_X8_fault s_X8_fault) (g_X8_fault : d_X8_fault + 1 ≤ d) {d_X9_startTaking : Nat} {s_X9_startTaking : zq_Sp} (h_X9_startTaking : zq_M yX9_startTaking cX9_startTaking 2 none 0 d_X9_startTaking s_X9_startTaking) (g_X9_startTaking : d_X9_startTaking + 1 ≤ d) {d_X9_takeAll : Nat} {s_X9_takeAll : zq_Sp} (h_X9_takeAll : zq_M yX9_takeAll cX9_takeAll 7 (some .int) 1 d_X9_takeAll s_X9_takeAll) (g_X9_takeAll : d_X9_takeAll + 1 ≤ d) {d_X5_clear : Nat} {s_X5_clear : zq_Sp} (h_X5_clear : zq_M yX5_clear cX5_clear 1 none 0 d_X5_clear s_X5_clear) (g_X5_clear : d_X5_clear + 1 ≤ d) {d_X5_add : Nat} {s_X5_add : zq_Sp} (h_X5_add : zq_M yX5_add cX5_add 3 none 0 d_X5_add s_X5_add) (g_X5_add : d_X5_add + 1 ≤ d) {J70 : zq_P} (j70 : zq_ok X 4 70 J70) {Q : zq_Q} (hq : zq_R X (some .int) 1 Q) : zq_ok X 4 104 (xX11_byturns_104 s_X9_read s_X8_clear s_X8_fault s_X9_startTaking s_X9_takeAll s_X5_clear s_X5_add J70 Q) := by
  refine zs_iload_n C dX11_byturns_104 rfl ?_
  exact zs_iret C hq dX11_byturns_105
def xX11_byturns_81 (s_X9_read : zq_Sp) (s_X8_clear : zq_Sp) (s_X8_fault : zq_Sp) (s_X9_startTaking : zq_Sp) (s_X9_takeAll : zq_Sp) (s_X5_clear : zq_Sp) (s_X5_add : zq_Sp) (J70 : zq_P) (Q : zq_Q) (ls : zq_L) (st : List Value) (h : zq_H) : Prop := (zi_aload 0 (zi_getR 0 3 (zi_aload 0 (zi_getR 0 34 (zi_getR 34 37 (zi_iload 3 (zi_aldI 37 6 (zi_i2l (zi_callV 1 3 s_X5_add (zi_iinc 3 1 (J70))))))))))) ls st h
theorem kX11_byturns_81 {X : zq_X} {d : Nat} (C : zq_C X cX11_byturns 4 RX11 d) {d_X9_read : Nat} {s_X9_read : zq_Sp} (h_X9_read : zq_M yX9_read cX9_read 4 (some .boolean) 1 d_X9_read s_X9_read) (g_X9_read : d_X9_read + 1 ≤ d) {d_X8_clear : Nat} {s_X8_clear : zq_Sp} (h_X8_clear : zq_M yX8_clear cX8_clear 1 none 0 d_X8_clear s_X8_clear) (g_X8_clear : d_X8_clear + 1 ≤ d) {d_X8_fault : Nat} {s_X8_fault : zq_Sp} (h_X8_fault : zq_M yX8_fault cX8_fault 1 (some .int) 1 d_X8_fault s_X8_fault) (g_X8_fault : d_X8_fault + 1 ≤ d) {d_X9_startTaking : Nat} {s_X9_startTaking : zq_Sp} (h_X9_startTaking : zq_M yX9_startTaking cX9_startTaking 2 none 0 d_X9_startTaking s_X9_startTaking) (g_X9_startTaking : d_X9_startTaking + 1 ≤ d) {d_X9_takeAll : Nat} {s_X9_takeAll : zq_Sp} (h_X9_takeAll : zq_M yX9_takeAll cX9_takeAll 7 (some .int) 1 d_X9_takeAll s_X9_takeAll) (g_X9_takeAll : d_X9_takeAll + 1 ≤ d) {d_X5_clear : Nat} {s_X5_clear : zq_Sp} (h_X5_clear : zq_M yX5_clear cX5_clear 1 none 0 d_X5_clear s_X5_clear) (g_X5_clear : d_X5_clear + 1 ≤ d) {d_X5_add : Nat} {s_X5_add : zq_Sp} (h_X5_add : zq_M yX5_add cX5_add 3 none 0 d_X5_add s_X5_add) (g_X5_add : d_X5_add + 1 ≤ d) {J70 : zq_P} (j70 : zq_ok X 4 70 J70) {Q : zq_Q} (hq : zq_R X (some .int) 1 Q) : zq_ok X 4 81 (xX11_byturns_81 s_X9_read s_X8_clear s_X8_fault s_X9_startTaking s_X9_takeAll s_X5_clear s_X5_add J70 Q) := by
  refine zs_aload_n C dX11_byturns_81 rfl ?_
  refine zs_getR C zp_0 zF11 (j := 1) ⟨by decide, rfl⟩ zw_316 dX11_byturns_82 ?_
  refine zs_aload_n C dX11_byturns_85 rfl ?_
  refine zs_getR C zp_0 zF11 (j := 8) ⟨by decide, rfl⟩ zw_323 dX11_byturns_86 ?_
  refine zs_getRN C zp_34 zF9 (j := 2) ⟨by decide, rfl⟩ zw_243 dX11_byturns_89 ?_
  refine zs_iload_n C dX11_byturns_92 rfl ?_
  refine zs_iaload C zp_37 dX11_byturns_93 ?_
  refine zs_i2l C dX11_byturns_94 ?_
  refine zs_callV C h_X5_add g_X5_add zy_X5_add zp_3 (show vwCl[5]? = some (RX5, TX5, 2) from rfl) zw_654 zw_655 zs9_X5_add dX11_byturns_95 ?_
  refine zs_iinc C dX11_byturns_98 (by decide) (by decide) ?_
  exact zs_goto C dX11_byturns_101 (by decide) (j70)
def xX11_byturns_70 (s_X9_read : zq_Sp) (s_X8_clear : zq_Sp) (s_X8_fault : zq_Sp) (s_X9_startTaking : zq_Sp) (s_X9_takeAll : zq_Sp) (s_X5_clear : zq_Sp) (s_X5_add : zq_Sp) (J70 : zq_P) (Q : zq_Q) (ls : zq_L) (st : List Value) (h : zq_H) : Prop := (zi_iload 3 (zi_aload 0 (zi_getR 0 5 (zi_getI 5 3 (zi_if2 (fun x y => y ≤ x) (xX11_byturns_104 s_X9_read s_X8_clear s_X8_fault s_X9_startTaking s_X9_takeAll s_X5_clear s_X5_add J70 Q) (xX11_byturns_81 s_X9_read s_X8_clear s_X8_fault s_X9_startTaking s_X9_takeAll s_X5_clear s_X5_add J70 Q)))))) ls st h
theorem kX11_byturns_70 {X : zq_X} {d : Nat} (C : zq_C X cX11_byturns 4 RX11 d) {d_X9_read : Nat} {s_X9_read : zq_Sp} (h_X9_read : zq_M yX9_read cX9_read 4 (some .boolean) 1 d_X9_read s_X9_read) (g_X9_read : d_X9_read + 1 ≤ d) {d_X8_clear : Nat} {s_X8_clear : zq_Sp} (h_X8_clear : zq_M yX8_clear cX8_clear 1 none 0 d_X8_clear s_X8_clear) (g_X8_clear : d_X8_clear + 1 ≤ d) {d_X8_fault : Nat} {s_X8_fault : zq_Sp} (h_X8_fault : zq_M yX8_fault cX8_fault 1 (some .int) 1 d_X8_fault s_X8_fault) (g_X8_fault : d_X8_fault + 1 ≤ d) {d_X9_startTaking : Nat} {s_X9_startTaking : zq_Sp} (h_X9_startTaking : zq_M yX9_startTaking cX9_startTaking 2 none 0 d_X9_startTaking s_X9_startTaking) (g_X9_startTaking : d_X9_startTaking + 1 ≤ d) {d_X9_takeAll : Nat} {s_X9_takeAll : zq_Sp} (h_X9_takeAll : zq_M yX9_takeAll cX9_takeAll 7 (some .int) 1 d_X9_takeAll s_X9_takeAll) (g_X9_takeAll : d_X9_takeAll + 1 ≤ d) {d_X5_clear : Nat} {s_X5_clear : zq_Sp} (h_X5_clear : zq_M yX5_clear cX5_clear 1 none 0 d_X5_clear s_X5_clear) (g_X5_clear : d_X5_clear + 1 ≤ d) {d_X5_add : Nat} {s_X5_add : zq_Sp} (h_X5_add : zq_M yX5_add cX5_add 3 none 0 d_X5_add s_X5_add) (g_X5_add : d_X5_add + 1 ≤ d) {J70 : zq_P} (j70 : zq_ok X 4 70 J70) {Q : zq_Q} (hq : zq_R X (some .int) 1 Q) : zq_ok X 4 70 (xX11_byturns_70 s_X9_read s_X8_clear s_X8_fault s_X9_startTaking s_X9_takeAll s_X5_clear s_X5_add J70 Q) := by
  refine zs_iload_n C dX11_byturns_70 rfl ?_
  refine zs_aload_n C dX11_byturns_71 rfl ?_
  refine zs_getR C zp_0 zF11 (j := 2) ⟨by decide, rfl⟩ zw_317 dX11_byturns_72 ?_
  refine zs_getIN C zp_5 zF3 (j := 3) ⟨by decide, rfl⟩ zw_85 dX11_byturns_75 ?_
  exact zs_icmp_ge C dX11_byturns_78 (by decide) (kX11_byturns_104 C h_X9_read g_X9_read h_X8_clear g_X8_clear h_X8_fault g_X8_fault h_X9_startTaking g_X9_startTaking h_X9_takeAll g_X9_takeAll h_X5_clear g_X5_clear h_X5_add g_X5_add j70 hq) (kX11_byturns_81 C h_X9_read g_X9_read h_X8_clear g_X8_clear h_X8_fault g_X8_fault h_X9_startTaking g_X9_startTaking h_X9_takeAll g_X9_takeAll h_X5_clear g_X5_clear h_X5_add g_X5_add j70 hq)
def xX11_byturns_38 (s_X9_read : zq_Sp) (s_X8_clear : zq_Sp) (s_X8_fault : zq_Sp) (s_X9_startTaking : zq_Sp) (s_X9_takeAll : zq_Sp) (s_X5_clear : zq_Sp) (s_X5_add : zq_Sp) (J70 : zq_P) (Q : zq_Q) (ls : zq_L) (st : List Value) (h : zq_H) : Prop := (zi_aload 0 (zi_getR 0 34 (zi_aload 0 (zi_getR 0 9 (zi_callV 1 34 s_X9_startTaking (zi_aload 0 (zi_getR 0 34 (zi_aload 0 (zi_getR 0 9 (zi_callV 1 34 s_X9_takeAll (zi_istore 2 (zi_aload 0 (zi_getR 0 3 (zi_callV 0 3 s_X5_clear (zi_push (.int 0) (zi_istore 3 (J70))))))))))))))))) ls st h
theorem kX11_byturns_38 {X : zq_X} {d : Nat} (C : zq_C X cX11_byturns 4 RX11 d) {d_X9_read : Nat} {s_X9_read : zq_Sp} (h_X9_read : zq_M yX9_read cX9_read 4 (some .boolean) 1 d_X9_read s_X9_read) (g_X9_read : d_X9_read + 1 ≤ d) {d_X8_clear : Nat} {s_X8_clear : zq_Sp} (h_X8_clear : zq_M yX8_clear cX8_clear 1 none 0 d_X8_clear s_X8_clear) (g_X8_clear : d_X8_clear + 1 ≤ d) {d_X8_fault : Nat} {s_X8_fault : zq_Sp} (h_X8_fault : zq_M yX8_fault cX8_fault 1 (some .int) 1 d_X8_fault s_X8_fault) (g_X8_fault : d_X8_fault + 1 ≤ d) {d_X9_startTaking : Nat} {s_X9_startTaking : zq_Sp} (h_X9_startTaking : zq_M yX9_startTaking cX9_startTaking 2 none 0 d_X9_startTaking s_X9_startTaking) (g_X9_startTaking : d_X9_startTaking + 1 ≤ d) {d_X9_takeAll : Nat} {s_X9_takeAll : zq_Sp} (h_X9_takeAll : zq_M yX9_takeAll cX9_takeAll 7 (some .int) 1 d_X9_takeAll s_X9_takeAll) (g_X9_takeAll : d_X9_takeAll + 1 ≤ d) {d_X5_clear : Nat} {s_X5_clear : zq_Sp} (h_X5_clear : zq_M yX5_clear cX5_clear 1 none 0 d_X5_clear s_X5_clear) (g_X5_clear : d_X5_clear + 1 ≤ d) {d_X5_add : Nat} {s_X5_add : zq_Sp} (h_X5_add : zq_M yX5_add cX5_add 3 none 0 d_X5_add s_X5_add) (g_X5_add : d_X5_add + 1 ≤ d) {J70 : zq_P} (j70 : zq_ok X 4 70 J70) {Q : zq_Q} (hq : zq_R X (some .int) 1 Q) : zq_ok X 4 38 (xX11_byturns_38 s_X9_read s_X8_clear s_X8_fault s_X9_startTaking s_X9_takeAll s_X5_clear s_X5_add J70 Q) := by
  refine zs_aload_n C dX11_byturns_38 rfl ?_
  refine zs_getR C zp_0 zF11 (j := 8) ⟨by decide, rfl⟩ zw_323 dX11_byturns_39 ?_
  refine zs_aload_n C dX11_byturns_42 rfl ?_
  refine zs_getR C zp_0 zF11 (j := 3) ⟨by decide, rfl⟩ zw_318 dX11_byturns_43 ?_
  refine zs_callV C h_X9_startTaking g_X9_startTaking zy_X9_startTaking zp_34 (show vwCl[9]? = some (RX9, TX9, 4) from rfl) zw_851 zw_852 zs9_X9_startTaking dX11_byturns_46 ?_
  refine zs_aload_n C dX11_byturns_49 rfl ?_
  refine zs_getR C zp_0 zF11 (j := 8) ⟨by decide, rfl⟩ zw_323 dX11_byturns_50 ?_
  refine zs_aload_n C dX11_byturns_53 rfl ?_
  refine zs_getR C zp_0 zF11 (j := 3) ⟨by decide, rfl⟩ zw_318 dX11_byturns_54 ?_
  refine zs_callV C h_X9_takeAll g_X9_takeAll zy_X9_takeAll zp_34 (show vwCl[9]? = some (RX9, TX9, 4) from rfl) zw_857 zw_858 zs9_X9_takeAll dX11_byturns_57 ?_
  refine zs_istore_n C dX11_byturns_60 rfl (by decide) ?_
  refine zs_aload_n C dX11_byturns_61 rfl ?_
  refine zs_getR C zp_0 zF11 (j := 1) ⟨by decide, rfl⟩ zw_316 dX11_byturns_62 ?_
  refine zs_callV C h_X5_clear g_X5_clear zy_X5_clear zp_3 (show vwCl[5]? = some (RX5, TX5, 2) from rfl) zw_650 zw_651 zs9_X5_clear dX11_byturns_65 ?_
  refine zs_iconst C dX11_byturns_68 (by decide) ?_
  refine zs_istore_n C dX11_byturns_69 rfl (by decide) ?_
  exact j70
def xX11_byturns_30 (s_X9_read : zq_Sp) (s_X8_clear : zq_Sp) (s_X8_fault : zq_Sp) (s_X9_startTaking : zq_Sp) (s_X9_takeAll : zq_Sp) (s_X5_clear : zq_Sp) (s_X5_add : zq_Sp) (J70 : zq_P) (Q : zq_Q) (ls : zq_L) (st : List Value) (h : zq_H) : Prop := (zi_aload 0 (zi_getR 0 1 (zi_callV 0 1 s_X8_fault (zi_iret Q)))) ls st h
theorem kX11_byturns_30 {X : zq_X} {d : Nat} (C : zq_C X cX11_byturns 4 RX11 d) {d_X9_read : Nat} {s_X9_read : zq_Sp} (h_X9_read : zq_M yX9_read cX9_read 4 (some .boolean) 1 d_X9_read s_X9_read) (g_X9_read : d_X9_read + 1 ≤ d) {d_X8_clear : Nat} {s_X8_clear : zq_Sp} (h_X8_clear : zq_M yX8_clear cX8_clear 1 none 0 d_X8_clear s_X8_clear) (g_X8_clear : d_X8_clear + 1 ≤ d) {d_X8_fault : Nat} {s_X8_fault : zq_Sp} (h_X8_fault : zq_M yX8_fault cX8_fault 1 (some .int) 1 d_X8_fault s_X8_fault) (g_X8_fault : d_X8_fault + 1 ≤ d) {d_X9_startTaking : Nat} {s_X9_startTaking : zq_Sp} (h_X9_startTaking : zq_M yX9_startTaking cX9_startTaking 2 none 0 d_X9_startTaking s_X9_startTaking) (g_X9_startTaking : d_X9_startTaking + 1 ≤ d) {d_X9_takeAll : Nat} {s_X9_takeAll : zq_Sp} (h_X9_takeAll : zq_M yX9_takeAll cX9_takeAll 7 (some .int) 1 d_X9_takeAll s_X9_takeAll) (g_X9_takeAll : d_X9_takeAll + 1 ≤ d) {d_X5_clear : Nat} {s_X5_clear : zq_Sp} (h_X5_clear : zq_M yX5_clear cX5_clear 1 none 0 d_X5_clear s_X5_clear) (g_X5_clear : d_X5_clear + 1 ≤ d) {d_X5_add : Nat} {s_X5_add : zq_Sp} (h_X5_add : zq_M yX5_add cX5_add 3 none 0 d_X5_add s_X5_add) (g_X5_add : d_X5_add + 1 ≤ d) {J70 : zq_P} (j70 : zq_ok X 4 70 J70) {Q : zq_Q} (hq : zq_R X (some .int) 1 Q) : zq_ok X 4 30 (xX11_byturns_30 s_X9_read s_X8_clear s_X8_fault s_X9_startTaking s_X9_takeAll s_X5_clear s_X5_add J70 Q) := by
  refine zs_aload_n C dX11_byturns_30 rfl ?_
  refine zs_getR C zp_0 zF11 (j := 0) ⟨by decide, rfl⟩ zw_315 dX11_byturns_31 ?_
  refine zs_callV C h_X8_fault g_X8_fault zy_X8_fault zp_1 (show vwCl[8]? = some (RX8, TX8, 4) from rfl) zw_419 zw_420 zs9_X8_fault dX11_byturns_34 ?_
  exact zs_iret C hq dX11_byturns_37
def xX11_byturns_0 (s_X9_read : zq_Sp) (s_X8_clear : zq_Sp) (s_X8_fault : zq_Sp) (s_X9_startTaking : zq_Sp) (s_X9_takeAll : zq_Sp) (s_X5_clear : zq_Sp) (s_X5_add : zq_Sp) (J70 : zq_P) (Q : zq_Q) (ls : zq_L) (st : List Value) (h : zq_H) : Prop := (zi_aload 0 (zi_getR 0 34 (zi_aload 0 (zi_getR 0 1 (zi_aload 0 (zi_getR 0 5 (zi_getI 5 3 (zi_callV 2 34 s_X9_read (zi_istore 1 (zi_aload 0 (zi_getR 0 1 (zi_callV 0 1 s_X8_clear (zi_iload 1 (zi_if1 (fun x => x = 0) (xX11_byturns_30 s_X9_read s_X8_clear s_X8_fault s_X9_startTaking s_X9_takeAll s_X5_clear s_X5_add J70 Q) (xX11_byturns_38 s_X9_read s_X8_clear s_X8_fault s_X9_startTaking s_X9_takeAll s_X5_clear s_X5_add J70 Q))))))))))))))) ls st h
theorem kX11_byturns_0 {X : zq_X} {d : Nat} (C : zq_C X cX11_byturns 4 RX11 d) {d_X9_read : Nat} {s_X9_read : zq_Sp} (h_X9_read : zq_M yX9_read cX9_read 4 (some .boolean) 1 d_X9_read s_X9_read) (g_X9_read : d_X9_read + 1 ≤ d) {d_X8_clear : Nat} {s_X8_clear : zq_Sp} (h_X8_clear : zq_M yX8_clear cX8_clear 1 none 0 d_X8_clear s_X8_clear) (g_X8_clear : d_X8_clear + 1 ≤ d) {d_X8_fault : Nat} {s_X8_fault : zq_Sp} (h_X8_fault : zq_M yX8_fault cX8_fault 1 (some .int) 1 d_X8_fault s_X8_fault) (g_X8_fault : d_X8_fault + 1 ≤ d) {d_X9_startTaking : Nat} {s_X9_startTaking : zq_Sp} (h_X9_startTaking : zq_M yX9_startTaking cX9_startTaking 2 none 0 d_X9_startTaking s_X9_startTaking) (g_X9_startTaking : d_X9_startTaking + 1 ≤ d) {d_X9_takeAll : Nat} {s_X9_takeAll : zq_Sp} (h_X9_takeAll : zq_M yX9_takeAll cX9_takeAll 7 (some .int) 1 d_X9_takeAll s_X9_takeAll) (g_X9_takeAll : d_X9_takeAll + 1 ≤ d) {d_X5_clear : Nat} {s_X5_clear : zq_Sp} (h_X5_clear : zq_M yX5_clear cX5_clear 1 none 0 d_X5_clear s_X5_clear) (g_X5_clear : d_X5_clear + 1 ≤ d) {d_X5_add : Nat} {s_X5_add : zq_Sp} (h_X5_add : zq_M yX5_add cX5_add 3 none 0 d_X5_add s_X5_add) (g_X5_add : d_X5_add + 1 ≤ d) {J70 : zq_P} (j70 : zq_ok X 4 70 J70) {Q : zq_Q} (hq : zq_R X (some .int) 1 Q) : zq_ok X 4 0 (xX11_byturns_0 s_X9_read s_X8_clear s_X8_fault s_X9_startTaking s_X9_takeAll s_X5_clear s_X5_add J70 Q) := by
  refine zs_aload_n C dX11_byturns_0 rfl ?_
  refine zs_getR C zp_0 zF11 (j := 8) ⟨by decide, rfl⟩ zw_323 dX11_byturns_1 ?_
  refine zs_aload_n C dX11_byturns_4 rfl ?_
  refine zs_getR C zp_0 zF11 (j := 0) ⟨by decide, rfl⟩ zw_315 dX11_byturns_5 ?_
  refine zs_aload_n C dX11_byturns_8 rfl ?_
  refine zs_getR C zp_0 zF11 (j := 2) ⟨by decide, rfl⟩ zw_317 dX11_byturns_9 ?_
  refine zs_getIN C zp_5 zF3 (j := 3) ⟨by decide, rfl⟩ zw_85 dX11_byturns_12 ?_
  refine zs_callV C h_X9_read g_X9_read zy_X9_read zp_34 (show vwCl[9]? = some (RX9, TX9, 4) from rfl) zw_844 zw_845 zs9_X9_read dX11_byturns_15 ?_
  refine zs_istore_n C dX11_byturns_18 rfl (by decide) ?_
  refine zs_aload_n C dX11_byturns_19 rfl ?_
  refine zs_getR C zp_0 zF11 (j := 0) ⟨by decide, rfl⟩ zw_315 dX11_byturns_20 ?_
  refine zs_callV C h_X8_clear g_X8_clear zy_X8_clear zp_1 (show vwCl[8]? = some (RX8, TX8, 4) from rfl) zw_415 zw_416 zs9_X8_clear dX11_byturns_23 ?_
  refine zs_iload_n C dX11_byturns_26 rfl ?_
  exact zs_if_ne C dX11_byturns_27 (by decide) (kX11_byturns_38 C h_X9_read g_X9_read h_X8_clear g_X8_clear h_X8_fault g_X8_fault h_X9_startTaking g_X9_startTaking h_X9_takeAll g_X9_takeAll h_X5_clear g_X5_clear h_X5_add g_X5_add j70 hq) (kX11_byturns_30 C h_X9_read g_X9_read h_X8_clear g_X8_clear h_X8_fault g_X8_fault h_X9_startTaking g_X9_startTaking h_X9_takeAll g_X9_takeAll h_X5_clear g_X5_clear h_X5_add g_X5_add j70 hq)
theorem mX11_byturns {d : Nat} {spec : zq_Sp} {σ70 : Type} {d_X9_read : Nat} {s_X9_read : zq_Sp} (h_X9_read : zq_M yX9_read cX9_read 4 (some .boolean) 1 d_X9_read s_X9_read) (g_X9_read : d_X9_read + 1 ≤ d) {d_X8_clear : Nat} {s_X8_clear : zq_Sp} (h_X8_clear : zq_M yX8_clear cX8_clear 1 none 0 d_X8_clear s_X8_clear) (g_X8_clear : d_X8_clear + 1 ≤ d) {d_X8_fault : Nat} {s_X8_fault : zq_Sp} (h_X8_fault : zq_M yX8_fault cX8_fault 1 (some .int) 1 d_X8_fault s_X8_fault) (g_X8_fault : d_X8_fault + 1 ≤ d) {d_X9_startTaking : Nat} {s_X9_startTaking : zq_Sp} (h_X9_startTaking : zq_M yX9_startTaking cX9_startTaking 2 none 0 d_X9_startTaking s_X9_startTaking) (g_X9_startTaking : d_X9_startTaking + 1 ≤ d) {d_X9_takeAll : Nat} {s_X9_takeAll : zq_Sp} (h_X9_takeAll : zq_M yX9_takeAll cX9_takeAll 7 (some .int) 1 d_X9_takeAll s_X9_takeAll) (g_X9_takeAll : d_X9_takeAll + 1 ≤ d) {d_X5_clear : Nat} {s_X5_clear : zq_Sp} (h_X5_clear : zq_M yX5_clear cX5_clear 1 none 0 d_X5_clear s_X5_clear) (g_X5_clear : d_X5_clear + 1 ≤ d) {d_X5_add : Nat} {s_X5_add : zq_Sp} (h_X5_add : zq_M yX5_add cX5_add 3 none 0 d_X5_add s_X5_add) (g_X5_add : d_X5_add + 1 ≤ d) (μ70 : σ70 → Nat) (I70 : zq_Q → σ70 → zq_P) (v : ∀ args h Q, spec args h Q → (zq_a args).length ≤ 4 ∧ xX11_byturns_0 s_X9_read s_X8_clear s_X8_fault s_X9_startTaking s_X9_takeAll s_X5_clear s_X5_add (fun ls st h => ∃ b, I70 Q b ls st h) Q (zq_l0 4 args) [] h) (v70 : ∀ Q a ls st h, I70 Q a ls st h → xX11_byturns_70 s_X9_read s_X8_clear s_X8_fault s_X9_startTaking s_X9_takeAll s_X5_clear s_X5_add (fun ls st h => ∃ b, μ70 b < μ70 a ∧ I70 Q b ls st h) Q ls st h) : zq_M yX11_byturns cX11_byturns 4 (some .int) 1 d spec := by
  refine zq_met (by decide +kernel) (by decide) (fun X Q args h C hq hs => ⟨(v args h Q hs).1, _, ?_, (v args h Q hs).2⟩)
  have hl := zq_loop1 (X := X) (nL := 4) (pc1 := 70) μ70 (I70 Q) (fun J70 => xX11_byturns_70 s_X9_read s_X8_clear s_X8_fault s_X9_startTaking s_X9_takeAll s_X5_clear s_X5_add J70 Q) (fun j70 => kX11_byturns_70 C h_X9_read g_X9_read h_X8_clear g_X8_clear h_X8_fault g_X8_fault h_X9_startTaking g_X9_startTaking h_X9_takeAll g_X9_takeAll h_X5_clear g_X5_clear h_X5_add g_X5_add j70 hq) (v70 Q)
  exact kX11_byturns_0 C h_X9_read g_X9_read h_X8_clear g_X8_clear h_X8_fault g_X8_fault h_X9_startTaking g_X9_startTaking h_X9_takeAll g_X9_takeAll h_X5_clear g_X5_clear h_X5_add g_X5_add hl hq
/-! ToOneCrumb.lies(I)I -/
theorem dX11_lies_0 : decode cX11_lies 0 = .ok (.aload_n 0, 1) := by decide +kernel
theorem dX11_lies_1 : decode cX11_lies 1 = .ok (.iload_n 1, 1) := by decide +kernel
theorem dX11_lies_2 : decode cX11_lies 2 = .ok (.invokevirtual 171, 3) := by decide +kernel
theorem dX11_lies_5 : decode cX11_lies 5 = .ok (.ifCond .eq 28, 3) := by decide +kernel
theorem dX11_lies_8 : decode cX11_lies 8 = .ok (.aload_n 0, 1) := by decide +kernel
theorem dX11_lies_9 : decode cX11_lies 9 = .ok (.getfield 68, 3) := by decide +kernel
theorem dX11_lies_12 : decode cX11_lies 12 = .ok (.aload_n 0, 1) := by decide +kernel
theorem dX11_lies_13 : decode cX11_lies 13 = .ok (.getfield 10, 3) := by decide +kernel
theorem dX11_lies_16 : decode cX11_lies 16 = .ok (.aload_n 0, 1) := by decide +kernel
theorem dX11_lies_17 : decode cX11_lies 17 = .ok (.getfield 26, 3) := by decide +kernel
theorem dX11_lies_20 : decode cX11_lies 20 = .ok (.getfield 243, 3) := by decide +kernel
theorem dX11_lies_23 : decode cX11_lies 23 = .ok (.invokevirtual 291, 3) := by decide +kernel
theorem dX11_lies_26 : decode cX11_lies 26 = .ok (.ifCond .eq 7, 3) := by decide +kernel
theorem dX11_lies_29 : decode cX11_lies 29 = .ok (.iconst 1, 1) := by decide +kernel
theorem dX11_lies_30 : decode cX11_lies 30 = .ok (.goto 4, 3) := by decide +kernel
theorem dX11_lies_33 : decode cX11_lies 33 = .ok (.iconst 0, 1) := by decide +kernel
theorem dX11_lies_34 : decode cX11_lies 34 = .ok (.istore_n 2, 1) := by decide +kernel
theorem dX11_lies_35 : decode cX11_lies 35 = .ok (.aload_n 0, 1) := by decide +kernel
theorem dX11_lies_36 : decode cX11_lies 36 = .ok (.getfield 10, 3) := by decide +kernel
theorem dX11_lies_39 : decode cX11_lies 39 = .ok (.invokevirtual 111, 3) := by decide +kernel
theorem dX11_lies_42 : decode cX11_lies 42 = .ok (.aload_n 0, 1) := by decide +kernel
theorem dX11_lies_43 : decode cX11_lies 43 = .ok (.iload_n 1, 1) := by decide +kernel
theorem dX11_lies_44 : decode cX11_lies 44 = .ok (.invokevirtual 171, 3) := by decide +kernel
theorem dX11_lies_47 : decode cX11_lies 47 = .ok (.ifCond .ne 6, 3) := by decide +kernel
theorem dX11_lies_50 : decode cX11_lies 50 = .ok (.bipush (-100), 2) := by decide +kernel
theorem dX11_lies_52 : decode cX11_lies 52 = .ok (.ireturn, 1) := by decide +kernel
theorem dX11_lies_53 : decode cX11_lies 53 = .ok (.iload_n 2, 1) := by decide +kernel
theorem dX11_lies_54 : decode cX11_lies 54 = .ok (.ifCond .ne 11, 3) := by decide +kernel
theorem dX11_lies_57 : decode cX11_lies 57 = .ok (.aload_n 0, 1) := by decide +kernel
theorem dX11_lies_58 : decode cX11_lies 58 = .ok (.getfield 10, 3) := by decide +kernel
theorem dX11_lies_61 : decode cX11_lies 61 = .ok (.invokevirtual 114, 3) := by decide +kernel
theorem dX11_lies_64 : decode cX11_lies 64 = .ok (.ireturn, 1) := by decide +kernel
theorem dX11_lies_65 : decode cX11_lies 65 = .ok (.aload_n 0, 1) := by decide +kernel
theorem dX11_lies_66 : decode cX11_lies 66 = .ok (.getfield 68, 3) := by decide +kernel
theorem dX11_lies_69 : decode cX11_lies 69 = .ok (.aload_n 0, 1) := by decide +kernel
theorem dX11_lies_70 : decode cX11_lies 70 = .ok (.getfield 33, 3) := by decide +kernel
theorem dX11_lies_73 : decode cX11_lies 73 = .ok (.invokevirtual 294, 3) := by decide +kernel
theorem dX11_lies_76 : decode cX11_lies 76 = .ok (.aload_n 0, 1) := by decide +kernel
theorem dX11_lies_77 : decode cX11_lies 77 = .ok (.getfield 68, 3) := by decide +kernel
theorem dX11_lies_80 : decode cX11_lies 80 = .ok (.aload_n 0, 1) := by decide +kernel
theorem dX11_lies_81 : decode cX11_lies 81 = .ok (.getfield 33, 3) := by decide +kernel
theorem dX11_lies_84 : decode cX11_lies 84 = .ok (.invokevirtual 298, 3) := by decide +kernel
theorem dX11_lies_87 : decode cX11_lies 87 = .ok (.pop, 1) := by decide +kernel
theorem dX11_lies_88 : decode cX11_lies 88 = .ok (.aload_n 0, 1) := by decide +kernel
theorem dX11_lies_89 : decode cX11_lies 89 = .ok (.getfield 68, 3) := by decide +kernel
theorem dX11_lies_92 : decode cX11_lies 92 = .ok (.getfield 302, 3) := by decide +kernel
theorem dX11_lies_95 : decode cX11_lies 95 = .ok (.iload_n 1, 1) := by decide +kernel
theorem dX11_lies_96 : decode cX11_lies 96 = .ok (.iaload, 1) := by decide +kernel
theorem dX11_lies_97 : decode cX11_lies 97 = .ok (.istore_n 3, 1) := by decide +kernel
theorem dX11_lies_98 : decode cX11_lies 98 = .ok (.iconst 0, 1) := by decide +kernel
theorem dX11_lies_99 : decode cX11_lies 99 = .ok (.istore 4, 2) := by decide +kernel
theorem dX11_lies_101 : decode cX11_lies 101 = .ok (.aload_n 0, 1) := by decide +kernel
theorem dX11_lies_102 : decode cX11_lies 102 = .ok (.getfield 19, 3) := by decide +kernel
theorem dX11_lies_105 : decode cX11_lies 105 = .ok (.invokevirtual 236, 3) := by decide +kernel
theorem dX11_lies_108 : decode cX11_lies 108 = .ok (.iconst 0, 1) := by decide +kernel
theorem dX11_lies_109 : decode cX11_lies 109 = .ok (.istore 5, 2) := by decide +kernel
theorem dX11_lies_111 : decode cX11_lies 111 = .ok (.iload 5, 2) := by decide +kernel
theorem dX11_lies_113 : decode cX11_lies 113 = .ok (.bipush 30, 2) := by decide +kernel
theorem dX11_lies_115 : decode cX11_lies 115 = .ok (.if_icmp .ge 72, 3) := by decide +kernel
theorem dX11_lies_118 : decode cX11_lies 118 = .ok (.aload_n 0, 1) := by decide +kernel
theorem dX11_lies_119 : decode cX11_lies 119 = .ok (.iload_n 1, 1) := by decide +kernel
theorem dX11_lies_120 : decode cX11_lies 120 = .ok (.iload 5, 2) := by decide +kernel
theorem dX11_lies_122 : decode cX11_lies 122 = .ok (.bipush 10, 2) := by decide +kernel
theorem dX11_lies_124 : decode cX11_lies 124 = .ok (.idiv, 1) := by decide +kernel
theorem dX11_lies_125 : decode cX11_lies 125 = .ok (.iload 5, 2) := by decide +kernel
theorem dX11_lies_127 : decode cX11_lies 127 = .ok (.bipush 10, 2) := by decide +kernel
theorem dX11_lies_129 : decode cX11_lies 129 = .ok (.irem, 1) := by decide +kernel
theorem dX11_lies_130 : decode cX11_lies 130 = .ok (.invokevirtual 305, 3) := by decide +kernel
theorem dX11_lies_133 : decode cX11_lies 133 = .ok (.iload_n 3, 1) := by decide +kernel
theorem dX11_lies_134 : decode cX11_lies 134 = .ok (.isub, 1) := by decide +kernel
theorem dX11_lies_135 : decode cX11_lies 135 = .ok (.istore 6, 2) := by decide +kernel
theorem dX11_lies_137 : decode cX11_lies 137 = .ok (.iload 6, 2) := by decide +kernel
theorem dX11_lies_139 : decode cX11_lies 139 = .ok (.iload 4, 2) := by decide +kernel
theorem dX11_lies_141 : decode cX11_lies 141 = .ok (.if_icmp .le 40, 3) := by decide +kernel
theorem dX11_lies_144 : decode cX11_lies 144 = .ok (.iload 6, 2) := by decide +kernel
theorem dX11_lies_146 : decode cX11_lies 146 = .ok (.istore 4, 2) := by decide +kernel
theorem dX11_lies_148 : decode cX11_lies 148 = .ok (.aload_n 0, 1) := by decide +kernel
theorem dX11_lies_149 : decode cX11_lies 149 = .ok (.getfield 19, 3) := by decide +kernel
theorem dX11_lies_152 : decode cX11_lies 152 = .ok (.invokevirtual 236, 3) := by decide +kernel
theorem dX11_lies_155 : decode cX11_lies 155 = .ok (.aload_n 0, 1) := by decide +kernel
theorem dX11_lies_156 : decode cX11_lies 156 = .ok (.getfield 19, 3) := by decide +kernel
theorem dX11_lies_159 : decode cX11_lies 159 = .ok (.iload 5, 2) := by decide +kernel
theorem dX11_lies_161 : decode cX11_lies 161 = .ok (.bipush 10, 2) := by decide +kernel
theorem dX11_lies_163 : decode cX11_lies 163 = .ok (.idiv, 1) := by decide +kernel
theorem dX11_lies_164 : decode cX11_lies 164 = .ok (.i2l, 1) := by decide +kernel
theorem dX11_lies_165 : decode cX11_lies 165 = .ok (.invokevirtual 237, 3) := by decide +kernel
theorem dX11_lies_168 : decode cX11_lies 168 = .ok (.aload_n 0, 1) := by decide +kernel
theorem dX11_lies_169 : decode cX11_lies 169 = .ok (.getfield 19, 3) := by decide +kernel
theorem dX11_lies_172 : decode cX11_lies 172 = .ok (.iload 5, 2) := by decide +kernel
theorem dX11_lies_174 : decode cX11_lies 174 = .ok (.bipush 10, 2) := by decide +kernel
theorem dX11_lies_176 : decode cX11_lies 176 = .ok (.irem, 1) := by decide +kernel
theorem dX11_lies_177 : decode cX11_lies 177 = .ok (.i2l, 1) := by decide +kernel
theorem dX11_lies_178 : decode cX11_lies 178 = .ok (.invokevirtual 237, 3) := by decide +kernel
theorem dX11_lies_181 : decode cX11_lies 181 = .ok (.iinc 5 1, 3) := by decide +kernel
theorem dX11_lies_184 : decode cX11_lies 184 = .ok (.goto (-73), 3) := by decide +kernel
theorem dX11_lies_187 : decode cX11_lies 187 = .ok (.iload 4, 2) := by decide +kernel
theorem dX11_lies_189 : decode cX11_lies 189 = .ok (.ireturn, 1) := by decide +kernel
def xX11_lies_187 (s_X11_isGuest : zq_Sp) (s_X9_read : zq_Sp) (s_X8_clear : zq_Sp) (s_X8_fault : zq_Sp) (s_X9_startTaking : zq_Sp) (s_X9_takeAll : zq_Sp) (s_X5_clear : zq_Sp) (s_X11_hasByLie : zq_Sp) (s_X5_add : zq_Sp) (J111 : zq_P) (Q : zq_Q) (ls : zq_L) (st : List Value) (h : zq_H) : Prop := (zi_iload 4 (zi_iret Q)) ls st h
theorem kX11_lies_187 {X : zq_X} {d : Nat} (C : zq_C X cX11_lies 7 RX11 d) {d_X11_isGuest : Nat} {s_X11_isGuest : zq_Sp} (h_X11_isGuest : zq_M yX11_isGuest cX11_isGuest 2 (some .boolean) 1 d_X11_isGuest s_X11_isGuest) (g_X11_isGuest : d_X11_isGuest + 1 ≤ d) {d_X9_read : Nat} {s_X9_read : zq_Sp} (h_X9_read : zq_M yX9_read cX9_read 4 (some .boolean) 1 d_X9_read s_X9_read) (g_X9_read : d_X9_read + 1 ≤ d) {d_X8_clear : Nat} {s_X8_clear : zq_Sp} (h_X8_clear : zq_M yX8_clear cX8_clear 1 none 0 d_X8_clear s_X8_clear) (g_X8_clear : d_X8_clear + 1 ≤ d) {d_X8_fault : Nat} {s_X8_fault : zq_Sp} (h_X8_fault : zq_M yX8_fault cX8_fault 1 (some .int) 1 d_X8_fault s_X8_fault) (g_X8_fault : d_X8_fault + 1 ≤ d) {d_X9_startTaking : Nat} {s_X9_startTaking : zq_Sp} (h_X9_startTaking : zq_M yX9_startTaking cX9_startTaking 2 none 0 d_X9_startTaking s_X9_startTaking) (g_X9_startTaking : d_X9_startTaking + 1 ≤ d) {d_X9_takeAll : Nat} {s_X9_takeAll : zq_Sp} (h_X9_takeAll : zq_M yX9_takeAll cX9_takeAll 7 (some .int) 1 d_X9_takeAll s_X9_takeAll) (g_X9_takeAll : d_X9_takeAll + 1 ≤ d) {d_X5_clear : Nat} {s_X5_clear : zq_Sp} (h_X5_clear : zq_M yX5_clear cX5_clear 1 none 0 d_X5_clear s_X5_clear) (g_X5_clear : d_X5_clear + 1 ≤ d) {d_X11_hasByLie : Nat} {s_X11_hasByLie : zq_Sp} (h_X11_hasByLie : zq_M yX11_hasByLie cX11_hasByLie 6 (some .int) 1 d_X11_hasByLie s_X11_hasByLie) (g_X11_hasByLie : d_X11_hasByLie + 1 ≤ d) {d_X5_add : Nat} {s_X5_add : zq_Sp} (h_X5_add : zq_M yX5_add cX5_add 3 none 0 d_X5_add s_X5_add) (g_X5_add : d_X5_add + 1 ≤ d) {J111 : zq_P} (j111 : zq_ok X 7 111 J111) {Q : zq_Q} (hq : zq_R X (some .int) 1 Q) : zq_ok X 7 187 (xX11_lies_187 s_X11_isGuest s_X9_read s_X8_clear s_X8_fault s_X9_startTaking s_X9_takeAll s_X5_clear s_X11_hasByLie s_X5_add J111 Q) := by
  refine zs_iload C dX11_lies_187 ?_
  exact zs_iret C hq dX11_lies_189
def xX11_lies_181 (s_X11_isGuest : zq_Sp) (s_X9_read : zq_Sp) (s_X8_clear : zq_Sp) (s_X8_fault : zq_Sp) (s_X9_startTaking : zq_Sp) (s_X9_takeAll : zq_Sp) (s_X5_clear : zq_Sp) (s_X11_hasByLie : zq_Sp) (s_X5_add : zq_Sp) (J111 : zq_P) (Q : zq_Q) (ls : zq_L) (st : List Value) (h : zq_H) : Prop := (zi_iinc 5 1 (J111)) ls st h
theorem kX11_lies_181 {X : zq_X} {d : Nat} (C : zq_C X cX11_lies 7 RX11 d) {d_X11_isGuest : Nat} {s_X11_isGuest : zq_Sp} (h_X11_isGuest : zq_M yX11_isGuest cX11_isGuest 2 (some .boolean) 1 d_X11_isGuest s_X11_isGuest) (g_X11_isGuest : d_X11_isGuest + 1 ≤ d) {d_X9_read : Nat} {s_X9_read : zq_Sp} (h_X9_read : zq_M yX9_read cX9_read 4 (some .boolean) 1 d_X9_read s_X9_read) (g_X9_read : d_X9_read + 1 ≤ d) {d_X8_clear : Nat} {s_X8_clear : zq_Sp} (h_X8_clear : zq_M yX8_clear cX8_clear 1 none 0 d_X8_clear s_X8_clear) (g_X8_clear : d_X8_clear + 1 ≤ d) {d_X8_fault : Nat} {s_X8_fault : zq_Sp} (h_X8_fault : zq_M yX8_fault cX8_fault 1 (some .int) 1 d_X8_fault s_X8_fault) (g_X8_fault : d_X8_fault + 1 ≤ d) {d_X9_startTaking : Nat} {s_X9_startTaking : zq_Sp} (h_X9_startTaking : zq_M yX9_startTaking cX9_startTaking 2 none 0 d_X9_startTaking s_X9_startTaking) (g_X9_startTaking : d_X9_startTaking + 1 ≤ d) {d_X9_takeAll : Nat} {s_X9_takeAll : zq_Sp} (h_X9_takeAll : zq_M yX9_takeAll cX9_takeAll 7 (some .int) 1 d_X9_takeAll s_X9_takeAll) (g_X9_takeAll : d_X9_takeAll + 1 ≤ d) {d_X5_clear : Nat} {s_X5_clear : zq_Sp} (h_X5_clear : zq_M yX5_clear cX5_clear 1 none 0 d_X5_clear s_X5_clear) (g_X5_clear : d_X5_clear + 1 ≤ d) {d_X11_hasByLie : Nat} {s_X11_hasByLie : zq_Sp} (h_X11_hasByLie : zq_M yX11_hasByLie cX11_hasByLie 6 (some .int) 1 d_X11_hasByLie s_X11_hasByLie) (g_X11_hasByLie : d_X11_hasByLie + 1 ≤ d) {d_X5_add : Nat} {s_X5_add : zq_Sp} (h_X5_add : zq_M yX5_add cX5_add 3 none 0 d_X5_add s_X5_add) (g_X5_add : d_X5_add + 1 ≤ d) {J111 : zq_P} (j111 : zq_ok X 7 111 J111) {Q : zq_Q} (hq : zq_R X (some .int) 1 Q) : zq_ok X 7 181 (xX11_lies_181 s_X11_isGuest s_X9_read s_X8_clear s_X8_fault s_X9_startTaking s_X9_takeAll s_X5_clear s_X11_hasByLie s_X5_add J111 Q) := by
  refine zs_iinc C dX11_lies_181 (by decide) (by decide) ?_
  exact zs_goto C dX11_lies_184 (by decide) (j111)
def xX11_lies_144 (s_X11_isGuest : zq_Sp) (s_X9_read : zq_Sp) (s_X8_clear : zq_Sp) (s_X8_fault : zq_Sp) (s_X9_startTaking : zq_Sp) (s_X9_takeAll : zq_Sp) (s_X5_clear : zq_Sp) (s_X11_hasByLie : zq_Sp) (s_X5_add : zq_Sp) (J111 : zq_P) (Q : zq_Q) (ls : zq_L) (st : List Value) (h : zq_H) : Prop := (zi_iload 6 (zi_istore 4 (zi_aload 0 (zi_getR 0 3 (zi_callV 0 3 s_X5_clear (zi_aload 0 (zi_getR 0 3 (zi_iload 5 (zi_push (.int 10) (zi_idv (fun x y => x / y) (zi_i2l (zi_callV 1 3 s_X5_add (zi_aload 0 (zi_getR 0 3 (zi_iload 5 (zi_push (.int 10) (zi_idv zf_rem (zi_i2l (zi_callV 1 3 s_X5_add ((xX11_lies_181 s_X11_isGuest s_X9_read s_X8_clear s_X8_fault s_X9_startTaking s_X9_takeAll s_X5_clear s_X11_hasByLie s_X5_add J111 Q))))))))))))))))))))) ls st h
theorem kX11_lies_144 {X : zq_X} {d : Nat} (C : zq_C X cX11_lies 7 RX11 d) {d_X11_isGuest : Nat} {s_X11_isGuest : zq_Sp} (h_X11_isGuest : zq_M yX11_isGuest cX11_isGuest 2 (some .boolean) 1 d_X11_isGuest s_X11_isGuest) (g_X11_isGuest : d_X11_isGuest + 1 ≤ d) {d_X9_read : Nat} {s_X9_read : zq_Sp} (h_X9_read : zq_M yX9_read cX9_read 4 (some .boolean) 1 d_X9_read s_X9_read) (g_X9_read : d_X9_read + 1 ≤ d) {d_X8_clear : Nat} {s_X8_clear : zq_Sp} (h_X8_clear : zq_M yX8_clear cX8_clear 1 none 0 d_X8_clear s_X8_clear) (g_X8_clear : d_X8_clear + 1 ≤ d) {d_X8_fault : Nat} {s_X8_fault : zq_Sp} (h_X8_fault : zq_M yX8_fault cX8_fault 1 (some .int) 1 d_X8_fault s_X8_fault) (g_X8_fault : d_X8_fault + 1 ≤ d) {d_X9_startTaking : Nat} {s_X9_startTaking : zq_Sp} (h_X9_startTaking : zq_M yX9_startTaking cX9_startTaking 2 none 0 d_X9_startTaking s_X9_startTaking) (g_X9_startTaking : d_X9_startTaking + 1 ≤ d) {d_X9_takeAll : Nat} {s_X9_takeAll : zq_Sp} (h_X9_takeAll : zq_M yX9_takeAll cX9_takeAll 7 (some .int) 1 d_X9_takeAll s_X9_takeAll) (g_X9_takeAll : d_X9_takeAll + 1 ≤ d) {d_X5_clear : Nat} {s_X5_clear : zq_Sp} (h_X5_clear : zq_M yX5_clear cX5_clear 1 none 0 d_X5_clear s_X5_clear) (g_X5_clear : d_X5_clear + 1 ≤ d) {d_X11_hasByLie : Nat} {s_X11_hasByLie : zq_Sp} (h_X11_hasByLie : zq_M yX11_hasByLie cX11_hasByLie 6 (some .int) 1 d_X11_hasByLie s_X11_hasByLie) (g_X11_hasByLie : d_X11_hasByLie + 1 ≤ d) {d_X5_add : Nat} {s_X5_add : zq_Sp} (h_X5_add : zq_M yX5_add cX5_add 3 none 0 d_X5_add s_X5_add) (g_X5_add : d_X5_add + 1 ≤ d) {J111 : zq_P} (j111 : zq_ok X 7 111 J111) {Q : zq_Q} (hq : zq_R X (some .int) 1 Q) : zq_ok X 7 144 (xX11_lies_144 s_X11_isGuest s_X9_read s_X8_clear s_X8_fault s_X9_startTaking s_X9_takeAll s_X5_clear s_X11_hasByLie s_X5_add J111 Q) := by
  refine zs_iload C dX11_lies_144 ?_
  refine zs_istore C dX11_lies_146 (by decide) ?_
  refine zs_aload_n C dX11_lies_148 rfl ?_
  refine zs_getR C zp_0 zF11 (j := 1) ⟨by decide, rfl⟩ zw_316 dX11_lies_149 ?_
  refine zs_callV C h_X5_clear g_X5_clear zy_X5_clear zp_3 (show vwCl[5]? = some (RX5, TX5, 2) from rfl) zw_650 zw_651 zs9_X5_clear dX11_lies_152 ?_
  refine zs_aload_n C dX11_lies_155 rfl ?_
  refine zs_getR C zp_0 zF11 (j := 1) ⟨by decide, rfl⟩ zw_316 dX11_lies_156 ?_
  refine zs_iload C dX11_lies_159 ?_
  refine zs_bipush C dX11_lies_161 (by decide) ?_
  refine zs_idiv C dX11_lies_163 ?_
  refine zs_i2l C dX11_lies_164 ?_
  refine zs_callV C h_X5_add g_X5_add zy_X5_add zp_3 (show vwCl[5]? = some (RX5, TX5, 2) from rfl) zw_654 zw_655 zs9_X5_add dX11_lies_165 ?_
  refine zs_aload_n C dX11_lies_168 rfl ?_
  refine zs_getR C zp_0 zF11 (j := 1) ⟨by decide, rfl⟩ zw_316 dX11_lies_169 ?_
  refine zs_iload C dX11_lies_172 ?_
  refine zs_bipush C dX11_lies_174 (by decide) ?_
  refine zs_irem C dX11_lies_176 ?_
  refine zs_i2l C dX11_lies_177 ?_
  refine zs_callV C h_X5_add g_X5_add zy_X5_add zp_3 (show vwCl[5]? = some (RX5, TX5, 2) from rfl) zw_654 zw_655 zs9_X5_add dX11_lies_178 ?_
  exact kX11_lies_181 C h_X11_isGuest g_X11_isGuest h_X9_read g_X9_read h_X8_clear g_X8_clear h_X8_fault g_X8_fault h_X9_startTaking g_X9_startTaking h_X9_takeAll g_X9_takeAll h_X5_clear g_X5_clear h_X11_hasByLie g_X11_hasByLie h_X5_add g_X5_add j111 hq
def xX11_lies_118 (s_X11_isGuest : zq_Sp) (s_X9_read : zq_Sp) (s_X8_clear : zq_Sp) (s_X8_fault : zq_Sp) (s_X9_startTaking : zq_Sp) (s_X9_takeAll : zq_Sp) (s_X5_clear : zq_Sp) (s_X11_hasByLie : zq_Sp) (s_X5_add : zq_Sp) (J111 : zq_P) (Q : zq_Q) (ls : zq_L) (st : List Value) (h : zq_H) : Prop := (zi_aload 0 (zi_iload 1 (zi_iload 5 (zi_push (.int 10) (zi_idv (fun x y => x / y) (zi_iload 5 (zi_push (.int 10) (zi_idv zf_rem (zi_callV 3 0 s_X11_hasByLie (zi_iload 3 (zi_i2 (fun x y => x - y) (zi_istore 6 (zi_iload 6 (zi_iload 4 (zi_if2 (fun x y => x ≤ y) (xX11_lies_181 s_X11_isGuest s_X9_read s_X8_clear s_X8_fault s_X9_startTaking s_X9_takeAll s_X5_clear s_X11_hasByLie s_X5_add J111 Q) (xX11_lies_144 s_X11_isGuest s_X9_read s_X8_clear s_X8_fault s_X9_startTaking s_X9_takeAll s_X5_clear s_X11_hasByLie s_X5_add J111 Q)))))))))))))))) ls st h
theorem kX11_lies_118 {X : zq_X} {d : Nat} (C : zq_C X cX11_lies 7 RX11 d) {d_X11_isGuest : Nat} {s_X11_isGuest : zq_Sp} (h_X11_isGuest : zq_M yX11_isGuest cX11_isGuest 2 (some .boolean) 1 d_X11_isGuest s_X11_isGuest) (g_X11_isGuest : d_X11_isGuest + 1 ≤ d) {d_X9_read : Nat} {s_X9_read : zq_Sp} (h_X9_read : zq_M yX9_read cX9_read 4 (some .boolean) 1 d_X9_read s_X9_read) (g_X9_read : d_X9_read + 1 ≤ d) {d_X8_clear : Nat} {s_X8_clear : zq_Sp} (h_X8_clear : zq_M yX8_clear cX8_clear 1 none 0 d_X8_clear s_X8_clear) (g_X8_clear : d_X8_clear + 1 ≤ d) {d_X8_fault : Nat} {s_X8_fault : zq_Sp} (h_X8_fault : zq_M yX8_fault cX8_fault 1 (some .int) 1 d_X8_fault s_X8_fault) (g_X8_fault : d_X8_fault + 1 ≤ d) {d_X9_startTaking : Nat} {s_X9_startTaking : zq_Sp} (h_X9_startTaking : zq_M yX9_startTaking cX9_startTaking 2 none 0 d_X9_startTaking s_X9_startTaking) (g_X9_startTaking : d_X9_startTaking + 1 ≤ d) {d_X9_takeAll : Nat} {s_X9_takeAll : zq_Sp} (h_X9_takeAll : zq_M yX9_takeAll cX9_takeAll 7 (some .int) 1 d_X9_takeAll s_X9_takeAll) (g_X9_takeAll : d_X9_takeAll + 1 ≤ d) {d_X5_clear : Nat} {s_X5_clear : zq_Sp} (h_X5_clear : zq_M yX5_clear cX5_clear 1 none 0 d_X5_clear s_X5_clear) (g_X5_clear : d_X5_clear + 1 ≤ d) {d_X11_hasByLie : Nat} {s_X11_hasByLie : zq_Sp} (h_X11_hasByLie : zq_M yX11_hasByLie cX11_hasByLie 6 (some .int) 1 d_X11_hasByLie s_X11_hasByLie) (g_X11_hasByLie : d_X11_hasByLie + 1 ≤ d) {d_X5_add : Nat} {s_X5_add : zq_Sp} (h_X5_add : zq_M yX5_add cX5_add 3 none 0 d_X5_add s_X5_add) (g_X5_add : d_X5_add + 1 ≤ d) {J111 : zq_P} (j111 : zq_ok X 7 111 J111) {Q : zq_Q} (hq : zq_R X (some .int) 1 Q) : zq_ok X 7 118 (xX11_lies_118 s_X11_isGuest s_X9_read s_X8_clear s_X8_fault s_X9_startTaking s_X9_takeAll s_X5_clear s_X11_hasByLie s_X5_add J111 Q) := by
  refine zs_aload_n C dX11_lies_118 rfl ?_
  refine zs_iload_n C dX11_lies_119 rfl ?_
  refine zs_iload C dX11_lies_120 ?_
  refine zs_bipush C dX11_lies_122 (by decide) ?_
  refine zs_idiv C dX11_lies_124 ?_
  refine zs_iload C dX11_lies_125 ?_
  refine zs_bipush C dX11_lies_127 (by decide) ?_
  refine zs_irem C dX11_lies_129 ?_
  refine zs_callV C h_X11_hasByLie g_X11_hasByLie zy_X11_hasByLie zp_0 (show vwCl[11]? = some (RX11, TX11, 16) from rfl) zw_870 zw_872 zs9_X11_hasByLie dX11_lies_130 ?_
  refine zs_iload_n C dX11_lies_133 rfl ?_
  refine zs_isub C dX11_lies_134 ?_
  refine zs_istore C dX11_lies_135 (by decide) ?_
  refine zs_iload C dX11_lies_137 ?_
  refine zs_iload C dX11_lies_139 ?_
  exact zs_icmp_le C dX11_lies_141 (by decide) (kX11_lies_181 C h_X11_isGuest g_X11_isGuest h_X9_read g_X9_read h_X8_clear g_X8_clear h_X8_fault g_X8_fault h_X9_startTaking g_X9_startTaking h_X9_takeAll g_X9_takeAll h_X5_clear g_X5_clear h_X11_hasByLie g_X11_hasByLie h_X5_add g_X5_add j111 hq) (kX11_lies_144 C h_X11_isGuest g_X11_isGuest h_X9_read g_X9_read h_X8_clear g_X8_clear h_X8_fault g_X8_fault h_X9_startTaking g_X9_startTaking h_X9_takeAll g_X9_takeAll h_X5_clear g_X5_clear h_X11_hasByLie g_X11_hasByLie h_X5_add g_X5_add j111 hq)
def xX11_lies_111 (s_X11_isGuest : zq_Sp) (s_X9_read : zq_Sp) (s_X8_clear : zq_Sp) (s_X8_fault : zq_Sp) (s_X9_startTaking : zq_Sp) (s_X9_takeAll : zq_Sp) (s_X5_clear : zq_Sp) (s_X11_hasByLie : zq_Sp) (s_X5_add : zq_Sp) (J111 : zq_P) (Q : zq_Q) (ls : zq_L) (st : List Value) (h : zq_H) : Prop := (zi_iload 5 (zi_push (.int 30) (zi_if2 (fun x y => y ≤ x) (xX11_lies_187 s_X11_isGuest s_X9_read s_X8_clear s_X8_fault s_X9_startTaking s_X9_takeAll s_X5_clear s_X11_hasByLie s_X5_add J111 Q) (xX11_lies_118 s_X11_isGuest s_X9_read s_X8_clear s_X8_fault s_X9_startTaking s_X9_takeAll s_X5_clear s_X11_hasByLie s_X5_add J111 Q)))) ls st h
theorem kX11_lies_111 {X : zq_X} {d : Nat} (C : zq_C X cX11_lies 7 RX11 d) {d_X11_isGuest : Nat} {s_X11_isGuest : zq_Sp} (h_X11_isGuest : zq_M yX11_isGuest cX11_isGuest 2 (some .boolean) 1 d_X11_isGuest s_X11_isGuest) (g_X11_isGuest : d_X11_isGuest + 1 ≤ d) {d_X9_read : Nat} {s_X9_read : zq_Sp} (h_X9_read : zq_M yX9_read cX9_read 4 (some .boolean) 1 d_X9_read s_X9_read) (g_X9_read : d_X9_read + 1 ≤ d) {d_X8_clear : Nat} {s_X8_clear : zq_Sp} (h_X8_clear : zq_M yX8_clear cX8_clear 1 none 0 d_X8_clear s_X8_clear) (g_X8_clear : d_X8_clear + 1 ≤ d) {d_X8_fault : Nat} {s_X8_fault : zq_Sp} (h_X8_fault : zq_M yX8_fault cX8_fault 1 (some .int) 1 d_X8_fault s_X8_fault) (g_X8_fault : d_X8_fault + 1 ≤ d) {d_X9_startTaking : Nat} {s_X9_startTaking : zq_Sp} (h_X9_startTaking : zq_M yX9_startTaking cX9_startTaking 2 none 0 d_X9_startTaking s_X9_startTaking) (g_X9_startTaking : d_X9_startTaking + 1 ≤ d) {d_X9_takeAll : Nat} {s_X9_takeAll : zq_Sp} (h_X9_takeAll : zq_M yX9_takeAll cX9_takeAll 7 (some .int) 1 d_X9_takeAll s_X9_takeAll) (g_X9_takeAll : d_X9_takeAll + 1 ≤ d) {d_X5_clear : Nat} {s_X5_clear : zq_Sp} (h_X5_clear : zq_M yX5_clear cX5_clear 1 none 0 d_X5_clear s_X5_clear) (g_X5_clear : d_X5_clear + 1 ≤ d) {d_X11_hasByLie : Nat} {s_X11_hasByLie : zq_Sp} (h_X11_hasByLie : zq_M yX11_hasByLie cX11_hasByLie 6 (some .int) 1 d_X11_hasByLie s_X11_hasByLie) (g_X11_hasByLie : d_X11_hasByLie + 1 ≤ d) {d_X5_add : Nat} {s_X5_add : zq_Sp} (h_X5_add : zq_M yX5_add cX5_add 3 none 0 d_X5_add s_X5_add) (g_X5_add : d_X5_add + 1 ≤ d) {J111 : zq_P} (j111 : zq_ok X 7 111 J111) {Q : zq_Q} (hq : zq_R X (some .int) 1 Q) : zq_ok X 7 111 (xX11_lies_111 s_X11_isGuest s_X9_read s_X8_clear s_X8_fault s_X9_startTaking s_X9_takeAll s_X5_clear s_X11_hasByLie s_X5_add J111 Q) := by
  refine zs_iload C dX11_lies_111 ?_
  refine zs_bipush C dX11_lies_113 (by decide) ?_
  exact zs_icmp_ge C dX11_lies_115 (by decide) (kX11_lies_187 C h_X11_isGuest g_X11_isGuest h_X9_read g_X9_read h_X8_clear g_X8_clear h_X8_fault g_X8_fault h_X9_startTaking g_X9_startTaking h_X9_takeAll g_X9_takeAll h_X5_clear g_X5_clear h_X11_hasByLie g_X11_hasByLie h_X5_add g_X5_add j111 hq) (kX11_lies_118 C h_X11_isGuest g_X11_isGuest h_X9_read g_X9_read h_X8_clear g_X8_clear h_X8_fault g_X8_fault h_X9_startTaking g_X9_startTaking h_X9_takeAll g_X9_takeAll h_X5_clear g_X5_clear h_X11_hasByLie g_X11_hasByLie h_X5_add g_X5_add j111 hq)
def xX11_lies_65 (s_X11_isGuest : zq_Sp) (s_X9_read : zq_Sp) (s_X8_clear : zq_Sp) (s_X8_fault : zq_Sp) (s_X9_startTaking : zq_Sp) (s_X9_takeAll : zq_Sp) (s_X5_clear : zq_Sp) (s_X11_hasByLie : zq_Sp) (s_X5_add : zq_Sp) (J111 : zq_P) (Q : zq_Q) (ls : zq_L) (st : List Value) (h : zq_H) : Prop := (zi_aload 0 (zi_getR 0 34 (zi_aload 0 (zi_getR 0 9 (zi_callV 1 34 s_X9_startTaking (zi_aload 0 (zi_getR 0 34 (zi_aload 0 (zi_getR 0 9 (zi_callV 1 34 s_X9_takeAll (zi_pop (zi_aload 0 (zi_getR 0 34 (zi_getR 34 37 (zi_iload 1 (zi_aldI 37 6 (zi_istore 3 (zi_push (.int 0) (zi_istore 4 (zi_aload 0 (zi_getR 0 3 (zi_callV 0 3 s_X5_clear (zi_push (.int 0) (zi_istore 5 (J111))))))))))))))))))))))))) ls st h
theorem kX11_lies_65 {X : zq_X} {d : Nat} (C : zq_C X cX11_lies 7 RX11 d) {d_X11_isGuest : Nat} {s_X11_isGuest : zq_Sp} (h_X11_isGuest : zq_M yX11_isGuest cX11_isGuest 2 (some .boolean) 1 d_X11_isGuest s_X11_isGuest) (g_X11_isGuest : d_X11_isGuest + 1 ≤ d) {d_X9_read : Nat} {s_X9_read : zq_Sp} (h_X9_read : zq_M yX9_read cX9_read 4 (some .boolean) 1 d_X9_read s_X9_read) (g_X9_read : d_X9_read + 1 ≤ d) {d_X8_clear : Nat} {s_X8_clear : zq_Sp} (h_X8_clear : zq_M yX8_clear cX8_clear 1 none 0 d_X8_clear s_X8_clear) (g_X8_clear : d_X8_clear + 1 ≤ d) {d_X8_fault : Nat} {s_X8_fault : zq_Sp} (h_X8_fault : zq_M yX8_fault cX8_fault 1 (some .int) 1 d_X8_fault s_X8_fault) (g_X8_fault : d_X8_fault + 1 ≤ d) {d_X9_startTaking : Nat} {s_X9_startTaking : zq_Sp} (h_X9_startTaking : zq_M yX9_startTaking cX9_startTaking 2 none 0 d_X9_startTaking s_X9_startTaking) (g_X9_startTaking : d_X9_startTaking + 1 ≤ d) {d_X9_takeAll : Nat} {s_X9_takeAll : zq_Sp} (h_X9_takeAll : zq_M yX9_takeAll cX9_takeAll 7 (some .int) 1 d_X9_takeAll s_X9_takeAll) (g_X9_takeAll : d_X9_takeAll + 1 ≤ d) {d_X5_clear : Nat} {s_X5_clear : zq_Sp} (h_X5_clear : zq_M yX5_clear cX5_clear 1 none 0 d_X5_clear s_X5_clear) (g_X5_clear : d_X5_clear + 1 ≤ d) {d_X11_hasByLie : Nat} {s_X11_hasByLie : zq_Sp} (h_X11_hasByLie : zq_M yX11_hasByLie cX11_hasByLie 6 (some .int) 1 d_X11_hasByLie s_X11_hasByLie) (g_X11_hasByLie : d_X11_hasByLie + 1 ≤ d) {d_X5_add : Nat} {s_X5_add : zq_Sp} (h_X5_add : zq_M yX5_add cX5_add 3 none 0 d_X5_add s_X5_add) (g_X5_add : d_X5_add + 1 ≤ d) {J111 : zq_P} (j111 : zq_ok X 7 111 J111) {Q : zq_Q} (hq : zq_R X (some .int) 1 Q) : zq_ok X 7 65 (xX11_lies_65 s_X11_isGuest s_X9_read s_X8_clear s_X8_fault s_X9_startTaking s_X9_takeAll s_X5_clear s_X11_hasByLie s_X5_add J111 Q) := by
  refine zs_aload_n C dX11_lies_65 rfl ?_
  refine zs_getR C zp_0 zF11 (j := 8) ⟨by decide, rfl⟩ zw_323 dX11_lies_66 ?_
  refine zs_aload_n C dX11_lies_69 rfl ?_
  refine zs_getR C zp_0 zF11 (j := 3) ⟨by decide, rfl⟩ zw_318 dX11_lies_70 ?_
  refine zs_callV C h_X9_startTaking g_X9_startTaking zy_X9_startTaking zp_34 (show vwCl[9]? = some (RX9, TX9, 4) from rfl) zw_851 zw_852 zs9_X9_startTaking dX11_lies_73 ?_
  refine zs_aload_n C dX11_lies_76 rfl ?_
  refine zs_getR C zp_0 zF11 (j := 8) ⟨by decide, rfl⟩ zw_323 dX11_lies_77 ?_
  refine zs_aload_n C dX11_lies_80 rfl ?_
  refine zs_getR C zp_0 zF11 (j := 3) ⟨by decide, rfl⟩ zw_318 dX11_lies_81 ?_
  refine zs_callV C h_X9_takeAll g_X9_takeAll zy_X9_takeAll zp_34 (show vwCl[9]? = some (RX9, TX9, 4) from rfl) zw_857 zw_858 zs9_X9_takeAll dX11_lies_84 ?_
  refine zs_pop C dX11_lies_87 ?_
  refine zs_aload_n C dX11_lies_88 rfl ?_
  refine zs_getR C zp_0 zF11 (j := 8) ⟨by decide, rfl⟩ zw_323 dX11_lies_89 ?_
  refine zs_getRN C zp_34 zF9 (j := 2) ⟨by decide, rfl⟩ zw_243 dX11_lies_92 ?_
  refine zs_iload_n C dX11_lies_95 rfl ?_
  refine zs_iaload C zp_37 dX11_lies_96 ?_
  refine zs_istore_n C dX11_lies_97 rfl (by decide) ?_
  refine zs_iconst C dX11_lies_98 (by decide) ?_
  refine zs_istore C dX11_lies_99 (by decide) ?_
  refine zs_aload_n C dX11_lies_101 rfl ?_
  refine zs_getR C zp_0 zF11 (j := 1) ⟨by decide, rfl⟩ zw_316 dX11_lies_102 ?_
  refine zs_callV C h_X5_clear g_X5_clear zy_X5_clear zp_3 (show vwCl[5]? = some (RX5, TX5, 2) from rfl) zw_650 zw_651 zs9_X5_clear dX11_lies_105 ?_
  refine zs_iconst C dX11_lies_108 (by decide) ?_
  refine zs_istore C dX11_lies_109 (by decide) ?_
  exact j111
def xX11_lies_57 (s_X11_isGuest : zq_Sp) (s_X9_read : zq_Sp) (s_X8_clear : zq_Sp) (s_X8_fault : zq_Sp) (s_X9_startTaking : zq_Sp) (s_X9_takeAll : zq_Sp) (s_X5_clear : zq_Sp) (s_X11_hasByLie : zq_Sp) (s_X5_add : zq_Sp) (J111 : zq_P) (Q : zq_Q) (ls : zq_L) (st : List Value) (h : zq_H) : Prop := (zi_aload 0 (zi_getR 0 1 (zi_callV 0 1 s_X8_fault (zi_iret Q)))) ls st h
theorem kX11_lies_57 {X : zq_X} {d : Nat} (C : zq_C X cX11_lies 7 RX11 d) {d_X11_isGuest : Nat} {s_X11_isGuest : zq_Sp} (h_X11_isGuest : zq_M yX11_isGuest cX11_isGuest 2 (some .boolean) 1 d_X11_isGuest s_X11_isGuest) (g_X11_isGuest : d_X11_isGuest + 1 ≤ d) {d_X9_read : Nat} {s_X9_read : zq_Sp} (h_X9_read : zq_M yX9_read cX9_read 4 (some .boolean) 1 d_X9_read s_X9_read) (g_X9_read : d_X9_read + 1 ≤ d) {d_X8_clear : Nat} {s_X8_clear : zq_Sp} (h_X8_clear : zq_M yX8_clear cX8_clear 1 none 0 d_X8_clear s_X8_clear) (g_X8_clear : d_X8_clear + 1 ≤ d) {d_X8_fault : Nat} {s_X8_fault : zq_Sp} (h_X8_fault : zq_M yX8_fault cX8_fault 1 (some .int) 1 d_X8_fault s_X8_fault) (g_X8_fault : d_X8_fault + 1 ≤ d) {d_X9_startTaking : Nat} {s_X9_startTaking : zq_Sp} (h_X9_startTaking : zq_M yX9_startTaking cX9_startTaking 2 none 0 d_X9_startTaking s_X9_startTaking) (g_X9_startTaking : d_X9_startTaking + 1 ≤ d) {d_X9_takeAll : Nat} {s_X9_takeAll : zq_Sp} (h_X9_takeAll : zq_M yX9_takeAll cX9_takeAll 7 (some .int) 1 d_X9_takeAll s_X9_takeAll) (g_X9_takeAll : d_X9_takeAll + 1 ≤ d) {d_X5_clear : Nat} {s_X5_clear : zq_Sp} (h_X5_clear : zq_M yX5_clear cX5_clear 1 none 0 d_X5_clear s_X5_clear) (g_X5_clear : d_X5_clear + 1 ≤ d) {d_X11_hasByLie : Nat} {s_X11_hasByLie : zq_Sp} (h_X11_hasByLie : zq_M yX11_hasByLie cX11_hasByLie 6 (some .int) 1 d_X11_hasByLie s_X11_hasByLie) (g_X11_hasByLie : d_X11_hasByLie + 1 ≤ d) {d_X5_add : Nat} {s_X5_add : zq_Sp} (h_X5_add : zq_M yX5_add cX5_add 3 none 0 d_X5_add s_X5_add) (g_X5_add : d_X5_add + 1 ≤ d) {J111 : zq_P} (j111 : zq_ok X 7 111 J111) {Q : zq_Q} (hq : zq_R X (some .int) 1 Q) : zq_ok X 7 57 (xX11_lies_57 s_X11_isGuest s_X9_read s_X8_clear s_X8_fault s_X9_startTaking s_X9_takeAll s_X5_clear s_X11_hasByLie s_X5_add J111 Q) := by
  refine zs_aload_n C dX11_lies_57 rfl ?_
  refine zs_getR C zp_0 zF11 (j := 0) ⟨by decide, rfl⟩ zw_315 dX11_lies_58 ?_
  refine zs_callV C h_X8_fault g_X8_fault zy_X8_fault zp_1 (show vwCl[8]? = some (RX8, TX8, 4) from rfl) zw_419 zw_420 zs9_X8_fault dX11_lies_61 ?_
  exact zs_iret C hq dX11_lies_64
def xX11_lies_53 (s_X11_isGuest : zq_Sp) (s_X9_read : zq_Sp) (s_X8_clear : zq_Sp) (s_X8_fault : zq_Sp) (s_X9_startTaking : zq_Sp) (s_X9_takeAll : zq_Sp) (s_X5_clear : zq_Sp) (s_X11_hasByLie : zq_Sp) (s_X5_add : zq_Sp) (J111 : zq_P) (Q : zq_Q) (ls : zq_L) (st : List Value) (h : zq_H) : Prop := (zi_iload 2 (zi_if1 (fun x => x = 0) (xX11_lies_57 s_X11_isGuest s_X9_read s_X8_clear s_X8_fault s_X9_startTaking s_X9_takeAll s_X5_clear s_X11_hasByLie s_X5_add J111 Q) (xX11_lies_65 s_X11_isGuest s_X9_read s_X8_clear s_X8_fault s_X9_startTaking s_X9_takeAll s_X5_clear s_X11_hasByLie s_X5_add J111 Q))) ls st h
theorem kX11_lies_53 {X : zq_X} {d : Nat} (C : zq_C X cX11_lies 7 RX11 d) {d_X11_isGuest : Nat} {s_X11_isGuest : zq_Sp} (h_X11_isGuest : zq_M yX11_isGuest cX11_isGuest 2 (some .boolean) 1 d_X11_isGuest s_X11_isGuest) (g_X11_isGuest : d_X11_isGuest + 1 ≤ d) {d_X9_read : Nat} {s_X9_read : zq_Sp} (h_X9_read : zq_M yX9_read cX9_read 4 (some .boolean) 1 d_X9_read s_X9_read) (g_X9_read : d_X9_read + 1 ≤ d) {d_X8_clear : Nat} {s_X8_clear : zq_Sp} (h_X8_clear : zq_M yX8_clear cX8_clear 1 none 0 d_X8_clear s_X8_clear) (g_X8_clear : d_X8_clear + 1 ≤ d) {d_X8_fault : Nat} {s_X8_fault : zq_Sp} (h_X8_fault : zq_M yX8_fault cX8_fault 1 (some .int) 1 d_X8_fault s_X8_fault) (g_X8_fault : d_X8_fault + 1 ≤ d) {d_X9_startTaking : Nat} {s_X9_startTaking : zq_Sp} (h_X9_startTaking : zq_M yX9_startTaking cX9_startTaking 2 none 0 d_X9_startTaking s_X9_startTaking) (g_X9_startTaking : d_X9_startTaking + 1 ≤ d) {d_X9_takeAll : Nat} {s_X9_takeAll : zq_Sp} (h_X9_takeAll : zq_M yX9_takeAll cX9_takeAll 7 (some .int) 1 d_X9_takeAll s_X9_takeAll) (g_X9_takeAll : d_X9_takeAll + 1 ≤ d) {d_X5_clear : Nat} {s_X5_clear : zq_Sp} (h_X5_clear : zq_M yX5_clear cX5_clear 1 none 0 d_X5_clear s_X5_clear) (g_X5_clear : d_X5_clear + 1 ≤ d) {d_X11_hasByLie : Nat} {s_X11_hasByLie : zq_Sp} (h_X11_hasByLie : zq_M yX11_hasByLie cX11_hasByLie 6 (some .int) 1 d_X11_hasByLie s_X11_hasByLie) (g_X11_hasByLie : d_X11_hasByLie + 1 ≤ d) {d_X5_add : Nat} {s_X5_add : zq_Sp} (h_X5_add : zq_M yX5_add cX5_add 3 none 0 d_X5_add s_X5_add) (g_X5_add : d_X5_add + 1 ≤ d) {J111 : zq_P} (j111 : zq_ok X 7 111 J111) {Q : zq_Q} (hq : zq_R X (some .int) 1 Q) : zq_ok X 7 53 (xX11_lies_53 s_X11_isGuest s_X9_read s_X8_clear s_X8_fault s_X9_startTaking s_X9_takeAll s_X5_clear s_X11_hasByLie s_X5_add J111 Q) := by
  refine zs_iload_n C dX11_lies_53 rfl ?_
  exact zs_if_ne C dX11_lies_54 (by decide) (kX11_lies_65 C h_X11_isGuest g_X11_isGuest h_X9_read g_X9_read h_X8_clear g_X8_clear h_X8_fault g_X8_fault h_X9_startTaking g_X9_startTaking h_X9_takeAll g_X9_takeAll h_X5_clear g_X5_clear h_X11_hasByLie g_X11_hasByLie h_X5_add g_X5_add j111 hq) (kX11_lies_57 C h_X11_isGuest g_X11_isGuest h_X9_read g_X9_read h_X8_clear g_X8_clear h_X8_fault g_X8_fault h_X9_startTaking g_X9_startTaking h_X9_takeAll g_X9_takeAll h_X5_clear g_X5_clear h_X11_hasByLie g_X11_hasByLie h_X5_add g_X5_add j111 hq)
def xX11_lies_50 (s_X11_isGuest : zq_Sp) (s_X9_read : zq_Sp) (s_X8_clear : zq_Sp) (s_X8_fault : zq_Sp) (s_X9_startTaking : zq_Sp) (s_X9_takeAll : zq_Sp) (s_X5_clear : zq_Sp) (s_X11_hasByLie : zq_Sp) (s_X5_add : zq_Sp) (J111 : zq_P) (Q : zq_Q) (ls : zq_L) (st : List Value) (h : zq_H) : Prop := (zi_push (.int (-100)) (zi_iret Q)) ls st h
theorem kX11_lies_50 {X : zq_X} {d : Nat} (C : zq_C X cX11_lies 7 RX11 d) {d_X11_isGuest : Nat} {s_X11_isGuest : zq_Sp} (h_X11_isGuest : zq_M yX11_isGuest cX11_isGuest 2 (some .boolean) 1 d_X11_isGuest s_X11_isGuest) (g_X11_isGuest : d_X11_isGuest + 1 ≤ d) {d_X9_read : Nat} {s_X9_read : zq_Sp} (h_X9_read : zq_M yX9_read cX9_read 4 (some .boolean) 1 d_X9_read s_X9_read) (g_X9_read : d_X9_read + 1 ≤ d) {d_X8_clear : Nat} {s_X8_clear : zq_Sp} (h_X8_clear : zq_M yX8_clear cX8_clear 1 none 0 d_X8_clear s_X8_clear) (g_X8_clear : d_X8_clear + 1 ≤ d) {d_X8_fault : Nat} {s_X8_fault : zq_Sp} (h_X8_fault : zq_M yX8_fault cX8_fault 1 (some .int) 1 d_X8_fault s_X8_fault) (g_X8_fault : d_X8_fault + 1 ≤ d) {d_X9_startTaking : Nat} {s_X9_startTaking : zq_Sp} (h_X9_startTaking : zq_M yX9_startTaking cX9_startTaking 2 none 0 d_X9_startTaking s_X9_startTaking) (g_X9_startTaking : d_X9_startTaking + 1 ≤ d) {d_X9_takeAll : Nat} {s_X9_takeAll : zq_Sp} (h_X9_takeAll : zq_M yX9_takeAll cX9_takeAll 7 (some .int) 1 d_X9_takeAll s_X9_takeAll) (g_X9_takeAll : d_X9_takeAll + 1 ≤ d) {d_X5_clear : Nat} {s_X5_clear : zq_Sp} (h_X5_clear : zq_M yX5_clear cX5_clear 1 none 0 d_X5_clear s_X5_clear) (g_X5_clear : d_X5_clear + 1 ≤ d) {d_X11_hasByLie : Nat} {s_X11_hasByLie : zq_Sp} (h_X11_hasByLie : zq_M yX11_hasByLie cX11_hasByLie 6 (some .int) 1 d_X11_hasByLie s_X11_hasByLie) (g_X11_hasByLie : d_X11_hasByLie + 1 ≤ d) {d_X5_add : Nat} {s_X5_add : zq_Sp} (h_X5_add : zq_M yX5_add cX5_add 3 none 0 d_X5_add s_X5_add) (g_X5_add : d_X5_add + 1 ≤ d) {J111 : zq_P} (j111 : zq_ok X 7 111 J111) {Q : zq_Q} (hq : zq_R X (some .int) 1 Q) : zq_ok X 7 50 (xX11_lies_50 s_X11_isGuest s_X9_read s_X8_clear s_X8_fault s_X9_startTaking s_X9_takeAll s_X5_clear s_X11_hasByLie s_X5_add J111 Q) := by
  refine zs_bipush C dX11_lies_50 (by decide) ?_
  exact zs_iret C hq dX11_lies_52
def xX11_lies_34 (s_X11_isGuest : zq_Sp) (s_X9_read : zq_Sp) (s_X8_clear : zq_Sp) (s_X8_fault : zq_Sp) (s_X9_startTaking : zq_Sp) (s_X9_takeAll : zq_Sp) (s_X5_clear : zq_Sp) (s_X11_hasByLie : zq_Sp) (s_X5_add : zq_Sp) (J111 : zq_P) (Q : zq_Q) (ls : zq_L) (st : List Value) (h : zq_H) : Prop := (zi_istore 2 (zi_aload 0 (zi_getR 0 1 (zi_callV 0 1 s_X8_clear (zi_aload 0 (zi_iload 1 (zi_callV 1 0 s_X11_isGuest (zi_if1 (fun x => x = 0) (xX11_lies_50 s_X11_isGuest s_X9_read s_X8_clear s_X8_fault s_X9_startTaking s_X9_takeAll s_X5_clear s_X11_hasByLie s_X5_add J111 Q) (xX11_lies_53 s_X11_isGuest s_X9_read s_X8_clear s_X8_fault s_X9_startTaking s_X9_takeAll s_X5_clear s_X11_hasByLie s_X5_add J111 Q))))))))) ls st h
theorem kX11_lies_34 {X : zq_X} {d : Nat} (C : zq_C X cX11_lies 7 RX11 d) {d_X11_isGuest : Nat} {s_X11_isGuest : zq_Sp} (h_X11_isGuest : zq_M yX11_isGuest cX11_isGuest 2 (some .boolean) 1 d_X11_isGuest s_X11_isGuest) (g_X11_isGuest : d_X11_isGuest + 1 ≤ d) {d_X9_read : Nat} {s_X9_read : zq_Sp} (h_X9_read : zq_M yX9_read cX9_read 4 (some .boolean) 1 d_X9_read s_X9_read) (g_X9_read : d_X9_read + 1 ≤ d) {d_X8_clear : Nat} {s_X8_clear : zq_Sp} (h_X8_clear : zq_M yX8_clear cX8_clear 1 none 0 d_X8_clear s_X8_clear) (g_X8_clear : d_X8_clear + 1 ≤ d) {d_X8_fault : Nat} {s_X8_fault : zq_Sp} (h_X8_fault : zq_M yX8_fault cX8_fault 1 (some .int) 1 d_X8_fault s_X8_fault) (g_X8_fault : d_X8_fault + 1 ≤ d) {d_X9_startTaking : Nat} {s_X9_startTaking : zq_Sp} (h_X9_startTaking : zq_M yX9_startTaking cX9_startTaking 2 none 0 d_X9_startTaking s_X9_startTaking) (g_X9_startTaking : d_X9_startTaking + 1 ≤ d) {d_X9_takeAll : Nat} {s_X9_takeAll : zq_Sp} (h_X9_takeAll : zq_M yX9_takeAll cX9_takeAll 7 (some .int) 1 d_X9_takeAll s_X9_takeAll) (g_X9_takeAll : d_X9_takeAll + 1 ≤ d) {d_X5_clear : Nat} {s_X5_clear : zq_Sp} (h_X5_clear : zq_M yX5_clear cX5_clear 1 none 0 d_X5_clear s_X5_clear) (g_X5_clear : d_X5_clear + 1 ≤ d) {d_X11_hasByLie : Nat} {s_X11_hasByLie : zq_Sp} (h_X11_hasByLie : zq_M yX11_hasByLie cX11_hasByLie 6 (some .int) 1 d_X11_hasByLie s_X11_hasByLie) (g_X11_hasByLie : d_X11_hasByLie + 1 ≤ d) {d_X5_add : Nat} {s_X5_add : zq_Sp} (h_X5_add : zq_M yX5_add cX5_add 3 none 0 d_X5_add s_X5_add) (g_X5_add : d_X5_add + 1 ≤ d) {J111 : zq_P} (j111 : zq_ok X 7 111 J111) {Q : zq_Q} (hq : zq_R X (some .int) 1 Q) : zq_ok X 7 34 (xX11_lies_34 s_X11_isGuest s_X9_read s_X8_clear s_X8_fault s_X9_startTaking s_X9_takeAll s_X5_clear s_X11_hasByLie s_X5_add J111 Q) := by
  refine zs_istore_n C dX11_lies_34 rfl (by decide) ?_
  refine zs_aload_n C dX11_lies_35 rfl ?_
  refine zs_getR C zp_0 zF11 (j := 0) ⟨by decide, rfl⟩ zw_315 dX11_lies_36 ?_
  refine zs_callV C h_X8_clear g_X8_clear zy_X8_clear zp_1 (show vwCl[8]? = some (RX8, TX8, 4) from rfl) zw_415 zw_416 zs9_X8_clear dX11_lies_39 ?_
  refine zs_aload_n C dX11_lies_42 rfl ?_
  refine zs_iload_n C dX11_lies_43 rfl ?_
  refine zs_callV C h_X11_isGuest g_X11_isGuest zy_X11_isGuest zp_0 (show vwCl[11]? = some (RX11, TX11, 16) from rfl) zw_546 zw_548 zs9_X11_isGuest dX11_lies_44 ?_
  exact zs_if_ne C dX11_lies_47 (by decide) (kX11_lies_53 C h_X11_isGuest g_X11_isGuest h_X9_read g_X9_read h_X8_clear g_X8_clear h_X8_fault g_X8_fault h_X9_startTaking g_X9_startTaking h_X9_takeAll g_X9_takeAll h_X5_clear g_X5_clear h_X11_hasByLie g_X11_hasByLie h_X5_add g_X5_add j111 hq) (kX11_lies_50 C h_X11_isGuest g_X11_isGuest h_X9_read g_X9_read h_X8_clear g_X8_clear h_X8_fault g_X8_fault h_X9_startTaking g_X9_startTaking h_X9_takeAll g_X9_takeAll h_X5_clear g_X5_clear h_X11_hasByLie g_X11_hasByLie h_X5_add g_X5_add j111 hq)
def xX11_lies_33 (s_X11_isGuest : zq_Sp) (s_X9_read : zq_Sp) (s_X8_clear : zq_Sp) (s_X8_fault : zq_Sp) (s_X9_startTaking : zq_Sp) (s_X9_takeAll : zq_Sp) (s_X5_clear : zq_Sp) (s_X11_hasByLie : zq_Sp) (s_X5_add : zq_Sp) (J111 : zq_P) (Q : zq_Q) (ls : zq_L) (st : List Value) (h : zq_H) : Prop := (zi_push (.int 0) ((xX11_lies_34 s_X11_isGuest s_X9_read s_X8_clear s_X8_fault s_X9_startTaking s_X9_takeAll s_X5_clear s_X11_hasByLie s_X5_add J111 Q))) ls st h
theorem kX11_lies_33 {X : zq_X} {d : Nat} (C : zq_C X cX11_lies 7 RX11 d) {d_X11_isGuest : Nat} {s_X11_isGuest : zq_Sp} (h_X11_isGuest : zq_M yX11_isGuest cX11_isGuest 2 (some .boolean) 1 d_X11_isGuest s_X11_isGuest) (g_X11_isGuest : d_X11_isGuest + 1 ≤ d) {d_X9_read : Nat} {s_X9_read : zq_Sp} (h_X9_read : zq_M yX9_read cX9_read 4 (some .boolean) 1 d_X9_read s_X9_read) (g_X9_read : d_X9_read + 1 ≤ d) {d_X8_clear : Nat} {s_X8_clear : zq_Sp} (h_X8_clear : zq_M yX8_clear cX8_clear 1 none 0 d_X8_clear s_X8_clear) (g_X8_clear : d_X8_clear + 1 ≤ d) {d_X8_fault : Nat} {s_X8_fault : zq_Sp} (h_X8_fault : zq_M yX8_fault cX8_fault 1 (some .int) 1 d_X8_fault s_X8_fault) (g_X8_fault : d_X8_fault + 1 ≤ d) {d_X9_startTaking : Nat} {s_X9_startTaking : zq_Sp} (h_X9_startTaking : zq_M yX9_startTaking cX9_startTaking 2 none 0 d_X9_startTaking s_X9_startTaking) (g_X9_startTaking : d_X9_startTaking + 1 ≤ d) {d_X9_takeAll : Nat} {s_X9_takeAll : zq_Sp} (h_X9_takeAll : zq_M yX9_takeAll cX9_takeAll 7 (some .int) 1 d_X9_takeAll s_X9_takeAll) (g_X9_takeAll : d_X9_takeAll + 1 ≤ d) {d_X5_clear : Nat} {s_X5_clear : zq_Sp} (h_X5_clear : zq_M yX5_clear cX5_clear 1 none 0 d_X5_clear s_X5_clear) (g_X5_clear : d_X5_clear + 1 ≤ d) {d_X11_hasByLie : Nat} {s_X11_hasByLie : zq_Sp} (h_X11_hasByLie : zq_M yX11_hasByLie cX11_hasByLie 6 (some .int) 1 d_X11_hasByLie s_X11_hasByLie) (g_X11_hasByLie : d_X11_hasByLie + 1 ≤ d) {d_X5_add : Nat} {s_X5_add : zq_Sp} (h_X5_add : zq_M yX5_add cX5_add 3 none 0 d_X5_add s_X5_add) (g_X5_add : d_X5_add + 1 ≤ d) {J111 : zq_P} (j111 : zq_ok X 7 111 J111) {Q : zq_Q} (hq : zq_R X (some .int) 1 Q) : zq_ok X 7 33 (xX11_lies_33 s_X11_isGuest s_X9_read s_X8_clear s_X8_fault s_X9_startTaking s_X9_takeAll s_X5_clear s_X11_hasByLie s_X5_add J111 Q) := by
  refine zs_iconst C dX11_lies_33 (by decide) ?_
  exact kX11_lies_34 C h_X11_isGuest g_X11_isGuest h_X9_read g_X9_read h_X8_clear g_X8_clear h_X8_fault g_X8_fault h_X9_startTaking g_X9_startTaking h_X9_takeAll g_X9_takeAll h_X5_clear g_X5_clear h_X11_hasByLie g_X11_hasByLie h_X5_add g_X5_add j111 hq
def xX11_lies_29 (s_X11_isGuest : zq_Sp) (s_X9_read : zq_Sp) (s_X8_clear : zq_Sp) (s_X8_fault : zq_Sp) (s_X9_startTaking : zq_Sp) (s_X9_takeAll : zq_Sp) (s_X5_clear : zq_Sp) (s_X11_hasByLie : zq_Sp) (s_X5_add : zq_Sp) (J111 : zq_P) (Q : zq_Q) (ls : zq_L) (st : List Value) (h : zq_H) : Prop := (zi_push (.int 1) ((xX11_lies_34 s_X11_isGuest s_X9_read s_X8_clear s_X8_fault s_X9_startTaking s_X9_takeAll s_X5_clear s_X11_hasByLie s_X5_add J111 Q))) ls st h
theorem kX11_lies_29 {X : zq_X} {d : Nat} (C : zq_C X cX11_lies 7 RX11 d) {d_X11_isGuest : Nat} {s_X11_isGuest : zq_Sp} (h_X11_isGuest : zq_M yX11_isGuest cX11_isGuest 2 (some .boolean) 1 d_X11_isGuest s_X11_isGuest) (g_X11_isGuest : d_X11_isGuest + 1 ≤ d) {d_X9_read : Nat} {s_X9_read : zq_Sp} (h_X9_read : zq_M yX9_read cX9_read 4 (some .boolean) 1 d_X9_read s_X9_read) (g_X9_read : d_X9_read + 1 ≤ d) {d_X8_clear : Nat} {s_X8_clear : zq_Sp} (h_X8_clear : zq_M yX8_clear cX8_clear 1 none 0 d_X8_clear s_X8_clear) (g_X8_clear : d_X8_clear + 1 ≤ d) {d_X8_fault : Nat} {s_X8_fault : zq_Sp} (h_X8_fault : zq_M yX8_fault cX8_fault 1 (some .int) 1 d_X8_fault s_X8_fault) (g_X8_fault : d_X8_fault + 1 ≤ d) {d_X9_startTaking : Nat} {s_X9_startTaking : zq_Sp} (h_X9_startTaking : zq_M yX9_startTaking cX9_startTaking 2 none 0 d_X9_startTaking s_X9_startTaking) (g_X9_startTaking : d_X9_startTaking + 1 ≤ d) {d_X9_takeAll : Nat} {s_X9_takeAll : zq_Sp} (h_X9_takeAll : zq_M yX9_takeAll cX9_takeAll 7 (some .int) 1 d_X9_takeAll s_X9_takeAll) (g_X9_takeAll : d_X9_takeAll + 1 ≤ d) {d_X5_clear : Nat} {s_X5_clear : zq_Sp} (h_X5_clear : zq_M yX5_clear cX5_clear 1 none 0 d_X5_clear s_X5_clear) (g_X5_clear : d_X5_clear + 1 ≤ d) {d_X11_hasByLie : Nat} {s_X11_hasByLie : zq_Sp} (h_X11_hasByLie : zq_M yX11_hasByLie cX11_hasByLie 6 (some .int) 1 d_X11_hasByLie s_X11_hasByLie) (g_X11_hasByLie : d_X11_hasByLie + 1 ≤ d) {d_X5_add : Nat} {s_X5_add : zq_Sp} (h_X5_add : zq_M yX5_add cX5_add 3 none 0 d_X5_add s_X5_add) (g_X5_add : d_X5_add + 1 ≤ d) {J111 : zq_P} (j111 : zq_ok X 7 111 J111) {Q : zq_Q} (hq : zq_R X (some .int) 1 Q) : zq_ok X 7 29 (xX11_lies_29 s_X11_isGuest s_X9_read s_X8_clear s_X8_fault s_X9_startTaking s_X9_takeAll s_X5_clear s_X11_hasByLie s_X5_add J111 Q) := by
  refine zs_iconst C dX11_lies_29 (by decide) ?_
  exact zs_goto C dX11_lies_30 (by decide) (kX11_lies_34 C h_X11_isGuest g_X11_isGuest h_X9_read g_X9_read h_X8_clear g_X8_clear h_X8_fault g_X8_fault h_X9_startTaking g_X9_startTaking h_X9_takeAll g_X9_takeAll h_X5_clear g_X5_clear h_X11_hasByLie g_X11_hasByLie h_X5_add g_X5_add j111 hq)
def xX11_lies_8 (s_X11_isGuest : zq_Sp) (s_X9_read : zq_Sp) (s_X8_clear : zq_Sp) (s_X8_fault : zq_Sp) (s_X9_startTaking : zq_Sp) (s_X9_takeAll : zq_Sp) (s_X5_clear : zq_Sp) (s_X11_hasByLie : zq_Sp) (s_X5_add : zq_Sp) (J111 : zq_P) (Q : zq_Q) (ls : zq_L) (st : List Value) (h : zq_H) : Prop := (zi_aload 0 (zi_getR 0 34 (zi_aload 0 (zi_getR 0 1 (zi_aload 0 (zi_getR 0 5 (zi_getI 5 3 (zi_callV 2 34 s_X9_read (zi_if1 (fun x => x = 0) (xX11_lies_33 s_X11_isGuest s_X9_read s_X8_clear s_X8_fault s_X9_startTaking s_X9_takeAll s_X5_clear s_X11_hasByLie s_X5_add J111 Q) (xX11_lies_29 s_X11_isGuest s_X9_read s_X8_clear s_X8_fault s_X9_startTaking s_X9_takeAll s_X5_clear s_X11_hasByLie s_X5_add J111 Q)))))))))) ls st h
theorem kX11_lies_8 {X : zq_X} {d : Nat} (C : zq_C X cX11_lies 7 RX11 d) {d_X11_isGuest : Nat} {s_X11_isGuest : zq_Sp} (h_X11_isGuest : zq_M yX11_isGuest cX11_isGuest 2 (some .boolean) 1 d_X11_isGuest s_X11_isGuest) (g_X11_isGuest : d_X11_isGuest + 1 ≤ d) {d_X9_read : Nat} {s_X9_read : zq_Sp} (h_X9_read : zq_M yX9_read cX9_read 4 (some .boolean) 1 d_X9_read s_X9_read) (g_X9_read : d_X9_read + 1 ≤ d) {d_X8_clear : Nat} {s_X8_clear : zq_Sp} (h_X8_clear : zq_M yX8_clear cX8_clear 1 none 0 d_X8_clear s_X8_clear) (g_X8_clear : d_X8_clear + 1 ≤ d) {d_X8_fault : Nat} {s_X8_fault : zq_Sp} (h_X8_fault : zq_M yX8_fault cX8_fault 1 (some .int) 1 d_X8_fault s_X8_fault) (g_X8_fault : d_X8_fault + 1 ≤ d) {d_X9_startTaking : Nat} {s_X9_startTaking : zq_Sp} (h_X9_startTaking : zq_M yX9_startTaking cX9_startTaking 2 none 0 d_X9_startTaking s_X9_startTaking) (g_X9_startTaking : d_X9_startTaking + 1 ≤ d) {d_X9_takeAll : Nat} {s_X9_takeAll : zq_Sp} (h_X9_takeAll : zq_M yX9_takeAll cX9_takeAll 7 (some .int) 1 d_X9_takeAll s_X9_takeAll) (g_X9_takeAll : d_X9_takeAll + 1 ≤ d) {d_X5_clear : Nat} {s_X5_clear : zq_Sp} (h_X5_clear : zq_M yX5_clear cX5_clear 1 none 0 d_X5_clear s_X5_clear) (g_X5_clear : d_X5_clear + 1 ≤ d) {d_X11_hasByLie : Nat} {s_X11_hasByLie : zq_Sp} (h_X11_hasByLie : zq_M yX11_hasByLie cX11_hasByLie 6 (some .int) 1 d_X11_hasByLie s_X11_hasByLie) (g_X11_hasByLie : d_X11_hasByLie + 1 ≤ d) {d_X5_add : Nat} {s_X5_add : zq_Sp} (h_X5_add : zq_M yX5_add cX5_add 3 none 0 d_X5_add s_X5_add) (g_X5_add : d_X5_add + 1 ≤ d) {J111 : zq_P} (j111 : zq_ok X 7 111 J111) {Q : zq_Q} (hq : zq_R X (some .int) 1 Q) : zq_ok X 7 8 (xX11_lies_8 s_X11_isGuest s_X9_read s_X8_clear s_X8_fault s_X9_startTaking s_X9_takeAll s_X5_clear s_X11_hasByLie s_X5_add J111 Q) := by
  refine zs_aload_n C dX11_lies_8 rfl ?_
  refine zs_getR C zp_0 zF11 (j := 8) ⟨by decide, rfl⟩ zw_323 dX11_lies_9 ?_
  refine zs_aload_n C dX11_lies_12 rfl ?_
  refine zs_getR C zp_0 zF11 (j := 0) ⟨by decide, rfl⟩ zw_315 dX11_lies_13 ?_
  refine zs_aload_n C dX11_lies_16 rfl ?_
  refine zs_getR C zp_0 zF11 (j := 2) ⟨by decide, rfl⟩ zw_317 dX11_lies_17 ?_
  refine zs_getIN C zp_5 zF3 (j := 3) ⟨by decide, rfl⟩ zw_85 dX11_lies_20 ?_
  refine zs_callV C h_X9_read g_X9_read zy_X9_read zp_34 (show vwCl[9]? = some (RX9, TX9, 4) from rfl) zw_844 zw_845 zs9_X9_read dX11_lies_23 ?_
  exact zs_if_eq C dX11_lies_26 (by decide) (kX11_lies_33 C h_X11_isGuest g_X11_isGuest h_X9_read g_X9_read h_X8_clear g_X8_clear h_X8_fault g_X8_fault h_X9_startTaking g_X9_startTaking h_X9_takeAll g_X9_takeAll h_X5_clear g_X5_clear h_X11_hasByLie g_X11_hasByLie h_X5_add g_X5_add j111 hq) (kX11_lies_29 C h_X11_isGuest g_X11_isGuest h_X9_read g_X9_read h_X8_clear g_X8_clear h_X8_fault g_X8_fault h_X9_startTaking g_X9_startTaking h_X9_takeAll g_X9_takeAll h_X5_clear g_X5_clear h_X11_hasByLie g_X11_hasByLie h_X5_add g_X5_add j111 hq)
def xX11_lies_0 (s_X11_isGuest : zq_Sp) (s_X9_read : zq_Sp) (s_X8_clear : zq_Sp) (s_X8_fault : zq_Sp) (s_X9_startTaking : zq_Sp) (s_X9_takeAll : zq_Sp) (s_X5_clear : zq_Sp) (s_X11_hasByLie : zq_Sp) (s_X5_add : zq_Sp) (J111 : zq_P) (Q : zq_Q) (ls : zq_L) (st : List Value) (h : zq_H) : Prop := (zi_aload 0 (zi_iload 1 (zi_callV 1 0 s_X11_isGuest (zi_if1 (fun x => x = 0) (xX11_lies_33 s_X11_isGuest s_X9_read s_X8_clear s_X8_fault s_X9_startTaking s_X9_takeAll s_X5_clear s_X11_hasByLie s_X5_add J111 Q) (xX11_lies_8 s_X11_isGuest s_X9_read s_X8_clear s_X8_fault s_X9_startTaking s_X9_takeAll s_X5_clear s_X11_hasByLie s_X5_add J111 Q))))) ls st h
theorem kX11_lies_0 {X : zq_X} {d : Nat} (C : zq_C X cX11_lies 7 RX11 d) {d_X11_isGuest : Nat} {s_X11_isGuest : zq_Sp} (h_X11_isGuest : zq_M yX11_isGuest cX11_isGuest 2 (some .boolean) 1 d_X11_isGuest s_X11_isGuest) (g_X11_isGuest : d_X11_isGuest + 1 ≤ d) {d_X9_read : Nat} {s_X9_read : zq_Sp} (h_X9_read : zq_M yX9_read cX9_read 4 (some .boolean) 1 d_X9_read s_X9_read) (g_X9_read : d_X9_read + 1 ≤ d) {d_X8_clear : Nat} {s_X8_clear : zq_Sp} (h_X8_clear : zq_M yX8_clear cX8_clear 1 none 0 d_X8_clear s_X8_clear) (g_X8_clear : d_X8_clear + 1 ≤ d) {d_X8_fault : Nat} {s_X8_fault : zq_Sp} (h_X8_fault : zq_M yX8_fault cX8_fault 1 (some .int) 1 d_X8_fault s_X8_fault) (g_X8_fault : d_X8_fault + 1 ≤ d) {d_X9_startTaking : Nat} {s_X9_startTaking : zq_Sp} (h_X9_startTaking : zq_M yX9_startTaking cX9_startTaking 2 none 0 d_X9_startTaking s_X9_startTaking) (g_X9_startTaking : d_X9_startTaking + 1 ≤ d) {d_X9_takeAll : Nat} {s_X9_takeAll : zq_Sp} (h_X9_takeAll : zq_M yX9_takeAll cX9_takeAll 7 (some .int) 1 d_X9_takeAll s_X9_takeAll) (g_X9_takeAll : d_X9_takeAll + 1 ≤ d) {d_X5_clear : Nat} {s_X5_clear : zq_Sp} (h_X5_clear : zq_M yX5_clear cX5_clear 1 none 0 d_X5_clear s_X5_clear) (g_X5_clear : d_X5_clear + 1 ≤ d) {d_X11_hasByLie : Nat} {s_X11_hasByLie : zq_Sp} (h_X11_hasByLie : zq_M yX11_hasByLie cX11_hasByLie 6 (some .int) 1 d_X11_hasByLie s_X11_hasByLie) (g_X11_hasByLie : d_X11_hasByLie + 1 ≤ d) {d_X5_add : Nat} {s_X5_add : zq_Sp} (h_X5_add : zq_M yX5_add cX5_add 3 none 0 d_X5_add s_X5_add) (g_X5_add : d_X5_add + 1 ≤ d) {J111 : zq_P} (j111 : zq_ok X 7 111 J111) {Q : zq_Q} (hq : zq_R X (some .int) 1 Q) : zq_ok X 7 0 (xX11_lies_0 s_X11_isGuest s_X9_read s_X8_clear s_X8_fault s_X9_startTaking s_X9_takeAll s_X5_clear s_X11_hasByLie s_X5_add J111 Q) := by
  refine zs_aload_n C dX11_lies_0 rfl ?_
  refine zs_iload_n C dX11_lies_1 rfl ?_
  refine zs_callV C h_X11_isGuest g_X11_isGuest zy_X11_isGuest zp_0 (show vwCl[11]? = some (RX11, TX11, 16) from rfl) zw_546 zw_548 zs9_X11_isGuest dX11_lies_2 ?_
  exact zs_if_eq C dX11_lies_5 (by decide) (kX11_lies_33 C h_X11_isGuest g_X11_isGuest h_X9_read g_X9_read h_X8_clear g_X8_clear h_X8_fault g_X8_fault h_X9_startTaking g_X9_startTaking h_X9_takeAll g_X9_takeAll h_X5_clear g_X5_clear h_X11_hasByLie g_X11_hasByLie h_X5_add g_X5_add j111 hq) (kX11_lies_8 C h_X11_isGuest g_X11_isGuest h_X9_read g_X9_read h_X8_clear g_X8_clear h_X8_fault g_X8_fault h_X9_startTaking g_X9_startTaking h_X9_takeAll g_X9_takeAll h_X5_clear g_X5_clear h_X11_hasByLie g_X11_hasByLie h_X5_add g_X5_add j111 hq)
theorem mX11_lies {d : Nat} {spec : zq_Sp} {σ111 : Type} {d_X11_isGuest : Nat} {s_X11_isGuest : zq_Sp} (h_X11_isGuest : zq_M yX11_isGuest cX11_isGuest 2 (some .boolean) 1 d_X11_isGuest s_X11_isGuest) (g_X11_isGuest : d_X11_isGuest + 1 ≤ d) {d_X9_read : Nat} {s_X9_read : zq_Sp} (h_X9_read : zq_M yX9_read cX9_read 4 (some .boolean) 1 d_X9_read s_X9_read) (g_X9_read : d_X9_read + 1 ≤ d) {d_X8_clear : Nat} {s_X8_clear : zq_Sp} (h_X8_clear : zq_M yX8_clear cX8_clear 1 none 0 d_X8_clear s_X8_clear) (g_X8_clear : d_X8_clear + 1 ≤ d) {d_X8_fault : Nat} {s_X8_fault : zq_Sp} (h_X8_fault : zq_M yX8_fault cX8_fault 1 (some .int) 1 d_X8_fault s_X8_fault) (g_X8_fault : d_X8_fault + 1 ≤ d) {d_X9_startTaking : Nat} {s_X9_startTaking : zq_Sp} (h_X9_startTaking : zq_M yX9_startTaking cX9_startTaking 2 none 0 d_X9_startTaking s_X9_startTaking) (g_X9_startTaking : d_X9_startTaking + 1 ≤ d) {d_X9_takeAll : Nat} {s_X9_takeAll : zq_Sp} (h_X9_takeAll : zq_M yX9_takeAll cX9_takeAll 7 (some .int) 1 d_X9_takeAll s_X9_takeAll) (g_X9_takeAll : d_X9_takeAll + 1 ≤ d) {d_X5_clear : Nat} {s_X5_clear : zq_Sp} (h_X5_clear : zq_M yX5_clear cX5_clear 1 none 0 d_X5_clear s_X5_clear) (g_X5_clear : d_X5_clear + 1 ≤ d) {d_X11_hasByLie : Nat} {s_X11_hasByLie : zq_Sp} (h_X11_hasByLie : zq_M yX11_hasByLie cX11_hasByLie 6 (some .int) 1 d_X11_hasByLie s_X11_hasByLie) (g_X11_hasByLie : d_X11_hasByLie + 1 ≤ d) {d_X5_add : Nat} {s_X5_add : zq_Sp} (h_X5_add : zq_M yX5_add cX5_add 3 none 0 d_X5_add s_X5_add) (g_X5_add : d_X5_add + 1 ≤ d) (μ111 : σ111 → Nat) (I111 : zq_Q → σ111 → zq_P) (v : ∀ args h Q, spec args h Q → (zq_a args).length ≤ 7 ∧ xX11_lies_0 s_X11_isGuest s_X9_read s_X8_clear s_X8_fault s_X9_startTaking s_X9_takeAll s_X5_clear s_X11_hasByLie s_X5_add (fun ls st h => ∃ b, I111 Q b ls st h) Q (zq_l0 7 args) [] h) (v111 : ∀ Q a ls st h, I111 Q a ls st h → xX11_lies_111 s_X11_isGuest s_X9_read s_X8_clear s_X8_fault s_X9_startTaking s_X9_takeAll s_X5_clear s_X11_hasByLie s_X5_add (fun ls st h => ∃ b, μ111 b < μ111 a ∧ I111 Q b ls st h) Q ls st h) : zq_M yX11_lies cX11_lies 7 (some .int) 1 d spec := by
  refine zq_met (by decide +kernel) (by decide) (fun X Q args h C hq hs => ⟨(v args h Q hs).1, _, ?_, (v args h Q hs).2⟩)
  have hl := zq_loop1 (X := X) (nL := 7) (pc1 := 111) μ111 (I111 Q) (fun J111 => xX11_lies_111 s_X11_isGuest s_X9_read s_X8_clear s_X8_fault s_X9_startTaking s_X9_takeAll s_X5_clear s_X11_hasByLie s_X5_add J111 Q) (fun j111 => kX11_lies_111 C h_X11_isGuest g_X11_isGuest h_X9_read g_X9_read h_X8_clear g_X8_clear h_X8_fault g_X8_fault h_X9_startTaking g_X9_startTaking h_X9_takeAll g_X9_takeAll h_X5_clear g_X5_clear h_X11_hasByLie g_X11_hasByLie h_X5_add g_X5_add j111 hq) (v111 Q)
  exact kX11_lies_0 C h_X11_isGuest g_X11_isGuest h_X9_read g_X9_read h_X8_clear g_X8_clear h_X8_fault g_X8_fault h_X9_startTaking g_X9_startTaking h_X9_takeAll g_X9_takeAll h_X5_clear g_X5_clear h_X11_hasByLie g_X11_hasByLie h_X5_add g_X5_add hl hq
/-! ToOneCrumb.chose(II)I -/
theorem dX11_chose_0 : decode cX11_chose 0 = .ok (.aload_n 0, 1) := by decide +kernel
theorem dX11_chose_1 : decode cX11_chose 1 = .ok (.iload_n 1, 1) := by decide +kernel
theorem dX11_chose_2 : decode cX11_chose 2 = .ok (.invokevirtual 149, 3) := by decide +kernel
theorem dX11_chose_5 : decode cX11_chose 5 = .ok (.ifCond .eq 16, 3) := by decide +kernel
theorem dX11_chose_8 : decode cX11_chose 8 = .ok (.aload_n 0, 1) := by decide +kernel
theorem dX11_chose_9 : decode cX11_chose 9 = .ok (.iload_n 2, 1) := by decide +kernel
theorem dX11_chose_10 : decode cX11_chose 10 = .ok (.invokevirtual 149, 3) := by decide +kernel
theorem dX11_chose_13 : decode cX11_chose 13 = .ok (.ifCond .eq 8, 3) := by decide +kernel
theorem dX11_chose_16 : decode cX11_chose 16 = .ok (.iload_n 1, 1) := by decide +kernel
theorem dX11_chose_17 : decode cX11_chose 17 = .ok (.iload_n 2, 1) := by decide +kernel
theorem dX11_chose_18 : decode cX11_chose 18 = .ok (.if_icmp .ne 5, 3) := by decide +kernel
theorem dX11_chose_21 : decode cX11_chose 21 = .ok (.iconst (-1), 1) := by decide +kernel
theorem dX11_chose_22 : decode cX11_chose 22 = .ok (.ireturn, 1) := by decide +kernel
theorem dX11_chose_23 : decode cX11_chose 23 = .ok (.aload_n 0, 1) := by decide +kernel
theorem dX11_chose_24 : decode cX11_chose 24 = .ok (.getfield 47, 3) := by decide +kernel
theorem dX11_chose_27 : decode cX11_chose 27 = .ok (.iload_n 1, 1) := by decide +kernel
theorem dX11_chose_28 : decode cX11_chose 28 = .ok (.iload_n 2, 1) := by decide +kernel
theorem dX11_chose_29 : decode cX11_chose 29 = .ok (.invokevirtual 308, 3) := by decide +kernel
theorem dX11_chose_32 : decode cX11_chose 32 = .ok (.ireturn, 1) := by decide +kernel
def xX11_chose_23 (s_X11_isCell : zq_Sp) (s_X1_tell : zq_Sp) (Q : zq_Q) (ls : zq_L) (st : List Value) (h : zq_H) : Prop := (zi_aload 0 (zi_getR 0 15 (zi_iload 1 (zi_iload 2 (zi_callV 2 15 s_X1_tell (zi_iret Q)))))) ls st h
theorem kX11_chose_23 {X : zq_X} {d : Nat} (C : zq_C X cX11_chose 3 RX11 d) {d_X11_isCell : Nat} {s_X11_isCell : zq_Sp} (h_X11_isCell : zq_M yX11_isCell cX11_isCell 2 (some .boolean) 1 d_X11_isCell s_X11_isCell) (g_X11_isCell : d_X11_isCell + 1 ≤ d) {d_X1_tell : Nat} {s_X1_tell : zq_Sp} (h_X1_tell : zq_M yX1_tell cX1_tell 3 (some .int) 1 d_X1_tell s_X1_tell) (g_X1_tell : d_X1_tell + 1 ≤ d) {Q : zq_Q} (hq : zq_R X (some .int) 1 Q) : zq_ok X 3 23 (xX11_chose_23 s_X11_isCell s_X1_tell Q) := by
  refine zs_aload_n C dX11_chose_23 rfl ?_
  refine zs_getR C zp_0 zF11 (j := 5) ⟨by decide, rfl⟩ zw_320 dX11_chose_24 ?_
  refine zs_iload_n C dX11_chose_27 rfl ?_
  refine zs_iload_n C dX11_chose_28 rfl ?_
  refine zs_callV C h_X1_tell g_X1_tell zy_X1_tell zp_15 (show vwCl[1]? = some (RX1, TX1, 8) from rfl) zw_879 zw_880 zs9_X1_tell dX11_chose_29 ?_
  exact zs_iret C hq dX11_chose_32
def xX11_chose_21 (s_X11_isCell : zq_Sp) (s_X1_tell : zq_Sp) (Q : zq_Q) (ls : zq_L) (st : List Value) (h : zq_H) : Prop := (zi_push (.int (-1)) (zi_iret Q)) ls st h
theorem kX11_chose_21 {X : zq_X} {d : Nat} (C : zq_C X cX11_chose 3 RX11 d) {d_X11_isCell : Nat} {s_X11_isCell : zq_Sp} (h_X11_isCell : zq_M yX11_isCell cX11_isCell 2 (some .boolean) 1 d_X11_isCell s_X11_isCell) (g_X11_isCell : d_X11_isCell + 1 ≤ d) {d_X1_tell : Nat} {s_X1_tell : zq_Sp} (h_X1_tell : zq_M yX1_tell cX1_tell 3 (some .int) 1 d_X1_tell s_X1_tell) (g_X1_tell : d_X1_tell + 1 ≤ d) {Q : zq_Q} (hq : zq_R X (some .int) 1 Q) : zq_ok X 3 21 (xX11_chose_21 s_X11_isCell s_X1_tell Q) := by
  refine zs_iconst C dX11_chose_21 (by decide) ?_
  exact zs_iret C hq dX11_chose_22
def xX11_chose_16 (s_X11_isCell : zq_Sp) (s_X1_tell : zq_Sp) (Q : zq_Q) (ls : zq_L) (st : List Value) (h : zq_H) : Prop := (zi_iload 1 (zi_iload 2 (zi_if2 (fun x y => x = y) (xX11_chose_21 s_X11_isCell s_X1_tell Q) (xX11_chose_23 s_X11_isCell s_X1_tell Q)))) ls st h
theorem kX11_chose_16 {X : zq_X} {d : Nat} (C : zq_C X cX11_chose 3 RX11 d) {d_X11_isCell : Nat} {s_X11_isCell : zq_Sp} (h_X11_isCell : zq_M yX11_isCell cX11_isCell 2 (some .boolean) 1 d_X11_isCell s_X11_isCell) (g_X11_isCell : d_X11_isCell + 1 ≤ d) {d_X1_tell : Nat} {s_X1_tell : zq_Sp} (h_X1_tell : zq_M yX1_tell cX1_tell 3 (some .int) 1 d_X1_tell s_X1_tell) (g_X1_tell : d_X1_tell + 1 ≤ d) {Q : zq_Q} (hq : zq_R X (some .int) 1 Q) : zq_ok X 3 16 (xX11_chose_16 s_X11_isCell s_X1_tell Q) := by
  refine zs_iload_n C dX11_chose_16 rfl ?_
  refine zs_iload_n C dX11_chose_17 rfl ?_
  exact zs_icmp_ne C dX11_chose_18 (by decide) (kX11_chose_23 C h_X11_isCell g_X11_isCell h_X1_tell g_X1_tell hq) (kX11_chose_21 C h_X11_isCell g_X11_isCell h_X1_tell g_X1_tell hq)
def xX11_chose_8 (s_X11_isCell : zq_Sp) (s_X1_tell : zq_Sp) (Q : zq_Q) (ls : zq_L) (st : List Value) (h : zq_H) : Prop := (zi_aload 0 (zi_iload 2 (zi_callV 1 0 s_X11_isCell (zi_if1 (fun x => x = 0) (xX11_chose_21 s_X11_isCell s_X1_tell Q) (xX11_chose_16 s_X11_isCell s_X1_tell Q))))) ls st h
theorem kX11_chose_8 {X : zq_X} {d : Nat} (C : zq_C X cX11_chose 3 RX11 d) {d_X11_isCell : Nat} {s_X11_isCell : zq_Sp} (h_X11_isCell : zq_M yX11_isCell cX11_isCell 2 (some .boolean) 1 d_X11_isCell s_X11_isCell) (g_X11_isCell : d_X11_isCell + 1 ≤ d) {d_X1_tell : Nat} {s_X1_tell : zq_Sp} (h_X1_tell : zq_M yX1_tell cX1_tell 3 (some .int) 1 d_X1_tell s_X1_tell) (g_X1_tell : d_X1_tell + 1 ≤ d) {Q : zq_Q} (hq : zq_R X (some .int) 1 Q) : zq_ok X 3 8 (xX11_chose_8 s_X11_isCell s_X1_tell Q) := by
  refine zs_aload_n C dX11_chose_8 rfl ?_
  refine zs_iload_n C dX11_chose_9 rfl ?_
  refine zs_callV C h_X11_isCell g_X11_isCell zy_X11_isCell zp_0 (show vwCl[11]? = some (RX11, TX11, 16) from rfl) zw_550 zw_552 zs9_X11_isCell dX11_chose_10 ?_
  exact zs_if_eq C dX11_chose_13 (by decide) (kX11_chose_21 C h_X11_isCell g_X11_isCell h_X1_tell g_X1_tell hq) (kX11_chose_16 C h_X11_isCell g_X11_isCell h_X1_tell g_X1_tell hq)
def xX11_chose_0 (s_X11_isCell : zq_Sp) (s_X1_tell : zq_Sp) (Q : zq_Q) (ls : zq_L) (st : List Value) (h : zq_H) : Prop := (zi_aload 0 (zi_iload 1 (zi_callV 1 0 s_X11_isCell (zi_if1 (fun x => x = 0) (xX11_chose_21 s_X11_isCell s_X1_tell Q) (xX11_chose_8 s_X11_isCell s_X1_tell Q))))) ls st h
theorem kX11_chose_0 {X : zq_X} {d : Nat} (C : zq_C X cX11_chose 3 RX11 d) {d_X11_isCell : Nat} {s_X11_isCell : zq_Sp} (h_X11_isCell : zq_M yX11_isCell cX11_isCell 2 (some .boolean) 1 d_X11_isCell s_X11_isCell) (g_X11_isCell : d_X11_isCell + 1 ≤ d) {d_X1_tell : Nat} {s_X1_tell : zq_Sp} (h_X1_tell : zq_M yX1_tell cX1_tell 3 (some .int) 1 d_X1_tell s_X1_tell) (g_X1_tell : d_X1_tell + 1 ≤ d) {Q : zq_Q} (hq : zq_R X (some .int) 1 Q) : zq_ok X 3 0 (xX11_chose_0 s_X11_isCell s_X1_tell Q) := by
  refine zs_aload_n C dX11_chose_0 rfl ?_
  refine zs_iload_n C dX11_chose_1 rfl ?_
  refine zs_callV C h_X11_isCell g_X11_isCell zy_X11_isCell zp_0 (show vwCl[11]? = some (RX11, TX11, 16) from rfl) zw_550 zw_552 zs9_X11_isCell dX11_chose_2 ?_
  exact zs_if_eq C dX11_chose_5 (by decide) (kX11_chose_21 C h_X11_isCell g_X11_isCell h_X1_tell g_X1_tell hq) (kX11_chose_8 C h_X11_isCell g_X11_isCell h_X1_tell g_X1_tell hq)
theorem mX11_chose {d : Nat} {spec : zq_Sp} {d_X11_isCell : Nat} {s_X11_isCell : zq_Sp} (h_X11_isCell : zq_M yX11_isCell cX11_isCell 2 (some .boolean) 1 d_X11_isCell s_X11_isCell) (g_X11_isCell : d_X11_isCell + 1 ≤ d) {d_X1_tell : Nat} {s_X1_tell : zq_Sp} (h_X1_tell : zq_M yX1_tell cX1_tell 3 (some .int) 1 d_X1_tell s_X1_tell) (g_X1_tell : d_X1_tell + 1 ≤ d) (v : ∀ args h Q, spec args h Q → (zq_a args).length ≤ 3 ∧ xX11_chose_0 s_X11_isCell s_X1_tell Q (zq_l0 3 args) [] h) : zq_M yX11_chose cX11_chose 3 (some .int) 1 d spec := by
  refine zq_met (by decide +kernel) (by decide) (fun X Q args h C hq hs => ⟨(v args h Q hs).1, _, ?_, (v args h Q hs).2⟩)
  exact kX11_chose_0 C h_X11_isCell g_X11_isCell h_X1_tell g_X1_tell hq
/-! ToOneCrumb.forget()I -/
theorem dX11_forget_0 : decode cX11_forget 0 = .ok (.aload_n 0, 1) := by decide +kernel
theorem dX11_forget_1 : decode cX11_forget 1 = .ok (.getfield 47, 3) := by decide +kernel
theorem dX11_forget_4 : decode cX11_forget 4 = .ok (.getfield 121, 3) := by decide +kernel
theorem dX11_forget_7 : decode cX11_forget 7 = .ok (.istore_n 1, 1) := by decide +kernel
theorem dX11_forget_8 : decode cX11_forget 8 = .ok (.aload_n 0, 1) := by decide +kernel
theorem dX11_forget_9 : decode cX11_forget 9 = .ok (.getfield 47, 3) := by decide +kernel
theorem dX11_forget_12 : decode cX11_forget 12 = .ok (.iconst 0, 1) := by decide +kernel
theorem dX11_forget_13 : decode cX11_forget 13 = .ok (.putfield 121, 3) := by decide +kernel
theorem dX11_forget_16 : decode cX11_forget 16 = .ok (.iload_n 1, 1) := by decide +kernel
theorem dX11_forget_17 : decode cX11_forget 17 = .ok (.ireturn, 1) := by decide +kernel
def xX11_forget_0 (Q : zq_Q) (ls : zq_L) (st : List Value) (h : zq_H) : Prop := (zi_aload 0 (zi_getR 0 15 (zi_getI 15 7 (zi_istore 1 (zi_aload 0 (zi_getR 0 15 (zi_push (.int 0) (zi_putI 15 7 (zi_iload 1 (zi_iret Q)))))))))) ls st h
theorem kX11_forget_0 {X : zq_X} {d : Nat} (C : zq_C X cX11_forget 2 RX11 d) {Q : zq_Q} (hq : zq_R X (some .int) 1 Q) : zq_ok X 2 0 (xX11_forget_0 Q) := by
  refine zs_aload_n C dX11_forget_0 rfl ?_
  refine zs_getR C zp_0 zF11 (j := 5) ⟨by decide, rfl⟩ zw_320 dX11_forget_1 ?_
  refine zs_getIN C zp_15 zF1 (j := 7) ⟨by decide, rfl⟩ zw_153 dX11_forget_4 ?_
  refine zs_istore_n C dX11_forget_7 rfl (by decide) ?_
  refine zs_aload_n C dX11_forget_8 rfl ?_
  refine zs_getR C zp_0 zF11 (j := 5) ⟨by decide, rfl⟩ zw_320 dX11_forget_9 ?_
  refine zs_iconst C dX11_forget_12 (by decide) ?_
  refine zs_putIN C zp_15 zF1 (j := 7) ⟨by decide, rfl⟩ ⟨rfl, by decide +kernel⟩ zw_153 dX11_forget_13 ?_
  refine zs_iload_n C dX11_forget_16 rfl ?_
  exact zs_iret C hq dX11_forget_17
theorem mX11_forget {d : Nat} {spec : zq_Sp} (v : ∀ args h Q, spec args h Q → (zq_a args).length ≤ 2 ∧ xX11_forget_0 Q (zq_l0 2 args) [] h) : zq_M yX11_forget cX11_forget 2 (some .int) 1 d spec := by
  refine zq_met (by decide +kernel) (by decide) (fun X Q args h C hq hs => ⟨(v args h Q hs).1, _, ?_, (v args h Q hs).2⟩)
  exact kX11_forget_0 C hq
/-! ToOneCrumb.tastes(I)I -/
theorem dX11_tastes_0 : decode cX11_tastes 0 = .ok (.aload_n 0, 1) := by decide +kernel
theorem dX11_tastes_1 : decode cX11_tastes 1 = .ok (.iload_n 1, 1) := by decide +kernel
theorem dX11_tastes_2 : decode cX11_tastes 2 = .ok (.invokevirtual 171, 3) := by decide +kernel
theorem dX11_tastes_5 : decode cX11_tastes 5 = .ok (.ifCond .ne 5, 3) := by decide +kernel
theorem dX11_tastes_8 : decode cX11_tastes 8 = .ok (.iconst (-1), 1) := by decide +kernel
theorem dX11_tastes_9 : decode cX11_tastes 9 = .ok (.ireturn, 1) := by decide +kernel
theorem dX11_tastes_10 : decode cX11_tastes 10 = .ok (.aload_n 0, 1) := by decide +kernel
theorem dX11_tastes_11 : decode cX11_tastes 11 = .ok (.getfield 47, 3) := by decide +kernel
theorem dX11_tastes_14 : decode cX11_tastes 14 = .ok (.aload_n 0, 1) := by decide +kernel
theorem dX11_tastes_15 : decode cX11_tastes 15 = .ok (.getfield 92, 3) := by decide +kernel
theorem dX11_tastes_18 : decode cX11_tastes 18 = .ok (.aload_n 0, 1) := by decide +kernel
theorem dX11_tastes_19 : decode cX11_tastes 19 = .ok (.getfield 82, 3) := by decide +kernel
theorem dX11_tastes_22 : decode cX11_tastes 22 = .ok (.iload_n 1, 1) := by decide +kernel
theorem dX11_tastes_23 : decode cX11_tastes 23 = .ok (.invokevirtual 311, 3) := by decide +kernel
theorem dX11_tastes_26 : decode cX11_tastes 26 = .ok (.istore_n 2, 1) := by decide +kernel
theorem dX11_tastes_27 : decode cX11_tastes 27 = .ok (.aload_n 0, 1) := by decide +kernel
theorem dX11_tastes_28 : decode cX11_tastes 28 = .ok (.getfield 19, 3) := by decide +kernel
theorem dX11_tastes_31 : decode cX11_tastes 31 = .ok (.invokevirtual 236, 3) := by decide +kernel
theorem dX11_tastes_34 : decode cX11_tastes 34 = .ok (.iconst 0, 1) := by decide +kernel
theorem dX11_tastes_35 : decode cX11_tastes 35 = .ok (.istore_n 3, 1) := by decide +kernel
theorem dX11_tastes_36 : decode cX11_tastes 36 = .ok (.iload_n 2, 1) := by decide +kernel
theorem dX11_tastes_37 : decode cX11_tastes 37 = .ok (.ifCond .le 31, 3) := by decide +kernel
theorem dX11_tastes_40 : decode cX11_tastes 40 = .ok (.iload_n 3, 1) := by decide +kernel
theorem dX11_tastes_41 : decode cX11_tastes 41 = .ok (.iconst 3, 1) := by decide +kernel
theorem dX11_tastes_42 : decode cX11_tastes 42 = .ok (.if_icmp .ge 26, 3) := by decide +kernel
theorem dX11_tastes_45 : decode cX11_tastes 45 = .ok (.aload_n 0, 1) := by decide +kernel
theorem dX11_tastes_46 : decode cX11_tastes 46 = .ok (.getfield 19, 3) := by decide +kernel
theorem dX11_tastes_49 : decode cX11_tastes 49 = .ok (.aload_n 0, 1) := by decide +kernel
theorem dX11_tastes_50 : decode cX11_tastes 50 = .ok (.getfield 47, 3) := by decide +kernel
theorem dX11_tastes_53 : decode cX11_tastes 53 = .ok (.getfield 315, 3) := by decide +kernel
theorem dX11_tastes_56 : decode cX11_tastes 56 = .ok (.iload_n 3, 1) := by decide +kernel
theorem dX11_tastes_57 : decode cX11_tastes 57 = .ok (.iaload, 1) := by decide +kernel
theorem dX11_tastes_58 : decode cX11_tastes 58 = .ok (.i2l, 1) := by decide +kernel
theorem dX11_tastes_59 : decode cX11_tastes 59 = .ok (.invokevirtual 237, 3) := by decide +kernel
theorem dX11_tastes_62 : decode cX11_tastes 62 = .ok (.iinc 3 1, 3) := by decide +kernel
theorem dX11_tastes_65 : decode cX11_tastes 65 = .ok (.goto (-29), 3) := by decide +kernel
theorem dX11_tastes_68 : decode cX11_tastes 68 = .ok (.iload_n 2, 1) := by decide +kernel
theorem dX11_tastes_69 : decode cX11_tastes 69 = .ok (.ireturn, 1) := by decide +kernel
def xX11_tastes_68 (s_X11_isGuest : zq_Sp) (s_X1_countFitting : zq_Sp) (s_X5_clear : zq_Sp) (s_X5_add : zq_Sp) (J36 : zq_P) (Q : zq_Q) (ls : zq_L) (st : List Value) (h : zq_H) : Prop := (zi_iload 2 (zi_iret Q)) ls st h
theorem kX11_tastes_68 {X : zq_X} {d : Nat} (C : zq_C X cX11_tastes 4 RX11 d) {d_X11_isGuest : Nat} {s_X11_isGuest : zq_Sp} (h_X11_isGuest : zq_M yX11_isGuest cX11_isGuest 2 (some .boolean) 1 d_X11_isGuest s_X11_isGuest) (g_X11_isGuest : d_X11_isGuest + 1 ≤ d) {d_X1_countFitting : Nat} {s_X1_countFitting : zq_Sp} (h_X1_countFitting : zq_M yX1_countFitting cX1_countFitting 8 (some .int) 1 d_X1_countFitting s_X1_countFitting) (g_X1_countFitting : d_X1_countFitting + 1 ≤ d) {d_X5_clear : Nat} {s_X5_clear : zq_Sp} (h_X5_clear : zq_M yX5_clear cX5_clear 1 none 0 d_X5_clear s_X5_clear) (g_X5_clear : d_X5_clear + 1 ≤ d) {d_X5_add : Nat} {s_X5_add : zq_Sp} (h_X5_add : zq_M yX5_add cX5_add 3 none 0 d_X5_add s_X5_add) (g_X5_add : d_X5_add + 1 ≤ d) {J36 : zq_P} (j36 : zq_ok X 4 36 J36) {Q : zq_Q} (hq : zq_R X (some .int) 1 Q) : zq_ok X 4 68 (xX11_tastes_68 s_X11_isGuest s_X1_countFitting s_X5_clear s_X5_add J36 Q) := by
  refine zs_iload_n C dX11_tastes_68 rfl ?_
  exact zs_iret C hq dX11_tastes_69
def xX11_tastes_45 (s_X11_isGuest : zq_Sp) (s_X1_countFitting : zq_Sp) (s_X5_clear : zq_Sp) (s_X5_add : zq_Sp) (J36 : zq_P) (Q : zq_Q) (ls : zq_L) (st : List Value) (h : zq_H) : Prop := (zi_aload 0 (zi_getR 0 3 (zi_aload 0 (zi_getR 0 15 (zi_getR 15 19 (zi_iload 3 (zi_aldI 19 3 (zi_i2l (zi_callV 1 3 s_X5_add (zi_iinc 3 1 (J36))))))))))) ls st h
theorem kX11_tastes_45 {X : zq_X} {d : Nat} (C : zq_C X cX11_tastes 4 RX11 d) {d_X11_isGuest : Nat} {s_X11_isGuest : zq_Sp} (h_X11_isGuest : zq_M yX11_isGuest cX11_isGuest 2 (some .boolean) 1 d_X11_isGuest s_X11_isGuest) (g_X11_isGuest : d_X11_isGuest + 1 ≤ d) {d_X1_countFitting : Nat} {s_X1_countFitting : zq_Sp} (h_X1_countFitting : zq_M yX1_countFitting cX1_countFitting 8 (some .int) 1 d_X1_countFitting s_X1_countFitting) (g_X1_countFitting : d_X1_countFitting + 1 ≤ d) {d_X5_clear : Nat} {s_X5_clear : zq_Sp} (h_X5_clear : zq_M yX5_clear cX5_clear 1 none 0 d_X5_clear s_X5_clear) (g_X5_clear : d_X5_clear + 1 ≤ d) {d_X5_add : Nat} {s_X5_add : zq_Sp} (h_X5_add : zq_M yX5_add cX5_add 3 none 0 d_X5_add s_X5_add) (g_X5_add : d_X5_add + 1 ≤ d) {J36 : zq_P} (j36 : zq_ok X 4 36 J36) {Q : zq_Q} (hq : zq_R X (some .int) 1 Q) : zq_ok X 4 45 (xX11_tastes_45 s_X11_isGuest s_X1_countFitting s_X5_clear s_X5_add J36 Q) := by
  refine zs_aload_n C dX11_tastes_45 rfl ?_
  refine zs_getR C zp_0 zF11 (j := 1) ⟨by decide, rfl⟩ zw_316 dX11_tastes_46 ?_
  refine zs_aload_n C dX11_tastes_49 rfl ?_
  refine zs_getR C zp_0 zF11 (j := 5) ⟨by decide, rfl⟩ zw_320 dX11_tastes_50 ?_
  refine zs_getRN C zp_15 zF1 (j := 3) ⟨by decide, rfl⟩ zw_148 dX11_tastes_53 ?_
  refine zs_iload_n C dX11_tastes_56 rfl ?_
  refine zs_iaload C zp_19 dX11_tastes_57 ?_
  refine zs_i2l C dX11_tastes_58 ?_
  refine zs_callV C h_X5_add g_X5_add zy_X5_add zp_3 (show vwCl[5]? = some (RX5, TX5, 2) from rfl) zw_654 zw_655 zs9_X5_add dX11_tastes_59 ?_
  refine zs_iinc C dX11_tastes_62 (by decide) (by decide) ?_
  exact zs_goto C dX11_tastes_65 (by decide) (j36)
def xX11_tastes_40 (s_X11_isGuest : zq_Sp) (s_X1_countFitting : zq_Sp) (s_X5_clear : zq_Sp) (s_X5_add : zq_Sp) (J36 : zq_P) (Q : zq_Q) (ls : zq_L) (st : List Value) (h : zq_H) : Prop := (zi_iload 3 (zi_push (.int 3) (zi_if2 (fun x y => y ≤ x) (xX11_tastes_68 s_X11_isGuest s_X1_countFitting s_X5_clear s_X5_add J36 Q) (xX11_tastes_45 s_X11_isGuest s_X1_countFitting s_X5_clear s_X5_add J36 Q)))) ls st h
theorem kX11_tastes_40 {X : zq_X} {d : Nat} (C : zq_C X cX11_tastes 4 RX11 d) {d_X11_isGuest : Nat} {s_X11_isGuest : zq_Sp} (h_X11_isGuest : zq_M yX11_isGuest cX11_isGuest 2 (some .boolean) 1 d_X11_isGuest s_X11_isGuest) (g_X11_isGuest : d_X11_isGuest + 1 ≤ d) {d_X1_countFitting : Nat} {s_X1_countFitting : zq_Sp} (h_X1_countFitting : zq_M yX1_countFitting cX1_countFitting 8 (some .int) 1 d_X1_countFitting s_X1_countFitting) (g_X1_countFitting : d_X1_countFitting + 1 ≤ d) {d_X5_clear : Nat} {s_X5_clear : zq_Sp} (h_X5_clear : zq_M yX5_clear cX5_clear 1 none 0 d_X5_clear s_X5_clear) (g_X5_clear : d_X5_clear + 1 ≤ d) {d_X5_add : Nat} {s_X5_add : zq_Sp} (h_X5_add : zq_M yX5_add cX5_add 3 none 0 d_X5_add s_X5_add) (g_X5_add : d_X5_add + 1 ≤ d) {J36 : zq_P} (j36 : zq_ok X 4 36 J36) {Q : zq_Q} (hq : zq_R X (some .int) 1 Q) : zq_ok X 4 40 (xX11_tastes_40 s_X11_isGuest s_X1_countFitting s_X5_clear s_X5_add J36 Q) := by
  refine zs_iload_n C dX11_tastes_40 rfl ?_
  refine zs_iconst C dX11_tastes_41 (by decide) ?_
  exact zs_icmp_ge C dX11_tastes_42 (by decide) (kX11_tastes_68 C h_X11_isGuest g_X11_isGuest h_X1_countFitting g_X1_countFitting h_X5_clear g_X5_clear h_X5_add g_X5_add j36 hq) (kX11_tastes_45 C h_X11_isGuest g_X11_isGuest h_X1_countFitting g_X1_countFitting h_X5_clear g_X5_clear h_X5_add g_X5_add j36 hq)
def xX11_tastes_36 (s_X11_isGuest : zq_Sp) (s_X1_countFitting : zq_Sp) (s_X5_clear : zq_Sp) (s_X5_add : zq_Sp) (J36 : zq_P) (Q : zq_Q) (ls : zq_L) (st : List Value) (h : zq_H) : Prop := (zi_iload 2 (zi_if1 (fun x => x ≤ 0) (xX11_tastes_68 s_X11_isGuest s_X1_countFitting s_X5_clear s_X5_add J36 Q) (xX11_tastes_40 s_X11_isGuest s_X1_countFitting s_X5_clear s_X5_add J36 Q))) ls st h
theorem kX11_tastes_36 {X : zq_X} {d : Nat} (C : zq_C X cX11_tastes 4 RX11 d) {d_X11_isGuest : Nat} {s_X11_isGuest : zq_Sp} (h_X11_isGuest : zq_M yX11_isGuest cX11_isGuest 2 (some .boolean) 1 d_X11_isGuest s_X11_isGuest) (g_X11_isGuest : d_X11_isGuest + 1 ≤ d) {d_X1_countFitting : Nat} {s_X1_countFitting : zq_Sp} (h_X1_countFitting : zq_M yX1_countFitting cX1_countFitting 8 (some .int) 1 d_X1_countFitting s_X1_countFitting) (g_X1_countFitting : d_X1_countFitting + 1 ≤ d) {d_X5_clear : Nat} {s_X5_clear : zq_Sp} (h_X5_clear : zq_M yX5_clear cX5_clear 1 none 0 d_X5_clear s_X5_clear) (g_X5_clear : d_X5_clear + 1 ≤ d) {d_X5_add : Nat} {s_X5_add : zq_Sp} (h_X5_add : zq_M yX5_add cX5_add 3 none 0 d_X5_add s_X5_add) (g_X5_add : d_X5_add + 1 ≤ d) {J36 : zq_P} (j36 : zq_ok X 4 36 J36) {Q : zq_Q} (hq : zq_R X (some .int) 1 Q) : zq_ok X 4 36 (xX11_tastes_36 s_X11_isGuest s_X1_countFitting s_X5_clear s_X5_add J36 Q) := by
  refine zs_iload_n C dX11_tastes_36 rfl ?_
  exact zs_if_le C dX11_tastes_37 (by decide) (kX11_tastes_68 C h_X11_isGuest g_X11_isGuest h_X1_countFitting g_X1_countFitting h_X5_clear g_X5_clear h_X5_add g_X5_add j36 hq) (kX11_tastes_40 C h_X11_isGuest g_X11_isGuest h_X1_countFitting g_X1_countFitting h_X5_clear g_X5_clear h_X5_add g_X5_add j36 hq)
def xX11_tastes_10 (s_X11_isGuest : zq_Sp) (s_X1_countFitting : zq_Sp) (s_X5_clear : zq_Sp) (s_X5_add : zq_Sp) (J36 : zq_P) (Q : zq_Q) (ls : zq_L) (st : List Value) (h : zq_H) : Prop := (zi_aload 0 (zi_getR 0 15 (zi_aload 0 (zi_getR 0 48 (zi_aload 0 (zi_getR 0 40 (zi_iload 1 (zi_callV 3 15 s_X1_countFitting (zi_istore 2 (zi_aload 0 (zi_getR 0 3 (zi_callV 0 3 s_X5_clear (zi_push (.int 0) (zi_istore 3 (J36))))))))))))))) ls st h
theorem kX11_tastes_10 {X : zq_X} {d : Nat} (C : zq_C X cX11_tastes 4 RX11 d) {d_X11_isGuest : Nat} {s_X11_isGuest : zq_Sp} (h_X11_isGuest : zq_M yX11_isGuest cX11_isGuest 2 (some .boolean) 1 d_X11_isGuest s_X11_isGuest) (g_X11_isGuest : d_X11_isGuest + 1 ≤ d) {d_X1_countFitting : Nat} {s_X1_countFitting : zq_Sp} (h_X1_countFitting : zq_M yX1_countFitting cX1_countFitting 8 (some .int) 1 d_X1_countFitting s_X1_countFitting) (g_X1_countFitting : d_X1_countFitting + 1 ≤ d) {d_X5_clear : Nat} {s_X5_clear : zq_Sp} (h_X5_clear : zq_M yX5_clear cX5_clear 1 none 0 d_X5_clear s_X5_clear) (g_X5_clear : d_X5_clear + 1 ≤ d) {d_X5_add : Nat} {s_X5_add : zq_Sp} (h_X5_add : zq_M yX5_add cX5_add 3 none 0 d_X5_add s_X5_add) (g_X5_add : d_X5_add + 1 ≤ d) {J36 : zq_P} (j36 : zq_ok X 4 36 J36) {Q : zq_Q} (hq : zq_R X (some .int) 1 Q) : zq_ok X 4 10 (xX11_tastes_10 s_X11_isGuest s_X1_countFitting s_X5_clear s_X5_add J36 Q) := by
  refine zs_aload_n C dX11_tastes_10 rfl ?_
  refine zs_getR C zp_0 zF11 (j := 5) ⟨by decide, rfl⟩ zw_320 dX11_tastes_11 ?_
  refine zs_aload_n C dX11_tastes_14 rfl ?_
  refine zs_getR C zp_0 zF11 (j := 13) ⟨by decide, rfl⟩ zw_328 dX11_tastes_15 ?_
  refine zs_aload_n C dX11_tastes_18 rfl ?_
  refine zs_getR C zp_0 zF11 (j := 11) ⟨by decide, rfl⟩ zw_326 dX11_tastes_19 ?_
  refine zs_iload_n C dX11_tastes_22 rfl ?_
  refine zs_callV C h_X1_countFitting g_X1_countFitting zy_X1_countFitting zp_15 (show vwCl[1]? = some (RX1, TX1, 8) from rfl) zw_891 zw_892 zs9_X1_countFitting dX11_tastes_23 ?_
  refine zs_istore_n C dX11_tastes_26 rfl (by decide) ?_
  refine zs_aload_n C dX11_tastes_27 rfl ?_
  refine zs_getR C zp_0 zF11 (j := 1) ⟨by decide, rfl⟩ zw_316 dX11_tastes_28 ?_
  refine zs_callV C h_X5_clear g_X5_clear zy_X5_clear zp_3 (show vwCl[5]? = some (RX5, TX5, 2) from rfl) zw_650 zw_651 zs9_X5_clear dX11_tastes_31 ?_
  refine zs_iconst C dX11_tastes_34 (by decide) ?_
  refine zs_istore_n C dX11_tastes_35 rfl (by decide) ?_
  exact j36
def xX11_tastes_8 (s_X11_isGuest : zq_Sp) (s_X1_countFitting : zq_Sp) (s_X5_clear : zq_Sp) (s_X5_add : zq_Sp) (J36 : zq_P) (Q : zq_Q) (ls : zq_L) (st : List Value) (h : zq_H) : Prop := (zi_push (.int (-1)) (zi_iret Q)) ls st h
theorem kX11_tastes_8 {X : zq_X} {d : Nat} (C : zq_C X cX11_tastes 4 RX11 d) {d_X11_isGuest : Nat} {s_X11_isGuest : zq_Sp} (h_X11_isGuest : zq_M yX11_isGuest cX11_isGuest 2 (some .boolean) 1 d_X11_isGuest s_X11_isGuest) (g_X11_isGuest : d_X11_isGuest + 1 ≤ d) {d_X1_countFitting : Nat} {s_X1_countFitting : zq_Sp} (h_X1_countFitting : zq_M yX1_countFitting cX1_countFitting 8 (some .int) 1 d_X1_countFitting s_X1_countFitting) (g_X1_countFitting : d_X1_countFitting + 1 ≤ d) {d_X5_clear : Nat} {s_X5_clear : zq_Sp} (h_X5_clear : zq_M yX5_clear cX5_clear 1 none 0 d_X5_clear s_X5_clear) (g_X5_clear : d_X5_clear + 1 ≤ d) {d_X5_add : Nat} {s_X5_add : zq_Sp} (h_X5_add : zq_M yX5_add cX5_add 3 none 0 d_X5_add s_X5_add) (g_X5_add : d_X5_add + 1 ≤ d) {J36 : zq_P} (j36 : zq_ok X 4 36 J36) {Q : zq_Q} (hq : zq_R X (some .int) 1 Q) : zq_ok X 4 8 (xX11_tastes_8 s_X11_isGuest s_X1_countFitting s_X5_clear s_X5_add J36 Q) := by
  refine zs_iconst C dX11_tastes_8 (by decide) ?_
  exact zs_iret C hq dX11_tastes_9
def xX11_tastes_0 (s_X11_isGuest : zq_Sp) (s_X1_countFitting : zq_Sp) (s_X5_clear : zq_Sp) (s_X5_add : zq_Sp) (J36 : zq_P) (Q : zq_Q) (ls : zq_L) (st : List Value) (h : zq_H) : Prop := (zi_aload 0 (zi_iload 1 (zi_callV 1 0 s_X11_isGuest (zi_if1 (fun x => x = 0) (xX11_tastes_8 s_X11_isGuest s_X1_countFitting s_X5_clear s_X5_add J36 Q) (xX11_tastes_10 s_X11_isGuest s_X1_countFitting s_X5_clear s_X5_add J36 Q))))) ls st h
theorem kX11_tastes_0 {X : zq_X} {d : Nat} (C : zq_C X cX11_tastes 4 RX11 d) {d_X11_isGuest : Nat} {s_X11_isGuest : zq_Sp} (h_X11_isGuest : zq_M yX11_isGuest cX11_isGuest 2 (some .boolean) 1 d_X11_isGuest s_X11_isGuest) (g_X11_isGuest : d_X11_isGuest + 1 ≤ d) {d_X1_countFitting : Nat} {s_X1_countFitting : zq_Sp} (h_X1_countFitting : zq_M yX1_countFitting cX1_countFitting 8 (some .int) 1 d_X1_countFitting s_X1_countFitting) (g_X1_countFitting : d_X1_countFitting + 1 ≤ d) {d_X5_clear : Nat} {s_X5_clear : zq_Sp} (h_X5_clear : zq_M yX5_clear cX5_clear 1 none 0 d_X5_clear s_X5_clear) (g_X5_clear : d_X5_clear + 1 ≤ d) {d_X5_add : Nat} {s_X5_add : zq_Sp} (h_X5_add : zq_M yX5_add cX5_add 3 none 0 d_X5_add s_X5_add) (g_X5_add : d_X5_add + 1 ≤ d) {J36 : zq_P} (j36 : zq_ok X 4 36 J36) {Q : zq_Q} (hq : zq_R X (some .int) 1 Q) : zq_ok X 4 0 (xX11_tastes_0 s_X11_isGuest s_X1_countFitting s_X5_clear s_X5_add J36 Q) := by
  refine zs_aload_n C dX11_tastes_0 rfl ?_
  refine zs_iload_n C dX11_tastes_1 rfl ?_
  refine zs_callV C h_X11_isGuest g_X11_isGuest zy_X11_isGuest zp_0 (show vwCl[11]? = some (RX11, TX11, 16) from rfl) zw_546 zw_548 zs9_X11_isGuest dX11_tastes_2 ?_
  exact zs_if_ne C dX11_tastes_5 (by decide) (kX11_tastes_10 C h_X11_isGuest g_X11_isGuest h_X1_countFitting g_X1_countFitting h_X5_clear g_X5_clear h_X5_add g_X5_add j36 hq) (kX11_tastes_8 C h_X11_isGuest g_X11_isGuest h_X1_countFitting g_X1_countFitting h_X5_clear g_X5_clear h_X5_add g_X5_add j36 hq)
theorem mX11_tastes {d : Nat} {spec : zq_Sp} {σ36 : Type} {d_X11_isGuest : Nat} {s_X11_isGuest : zq_Sp} (h_X11_isGuest : zq_M yX11_isGuest cX11_isGuest 2 (some .boolean) 1 d_X11_isGuest s_X11_isGuest) (g_X11_isGuest : d_X11_isGuest + 1 ≤ d) {d_X1_countFitting : Nat} {s_X1_countFitting : zq_Sp} (h_X1_countFitting : zq_M yX1_countFitting cX1_countFitting 8 (some .int) 1 d_X1_countFitting s_X1_countFitting) (g_X1_countFitting : d_X1_countFitting + 1 ≤ d) {d_X5_clear : Nat} {s_X5_clear : zq_Sp} (h_X5_clear : zq_M yX5_clear cX5_clear 1 none 0 d_X5_clear s_X5_clear) (g_X5_clear : d_X5_clear + 1 ≤ d) {d_X5_add : Nat} {s_X5_add : zq_Sp} (h_X5_add : zq_M yX5_add cX5_add 3 none 0 d_X5_add s_X5_add) (g_X5_add : d_X5_add + 1 ≤ d) (μ36 : σ36 → Nat) (I36 : zq_Q → σ36 → zq_P) (v : ∀ args h Q, spec args h Q → (zq_a args).length ≤ 4 ∧ xX11_tastes_0 s_X11_isGuest s_X1_countFitting s_X5_clear s_X5_add (fun ls st h => ∃ b, I36 Q b ls st h) Q (zq_l0 4 args) [] h) (v36 : ∀ Q a ls st h, I36 Q a ls st h → xX11_tastes_36 s_X11_isGuest s_X1_countFitting s_X5_clear s_X5_add (fun ls st h => ∃ b, μ36 b < μ36 a ∧ I36 Q b ls st h) Q ls st h) : zq_M yX11_tastes cX11_tastes 4 (some .int) 1 d spec := by
  refine zq_met (by decide +kernel) (by decide) (fun X Q args h C hq hs => ⟨(v args h Q hs).1, _, ?_, (v args h Q hs).2⟩)
  have hl := zq_loop1 (X := X) (nL := 4) (pc1 := 36) μ36 (I36 Q) (fun J36 => xX11_tastes_36 s_X11_isGuest s_X1_countFitting s_X5_clear s_X5_add J36 Q) (fun j36 => kX11_tastes_36 C h_X11_isGuest g_X11_isGuest h_X1_countFitting g_X1_countFitting h_X5_clear g_X5_clear h_X5_add g_X5_add j36 hq) (v36 Q)
  exact kX11_tastes_0 C h_X11_isGuest g_X11_isGuest h_X1_countFitting g_X1_countFitting h_X5_clear g_X5_clear h_X5_add g_X5_add hl hq
