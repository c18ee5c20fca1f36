/-! ===== a call with more below it ===== -/
def zw8 : List Value → Nat
  | [] => 0
  | v :: r => v.category + zw8 r
theorem zq_cvsum (ad : Nat → Nat) : ∀ st : List Value, ((st.map (zq_cv ad)).map fun v => v.category).sum = zw8 st
  | [] => rfl
  | v :: r => by
    rw [List.map_cons, List.map_cons, List.sum_cons, zq_cvsum ad r, zq_cv_cat]
    rfl
def zi_callW (n p : Nat) (spec : zq_Sp) (K : zq_P) (ls : zq_L) (st : List Value) (h : zq_H) : Prop := match zq_tk (n + 1) [] st with
  | some (.ref q :: as, rest) => q = p ∧ zw8 rest ≤ 8 ∧ spec (.ref q :: as) h (fun r h' => K ls (zq_ps r rest) h')
  | _ => False
def zi_m2W (f : Int32 → Int32 → Int32) (K : zq_P) (ls : zq_L) (st : List Value) (h : zq_H) : Prop := match st with
  | .int y :: .int x :: rest => zw8 rest ≤ 8 ∧ K ls (.int (f x y) :: rest) h
  | _ => False
section ZW
variable {X : zq_X} {cc bytes : ByteArray} {nL d pc n ix maxL d1 rk : Nat} {own : String} {K : zq_P} {y : MethodName} {ret : Option FieldType} {spec : zq_Sp}
theorem zs_callW (C : zq_C X cc nL own d) {p ci N : Nat} {kd : List Nat} {T : u_T} (hM : zq_M y bytes maxL ret rk d1 spec) (hdd : d1 + 1 ≤ d) (hy : zq_y y bytes maxL ret n) (hp : zq_S[p]? = some (0, ci, kd)) (hc : vwCl[ci]? = some (y.cls, T, N)) (h1 : Cond.methodLink own ix y ∈ zq_tb) (h2 : Cond.instanceMethod y ∈ zq_tb) (h3 : Cond.selects y.cls y y ∈ zq_tb)
    (hd : decode cc pc = .ok (.invokevirtual ix, 3)) (k : zq_ok X nL (pc + 3) K) : zq_ok X nL pc (zi_callW n p spec K) := by
  obtain ⟨p', l, e, R, s, m, args, below, meth, c, D, Y, ad, A, kc, kn, Z⟩ := X
  obtain ⟨hx, hb, hml, hown, hts, hK, hR1, hR2, hR3, hR4, hE⟩ := C
  intro ls st h H locs a hP hl hw hD hS
  unfold zi_callW at hP
  split at hP
  · next q as rest htk =>
    obtain ⟨rfl, hlen, hsp⟩ := hP
    obtain ⟨pre, e1, e2, e3⟩ := zq_tk_eq _ _ _ _ _ htk
    rw [List.append_nil] at e3
    have e4 : pre = as.reverse ++ [.ref q] := by
      have := congrArg List.reverse e3
      simpa using this.symm
    subst e2
    have e5 : as.length = n := by rw [e4] at e1; simpa using e1
    refine zq_behind (rest := rest) (va_runV (As := as.map (zq_cv ad)) (rest := rest.map (zq_cv ad)) ⟨hx, hb, hml, hown, hts⟩ (hM l D Y ad _ h _ hsp) (cwV n hts (zq_goodV hy h1 h2 h3 hy.2.1) rfl rfl rfl ⟨rfl, hy.2.2.1⟩ ⟨?_, ?_⟩) ⟨zq_blind, va_recv hK hw hc (zq_ws_at hp), ?_⟩ rfl (by rw [List.length_map]; exact e5) hl.1 ?_ (lv_room ?_) hd ⟨hR3, hR4⟩) hl hD hS k
    · show d1 + 1 ≤ R.frames
      omega
    · have := hy.2.2.2
      show 8 + (maxL + 11) + 64 * d1 ≤ R.locals
      omega
    · intro U hU hW
      exact ⟨rfl, ⟨by rw [hU]; exact hw, va_K.moved hW.alike hK, hD.weaken (fun _ _ _ _ => trivial)⟩, zq_E_call hE hS (zq_AA hD) hU hW⟩
    · show (pre ++ rest).map (zq_cv ad) = (as.map (zq_cv ad)).reverse ++ zq_cv ad (.ref q) :: rest.map (zq_cv ad)
      rw [e4]
      simp [List.map_reverse]
    · rw [zq_cvsum]
      exact hlen
  · exact hP.elim
theorem zs_mminW (C : zq_C X cc nL own d) {ix : Nat} (hdd : 1 ≤ d) (h1 : Cond.methodLink own ix Lib.Math.min.name ∈ zq_tb) (h2 : Cond.static Lib.Math.min.name ∈ zq_tb) (h3 : Cond.initialized "java/lang/Math" ∈ zq_tb) (h4 : Cond.code Lib.Math.min.name Lib.Math.min.code 2 (some .int) ∈ zq_tb) (hd : decode cc pc = .ok (.invokestatic ix, 3)) (k : zq_ok X nL (pc + 3) K) : zq_ok X nL pc (zi_m2W zf_min K) := by
  obtain ⟨p, l, e, R, s, m, args, below, meth, c, D, Y, ad, A, kc, kn, Z⟩ := X
  obtain ⟨hx, hb, hml, hown, hts, hK, hR1, hR2, hR3, hR4, hE⟩ := C
  intro ls st h H locs a hP hl hw hD hS
  unfold zi_m2W at hP
  split at hP
  · next y x st =>
    have h5 := zq_cvsum ad st
    have h6 := hP.1
    exact va_mmin hx hb (hml.trans hl.1.symm) hown (hts _ h1) (hts _ h2) (hts _ h3) (hts _ h4) (by omega) (by omega) hR3 hR4 hd (k _ _ _ _ _ _ hP.2 hl hw hD hS)
  · exact hP.elim
end ZW
def xW12_partsOn_145 (s_X12_sliceOf : zq_Sp) (s_X12_partsOn : zq_Sp) (J57 : zq_P) (J88 : zq_P) (Q : zq_Q) (ls : zq_L) (st : List Value) (h : zq_H) : Prop := (zi_vret Q) ls st h
theorem kW12_partsOn_145 {X : zq_X} {d : Nat} (C : zq_C X cX12_partsOn 8 RX12 d) (hd1 : 1 ≤ d) {d_X12_sliceOf : Nat} {s_X12_sliceOf : zq_Sp} (h_X12_sliceOf : zq_M yX12_sliceOf cX12_sliceOf 6 (some .int) 1 d_X12_sliceOf s_X12_sliceOf) (g_X12_sliceOf : d_X12_sliceOf + 1 ≤ d) {d_X12_partsOn : Nat} {s_X12_partsOn : zq_Sp} (h_X12_partsOn : zq_M yX12_partsOn cX12_partsOn 8 none 0 d_X12_partsOn s_X12_partsOn) (g_X12_partsOn : d_X12_partsOn + 1 ≤ d) {J57 : zq_P} (j57 : zq_ok X 8 57 J57) {J88 : zq_P} (j88 : zq_ok X 8 88 J88) {Q : zq_Q} (hq : zq_R X none 0 Q) : zq_ok X 8 145 (xW12_partsOn_145 s_X12_sliceOf s_X12_partsOn J57 J88 Q) := by
  exact zs_vret C hq dX12_partsOn_145
def xW12_partsOn_104 (s_X12_sliceOf : zq_Sp) (s_X12_partsOn : zq_Sp) (J57 : zq_P) (J88 : zq_P) (Q : zq_Q) (ls : zq_L) (st : List Value) (h : zq_H) : Prop := (zi_aload 0 (zi_getR 56 83 (zi_iload 3 (zi_iload 6 (zi_astI 83 6 (zi_aload 0 (zi_iload 1 (zi_iload 6 (zi_push (.int 1) (zi_i2 (fun x y => x + y) (zi_iload 3 (zi_push (.int 1) (zi_i2 (fun x y => x + y) (zi_iload 4 (zi_iload 5 (zi_aload 0 (zi_iload 1 (zi_iload 2 (zi_iload 6 (zi_callW 3 56 s_X12_sliceOf (zi_m2W zf_min (zi_callV 5 56 s_X12_partsOn (zi_iinc 6 1 (J88)))))))))))))))))))))))) ls st h
theorem kW12_partsOn_104 {X : zq_X} {d : Nat} (C : zq_C X cX12_partsOn 8 RX12 d) (hd1 : 1 ≤ d) {d_X12_sliceOf : Nat} {s_X12_sliceOf : zq_Sp} (h_X12_sliceOf : zq_M yX12_sliceOf cX12_sliceOf 6 (some .int) 1 d_X12_sliceOf s_X12_sliceOf) (g_X12_sliceOf : d_X12_sliceOf + 1 ≤ d) {d_X12_partsOn : Nat} {s_X12_partsOn : zq_Sp} (h_X12_partsOn : zq_M yX12_partsOn cX12_partsOn 8 none 0 d_X12_partsOn s_X12_partsOn) (g_X12_partsOn : d_X12_partsOn + 1 ≤ d) {J57 : zq_P} (j57 : zq_ok X 8 57 J57) {J88 : zq_P} (j88 : zq_ok X 8 88 J88) {Q : zq_Q} (hq : zq_R X none 0 Q) : zq_ok X 8 104 (xW12_partsOn_104 s_X12_sliceOf s_X12_partsOn J57 J88 Q) := by
  refine zs_aload_n C dX12_partsOn_104 rfl ?_
  refine zs_getR C zp_56 zF12 (j := 41) ⟨by decide, rfl⟩ zw_1137 dX12_partsOn_105 ?_
  refine zs_iload_n C dX12_partsOn_108 rfl ?_
  refine zs_iload C dX12_partsOn_109 ?_
  refine zs_iastore C zp_83 dX12_partsOn_111 ?_
  refine zs_aload_n C dX12_partsOn_112 rfl ?_
  refine zs_iload_n C dX12_partsOn_113 rfl ?_
  refine zs_iload C dX12_partsOn_114 ?_
  refine zs_iconst C dX12_partsOn_116 (by decide) ?_
  refine zs_iadd C dX12_partsOn_117 ?_
  refine zs_iload_n C dX12_partsOn_118 rfl ?_
  refine zs_iconst C dX12_partsOn_119 (by decide) ?_
  refine zs_iadd C dX12_partsOn_120 ?_
  refine zs_iload C dX12_partsOn_121 ?_
  refine zs_iload C dX12_partsOn_123 ?_
  refine zs_aload_n C dX12_partsOn_125 rfl ?_
  refine zs_iload_n C dX12_partsOn_126 rfl ?_
  refine zs_iload_n C dX12_partsOn_127 rfl ?_
  refine zs_iload C dX12_partsOn_128 ?_
  refine zs_callW C h_X12_sliceOf g_X12_sliceOf zy_X12_sliceOf zp_56 (show vwCl[12]? = some (RX12, TX12, 67) from rfl) zw_1645 zw_1647 zs9_X12_sliceOf dX12_partsOn_130 ?_
  refine zs_mminW C hd1 zw_1322 zw_393 zw_14 zw_394 dX12_partsOn_133 ?_
  refine zs_callV C h_X12_partsOn g_X12_partsOn zy_X12_partsOn zp_56 (show vwCl[12]? = some (RX12, TX12, 67) from rfl) zw_1655 zw_1657 zs9_X12_partsOn dX12_partsOn_136 ?_
  refine zs_iinc C dX12_partsOn_139 (by decide) (by decide) ?_
  exact zs_goto C dX12_partsOn_142 (by decide) (j88)
def xW12_partsOn_88 (s_X12_sliceOf : zq_Sp) (s_X12_partsOn : zq_Sp) (J57 : zq_P) (J88 : zq_P) (Q : zq_Q) (ls : zq_L) (st : List Value) (h : zq_H) : Prop := (zi_iload 6 (zi_aload 0 (zi_getI 56 3 (zi_iload 4 (zi_push (.int 1) (zi_i2 (fun x y => x - y) (zi_iload 3 (zi_i2 (fun x y => x - y) (zi_i2 (fun x y => x - y) (zi_if2 (fun x y => y ≤ x) (xW12_partsOn_145 s_X12_sliceOf s_X12_partsOn J57 J88 Q) (xW12_partsOn_104 s_X12_sliceOf s_X12_partsOn J57 J88 Q))))))))))) ls st h
theorem kW12_partsOn_88 {X : zq_X} {d : Nat} (C : zq_C X cX12_partsOn 8 RX12 d) (hd1 : 1 ≤ d) {d_X12_sliceOf : Nat} {s_X12_sliceOf : zq_Sp} (h_X12_sliceOf : zq_M yX12_sliceOf cX12_sliceOf 6 (some .int) 1 d_X12_sliceOf s_X12_sliceOf) (g_X12_sliceOf : d_X12_sliceOf + 1 ≤ d) {d_X12_partsOn : Nat} {s_X12_partsOn : zq_Sp} (h_X12_partsOn : zq_M yX12_partsOn cX12_partsOn 8 none 0 d_X12_partsOn s_X12_partsOn) (g_X12_partsOn : d_X12_partsOn + 1 ≤ d) {J57 : zq_P} (j57 : zq_ok X 8 57 J57) {J88 : zq_P} (j88 : zq_ok X 8 88 J88) {Q : zq_Q} (hq : zq_R X none 0 Q) : zq_ok X 8 88 (xW12_partsOn_88 s_X12_sliceOf s_X12_partsOn J57 J88 Q) := by
  refine zs_iload C dX12_partsOn_88 ?_
  refine zs_aload_n C dX12_partsOn_90 rfl ?_
  refine zs_getI C zp_56 zF12 (j := 3) ⟨by decide, rfl⟩ zw_1099 dX12_partsOn_91 ?_
  refine zs_iload C dX12_partsOn_94 ?_
  refine zs_iconst C dX12_partsOn_96 (by decide) ?_
  refine zs_isub C dX12_partsOn_97 ?_
  refine zs_iload_n C dX12_partsOn_98 rfl ?_
  refine zs_isub C dX12_partsOn_99 ?_
  refine zs_isub C dX12_partsOn_100 ?_
  exact zs_icmp_ge C dX12_partsOn_101 (by decide) (kW12_partsOn_145 C hd1 h_X12_sliceOf g_X12_sliceOf h_X12_partsOn g_X12_partsOn j57 j88 hq) (kW12_partsOn_104 C hd1 h_X12_sliceOf g_X12_sliceOf h_X12_partsOn g_X12_partsOn j57 j88 hq)
def xW12_partsOn_85 (s_X12_sliceOf : zq_Sp) (s_X12_partsOn : zq_Sp) (J57 : zq_P) (J88 : zq_P) (Q : zq_Q) (ls : zq_L) (st : List Value) (h : zq_H) : Prop := (zi_iload 2 (zi_istore 6 (J88))) ls st h
theorem kW12_partsOn_85 {X : zq_X} {d : Nat} (C : zq_C X cX12_partsOn 8 RX12 d) (hd1 : 1 ≤ d) {d_X12_sliceOf : Nat} {s_X12_sliceOf : zq_Sp} (h_X12_sliceOf : zq_M yX12_sliceOf cX12_sliceOf 6 (some .int) 1 d_X12_sliceOf s_X12_sliceOf) (g_X12_sliceOf : d_X12_sliceOf + 1 ≤ d) {d_X12_partsOn : Nat} {s_X12_partsOn : zq_Sp} (h_X12_partsOn : zq_M yX12_partsOn cX12_partsOn 8 none 0 d_X12_partsOn s_X12_partsOn) (g_X12_partsOn : d_X12_partsOn + 1 ≤ d) {J57 : zq_P} (j57 : zq_ok X 8 57 J57) {J88 : zq_P} (j88 : zq_ok X 8 88 J88) {Q : zq_Q} (hq : zq_R X none 0 Q) : zq_ok X 8 85 (xW12_partsOn_85 s_X12_sliceOf s_X12_partsOn J57 J88 Q) := by
  refine zs_iload_n C dX12_partsOn_85 rfl ?_
  refine zs_istore C dX12_partsOn_86 (by decide) ?_
  exact j88
def xW12_partsOn_84 (s_X12_sliceOf : zq_Sp) (s_X12_partsOn : zq_Sp) (J57 : zq_P) (J88 : zq_P) (Q : zq_Q) (ls : zq_L) (st : List Value) (h : zq_H) : Prop := (zi_vret Q) ls st h
theorem kW12_partsOn_84 {X : zq_X} {d : Nat} (C : zq_C X cX12_partsOn 8 RX12 d) (hd1 : 1 ≤ d) {d_X12_sliceOf : Nat} {s_X12_sliceOf : zq_Sp} (h_X12_sliceOf : zq_M yX12_sliceOf cX12_sliceOf 6 (some .int) 1 d_X12_sliceOf s_X12_sliceOf) (g_X12_sliceOf : d_X12_sliceOf + 1 ≤ d) {d_X12_partsOn : Nat} {s_X12_partsOn : zq_Sp} (h_X12_partsOn : zq_M yX12_partsOn cX12_partsOn 8 none 0 d_X12_partsOn s_X12_partsOn) (g_X12_partsOn : d_X12_partsOn + 1 ≤ d) {J57 : zq_P} (j57 : zq_ok X 8 57 J57) {J88 : zq_P} (j88 : zq_ok X 8 88 J88) {Q : zq_Q} (hq : zq_R X none 0 Q) : zq_ok X 8 84 (xW12_partsOn_84 s_X12_sliceOf s_X12_partsOn J57 J88 Q) := by
  exact zs_vret C hq dX12_partsOn_84
def xW12_partsOn_64 (s_X12_sliceOf : zq_Sp) (s_X12_partsOn : zq_Sp) (J57 : zq_P) (J88 : zq_P) (Q : zq_Q) (ls : zq_L) (st : List Value) (h : zq_H) : Prop := (zi_aload 0 (zi_getR 56 84 (zi_iload 7 (zi_aload 0 (zi_getR 56 83 (zi_iload 7 (zi_aldI 83 6 (zi_astI 84 6 (zi_iinc 7 1 (J57)))))))))) ls st h
theorem kW12_partsOn_64 {X : zq_X} {d : Nat} (C : zq_C X cX12_partsOn 8 RX12 d) (hd1 : 1 ≤ d) {d_X12_sliceOf : Nat} {s_X12_sliceOf : zq_Sp} (h_X12_sliceOf : zq_M yX12_sliceOf cX12_sliceOf 6 (some .int) 1 d_X12_sliceOf s_X12_sliceOf) (g_X12_sliceOf : d_X12_sliceOf + 1 ≤ d) {d_X12_partsOn : Nat} {s_X12_partsOn : zq_Sp} (h_X12_partsOn : zq_M yX12_partsOn cX12_partsOn 8 none 0 d_X12_partsOn s_X12_partsOn) (g_X12_partsOn : d_X12_partsOn + 1 ≤ d) {J57 : zq_P} (j57 : zq_ok X 8 57 J57) {J88 : zq_P} (j88 : zq_ok X 8 88 J88) {Q : zq_Q} (hq : zq_R X none 0 Q) : zq_ok X 8 64 (xW12_partsOn_64 s_X12_sliceOf s_X12_partsOn J57 J88 Q) := by
  refine zs_aload_n C dX12_partsOn_64 rfl ?_
  refine zs_getR C zp_56 zF12 (j := 42) ⟨by decide, rfl⟩ zw_1138 dX12_partsOn_65 ?_
  refine zs_iload C dX12_partsOn_68 ?_
  refine zs_aload_n C dX12_partsOn_70 rfl ?_
  refine zs_getR C zp_56 zF12 (j := 41) ⟨by decide, rfl⟩ zw_1137 dX12_partsOn_71 ?_
  refine zs_iload C dX12_partsOn_74 ?_
  refine zs_iaload C zp_83 dX12_partsOn_76 ?_
  refine zs_iastore C zp_84 dX12_partsOn_77 ?_
  refine zs_iinc C dX12_partsOn_78 (by decide) (by decide) ?_
  exact zs_goto C dX12_partsOn_81 (by decide) (j57)
def xW12_partsOn_57 (s_X12_sliceOf : zq_Sp) (s_X12_partsOn : zq_Sp) (J57 : zq_P) (J88 : zq_P) (Q : zq_Q) (ls : zq_L) (st : List Value) (h : zq_H) : Prop := (zi_iload 7 (zi_iload 4 (zi_if2 (fun x y => y ≤ x) (xW12_partsOn_84 s_X12_sliceOf s_X12_partsOn J57 J88 Q) (xW12_partsOn_64 s_X12_sliceOf s_X12_partsOn J57 J88 Q)))) ls st h
theorem kW12_partsOn_57 {X : zq_X} {d : Nat} (C : zq_C X cX12_partsOn 8 RX12 d) (hd1 : 1 ≤ d) {d_X12_sliceOf : Nat} {s_X12_sliceOf : zq_Sp} (h_X12_sliceOf : zq_M yX12_sliceOf cX12_sliceOf 6 (some .int) 1 d_X12_sliceOf s_X12_sliceOf) (g_X12_sliceOf : d_X12_sliceOf + 1 ≤ d) {d_X12_partsOn : Nat} {s_X12_partsOn : zq_Sp} (h_X12_partsOn : zq_M yX12_partsOn cX12_partsOn 8 none 0 d_X12_partsOn s_X12_partsOn) (g_X12_partsOn : d_X12_partsOn + 1 ≤ d) {J57 : zq_P} (j57 : zq_ok X 8 57 J57) {J88 : zq_P} (j88 : zq_ok X 8 88 J88) {Q : zq_Q} (hq : zq_R X none 0 Q) : zq_ok X 8 57 (xW12_partsOn_57 s_X12_sliceOf s_X12_partsOn J57 J88 Q) := by
  refine zs_iload C dX12_partsOn_57 ?_
  refine zs_iload C dX12_partsOn_59 ?_
  exact zs_icmp_ge C dX12_partsOn_61 (by decide) (kW12_partsOn_84 C hd1 h_X12_sliceOf g_X12_sliceOf h_X12_partsOn g_X12_partsOn j57 j88 hq) (kW12_partsOn_64 C hd1 h_X12_sliceOf g_X12_sliceOf h_X12_partsOn g_X12_partsOn j57 j88 hq)
def xW12_partsOn_48 (s_X12_sliceOf : zq_Sp) (s_X12_partsOn : zq_Sp) (J57 : zq_P) (J88 : zq_P) (Q : zq_Q) (ls : zq_L) (st : List Value) (h : zq_H) : Prop := (zi_aload 0 (zi_iload 6 (zi_putI 56 43 (zi_push (.int 0) (zi_istore 7 (J57)))))) ls st h
theorem kW12_partsOn_48 {X : zq_X} {d : Nat} (C : zq_C X cX12_partsOn 8 RX12 d) (hd1 : 1 ≤ d) {d_X12_sliceOf : Nat} {s_X12_sliceOf : zq_Sp} (h_X12_sliceOf : zq_M yX12_sliceOf cX12_sliceOf 6 (some .int) 1 d_X12_sliceOf s_X12_sliceOf) (g_X12_sliceOf : d_X12_sliceOf + 1 ≤ d) {d_X12_partsOn : Nat} {s_X12_partsOn : zq_Sp} (h_X12_partsOn : zq_M yX12_partsOn cX12_partsOn 8 none 0 d_X12_partsOn s_X12_partsOn) (g_X12_partsOn : d_X12_partsOn + 1 ≤ d) {J57 : zq_P} (j57 : zq_ok X 8 57 J57) {J88 : zq_P} (j88 : zq_ok X 8 88 J88) {Q : zq_Q} (hq : zq_R X none 0 Q) : zq_ok X 8 48 (xW12_partsOn_48 s_X12_sliceOf s_X12_partsOn J57 J88 Q) := by
  refine zs_aload_n C dX12_partsOn_48 rfl ?_
  refine zs_iload C dX12_partsOn_49 ?_
  refine zs_putI C zp_56 zF12 (j := 43) ⟨by decide, rfl⟩ ⟨rfl, by decide +kernel⟩ zw_1139 dX12_partsOn_51 ?_
  refine zs_iconst C dX12_partsOn_54 (by decide) ?_
  refine zs_istore C dX12_partsOn_55 (by decide) ?_
  exact j57
def xW12_partsOn_8 (s_X12_sliceOf : zq_Sp) (s_X12_partsOn : zq_Sp) (J57 : zq_P) (J88 : zq_P) (Q : zq_Q) (ls : zq_L) (st : List Value) (h : zq_H) : Prop := (zi_iload 5 (zi_aload 0 (zi_iload 1 (zi_iload 2 (zi_aload 0 (zi_getI 56 3 (zi_push (.int 1) (zi_i2 (fun x y => x - y) (zi_callV 3 56 s_X12_sliceOf (zi_m2 zf_min (zi_istore 6 (zi_aload 0 (zi_getR 56 83 (zi_iload 3 (zi_aload 0 (zi_getI 56 3 (zi_push (.int 1) (zi_i2 (fun x y => x - y) (zi_astI 83 6 (zi_iload 6 (zi_aload 0 (zi_getI 56 43 (zi_if2 (fun x y => x ≤ y) (xW12_partsOn_84 s_X12_sliceOf s_X12_partsOn J57 J88 Q) (xW12_partsOn_48 s_X12_sliceOf s_X12_partsOn J57 J88 Q)))))))))))))))))))))))) ls st h
theorem kW12_partsOn_8 {X : zq_X} {d : Nat} (C : zq_C X cX12_partsOn 8 RX12 d) (hd1 : 1 ≤ d) {d_X12_sliceOf : Nat} {s_X12_sliceOf : zq_Sp} (h_X12_sliceOf : zq_M yX12_sliceOf cX12_sliceOf 6 (some .int) 1 d_X12_sliceOf s_X12_sliceOf) (g_X12_sliceOf : d_X12_sliceOf + 1 ≤ d) {d_X12_partsOn : Nat} {s_X12_partsOn : zq_Sp} (h_X12_partsOn : zq_M yX12_partsOn cX12_partsOn 8 none 0 d_X12_partsOn s_X12_partsOn) (g_X12_partsOn : d_X12_partsOn + 1 ≤ d) {J57 : zq_P} (j57 : zq_ok X 8 57 J57) {J88 : zq_P} (j88 : zq_ok X 8 88 J88) {Q : zq_Q} (hq : zq_R X none 0 Q) : zq_ok X 8 8 (xW12_partsOn_8 s_X12_sliceOf s_X12_partsOn J57 J88 Q) := by
  refine zs_iload C dX12_partsOn_8 ?_
  refine zs_aload_n C dX12_partsOn_10 rfl ?_
  refine zs_iload_n C dX12_partsOn_11 rfl ?_
  refine zs_iload_n C dX12_partsOn_12 rfl ?_
  refine zs_aload_n C dX12_partsOn_13 rfl ?_
  refine zs_getI C zp_56 zF12 (j := 3) ⟨by decide, rfl⟩ zw_1099 dX12_partsOn_14 ?_
  refine zs_iconst C dX12_partsOn_17 (by decide) ?_
  refine zs_isub C dX12_partsOn_18 ?_
  refine zs_callV C h_X12_sliceOf g_X12_sliceOf zy_X12_sliceOf zp_56 (show vwCl[12]? = some (RX12, TX12, 67) from rfl) zw_1645 zw_1647 zs9_X12_sliceOf dX12_partsOn_19 ?_
  refine zs_mmin C hd1 zw_1322 zw_393 zw_14 zw_394 dX12_partsOn_22 ?_
  refine zs_istore C dX12_partsOn_25 (by decide) ?_
  refine zs_aload_n C dX12_partsOn_27 rfl ?_
  refine zs_getR C zp_56 zF12 (j := 41) ⟨by decide, rfl⟩ zw_1137 dX12_partsOn_28 ?_
  refine zs_iload_n C dX12_partsOn_31 rfl ?_
  refine zs_aload_n C dX12_partsOn_32 rfl ?_
  refine zs_getI C zp_56 zF12 (j := 3) ⟨by decide, rfl⟩ zw_1099 dX12_partsOn_33 ?_
  refine zs_iconst C dX12_partsOn_36 (by decide) ?_
  refine zs_isub C dX12_partsOn_37 ?_
  refine zs_iastore C zp_83 dX12_partsOn_38 ?_
  refine zs_iload C dX12_partsOn_39 ?_
  refine zs_aload_n C dX12_partsOn_41 rfl ?_
  refine zs_getI C zp_56 zF12 (j := 43) ⟨by decide, rfl⟩ zw_1139 dX12_partsOn_42 ?_
  exact zs_icmp_le C dX12_partsOn_45 (by decide) (kW12_partsOn_84 C hd1 h_X12_sliceOf g_X12_sliceOf h_X12_partsOn g_X12_partsOn j57 j88 hq) (kW12_partsOn_48 C hd1 h_X12_sliceOf g_X12_sliceOf h_X12_partsOn g_X12_partsOn j57 j88 hq)
def xW12_partsOn_0 (s_X12_sliceOf : zq_Sp) (s_X12_partsOn : zq_Sp) (J57 : zq_P) (J88 : zq_P) (Q : zq_Q) (ls : zq_L) (st : List Value) (h : zq_H) : Prop := (zi_iload 3 (zi_iload 4 (zi_push (.int 1) (zi_i2 (fun x y => x - y) (zi_if2 (fun x y => x = y) (xW12_partsOn_8 s_X12_sliceOf s_X12_partsOn J57 J88 Q) (xW12_partsOn_85 s_X12_sliceOf s_X12_partsOn J57 J88 Q)))))) ls st h
theorem kW12_partsOn_0 {X : zq_X} {d : Nat} (C : zq_C X cX12_partsOn 8 RX12 d) (hd1 : 1 ≤ d) {d_X12_sliceOf : Nat} {s_X12_sliceOf : zq_Sp} (h_X12_sliceOf : zq_M yX12_sliceOf cX12_sliceOf 6 (some .int) 1 d_X12_sliceOf s_X12_sliceOf) (g_X12_sliceOf : d_X12_sliceOf + 1 ≤ d) {d_X12_partsOn : Nat} {s_X12_partsOn : zq_Sp} (h_X12_partsOn : zq_M yX12_partsOn cX12_partsOn 8 none 0 d_X12_partsOn s_X12_partsOn) (g_X12_partsOn : d_X12_partsOn + 1 ≤ d) {J57 : zq_P} (j57 : zq_ok X 8 57 J57) {J88 : zq_P} (j88 : zq_ok X 8 88 J88) {Q : zq_Q} (hq : zq_R X none 0 Q) : zq_ok X 8 0 (xW12_partsOn_0 s_X12_sliceOf s_X12_partsOn J57 J88 Q) := by
  refine zs_iload_n C dX12_partsOn_0 rfl ?_
  refine zs_iload C dX12_partsOn_1 ?_
  refine zs_iconst C dX12_partsOn_3 (by decide) ?_
  refine zs_isub C dX12_partsOn_4 ?_
  exact zs_icmp_ne C dX12_partsOn_5 (by decide) (kW12_partsOn_85 C hd1 h_X12_sliceOf g_X12_sliceOf h_X12_partsOn g_X12_partsOn j57 j88 hq) (kW12_partsOn_8 C hd1 h_X12_sliceOf g_X12_sliceOf h_X12_partsOn g_X12_partsOn j57 j88 hq)
theorem mW12_partsOn {d : Nat} {spec : zq_Sp} {σ57 : Type} {σ88 : Type} {d_X12_sliceOf : Nat} {s_X12_sliceOf : zq_Sp} (h_X12_sliceOf : zq_M yX12_sliceOf cX12_sliceOf 6 (some .int) 1 d_X12_sliceOf s_X12_sliceOf) (g_X12_sliceOf : d_X12_sliceOf + 1 ≤ d) {d_X12_partsOn : Nat} {s_X12_partsOn : zq_Sp} (h_X12_partsOn : zq_M yX12_partsOn cX12_partsOn 8 none 0 d_X12_partsOn s_X12_partsOn) (g_X12_partsOn : d_X12_partsOn + 1 ≤ d) (hd1 : 1 ≤ d) (μ57 : σ57 → Nat) (I57 : zq_Q → σ57 → zq_P) (μ88 : σ88 → Nat) (I88 : zq_Q → σ88 → zq_P) (v : ∀ args h Q, spec args h Q → (zq_a args).length ≤ 8 ∧ xW12_partsOn_0 s_X12_sliceOf s_X12_partsOn (fun ls st h => ∃ b, I57 Q b ls st h) (fun ls st h => ∃ b, I88 Q b ls st h) Q (zq_l0 8 args) [] h) (v57 : ∀ Q a ls st h, I57 Q a ls st h → xW12_partsOn_57 s_X12_sliceOf s_X12_partsOn (fun ls st h => ∃ b, μ57 b < μ57 a ∧ I57 Q b ls st h) (fun ls st h => ∃ b, μ88 b < μ57 a ∧ I88 Q b ls st h) Q ls st h) (v88 : ∀ Q a ls st h, I88 Q a ls st h → xW12_partsOn_88 s_X12_sliceOf s_X12_partsOn (fun ls st h => ∃ b, μ57 b < μ88 a ∧ I57 Q b ls st h) (fun ls st h => ∃ b, μ88 b < μ88 a ∧ I88 Q b ls st h) Q ls st h) : zq_M yX12_partsOn cX12_partsOn 8 none 0 d spec := by
  refine zq_met (by decide +kernel) (by decide) (fun X Q args h C hq hs => ⟨(v args h Q hs).1, _, ?_, (v args h Q hs).2⟩)
  have hl := zq_loop2 (X := X) (nL := 8) (pc1 := 57) (pc2 := 88) μ57 μ88 (I57 Q) (I88 Q) (fun J57 J88 => xW12_partsOn_57 s_X12_sliceOf s_X12_partsOn J57 J88 Q) (fun J57 J88 => xW12_partsOn_88 s_X12_sliceOf s_X12_partsOn J57 J88 Q) (fun j57 j88 => kW12_partsOn_57 C hd1 h_X12_sliceOf g_X12_sliceOf h_X12_partsOn g_X12_partsOn j57 j88 hq) (fun j57 j88 => kW12_partsOn_88 C hd1 h_X12_sliceOf g_X12_sliceOf h_X12_partsOn g_X12_partsOn j57 j88 hq) (v57 Q) (v88 Q)
  exact kW12_partsOn_0 C hd1 h_X12_sliceOf g_X12_sliceOf h_X12_partsOn g_X12_partsOn hl.1 hl.2 hq
