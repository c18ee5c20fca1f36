/-! ===== the law's cell, guest, row: a call of the class that may throw, caught ===== -/
def zq_tab (X : zq_X) (hh : List (Nat × Nat × Nat × Nat)) : Prop := match X with
  | (_, _, _, _, _, _, _, _, _, c, _, _, _, _, _, _, _) => c.exceptionTable.toList = tableOf hh
def zq_TT (X : zq_X) : Prop := match X with
  | (_, _, _, _, s, _, _, _, _, _, _, _, _, A, _, _, _) => zq_T A s s.heap
def zq_MH (y : MethodName) (cc : ByteArray) (maxL : Nat) (hh : List (Nat × Nat × Nat × Nat)) (d : Nat) (spec : zq_Sp) : Prop :=
  ∀ (l : Launch), l.stackTraces = false → ∀ (D : va_G) (Y : zq_Y) (ad : Nat → Nat) (args : List Value) (h : zq_H) (Q : zq_Q), spec args h Q → Met l y (Cond.codeWith y cc maxL (some .int) hh :: zq_tb) (zq_rmX d) (zq_PcX D Y ad args h) (zq_Qc 1 D Y ad Q) 1 6 (zq_A ad)
theorem zq_metH {y : MethodName} {cc : ByteArray} {maxL : Nat} {hh : List (Nat × Nat × Nat × Nat)} {d : Nat} {spec : zq_Sp} (hy : plainName y.cls = true)
    (body : ∀ (X : zq_X) (Q : zq_Q) (args : List Value) (h : zq_H), zq_C X cc maxL y.cls d → zq_TX X → zq_TT X → zq_tab X hh → zq_R (zq_up X) (some .int) 1 Q → spec args h Q → (zq_a args).length ≤ maxL ∧ ∃ P, zq_ok X maxL 0 P ∧ P (zq_l0 maxL args) [] h) : zq_MH y cc maxL hh d spec := by
  intro l hfl D Y ad args h Q hsp
  refine zq_ofWH (cc := cc) (maxL := maxL) (ret := some .int) (hh := hh) hy rfl ?_
  intro p e s m av below meth c s₁ B hml hv
  obtain ⟨rfl, ⟨hP, hK, hD⟩, hE, hT⟩ := hv
  have hts := atoms_spec (ws := Cond.codeWith y cc maxL (some .int) hh :: zq_tb) B.pre
  have C : zq_C (p, l, e, (headSpec (Cond.codeWith y cc maxL (some .int) hh :: zq_tb) (zq_rmX d)).room, s, m, (args.map (zq_cv ad)).toArray, below, meth, c, D, Y, ad, zq_A ad, 0, 0, MQ below (zq_Qc 1 D Y ad Q) (args.map (zq_cv ad)).toArray s 1 6 (zq_A ad)) cc maxL y.cls d :=
    ⟨B.exec, B.bytes, hml, findClass_of_methodNamed B.named, fun w hw => hts w (List.mem_cons_of_mem _ hw), hK, Nat.le_refl _, Nat.le_refl _, Nat.zero_le _, Nat.zero_le _, hE⟩
  have hDA := zq_DA hD
  have Rr : zq_R (zq_up (p, l, e, (headSpec (Cond.codeWith y cc maxL (some .int) hh :: zq_tb) (zq_rmX d)).room, s, m, (args.map (zq_cv ad)).toArray, below, meth, c, D, Y, ad, zq_A ad, 0, 0, MQ below (zq_Qc 1 D Y ad Q) (args.map (zq_cv ad)).toArray s 1 6 (zq_A ad))) (some .int) 1 Q := by
    refine ⟨B.notSynchronized, B.returns, zq_A ad, zq_Qc 1 D Y ad Q, rfl, fun _ h => h, ?_⟩
    intro v h' t hk hq hP' hD' hF hW
    have hB : zq_B D Y ad (zq_A ad) h' t := ⟨hP', va_K.moved hW.alike hK, hD'⟩
    match v, hk with
    | some (.int r), _ => exact ⟨⟨r, h', rfl, hq, hB⟩, hF⟩
  obtain ⟨hlen, P, hok, hP0⟩ := body _ Q args h C ⟨hfl, hT, Nat.le_refl _, Nat.le_refl _⟩ hT (vx_table (x := y) B (hts _ List.mem_cons_self)) Rr hsp
  have hle : (lg_sl (args.map (zq_cv ad))).length ≤ maxL := by rw [zq_a_len]; exact hlen
  rw [lg_entry_eq]
  refine hok _ [] h s.heap [] _ hP0 (zq_lr.of (lv_entry (args.map (zq_cv ad)) hle) ?_) hP hDA va_S.rf
  intro i v hi
  have := zq_a_at ad _ args 0 i v hi
  rwa [Nat.zero_add] at this
theorem zq_lr.clr {ad : Nat → Nat} {nL : Nat} {l : zq_L} {a : Array Slot} {i : Nat} {v : Value} (h : lv_has a nL ((i, v) :: (zq_en ad l).filter (fun q => !(q.1 == i) && !(q.1 + 1 == i && q.2.category == 2)))) (hc : ∀ j w, zq_nth l j = some w → j + 1 = i → w.category ≠ 2) : zq_lr ad nL (zq_clr l i) a := by
  refine zq_lr.of h fun j w hw => ?_
  obtain ⟨h1, h2⟩ := zq_nth_clr l i j w hw
  refine List.mem_cons_of_mem _ (List.mem_filter.mpr ⟨zq_en_mem h2, ?_⟩)
  simp only [Bool.and_eq_true, Bool.not_eq_true', beq_eq_false_iff_ne, ne_eq, Bool.and_eq_false_iff, zq_cv_cat]
  refine ⟨h1, ?_⟩
  by_cases q : j + 1 = i
  · exact Or.inr (hc j w h2 q)
  · exact Or.inl q
theorem sp_xCell_m {args : List Value} {h : zq_H} {Q Q' : zq_Q} {QX QX' : zq_H → Prop} (k : sp_xCell args h Q QX) (m : ∀ r h', Q r h' → Q' r h') (mx : ∀ h', QX h' → QX' h') : sp_xCell args h Q' QX' := by
  obtain ⟨V, v, w, e, hX, k1, k2⟩ := k
  exact ⟨V, v, w, e, hX, fun z => mx _ (k1 z), fun j i a b c d => m _ _ (k2 j i a b c d)⟩
theorem sp_xGuest_m {args : List Value} {h : zq_H} {Q Q' : zq_Q} {QX QX' : zq_H → Prop} (k : sp_xGuest args h Q QX) (m : ∀ r h', Q r h' → Q' r h') (mx : ∀ h', QX h' → QX' h') : sp_xGuest args h Q' QX' := by
  obtain ⟨V, v, w, e, hV, hX, k1, k2⟩ := k
  exact ⟨V, v, w, e, hV, hX, fun z => mx _ (k1 z), fun j i a b c d => m _ _ (k2 j i a b c d)⟩
theorem sp_xRow_m {args : List Value} {h : zq_H} {Q Q' : zq_Q} {QX QX' : zq_H → Prop} (k : sp_xRow args h Q QX) (m : ∀ r h', Q r h' → Q' r h') (mx : ∀ h', QX h' → QX' h') : sp_xRow args h Q' QX' := by
  obtain ⟨u, v, e, hR, k1, k2⟩ := k
  exact ⟨u, v, e, hR, fun z => mx _ (k1 z), fun j x a b => m _ _ (k2 j x a b)⟩
section ZTH
variable {X : zq_X} {cc : ByteArray} {nL d pc : Nat} {K : zq_P}
theorem zs_catch (C : zq_C X cc nL RL d) (hT : zq_TT X) {a b t i : Nat} (ht : zq_tab X [(a, b, t, 13)]) (hx : covers ⟨a, b, t, 13⟩ pc = true) (hd : decode cc t = .ok (.astore i, 2)) (hi : i < nL) (k : zq_ok X nL (t + 2) K) : zq_oX X nL pc (fun ls h => (∀ j w, zq_nth ls j = some w → j + 1 = i → w.category ≠ 2) ∧ K (zq_clr ls i) [] h) := by
  obtain ⟨p', l, e, R, s, m, args, below, meth, c, D, Y, ad, A, kc, kn, Z⟩ := X
  obtain ⟨hx0, hb, hml, hown, hts, hK, hR⟩ := C
  intro ls h H locs a9 rest q ce hP hl hw hD hS h1 h2 h3
  exact vx_catch (own := RL) (name := zNSE) hown [] ⟨a, b, t, 13⟩ [] ht (fun z hz => nomatch hz) hx (show (13 : Nat) ≠ 0 by decide) (hts _ zth_l) (va_Nw.use rfl (hT.1 _ List.mem_cons_self)) h1 h2 h3 (lv_astore hx0 hb hd hl hi rfl (fun a' hl' => k _ _ _ _ _ _ hP.2 (zq_lr.clr hl' hP.1) hw hD hS))
theorem zs_catch_n (C : zq_C X cc nL RL d) (hT : zq_TT X) {a b t i : Nat} {f : Fin 4} (ht : zq_tab X [(a, b, t, 13)]) (hx : covers ⟨a, b, t, 13⟩ pc = true) (hd : decode cc t = .ok (.astore_n f, 1)) (hf : (f : Nat) = i) (hi : i < nL) (k : zq_ok X nL (t + 1) K) : zq_oX X nL pc (fun ls h => (∀ j w, zq_nth ls j = some w → j + 1 = i → w.category ≠ 2) ∧ K (zq_clr ls i) [] h) := by
  obtain ⟨p', l, e, R, s, m, args, below, meth, c, D, Y, ad, A, kc, kn, Z⟩ := X
  obtain ⟨hx0, hb, hml, hown, hts, hK, hR⟩ := C
  intro ls h H locs a9 rest q ce hP hl hw hD hS h1 h2 h3
  exact vx_catch (own := RL) (name := zNSE) hown [] ⟨a, b, t, 13⟩ [] ht (fun z hz => nomatch hz) hx (show (13 : Nat) ≠ 0 by decide) (hts _ zth_l) (va_Nw.use rfl (hT.1 _ List.mem_cons_self)) h1 h2 h3 (lv_astore_n hx0 hb hd hf hl hi rfl (fun a' hl' => k _ _ _ _ _ _ hP.2 (zq_lr.clr hl' hP.1) hw hD hS))
/-- a static call of one of these -/
theorem zs_callH (C : zq_C X cc nL RL d) (hTX : zq_TX X) {y : MethodName} {bytes : ByteArray} {maxL n ix d1 : Nat} {hh : List (Nat × Nat × Nat × Nat)} {spec : zq_Sp} (hM : zq_MH y bytes maxL hh d1 spec) (hdd : d1 + 1 ≤ d) (h0 : Cond.codeWith y bytes maxL (some .int) hh ∈ zq_tb) (hi : Cond.initialized y.cls ∈ zq_tb) (hy : y.cls ≠ "java/lang/invoke/MethodHandle" ∧ y.cls ≠ "java/lang/invoke/VarHandle" ∧ (parseMethodDescriptor y.desc).map (fun d => d.parameters.length) = some n) (hm : maxL ≤ 40) (h1 : Cond.methodLink RL ix y ∈ zq_tb) (h2 : Cond.static y ∈ zq_tb)
    (hd : decode cc pc = .ok (.invokestatic ix, 3)) (k : zq_ok (zq_up X) nL (pc + 3) K) : zq_ok X nL pc (zi_callS n spec K) := by
  obtain ⟨p', l, e, R, s, m, args, below, meth, c, D, Y, ad, A, kc, kn, Z⟩ := X
  obtain ⟨hx, hb, hml, hown, hts, hK, hR1, hR2, hR3, hR4, hE⟩ := C
  obtain ⟨hfl, hT, hR5, hR6⟩ := hTX
  intro ls st h H locs a hP hl hw hD hS
  unfold zi_callS at hP
  split at hP
  · next as rest htk =>
    obtain ⟨hlen, hsp⟩ := hP
    obtain ⟨pre, e1, e2, e3⟩ := zq_tk_eq _ _ _ _ _ htk
    rw [List.append_nil] at e3
    have e4 : pre = as.reverse := by rw [e3, List.reverse_reverse]
    subst e2
    have e5 : as.length = n := by rw [e3, List.length_reverse]; exact e1
    have hG : GoodIn zq_tb (va_wsS RL ix y (Cond.codeWith y bytes maxL (some .int) hh :: zq_tb)) := by
      intro w hw9
      have hm9 : w ∈ zq_tb := by
        rcases List.mem_append.mp hw9 with h | h
        · simp only [List.mem_cons, List.not_mem_nil, or_false] at h
          rcases h with rfl | rfl | rfl
          · exact h1
          · exact h2
          · exact hi
        · rcases List.mem_cons.mp h with rfl | h
          · exact h0
          · exact h
      exact ⟨hm9, zq_tb_good w hm9⟩
    have hAA := zq_AA hD
    refine va_calli (vx_runSW (hh := hh) (As := as.map (zq_cv ad)) (rest := rest.map (zq_cv ad)) ⟨hx, hb, hml, hown, hts⟩ (hM l hfl D Y ad _ h _ hsp) (vx_cwSW n hts hG rfl rfl rfl hy ⟨?_, ?_⟩) ⟨zq_blindX, ?_⟩ rfl (by rw [List.length_map]; exact e5) hl.1 ?_ (lv_room ?_) hd ⟨hR5, hR6⟩) hS (fun q _ h => hAA q h) hAA (fun r u t H1 locs1 ht _ hp hB _ _ hS1 => ?_)
    · show d1 + 1 ≤ R.frames
      omega
    · show 8 + (maxL + 11) + 64 * d1 ≤ R.locals
      omega
    · intro U hU hW
      exact ⟨rfl, ⟨by rw [hU]; exact hw, va_K.moved hW.alike hK, hD.weaken (fun _ _ _ _ => trivial)⟩, zq_E_call hE hS (zq_AA hD) hU hW, zq_T_call hT hS (zq_AA hD) hU hW⟩
    · show (pre ++ rest).map (zq_cv ad) = (as.map (zq_cv ad)).reverse ++ rest.map (zq_cv ad)
      rw [e4]
      simp [List.map_reverse]
    · have h5 := zq_cats (rest.map (zq_cv ad))
      rw [List.length_map] at h5
      omega
    · obtain ⟨hP1, hK1, hD1⟩ := hB
      rw [ht] at hP1
      exact k _ _ _ _ _ _ hp hl hP1 (hD1.weaken fun _ q _ hq => hAA _ hq) hS1
  · exact hP.elim
end ZTH
theorem zw_1004 : Cond.methodLink RL 7 yX11_cell ∈ zq_tb := zq_in5 (i := 44) rfl rfl
theorem zw_1005 : Cond.instanceMethod yX11_cell ∈ zq_tb := zq_in5 (i := 45) rfl rfl
theorem zw_1006 : Cond.selects RX11 yX11_cell yX11_cell ∈ zq_tb := zq_in5 (i := 46) rfl rfl
theorem zw_1077 : Cond.methodLink RL 15 yX11_guest ∈ zq_tb := zq_in5 (i := 117) rfl rfl
theorem zw_1078 : Cond.instanceMethod yX11_guest ∈ zq_tb := zq_in5 (i := 118) rfl rfl
theorem zw_1079 : Cond.selects RX11 yX11_guest yX11_guest ∈ zq_tb := zq_in5 (i := 119) rfl rfl
theorem zw_1085 : Cond.methodLink RL 18 yX11_row ∈ zq_tb := zq_in5 (i := 125) rfl rfl
theorem zw_1086 : Cond.instanceMethod yX11_row ∈ zq_tb := zq_in5 (i := 126) rfl rfl
theorem zw_1087 : Cond.selects RX11 yX11_row yX11_row ∈ zq_tb := zq_in5 (i := 127) rfl rfl
theorem zs9_X11_cell : Cond.selects yX11_cell.cls yX11_cell yX11_cell ∈ zq_tb := zw_1006
theorem zs9_X11_guest : Cond.selects yX11_guest.cls yX11_guest yX11_guest ∈ zq_tb := zw_1079
theorem zs9_X11_row : Cond.selects yX11_row.cls yX11_row yX11_row ∈ zq_tb := zw_1087
theorem dL_cell_0 : decode cL_cell 0 = .ok (.aload_n 3, 1) := by decide +kernel
theorem dL_cell_1 : decode cL_cell 1 = .ok (.iconst 0, 1) := by decide +kernel
theorem dL_cell_2 : decode cL_cell 2 = .ok (.aload_n 0, 1) := by decide +kernel
theorem dL_cell_3 : decode cL_cell 3 = .ok (.iload_n 1, 1) := by decide +kernel
theorem dL_cell_4 : decode cL_cell 4 = .ok (.iload_n 2, 1) := by decide +kernel
theorem dL_cell_5 : decode cL_cell 5 = .ok (.invokevirtual 7, 3) := by decide +kernel
theorem dL_cell_8 : decode cL_cell 8 = .ok (.i2l, 1) := by decide +kernel
theorem dL_cell_9 : decode cL_cell 9 = .ok (.lastore, 1) := by decide +kernel
theorem dL_cell_10 : decode cL_cell 10 = .ok (.goto 7, 3) := by decide +kernel
theorem dL_cell_13 : decode cL_cell 13 = .ok (.astore 4, 2) := by decide +kernel
theorem dL_cell_15 : decode cL_cell 15 = .ok (.iconst 1, 1) := by decide +kernel
theorem dL_cell_16 : decode cL_cell 16 = .ok (.ireturn, 1) := by decide +kernel
theorem dL_cell_17 : decode cL_cell 17 = .ok (.iconst 0, 1) := by decide +kernel
theorem dL_cell_18 : decode cL_cell 18 = .ok (.ireturn, 1) := by decide +kernel
def sp_LCell : zq_Sp := fun args h Q => ∃ v w, args = [.ref 0, .int v, .int w, .ref 102] ∧ sp_xCell [.ref 0, .int v, .int w] h (fun r h' => ∃ x, r = some (.int x) ∧ Q (some (.int 0)) (zq_setL h' 102 0 x.toInt64)) (fun h' => Q (some (.int 1)) h')
theorem ok_LCell : zq_MH yL_cell cL_cell 5 [(0, 10, 13, 13)] 20 sp_LCell := by
  refine zq_metH (by decide +kernel) (fun X Q args h C hTX hT hB hq hs => ?_)
  obtain ⟨v, w, rfl, hs⟩ := hs
  have C1 := zq_C_up C hTX
  have hT1 : zq_TT (zq_up X) := hT
  have hB1 : zq_tab (zq_up X) [(0, 10, 13, 13)] := hB
  refine ⟨Nat.le_of_ble_eq_true rfl, zi_aload 3 (zi_push (.int 0) (zi_aload 0 (zi_iload 1 (zi_iload 2 (zi_callVX 2 0 sp_xCell (zi_i2l (zi_astL 102 1 (zi_push (.int 0) (zi_iret Q)))) (fun ls h => (∀ j w, zq_nth ls j = some w → j + 1 = 4 → w.category ≠ 2) ∧ (zi_push (.int 1) (zi_iret Q)) (zq_clr ls 4) [] h)))))), ?_, ?_⟩
  · refine zs_aload_n C dL_cell_0 rfl ?_
    refine zs_iconst C dL_cell_1 (by decide) ?_
    refine zs_aload_n C dL_cell_2 rfl ?_
    refine zs_iload_n C dL_cell_3 rfl ?_
    refine zs_iload_n C dL_cell_4 rfl ?_
    refine zs_callVX C hTX (by decide) ok_xCell (by decide) zy_X11_cell zp_0 (show vwCl[11]? = some (RX11, TX11, 16) from rfl) zw_1004 zw_1005 zs9_X11_cell dL_cell_5 ?_ ?_
    · refine zs_i2l C1 dL_cell_8 ?_
      refine zs_lastore C1 zp_102 dL_cell_9 ?_
      refine zs_goto (tgt := 17) C1 dL_cell_10 (by decide) ?_
      refine zs_iconst C1 dL_cell_17 (by decide) ?_
      exact zs_iret C1 hq dL_cell_18
    · refine zs_catch C1 hT1 hB1 (by decide) dL_cell_13 (by decide) ?_
      refine zs_iconst C1 dL_cell_15 (by decide) ?_
      exact zs_iret C1 hq dL_cell_16
  · simp only [zi_callVX, zi_push, zi_iload, zi_lload, zi_aload, zi_istore, zi_astore, zi_lstore, zi_iinc, zi_i2, zi_i1, zi_idv, zi_l2, zi_ldv, zi_lsh, zi_i2l, zi_l2i, zi_lcmp, zi_dup, zi_dup2, zi_pop, zi_if1, zi_if2, zi_getI, zi_getL, zi_getR, zi_putI, zi_putZ, zi_putL, zi_aldI, zi_aldL, zi_astI, zi_astZ, zi_astL, zi_alen, zi_iret, zi_zret, zi_lret, zi_vret, zi_callV, zi_callS, zi_sw, zi_copyI, zi_copyL, zi_m2, zi_m1, zi_sval, zi_scod, zi_fmt, zi_balen, zi_bald, zi_bret, zi_callT, zq_nth, zq_put1, zq_put2, zq_clr, zq_nl, zq_tk, zq_ps, zq_sw, zq_l0, zq_a, zq_a1, List.length_cons, List.length_nil, List.nil_append, List.cons_append, List.append_nil, List.replicate, Nat.reduceAdd, Nat.reduceSub, Nat.reduceLeDiff, true_and, and_true, List.append_eq, List.cons.injEq, Value.int.injEq, Value.long.injEq, Value.ref.injEq, exists_and_left, exists_eq_left', and_assoc, zc_b, zc_0, zc_1, zc_10, zc_01, lg_cmp_ge, lg_cmp_le, lg_cmp_gt, lg_cmp_lt, lg_cmp_eq, zw_le, zw_lt, reduceIte, true_or, or_true, zw_g0, zw_l0, zw_g1, zw_l1, zw_g2, zw_l2, zw_g3, zw_l3, zw_g5, zw_l5, zw_g6, zw_l6, zw_g7, zw_l7, zw_g9, zw_l9, zw_g10, zw_l10, zw_g15, zw_l15, zw_g16, zw_l16, zw_g48, zw_l48, zw_g50, zw_l50, zw_g57, zw_l57, zw_g97, zw_l97, zw_g100, zw_l100, zw_g200, zw_l200, zw_g999, zw_l999, zw_g9999, zw_l9999]
    refine sp_xCell_m hs (fun r h' ⟨x, er, hq9⟩ => ?_) (fun h' hq9 => ⟨fun j w hj e => ?_, ?_⟩)
    · subst er
      simp only [zi_push, zi_iload, zi_lload, zi_aload, zi_istore, zi_astore, zi_lstore, zi_iinc, zi_i2, zi_i1, zi_idv, zi_l2, zi_ldv, zi_lsh, zi_i2l, zi_l2i, zi_lcmp, zi_dup, zi_dup2, zi_pop, zi_if1, zi_if2, zi_getI, zi_getL, zi_getR, zi_putI, zi_putZ, zi_putL, zi_aldI, zi_aldL, zi_astI, zi_astZ, zi_astL, zi_alen, zi_iret, zi_zret, zi_lret, zi_vret, zi_callV, zi_callS, zi_sw, zi_copyI, zi_copyL, zi_m2, zi_m1, zi_sval, zi_scod, zi_fmt, zi_balen, zi_bald, zi_bret, zi_callT, zq_nth, zq_put1, zq_put2, zq_clr, zq_nl, zq_tk, zq_ps, zq_sw, zq_l0, zq_a, zq_a1, List.length_cons, List.length_nil, List.nil_append, List.cons_append, List.append_nil, List.replicate, Nat.reduceAdd, Nat.reduceSub, Nat.reduceLeDiff, true_and, and_true, List.append_eq, List.cons.injEq, Value.int.injEq, Value.long.injEq, Value.ref.injEq, exists_and_left, exists_eq_left', and_assoc, zc_b, zc_0, zc_1, zc_10, zc_01, lg_cmp_ge, lg_cmp_le, lg_cmp_gt, lg_cmp_lt, lg_cmp_eq, zw_le, zw_lt, reduceIte, true_or, or_true, zw_g0, zw_l0, zw_g1, zw_l1, zw_g2, zw_l2, zw_g3, zw_l3, zw_g5, zw_l5, zw_g6, zw_l6, zw_g7, zw_l7, zw_g9, zw_l9, zw_g10, zw_l10, zw_g15, zw_l15, zw_g16, zw_l16, zw_g48, zw_l48, zw_g50, zw_l50, zw_g57, zw_l57, zw_g97, zw_l97, zw_g100, zw_l100, zw_g200, zw_l200, zw_g999, zw_l999, zw_g9999, zw_l9999]
      exact ⟨vp_in_nI (n := 0) (N := 1) (by decide) (by decide), hq9⟩
    · obtain rfl : j = 3 := by omega
      cases hj
      decide
    · exact hq9
theorem dL_guest_0 : decode cL_guest 0 = .ok (.aload_n 3, 1) := by decide +kernel
theorem dL_guest_1 : decode cL_guest 1 = .ok (.iconst 0, 1) := by decide +kernel
theorem dL_guest_2 : decode cL_guest 2 = .ok (.aload_n 0, 1) := by decide +kernel
theorem dL_guest_3 : decode cL_guest 3 = .ok (.iload_n 1, 1) := by decide +kernel
theorem dL_guest_4 : decode cL_guest 4 = .ok (.iload_n 2, 1) := by decide +kernel
theorem dL_guest_5 : decode cL_guest 5 = .ok (.invokevirtual 15, 3) := by decide +kernel
theorem dL_guest_8 : decode cL_guest 8 = .ok (.i2l, 1) := by decide +kernel
theorem dL_guest_9 : decode cL_guest 9 = .ok (.lastore, 1) := by decide +kernel
theorem dL_guest_10 : decode cL_guest 10 = .ok (.goto 7, 3) := by decide +kernel
theorem dL_guest_13 : decode cL_guest 13 = .ok (.astore 4, 2) := by decide +kernel
theorem dL_guest_15 : decode cL_guest 15 = .ok (.iconst 1, 1) := by decide +kernel
theorem dL_guest_16 : decode cL_guest 16 = .ok (.ireturn, 1) := by decide +kernel
theorem dL_guest_17 : decode cL_guest 17 = .ok (.iconst 0, 1) := by decide +kernel
theorem dL_guest_18 : decode cL_guest 18 = .ok (.ireturn, 1) := by decide +kernel
def sp_LGuest : zq_Sp := fun args h Q => ∃ v w, args = [.ref 0, .int v, .int w, .ref 102] ∧ sp_xGuest [.ref 0, .int v, .int w] h (fun r h' => ∃ x, r = some (.int x) ∧ Q (some (.int 0)) (zq_setL h' 102 0 x.toInt64)) (fun h' => Q (some (.int 1)) h')
theorem ok_LGuest : zq_MH yL_guest cL_guest 5 [(0, 10, 13, 13)] 20 sp_LGuest := by
  refine zq_metH (by decide +kernel) (fun X Q args h C hTX hT hB hq hs => ?_)
  obtain ⟨v, w, rfl, hs⟩ := hs
  have C1 := zq_C_up C hTX
  have hT1 : zq_TT (zq_up X) := hT
  have hB1 : zq_tab (zq_up X) [(0, 10, 13, 13)] := hB
  refine ⟨Nat.le_of_ble_eq_true rfl, zi_aload 3 (zi_push (.int 0) (zi_aload 0 (zi_iload 1 (zi_iload 2 (zi_callVX 2 0 sp_xGuest (zi_i2l (zi_astL 102 1 (zi_push (.int 0) (zi_iret Q)))) (fun ls h => (∀ j w, zq_nth ls j = some w → j + 1 = 4 → w.category ≠ 2) ∧ (zi_push (.int 1) (zi_iret Q)) (zq_clr ls 4) [] h)))))), ?_, ?_⟩
  · refine zs_aload_n C dL_guest_0 rfl ?_
    refine zs_iconst C dL_guest_1 (by decide) ?_
    refine zs_aload_n C dL_guest_2 rfl ?_
    refine zs_iload_n C dL_guest_3 rfl ?_
    refine zs_iload_n C dL_guest_4 rfl ?_
    refine zs_callVX C hTX (by decide) ok_xGuest (by decide) zy_X11_guest zp_0 (show vwCl[11]? = some (RX11, TX11, 16) from rfl) zw_1077 zw_1078 zs9_X11_guest dL_guest_5 ?_ ?_
    · refine zs_i2l C1 dL_guest_8 ?_
      refine zs_lastore C1 zp_102 dL_guest_9 ?_
      refine zs_goto (tgt := 17) C1 dL_guest_10 (by decide) ?_
      refine zs_iconst C1 dL_guest_17 (by decide) ?_
      exact zs_iret C1 hq dL_guest_18
    · refine zs_catch C1 hT1 hB1 (by decide) dL_guest_13 (by decide) ?_
      refine zs_iconst C1 dL_guest_15 (by decide) ?_
      exact zs_iret C1 hq dL_guest_16
  · simp only [zi_callVX, zi_push, zi_iload, zi_lload, zi_aload, zi_istore, zi_astore, zi_lstore, zi_iinc, zi_i2, zi_i1, zi_idv, zi_l2, zi_ldv, zi_lsh, zi_i2l, zi_l2i, zi_lcmp, zi_dup, zi_dup2, zi_pop, zi_if1, zi_if2, zi_getI, zi_getL, zi_getR, zi_putI, zi_putZ, zi_putL, zi_aldI, zi_aldL, zi_astI, zi_astZ, zi_astL, zi_alen, zi_iret, zi_zret, zi_lret, zi_vret, zi_callV, zi_callS, zi_sw, zi_copyI, zi_copyL, zi_m2, zi_m1, zi_sval, zi_scod, zi_fmt, zi_balen, zi_bald, zi_bret, zi_callT, zq_nth, zq_put1, zq_put2, zq_clr, zq_nl, zq_tk, zq_ps, zq_sw, zq_l0, zq_a, zq_a1, List.length_cons, List.length_nil, List.nil_append, List.cons_append, List.append_nil, List.replicate, Nat.reduceAdd, Nat.reduceSub, Nat.reduceLeDiff, true_and, and_true, List.append_eq, List.cons.injEq, Value.int.injEq, Value.long.injEq, Value.ref.injEq, exists_and_left, exists_eq_left', and_assoc, zc_b, zc_0, zc_1, zc_10, zc_01, lg_cmp_ge, lg_cmp_le, lg_cmp_gt, lg_cmp_lt, lg_cmp_eq, zw_le, zw_lt, reduceIte, true_or, or_true, zw_g0, zw_l0, zw_g1, zw_l1, zw_g2, zw_l2, zw_g3, zw_l3, zw_g5, zw_l5, zw_g6, zw_l6, zw_g7, zw_l7, zw_g9, zw_l9, zw_g10, zw_l10, zw_g15, zw_l15, zw_g16, zw_l16, zw_g48, zw_l48, zw_g50, zw_l50, zw_g57, zw_l57, zw_g97, zw_l97, zw_g100, zw_l100, zw_g200, zw_l200, zw_g999, zw_l999, zw_g9999, zw_l9999]
    refine sp_xGuest_m hs (fun r h' ⟨x, er, hq9⟩ => ?_) (fun h' hq9 => ⟨fun j w hj e => ?_, ?_⟩)
    · subst er
      simp only [zi_push, zi_iload, zi_lload, zi_aload, zi_istore, zi_astore, zi_lstore, zi_iinc, zi_i2, zi_i1, zi_idv, zi_l2, zi_ldv, zi_lsh, zi_i2l, zi_l2i, zi_lcmp, zi_dup, zi_dup2, zi_pop, zi_if1, zi_if2, zi_getI, zi_getL, zi_getR, zi_putI, zi_putZ, zi_putL, zi_aldI, zi_aldL, zi_astI, zi_astZ, zi_astL, zi_alen, zi_iret, zi_zret, zi_lret, zi_vret, zi_callV, zi_callS, zi_sw, zi_copyI, zi_copyL, zi_m2, zi_m1, zi_sval, zi_scod, zi_fmt, zi_balen, zi_bald, zi_bret, zi_callT, zq_nth, zq_put1, zq_put2, zq_clr, zq_nl, zq_tk, zq_ps, zq_sw, zq_l0, zq_a, zq_a1, List.length_cons, List.length_nil, List.nil_append, List.cons_append, List.append_nil, List.replicate, Nat.reduceAdd, Nat.reduceSub, Nat.reduceLeDiff, true_and, and_true, List.append_eq, List.cons.injEq, Value.int.injEq, Value.long.injEq, Value.ref.injEq, exists_and_left, exists_eq_left', and_assoc, zc_b, zc_0, zc_1, zc_10, zc_01, lg_cmp_ge, lg_cmp_le, lg_cmp_gt, lg_cmp_lt, lg_cmp_eq, zw_le, zw_lt, reduceIte, true_or, or_true, zw_g0, zw_l0, zw_g1, zw_l1, zw_g2, zw_l2, zw_g3, zw_l3, zw_g5, zw_l5, zw_g6, zw_l6, zw_g7, zw_l7, zw_g9, zw_l9, zw_g10, zw_l10, zw_g15, zw_l15, zw_g16, zw_l16, zw_g48, zw_l48, zw_g50, zw_l50, zw_g57, zw_l57, zw_g97, zw_l97, zw_g100, zw_l100, zw_g200, zw_l200, zw_g999, zw_l999, zw_g9999, zw_l9999]
      exact ⟨vp_in_nI (n := 0) (N := 1) (by decide) (by decide), hq9⟩
    · obtain rfl : j = 3 := by omega
      cases hj
      decide
    · exact hq9
theorem dL_row_0 : decode cL_row 0 = .ok (.aload_n 2, 1) := by decide +kernel
theorem dL_row_1 : decode cL_row 1 = .ok (.iconst 0, 1) := by decide +kernel
theorem dL_row_2 : decode cL_row 2 = .ok (.aload_n 0, 1) := by decide +kernel
theorem dL_row_3 : decode cL_row 3 = .ok (.iload_n 1, 1) := by decide +kernel
theorem dL_row_4 : decode cL_row 4 = .ok (.invokevirtual 18, 3) := by decide +kernel
theorem dL_row_7 : decode cL_row 7 = .ok (.lastore, 1) := by decide +kernel
theorem dL_row_8 : decode cL_row 8 = .ok (.goto 6, 3) := by decide +kernel
theorem dL_row_11 : decode cL_row 11 = .ok (.astore_n 3, 1) := by decide +kernel
theorem dL_row_12 : decode cL_row 12 = .ok (.iconst 1, 1) := by decide +kernel
theorem dL_row_13 : decode cL_row 13 = .ok (.ireturn, 1) := by decide +kernel
theorem dL_row_14 : decode cL_row 14 = .ok (.iconst 0, 1) := by decide +kernel
theorem dL_row_15 : decode cL_row 15 = .ok (.ireturn, 1) := by decide +kernel
def sp_LRow : zq_Sp := fun args h Q => ∃ v, args = [.ref 0, .int v, .ref 102] ∧ sp_xRow [.ref 0, .int v] h (fun r h' => ∃ x, r = some (.long x) ∧ Q (some (.int 0)) (zq_setL h' 102 0 x)) (fun h' => Q (some (.int 1)) h')
theorem ok_LRow : zq_MH yL_row cL_row 4 [(0, 8, 11, 13)] 20 sp_LRow := by
  refine zq_metH (by decide +kernel) (fun X Q args h C hTX hT hB hq hs => ?_)
  obtain ⟨v, rfl, hs⟩ := hs
  have C1 := zq_C_up C hTX
  have hT1 : zq_TT (zq_up X) := hT
  have hB1 : zq_tab (zq_up X) [(0, 8, 11, 13)] := hB
  refine ⟨Nat.le_of_ble_eq_true rfl, zi_aload 2 (zi_push (.int 0) (zi_aload 0 (zi_iload 1 (zi_callVX 1 0 sp_xRow (zi_astL 102 1 (zi_push (.int 0) (zi_iret Q))) (fun ls h => (∀ j w, zq_nth ls j = some w → j + 1 = 3 → w.category ≠ 2) ∧ (zi_push (.int 1) (zi_iret Q)) (zq_clr ls 3) [] h))))), ?_, ?_⟩
  · refine zs_aload_n C dL_row_0 rfl ?_
    refine zs_iconst C dL_row_1 (by decide) ?_
    refine zs_aload_n C dL_row_2 rfl ?_
    refine zs_iload_n C dL_row_3 rfl ?_
    refine zs_callVX C hTX (by decide) ok_xRow (by decide) zy_X11_row zp_0 (show vwCl[11]? = some (RX11, TX11, 16) from rfl) zw_1085 zw_1086 zs9_X11_row dL_row_4 ?_ ?_
    · refine zs_lastore C1 zp_102 dL_row_7 ?_
      refine zs_goto (tgt := 14) C1 dL_row_8 (by decide) ?_
      refine zs_iconst C1 dL_row_14 (by decide) ?_
      exact zs_iret C1 hq dL_row_15
    · refine zs_catch_n C1 hT1 hB1 (by decide) dL_row_11 rfl (by decide) ?_
      refine zs_iconst C1 dL_row_12 (by decide) ?_
      exact zs_iret C1 hq dL_row_13
  · simp only [zi_callVX, zi_push, zi_iload, zi_lload, zi_aload, zi_istore, zi_astore, zi_lstore, zi_iinc, zi_i2, zi_i1, zi_idv, zi_l2, zi_ldv, zi_lsh, zi_i2l, zi_l2i, zi_lcmp, zi_dup, zi_dup2, zi_pop, zi_if1, zi_if2, zi_getI, zi_getL, zi_getR, zi_putI, zi_putZ, zi_putL, zi_aldI, zi_aldL, zi_astI, zi_astZ, zi_astL, zi_alen, zi_iret, zi_zret, zi_lret, zi_vret, zi_callV, zi_callS, zi_sw, zi_copyI, zi_copyL, zi_m2, zi_m1, zi_sval, zi_scod, zi_fmt, zi_balen, zi_bald, zi_bret, zi_callT, zq_nth, zq_put1, zq_put2, zq_clr, zq_nl, zq_tk, zq_ps, zq_sw, zq_l0, zq_a, zq_a1, List.length_cons, List.length_nil, List.nil_append, List.cons_append, List.append_nil, List.replicate, Nat.reduceAdd, Nat.reduceSub, Nat.reduceLeDiff, true_and, and_true, List.append_eq, List.cons.injEq, Value.int.injEq, Value.long.injEq, Value.ref.injEq, exists_and_left, exists_eq_left', and_assoc, zc_b, zc_0, zc_1, zc_10, zc_01, lg_cmp_ge, lg_cmp_le, lg_cmp_gt, lg_cmp_lt, lg_cmp_eq, zw_le, zw_lt, reduceIte, true_or, or_true, zw_g0, zw_l0, zw_g1, zw_l1, zw_g2, zw_l2, zw_g3, zw_l3, zw_g5, zw_l5, zw_g6, zw_l6, zw_g7, zw_l7, zw_g9, zw_l9, zw_g10, zw_l10, zw_g15, zw_l15, zw_g16, zw_l16, zw_g48, zw_l48, zw_g50, zw_l50, zw_g57, zw_l57, zw_g97, zw_l97, zw_g100, zw_l100, zw_g200, zw_l200, zw_g999, zw_l999, zw_g9999, zw_l9999]
    refine sp_xRow_m hs (fun r h' ⟨x, er, hq9⟩ => ?_) (fun h' hq9 => ⟨fun j w hj e => ?_, ?_⟩)
    · subst er
      simp only [zi_push, zi_iload, zi_lload, zi_aload, zi_istore, zi_astore, zi_lstore, zi_iinc, zi_i2, zi_i1, zi_idv, zi_l2, zi_ldv, zi_lsh, zi_i2l, zi_l2i, zi_lcmp, zi_dup, zi_dup2, zi_pop, zi_if1, zi_if2, zi_getI, zi_getL, zi_getR, zi_putI, zi_putZ, zi_putL, zi_aldI, zi_aldL, zi_astI, zi_astZ, zi_astL, zi_alen, zi_iret, zi_zret, zi_lret, zi_vret, zi_callV, zi_callS, zi_sw, zi_copyI, zi_copyL, zi_m2, zi_m1, zi_sval, zi_scod, zi_fmt, zi_balen, zi_bald, zi_bret, zi_callT, zq_nth, zq_put1, zq_put2, zq_clr, zq_nl, zq_tk, zq_ps, zq_sw, zq_l0, zq_a, zq_a1, List.length_cons, List.length_nil, List.nil_append, List.cons_append, List.append_nil, List.replicate, Nat.reduceAdd, Nat.reduceSub, Nat.reduceLeDiff, true_and, and_true, List.append_eq, List.cons.injEq, Value.int.injEq, Value.long.injEq, Value.ref.injEq, exists_and_left, exists_eq_left', and_assoc, zc_b, zc_0, zc_1, zc_10, zc_01, lg_cmp_ge, lg_cmp_le, lg_cmp_gt, lg_cmp_lt, lg_cmp_eq, zw_le, zw_lt, reduceIte, true_or, or_true, zw_g0, zw_l0, zw_g1, zw_l1, zw_g2, zw_l2, zw_g3, zw_l3, zw_g5, zw_l5, zw_g6, zw_l6, zw_g7, zw_l7, zw_g9, zw_l9, zw_g10, zw_l10, zw_g15, zw_l15, zw_g16, zw_l16, zw_g48, zw_l48, zw_g50, zw_l50, zw_g57, zw_l57, zw_g97, zw_l97, zw_g100, zw_l100, zw_g200, zw_l200, zw_g999, zw_l999, zw_g9999, zw_l9999]
      exact ⟨vp_in_nI (n := 0) (N := 1) (by decide) (by decide), hq9⟩
    · obtain rfl : j = 2 := by omega
      cases hj
      decide
    · exact hq9
