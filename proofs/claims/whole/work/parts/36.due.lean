/-! ===== who has a due ===== -/
def sp_wWholeL : zq_Sp := fun args h Q => ∃ j n g wt, args = [.ref 9, .int (nI j)] ∧ j < g ∧ XW n g wt h ∧ Q (some (.int (zsum (wt j) n))) h
theorem ok_wWholeL : zq_M yX10_whole cX10_whole 2 (some .int) 1 1 sp_wWholeL := by
  refine zq_M_w ok_wWhole (fun args h Q hs => ?_)
  obtain ⟨j, n, g, wt, rfl, hj, ⟨⟨w1, w2, w3⟩, w4⟩, h2⟩ := hs
  have e1 : nI j * 17 + nI n = nI (17 * j + n) := by rw [show (17 : Int32) = nI 17 from rfl, pk_mul, nI_add, Nat.mul_comm]
  have e2 : nI j * 17 + 0 = nI (17 * j + 0) := by rw [show (17 : Int32) = nI 17 from rfl, show (0 : Int32) = nI 0 from rfl, pk_mul, nI_add, Nat.mul_comm]
  refine ⟨nI j, rfl, ?_, ?_, ?_⟩
  · rw [w1, e1]
    exact vp_in_nI (by omega) (by decide)
  · rw [e2]
    exact vp_in_nI (by omega) (by decide)
  · unfold zA
    rw [w1, e1, e2, nI_clamp (by omega), nI_clamp (by omega), (w4 j hj).2 n (Nat.le_refl _), (w4 j hj).2 0 (Nat.zero_le _)]
    rw [show zsum (wt j) n - zsum (wt j) 0 = zsum (wt j) n from Int32.sub_zero _]
    exact h2
def zdue (has all de whole : Int32) : Prop := has.toInt64 * all.toInt64 < de.toInt64 * whole.toInt64
def sp_hasDue : zq_Sp := fun args h Q => ∃ j n cr ra cu g ta de wt now k und kept, args = [.ref 0, .int (nI j)] ∧ j < g ∧ XL n cr ra cu h ∧ XG g ta de h ∧ XB n now k und kept h ∧ XW n g wt h ∧ (zdue (zheld now (wt j) (nI j) n) (zsum de g) (de j) (zsum (wt j) n) → Q (some (.int 0)) h) ∧ (¬ zdue (zheld now (wt j) (nI j) n) (zsum de g) (de j) (zsum (wt j) n) → Q (some (.int 1)) h)
theorem ok_hasDue : zq_M yX11_hasDue cX11_hasDue 4 (some .boolean) 1 2 sp_hasDue := by
  refine mX11_hasDue ok_worthHeld (by decide) ok_allDeserts (by decide) ok_wWholeL (by decide) (fun args h Q hs => ?_)
  obtain ⟨j, n, cr, ra, cu, g, ta, de, wt, now, k, und, kept, rfl, hj, hL, hG, hB, hW, h1, h2⟩ := hs
  have hg := hG.1
  have g4 := hG.2.2.2 j hj
  refine ⟨Nat.le_of_ble_eq_true rfl, ?_⟩
  simp only [xX11_hasDue_47, xX11_hasDue_46, xX11_hasDue_42, xX11_hasDue_0, zi_push, zi_iload, zi_lload, zi_aload, zi_istore, zi_astore, zi_lstore, zi_iinc, zi_i2, zi_i1, zi_idv, zi_l2, zi_ldv, zi_lsh, zi_i2l, zi_l2i, zi_lcmp, zi_dup, zi_dup2, zi_pop, zi_if1, zi_if2, zi_getI, zi_getL, zi_getR, zi_putI, zi_putZ, zi_putL, zi_aldI, zi_aldL, zi_astI, zi_astZ, zi_astL, zi_alen, zi_iret, zi_zret, zi_lret, zi_vret, zi_callV, zi_callS, zi_sw, zi_copyI, zi_copyL, zi_m2, zi_m1, zi_sval, zi_scod, zi_fmt, zi_balen, zi_bald, zi_bret, zi_callT, zq_nth, zq_put1, zq_put2, zq_clr, zq_nl, zq_tk, zq_ps, zq_sw, zq_l0, zq_a, zq_a1, List.length_cons, List.length_nil, List.nil_append, List.cons_append, List.append_nil, List.replicate, Nat.reduceAdd, Nat.reduceSub, Nat.reduceLeDiff, true_and, and_true, List.append_eq, List.cons.injEq, Value.int.injEq, Value.long.injEq, Value.ref.injEq, exists_and_left, exists_eq_left', and_assoc, zc_b, zc_0, zc_1, zc_10, zc_01, lg_cmp_ge, lg_cmp_le, lg_cmp_gt, lg_cmp_lt, lg_cmp_eq, zw_le, zw_lt, reduceIte, true_or, or_true, zw_g0, zw_l0, zw_g1, zw_l1, zw_g2, zw_l2, zw_g3, zw_l3, zw_g5, zw_l5, zw_g6, zw_l6, zw_g7, zw_l7, zw_g9, zw_l9, zw_g10, zw_l10, zw_g15, zw_l15, zw_g16, zw_l16, zw_g48, zw_l48, zw_g50, zw_l50, zw_g57, zw_l57, zw_g97, zw_l97, zw_g100, zw_l100, zw_g200, zw_l200, zw_g999, zw_l999, zw_g9999, zw_l9999]
  refine ⟨j, nI j, n, cr, ra, cu, g, wt, now, k, und, kept, rfl, hj, hL, hB, hW, ?_⟩
  dsimp only
  refine ⟨Nat.le_of_ble_eq_true rfl, g, ta, de, rfl, hG, ?_⟩
  dsimp only
  rw [nI_clamp (by omega), g4]
  refine ⟨vp_in_nI (by omega) (by decide), ?_⟩
  refine ⟨Nat.le_of_ble_eq_true rfl, j, n, g, wt, rfl, hj, hW, ?_⟩
  dsimp only
  exact ⟨fun q => ⟨Or.inl rfl, h1 q⟩, fun q => ⟨Or.inr rfl, h2 q⟩⟩
def zdueM (v : Int64) (p all de whole : Int32) : Prop := v * all.toInt64 * 100 < de.toInt64 * whole.toInt64 * p.toInt64
def sp_isDue : zq_Sp := fun args h Q => ∃ j v p n g ta de wt, args = [.ref 56, .int (nI j), .long v, .int p] ∧ j < g ∧ MG g ta de h ∧ MW n g wt h ∧ (zdueM v p (zsum de g) (de j) (zsum (wt j) n) → Q (some (.int 0)) h) ∧ (¬ zdueM v p (zsum de g) (de j) (zsum (wt j) n) → Q (some (.int 1)) h)
theorem isd_len (j : Nat) (v : Int64) (p : Int32) : (zq_a [.ref 56, .int (nI j), .long v, .int p]).length ≤ 5 := Nat.le_of_ble_eq_true rfl
theorem isd_code {Q : zq_Q} {h : zq_H} {j g : Nat} {v : Int64} {p whole : Int32} {ta de : Nat → Int32} (v6 : vp_in (nI j) 6) (c6 : (nI j).toNatClampNeg = j) (hG : MG g ta de h) (g4 : h.1 62 j = de j) (w4 : h.1 75 j = whole) (h1 : zdueM v p (zsum de g) (de j) whole → Q (some (.int 0)) h) (h2 : ¬ zdueM v p (zsum de g) (de j) whole → Q (some (.int 1)) h) : xX12_isDue_0 sp_mAllDeserts Q [some (.ref 56), some (.int (nI j)), some (.long v), none, some (.int p)] [] h := by
  simp only [xX12_isDue_0, zi_push, zi_iload, zi_lload, zi_aload, zi_istore, zi_astore, zi_lstore, zi_iinc, zi_i2, zi_i1, zi_idv, zi_l2, zi_ldv, zi_lsh, zi_i2l, zi_l2i, zi_lcmp, zi_dup, zi_dup2, zi_pop, zi_if1, zi_if2, zi_getI, zi_getL, zi_getR, zi_putI, zi_putZ, zi_putL, zi_aldI, zi_aldL, zi_astI, zi_astZ, zi_astL, zi_alen, zi_iret, zi_zret, zi_lret, zi_vret, zi_callV, zi_callS, zi_sw, zi_copyI, zi_copyL, zi_m2, zi_m1, zi_sval, zi_scod, zi_fmt, zi_balen, zi_bald, zi_bret, zi_callT, zq_nth, zq_put1, zq_put2, zq_clr, zq_nl, zq_tk, zq_ps, zq_sw, zq_l0, zq_a, zq_a1, List.length_cons, List.length_nil, List.nil_append, List.cons_append, List.append_nil, List.replicate, Nat.reduceAdd, Nat.reduceSub, Nat.reduceLeDiff, true_and, and_true, List.append_eq, List.cons.injEq, Value.int.injEq, Value.long.injEq, Value.ref.injEq, exists_and_left, exists_eq_left', and_assoc, zc_b, zc_0, zc_1, zc_10, zc_01, lg_cmp_ge, lg_cmp_le, lg_cmp_gt, lg_cmp_lt, lg_cmp_eq, zw_le, zw_lt, reduceIte, true_or, or_true, zw_g0, zw_l0, zw_g1, zw_l1, zw_g2, zw_l2, zw_g3, zw_l3, zw_g5, zw_l5, zw_g6, zw_l6, zw_g7, zw_l7, zw_g9, zw_l9, zw_g10, zw_l10, zw_g15, zw_l15, zw_g16, zw_l16, zw_g48, zw_l48, zw_g50, zw_l50, zw_g57, zw_l57, zw_g97, zw_l97, zw_g100, zw_l100, zw_g200, zw_l200, zw_g999, zw_l999, zw_g9999, zw_l9999]
  refine ⟨g, ta, de, rfl, hG, ?_⟩
  simp only [xX12_isDue_34, xX12_isDue_38, xX12_isDue_39, c6, g4, w4, v6, zi_push, zi_iload, zi_lload, zi_aload, zi_istore, zi_astore, zi_lstore, zi_iinc, zi_i2, zi_i1, zi_idv, zi_l2, zi_ldv, zi_lsh, zi_i2l, zi_l2i, zi_lcmp, zi_dup, zi_dup2, zi_pop, zi_if1, zi_if2, zi_getI, zi_getL, zi_getR, zi_putI, zi_putZ, zi_putL, zi_aldI, zi_aldL, zi_astI, zi_astZ, zi_astL, zi_alen, zi_iret, zi_zret, zi_lret, zi_vret, zi_callV, zi_callS, zi_sw, zi_copyI, zi_copyL, zi_m2, zi_m1, zi_sval, zi_scod, zi_fmt, zi_balen, zi_bald, zi_bret, zi_callT, zq_nth, zq_put1, zq_put2, zq_clr, zq_nl, zq_tk, zq_ps, zq_sw, zq_l0, zq_a, zq_a1, List.length_cons, List.length_nil, List.nil_append, List.cons_append, List.append_nil, List.replicate, Nat.reduceAdd, Nat.reduceSub, Nat.reduceLeDiff, true_and, and_true, List.append_eq, List.cons.injEq, Value.int.injEq, Value.long.injEq, Value.ref.injEq, exists_and_left, exists_eq_left', and_assoc, zc_b, zc_0, zc_1, zc_10, zc_01, lg_cmp_ge, lg_cmp_le, lg_cmp_gt, lg_cmp_lt, lg_cmp_eq, zw_le, zw_lt, reduceIte, true_or, or_true, zw_g0, zw_l0, zw_g1, zw_l1, zw_g2, zw_l2, zw_g3, zw_l3, zw_g5, zw_l5, zw_g6, zw_l6, zw_g7, zw_l7, zw_g9, zw_l9, zw_g10, zw_l10, zw_g15, zw_l15, zw_g16, zw_l16, zw_g48, zw_l48, zw_g50, zw_l50, zw_g57, zw_l57, zw_g97, zw_l97, zw_g100, zw_l100, zw_g200, zw_l200, zw_g999, zw_l999, zw_g9999, zw_l9999, not_true_eq_false, not_false_eq_true, forall_const, true_and, and_true, false_and, and_false, if_true, if_false, reduceIte, implies_true, and_self, ite_self, true_or, or_true, false_or, or_false, true_implies, false_implies, Classical.not_not, false_imp_iff, not_false_iff]
  exact ⟨h1, h2⟩
theorem ok_isDue : zq_M yX12_isDue cX12_isDue 5 (some .boolean) 1 1 sp_isDue := by
  refine mX12_isDue ok_mAllDeserts (by decide) (fun args h Q hs => ?_)
  obtain ⟨j, v, p, n, g, ta, de, wt, rfl, hj, hG, hW, h1, h2⟩ := hs
  have hg := hG.1
  exact ⟨isd_len j v p, isd_code (vp_in_nI (by omega) (by decide)) (nI_clamp (by omega)) hG (hG.2.2.2 j hj) (hW.2 j hj).2 h1 h2⟩
