/-! ===== supper: acts done; acts read by the class ===== -/
def zDo (V : zV) (a : Nat × Nat × Nat × Nat) (K : Int32 → (Nat → Int32) → Prop) : Prop := if a.1 = 0 then zG V (nI a.2.1) (nI a.2.2.1) (nI a.2.2.2) K else if a.1 = 1 then zTb V (nI a.2.2.1) (nI a.2.2.2) K else zMo V (nI a.2.2.1) K
theorem zDo_mono {V : zV} {a : Nat × Nat × Nat × Nat} {K K' : Int32 → (Nat → Int32) → Prop} (hn : vn V ≤ 16) (hV : ZV V) (k : zDo V a K) (m : ∀ r now, (r < 0 → now = vnow V) → K r now → K' r now) : zDo V a K' := by
  unfold zDo at *
  split
  · rename_i q
    rw [if_pos q] at k
    exact zG_mono hn k m
  · rename_i q
    rw [if_neg q] at k
    split
    · rename_i q2
      rw [if_pos q2] at k
      exact zTb_mono hn k m
    · rename_i q2
      rw [if_neg q2] at k
      exact zMo_mono hV k m
theorem z4a (i : Nat) : nI i * 4 = nI (4 * i) := by
  rw [show (4 : Int32) = nI 4 from rfl, pk_mul, Nat.mul_comm]
def sp_doAct : zq_Sp := fun args h Q => ∃ V i a, args = [.ref 0, .int (nI i)] ∧ i < 20 ∧ a.1 < 3 ∧ zXa i a h ∧ XC V h ∧ zDo V a (zKx V h Q)
theorem ok_doAct : zq_M yX11_doAct cX11_doAct 3 (some .int) 1 4 sp_doAct := by
  refine mX11_doAct ok_feedMouse (by decide) ok_giveSlice (by decide) ok_takeBack (by decide) (fun args h Q hs => ?_)
  obtain ⟨V, i, ⟨k, g, x, y⟩, rfl, hi, hk, ⟨a0, a1, a2, a3⟩, hX, kk⟩ := hs
  refine ⟨Nat.le_of_ble_eq_true rfl, ?_⟩
  dsimp only at hk a0 a1 a2 a3
  obtain ⟨z1, z2, z3⟩ := zksg_c k hk
  have c1 : (zksg k = 103) = (k = 0) := propext z1
  have c2 : (zksg k = 98) = (k = 1) := propext z2
  have e1 : nI (4 * i) + 1 = nI (4 * i + 1) := z4l i 1
  have e2 : nI (4 * i) + 2 = nI (4 * i + 2) := z4l i 2
  have e3 : nI (4 * i) + 3 = nI (4 * i + 3) := z4l i 3
  have v0 : ∀ j, j < 80 → vp_in (nI j) 80 := fun j hj => vp_in_nI hj (by decide)
  simp only [xX11_doAct_0, z4a, nI_clamp (show 4 * i < 2 ^ 31 by omega), a0, zq_sw, c1, c2, zi_push, zi_iload, zi_lload, zi_aload, zi_istore, zi_astore, zi_lstore, zi_iinc, zi_i2, zi_i1, zi_idv, zi_l2, zi_ldv, zi_lsh, zi_i2l, zi_l2i, zi_lcmp, zi_dup, zi_dup2, zi_pop, zi_if1, zi_if2, zi_getI, zi_getL, zi_getR, zi_putI, zi_putZ, zi_putL, zi_aldI, zi_aldL, zi_astI, zi_astZ, zi_astL, zi_alen, zi_iret, zi_zret, zi_lret, zi_vret, zi_callV, zi_callS, zi_sw, zi_copyI, zi_copyL, zi_m2, zi_m1, zi_sval, zi_scod, zi_fmt, zi_balen, zi_bald, zi_bret, zi_callT, zq_nth, zq_put1, zq_put2, zq_clr, zq_nl, zq_tk, zq_ps, zq_sw, zq_l0, zq_a, zq_a1, List.length_cons, List.length_nil, List.nil_append, List.cons_append, List.append_nil, List.replicate, Nat.reduceAdd, Nat.reduceSub, Nat.reduceLeDiff, true_and, and_true, List.append_eq, List.cons.injEq, Value.int.injEq, Value.long.injEq, Value.ref.injEq, exists_and_left, exists_eq_left', and_assoc, zc_b, zc_0, zc_1, zc_10, zc_01, lg_cmp_ge, lg_cmp_le, lg_cmp_gt, lg_cmp_lt, lg_cmp_eq, zw_le, zw_lt, reduceIte, true_or, or_true, zw_g0, zw_l0, zw_g1, zw_l1, zw_g2, zw_l2, zw_g3, zw_l3, zw_g5, zw_l5, zw_g6, zw_l6, zw_g7, zw_l7, zw_g9, zw_l9, zw_g10, zw_l10, zw_g15, zw_l15, zw_g16, zw_l16, zw_g48, zw_l48, zw_g50, zw_l50, zw_g57, zw_l57, zw_g97, zw_l97, zw_g100, zw_l100, zw_g200, zw_l200, zw_g999, zw_l999, zw_g9999, zw_l9999]
  refine ⟨v0 _ (by omega), fun q => ?_, fun q => ⟨fun q2 => ?_, fun q2 => ?_⟩⟩
  · simp only [xX11_doAct_65, e2, e3, nI_clamp (show 4 * i + 2 < 2 ^ 31 by omega), nI_clamp (show 4 * i + 3 < 2 ^ 31 by omega), a2, a3, zi_push, zi_iload, zi_lload, zi_aload, zi_istore, zi_astore, zi_lstore, zi_iinc, zi_i2, zi_i1, zi_idv, zi_l2, zi_ldv, zi_lsh, zi_i2l, zi_l2i, zi_lcmp, zi_dup, zi_dup2, zi_pop, zi_if1, zi_if2, zi_getI, zi_getL, zi_getR, zi_putI, zi_putZ, zi_putL, zi_aldI, zi_aldL, zi_astI, zi_astZ, zi_astL, zi_alen, zi_iret, zi_zret, zi_lret, zi_vret, zi_callV, zi_callS, zi_sw, zi_copyI, zi_copyL, zi_m2, zi_m1, zi_sval, zi_scod, zi_fmt, zi_balen, zi_bald, zi_bret, zi_callT, zq_nth, zq_put1, zq_put2, zq_clr, zq_nl, zq_tk, zq_ps, zq_sw, zq_l0, zq_a, zq_a1, List.length_cons, List.length_nil, List.nil_append, List.cons_append, List.append_nil, List.replicate, Nat.reduceAdd, Nat.reduceSub, Nat.reduceLeDiff, true_and, and_true, List.append_eq, List.cons.injEq, Value.int.injEq, Value.long.injEq, Value.ref.injEq, exists_and_left, exists_eq_left', and_assoc, zc_b, zc_0, zc_1, zc_10, zc_01, lg_cmp_ge, lg_cmp_le, lg_cmp_gt, lg_cmp_lt, lg_cmp_eq, zw_le, zw_lt, reduceIte, true_or, or_true, zw_g0, zw_l0, zw_g1, zw_l1, zw_g2, zw_l2, zw_g3, zw_l3, zw_g5, zw_l5, zw_g6, zw_l6, zw_g7, zw_l7, zw_g9, zw_l9, zw_g10, zw_l10, zw_g15, zw_l15, zw_g16, zw_l16, zw_g48, zw_l48, zw_g50, zw_l50, zw_g57, zw_l57, zw_g97, zw_l97, zw_g100, zw_l100, zw_g200, zw_l200, zw_g999, zw_l999, zw_g9999, zw_l9999]
    refine ⟨v0 _ (by omega), v0 _ (by omega), V, nI x, nI y, rfl, hX, ?_⟩
    unfold zDo at kk
    rw [if_neg (by dsimp only; omega), if_pos q] at kk
    exact kk
  · simp only [xX11_doAct_36, e1, e2, e3, nI_clamp (show 4 * i + 1 < 2 ^ 31 by omega), nI_clamp (show 4 * i + 2 < 2 ^ 31 by omega), nI_clamp (show 4 * i + 3 < 2 ^ 31 by omega), a1, a2, a3, zi_push, zi_iload, zi_lload, zi_aload, zi_istore, zi_astore, zi_lstore, zi_iinc, zi_i2, zi_i1, zi_idv, zi_l2, zi_ldv, zi_lsh, zi_i2l, zi_l2i, zi_lcmp, zi_dup, zi_dup2, zi_pop, zi_if1, zi_if2, zi_getI, zi_getL, zi_getR, zi_putI, zi_putZ, zi_putL, zi_aldI, zi_aldL, zi_astI, zi_astZ, zi_astL, zi_alen, zi_iret, zi_zret, zi_lret, zi_vret, zi_callV, zi_callS, zi_sw, zi_copyI, zi_copyL, zi_m2, zi_m1, zi_sval, zi_scod, zi_fmt, zi_balen, zi_bald, zi_bret, zi_callT, zq_nth, zq_put1, zq_put2, zq_clr, zq_nl, zq_tk, zq_ps, zq_sw, zq_l0, zq_a, zq_a1, List.length_cons, List.length_nil, List.nil_append, List.cons_append, List.append_nil, List.replicate, Nat.reduceAdd, Nat.reduceSub, Nat.reduceLeDiff, true_and, and_true, List.append_eq, List.cons.injEq, Value.int.injEq, Value.long.injEq, Value.ref.injEq, exists_and_left, exists_eq_left', and_assoc, zc_b, zc_0, zc_1, zc_10, zc_01, lg_cmp_ge, lg_cmp_le, lg_cmp_gt, lg_cmp_lt, lg_cmp_eq, zw_le, zw_lt, reduceIte, true_or, or_true, zw_g0, zw_l0, zw_g1, zw_l1, zw_g2, zw_l2, zw_g3, zw_l3, zw_g5, zw_l5, zw_g6, zw_l6, zw_g7, zw_l7, zw_g9, zw_l9, zw_g10, zw_l10, zw_g15, zw_l15, zw_g16, zw_l16, zw_g48, zw_l48, zw_g50, zw_l50, zw_g57, zw_l57, zw_g97, zw_l97, zw_g100, zw_l100, zw_g200, zw_l200, zw_g999, zw_l999, zw_g9999, zw_l9999]
    refine ⟨v0 _ (by omega), v0 _ (by omega), v0 _ (by omega), V, nI g, nI x, nI y, rfl, hX, ?_⟩
    unfold zDo at kk
    rw [if_pos q2] at kk
    exact kk
  · simp only [xX11_doAct_86, e2, nI_clamp (show 4 * i + 2 < 2 ^ 31 by omega), a2, zi_push, zi_iload, zi_lload, zi_aload, zi_istore, zi_astore, zi_lstore, zi_iinc, zi_i2, zi_i1, zi_idv, zi_l2, zi_ldv, zi_lsh, zi_i2l, zi_l2i, zi_lcmp, zi_dup, zi_dup2, zi_pop, zi_if1, zi_if2, zi_getI, zi_getL, zi_getR, zi_putI, zi_putZ, zi_putL, zi_aldI, zi_aldL, zi_astI, zi_astZ, zi_astL, zi_alen, zi_iret, zi_zret, zi_lret, zi_vret, zi_callV, zi_callS, zi_sw, zi_copyI, zi_copyL, zi_m2, zi_m1, zi_sval, zi_scod, zi_fmt, zi_balen, zi_bald, zi_bret, zi_callT, zq_nth, zq_put1, zq_put2, zq_clr, zq_nl, zq_tk, zq_ps, zq_sw, zq_l0, zq_a, zq_a1, List.length_cons, List.length_nil, List.nil_append, List.cons_append, List.append_nil, List.replicate, Nat.reduceAdd, Nat.reduceSub, Nat.reduceLeDiff, true_and, and_true, List.append_eq, List.cons.injEq, Value.int.injEq, Value.long.injEq, Value.ref.injEq, exists_and_left, exists_eq_left', and_assoc, zc_b, zc_0, zc_1, zc_10, zc_01, lg_cmp_ge, lg_cmp_le, lg_cmp_gt, lg_cmp_lt, lg_cmp_eq, zw_le, zw_lt, reduceIte, true_or, or_true, zw_g0, zw_l0, zw_g1, zw_l1, zw_g2, zw_l2, zw_g3, zw_l3, zw_g5, zw_l5, zw_g6, zw_l6, zw_g7, zw_l7, zw_g9, zw_l9, zw_g10, zw_l10, zw_g15, zw_l15, zw_g16, zw_l16, zw_g48, zw_l48, zw_g50, zw_l50, zw_g57, zw_l57, zw_g97, zw_l97, zw_g100, zw_l100, zw_g200, zw_l200, zw_g999, zw_l999, zw_g9999, zw_l9999]
    refine ⟨v0 _ (by omega), V, nI x, rfl, hX, ?_⟩
    unfold zDo at kk
    rw [if_neg q2, if_neg q] at kk
    exact kk
def sp_does : zq_Sp := fun args h Q => ∃ b V i a, args = [.ref 56, .int (nI i)] ∧ i < 60 ∧ a.1 < 3 ∧ zMa i a h ∧ ZV V ∧ MC b V h ∧ zDo V a (fun r now => ∀ h', MC b (vSn V now) h' → zq_fm [] [63, 72, 73] h h' → Q (some (.int (if r < 0 then 0 else 1))) h')
theorem ok_does : zq_M yX12_does cX12_does 3 (some .boolean) 1 6 sp_does := by
  refine mX12_does ok_gives (by decide) ok_backs (by decide) ok_eats (by decide) (fun args h Q hs => ?_)
  obtain ⟨b, V, i, ⟨k, g, x, y⟩, rfl, hi, hk, ⟨a0, a1, a2, a3⟩, hV, hX, kk⟩ := hs
  refine ⟨Nat.le_of_ble_eq_true rfl, ?_⟩
  dsimp only at hk a0 a1 a2 a3
  have ci := nI_clamp (show i < 2 ^ 31 by omega)
  have ev : vp_in (nI i) 60 = True := eq_true (vp_in_nI hi (by decide))
  have c0 : (nI k = 0) = (k = 0) := nI_zP (by omega)
  have c1 : (nI k = 1) = (k = 1) := by
    have g1 : k = 0 ∨ k = 1 ∨ k = 2 := by omega
    rcases g1 with g | g | g <;> subst g <;> decide
  have fin : ∀ (r : Int32) h', (Q (some (.int (if r < 0 then 0 else 1))) h') → xX12_does_73 sp_gives sp_backs sp_eats Q [some (.ref 56), some (.int (nI i)), none] [.int r] h' := fun r h' q => by
    simp only [xX12_does_73, xX12_does_78, xX12_does_82, xX12_does_83, zi_push, zi_iload, zi_lload, zi_aload, zi_istore, zi_astore, zi_lstore, zi_iinc, zi_i2, zi_i1, zi_idv, zi_l2, zi_ldv, zi_lsh, zi_i2l, zi_l2i, zi_lcmp, zi_dup, zi_dup2, zi_pop, zi_if1, zi_if2, zi_getI, zi_getL, zi_getR, zi_putI, zi_putZ, zi_putL, zi_aldI, zi_aldL, zi_astI, zi_astZ, zi_astL, zi_alen, zi_iret, zi_zret, zi_lret, zi_vret, zi_callV, zi_callS, zi_sw, zi_copyI, zi_copyL, zi_m2, zi_m1, zi_sval, zi_scod, zi_fmt, zi_balen, zi_bald, zi_bret, zi_callT, zq_nth, zq_put1, zq_put2, zq_clr, zq_nl, zq_tk, zq_ps, zq_sw, zq_l0, zq_a, zq_a1, List.length_cons, List.length_nil, List.nil_append, List.cons_append, List.append_nil, List.replicate, Nat.reduceAdd, Nat.reduceSub, Nat.reduceLeDiff, true_and, and_true, List.append_eq, List.cons.injEq, Value.int.injEq, Value.long.injEq, Value.ref.injEq, exists_and_left, exists_eq_left', and_assoc, zc_b, zc_0, zc_1, zc_10, zc_01, lg_cmp_ge, lg_cmp_le, lg_cmp_gt, lg_cmp_lt, lg_cmp_eq, zw_le, zw_lt, reduceIte, true_or, or_true, zw_g0, zw_l0, zw_g1, zw_l1, zw_g2, zw_l2, zw_g3, zw_l3, zw_g5, zw_l5, zw_g6, zw_l6, zw_g7, zw_l7, zw_g9, zw_l9, zw_g10, zw_l10, zw_g15, zw_l15, zw_g16, zw_l16, zw_g48, zw_l48, zw_g50, zw_l50, zw_g57, zw_l57, zw_g97, zw_l97, zw_g100, zw_l100, zw_g200, zw_l200, zw_g999, zw_l999, zw_g9999, zw_l9999]
    refine ⟨fun q2 => ?_, fun q2 => ?_⟩
    · rw [if_pos q2] at q
      exact q
    · rw [if_neg q2] at q
      exact q
  simp only [xX12_does_0, ev, ci, a0, c0, not_true_eq_false, not_false_eq_true, forall_const, true_and, and_true, false_and, and_false, if_true, if_false, reduceIte, implies_true, and_self, ite_self, true_or, or_true, false_or, or_false, true_implies, false_implies, Classical.not_not, false_imp_iff, not_false_iff, zi_push, zi_iload, zi_lload, zi_aload, zi_istore, zi_astore, zi_lstore, zi_iinc, zi_i2, zi_i1, zi_idv, zi_l2, zi_ldv, zi_lsh, zi_i2l, zi_l2i, zi_lcmp, zi_dup, zi_dup2, zi_pop, zi_if1, zi_if2, zi_getI, zi_getL, zi_getR, zi_putI, zi_putZ, zi_putL, zi_aldI, zi_aldL, zi_astI, zi_astZ, zi_astL, zi_alen, zi_iret, zi_zret, zi_lret, zi_vret, zi_callV, zi_callS, zi_sw, zi_copyI, zi_copyL, zi_m2, zi_m1, zi_sval, zi_scod, zi_fmt, zi_balen, zi_bald, zi_bret, zi_callT, zq_nth, zq_put1, zq_put2, zq_clr, zq_nl, zq_tk, zq_ps, zq_sw, zq_l0, zq_a, zq_a1, List.length_cons, List.length_nil, List.nil_append, List.cons_append, List.append_nil, List.replicate, Nat.reduceAdd, Nat.reduceSub, Nat.reduceLeDiff, true_and, and_true, List.append_eq, List.cons.injEq, Value.int.injEq, Value.long.injEq, Value.ref.injEq, exists_and_left, exists_eq_left', and_assoc, zc_b, zc_0, zc_1, zc_10, zc_01, lg_cmp_ge, lg_cmp_le, lg_cmp_gt, lg_cmp_lt, lg_cmp_eq, zw_le, zw_lt, reduceIte, true_or, or_true, zw_g0, zw_l0, zw_g1, zw_l1, zw_g2, zw_l2, zw_g3, zw_l3, zw_g5, zw_l5, zw_g6, zw_l6, zw_g7, zw_l7, zw_g9, zw_l9, zw_g10, zw_l10, zw_g15, zw_l15, zw_g16, zw_l16, zw_g48, zw_l48, zw_g50, zw_l50, zw_g57, zw_l57, zw_g97, zw_l97, zw_g100, zw_l100, zw_g200, zw_l200, zw_g999, zw_l999, zw_g9999, zw_l9999]
  unfold zDo at kk
  refine ⟨fun q => ?_, fun q => ?_⟩
  · rw [if_pos q] at kk
    have a3 := a3 (by omega)
    simp only [xX12_does_9, ev, ci, a1, a2, a3, not_true_eq_false, not_false_eq_true, forall_const, true_and, and_true, false_and, and_false, if_true, if_false, reduceIte, implies_true, and_self, ite_self, true_or, or_true, false_or, or_false, true_implies, false_implies, Classical.not_not, false_imp_iff, not_false_iff, zi_push, zi_iload, zi_lload, zi_aload, zi_istore, zi_astore, zi_lstore, zi_iinc, zi_i2, zi_i1, zi_idv, zi_l2, zi_ldv, zi_lsh, zi_i2l, zi_l2i, zi_lcmp, zi_dup, zi_dup2, zi_pop, zi_if1, zi_if2, zi_getI, zi_getL, zi_getR, zi_putI, zi_putZ, zi_putL, zi_aldI, zi_aldL, zi_astI, zi_astZ, zi_astL, zi_alen, zi_iret, zi_zret, zi_lret, zi_vret, zi_callV, zi_callS, zi_sw, zi_copyI, zi_copyL, zi_m2, zi_m1, zi_sval, zi_scod, zi_fmt, zi_balen, zi_bald, zi_bret, zi_callT, zq_nth, zq_put1, zq_put2, zq_clr, zq_nl, zq_tk, zq_ps, zq_sw, zq_l0, zq_a, zq_a1, List.length_cons, List.length_nil, List.nil_append, List.cons_append, List.append_nil, List.replicate, Nat.reduceAdd, Nat.reduceSub, Nat.reduceLeDiff, true_and, and_true, List.append_eq, List.cons.injEq, Value.int.injEq, Value.long.injEq, Value.ref.injEq, exists_and_left, exists_eq_left', and_assoc, zc_b, zc_0, zc_1, zc_10, zc_01, lg_cmp_ge, lg_cmp_le, lg_cmp_gt, lg_cmp_lt, lg_cmp_eq, zw_le, zw_lt, reduceIte, true_or, or_true, zw_g0, zw_l0, zw_g1, zw_l1, zw_g2, zw_l2, zw_g3, zw_l3, zw_g5, zw_l5, zw_g6, zw_l6, zw_g7, zw_l7, zw_g9, zw_l9, zw_g10, zw_l10, zw_g15, zw_l15, zw_g16, zw_l16, zw_g48, zw_l48, zw_g50, zw_l50, zw_g57, zw_l57, zw_g97, zw_l97, zw_g100, zw_l100, zw_g200, zw_l200, zw_g999, zw_l999, zw_g9999, zw_l9999]
    refine ⟨b, V, nI g, nI x, nI y, rfl, hV, hX, zG_mono hX.1.1 kk (fun r now _ k1 h1 x1 f1 => fin r h1 (k1 h1 x1 f1))⟩
  · rw [if_neg q] at kk
    simp only [xX12_does_34, ev, ci, a0, c1, not_true_eq_false, not_false_eq_true, forall_const, true_and, and_true, false_and, and_false, if_true, if_false, reduceIte, implies_true, and_self, ite_self, true_or, or_true, false_or, or_false, true_implies, false_implies, Classical.not_not, false_imp_iff, not_false_iff, zi_push, zi_iload, zi_lload, zi_aload, zi_istore, zi_astore, zi_lstore, zi_iinc, zi_i2, zi_i1, zi_idv, zi_l2, zi_ldv, zi_lsh, zi_i2l, zi_l2i, zi_lcmp, zi_dup, zi_dup2, zi_pop, zi_if1, zi_if2, zi_getI, zi_getL, zi_getR, zi_putI, zi_putZ, zi_putL, zi_aldI, zi_aldL, zi_astI, zi_astZ, zi_astL, zi_alen, zi_iret, zi_zret, zi_lret, zi_vret, zi_callV, zi_callS, zi_sw, zi_copyI, zi_copyL, zi_m2, zi_m1, zi_sval, zi_scod, zi_fmt, zi_balen, zi_bald, zi_bret, zi_callT, zq_nth, zq_put1, zq_put2, zq_clr, zq_nl, zq_tk, zq_ps, zq_sw, zq_l0, zq_a, zq_a1, List.length_cons, List.length_nil, List.nil_append, List.cons_append, List.append_nil, List.replicate, Nat.reduceAdd, Nat.reduceSub, Nat.reduceLeDiff, true_and, and_true, List.append_eq, List.cons.injEq, Value.int.injEq, Value.long.injEq, Value.ref.injEq, exists_and_left, exists_eq_left', and_assoc, zc_b, zc_0, zc_1, zc_10, zc_01, lg_cmp_ge, lg_cmp_le, lg_cmp_gt, lg_cmp_lt, lg_cmp_eq, zw_le, zw_lt, reduceIte, true_or, or_true, zw_g0, zw_l0, zw_g1, zw_l1, zw_g2, zw_l2, zw_g3, zw_l3, zw_g5, zw_l5, zw_g6, zw_l6, zw_g7, zw_l7, zw_g9, zw_l9, zw_g10, zw_l10, zw_g15, zw_l15, zw_g16, zw_l16, zw_g48, zw_l48, zw_g50, zw_l50, zw_g57, zw_l57, zw_g97, zw_l97, zw_g100, zw_l100, zw_g200, zw_l200, zw_g999, zw_l999, zw_g9999, zw_l9999]
    refine ⟨fun q2 => ?_, fun q2 => ?_⟩
    · rw [if_pos q2] at kk
      have a3 := a3 (by omega)
      simp only [xX12_does_44, ev, ci, a2, a3, not_true_eq_false, not_false_eq_true, forall_const, true_and, and_true, false_and, and_false, if_true, if_false, reduceIte, implies_true, and_self, ite_self, true_or, or_true, false_or, or_false, true_implies, false_implies, Classical.not_not, false_imp_iff, not_false_iff, zi_push, zi_iload, zi_lload, zi_aload, zi_istore, zi_astore, zi_lstore, zi_iinc, zi_i2, zi_i1, zi_idv, zi_l2, zi_ldv, zi_lsh, zi_i2l, zi_l2i, zi_lcmp, zi_dup, zi_dup2, zi_pop, zi_if1, zi_if2, zi_getI, zi_getL, zi_getR, zi_putI, zi_putZ, zi_putL, zi_aldI, zi_aldL, zi_astI, zi_astZ, zi_astL, zi_alen, zi_iret, zi_zret, zi_lret, zi_vret, zi_callV, zi_callS, zi_sw, zi_copyI, zi_copyL, zi_m2, zi_m1, zi_sval, zi_scod, zi_fmt, zi_balen, zi_bald, zi_bret, zi_callT, zq_nth, zq_put1, zq_put2, zq_clr, zq_nl, zq_tk, zq_ps, zq_sw, zq_l0, zq_a, zq_a1, List.length_cons, List.length_nil, List.nil_append, List.cons_append, List.append_nil, List.replicate, Nat.reduceAdd, Nat.reduceSub, Nat.reduceLeDiff, true_and, and_true, List.append_eq, List.cons.injEq, Value.int.injEq, Value.long.injEq, Value.ref.injEq, exists_and_left, exists_eq_left', and_assoc, zc_b, zc_0, zc_1, zc_10, zc_01, lg_cmp_ge, lg_cmp_le, lg_cmp_gt, lg_cmp_lt, lg_cmp_eq, zw_le, zw_lt, reduceIte, true_or, or_true, zw_g0, zw_l0, zw_g1, zw_l1, zw_g2, zw_l2, zw_g3, zw_l3, zw_g5, zw_l5, zw_g6, zw_l6, zw_g7, zw_l7, zw_g9, zw_l9, zw_g10, zw_l10, zw_g15, zw_l15, zw_g16, zw_l16, zw_g48, zw_l48, zw_g50, zw_l50, zw_g57, zw_l57, zw_g97, zw_l97, zw_g100, zw_l100, zw_g200, zw_l200, zw_g999, zw_l999, zw_g9999, zw_l9999]
      exact ⟨b, V, nI x, nI y, rfl, hV, hX, zTb_mono hX.1.1 kk (fun r now _ k1 h1 x1 f1 => fin r h1 (k1 h1 x1 f1))⟩
    · rw [if_neg q2] at kk
      simp only [xX12_does_63, ev, ci, a2, not_true_eq_false, not_false_eq_true, forall_const, true_and, and_true, false_and, and_false, if_true, if_false, reduceIte, implies_true, and_self, ite_self, true_or, or_true, false_or, or_false, true_implies, false_implies, Classical.not_not, false_imp_iff, not_false_iff, zi_push, zi_iload, zi_lload, zi_aload, zi_istore, zi_astore, zi_lstore, zi_iinc, zi_i2, zi_i1, zi_idv, zi_l2, zi_ldv, zi_lsh, zi_i2l, zi_l2i, zi_lcmp, zi_dup, zi_dup2, zi_pop, zi_if1, zi_if2, zi_getI, zi_getL, zi_getR, zi_putI, zi_putZ, zi_putL, zi_aldI, zi_aldL, zi_astI, zi_astZ, zi_astL, zi_alen, zi_iret, zi_zret, zi_lret, zi_vret, zi_callV, zi_callS, zi_sw, zi_copyI, zi_copyL, zi_m2, zi_m1, zi_sval, zi_scod, zi_fmt, zi_balen, zi_bald, zi_bret, zi_callT, zq_nth, zq_put1, zq_put2, zq_clr, zq_nl, zq_tk, zq_ps, zq_sw, zq_l0, zq_a, zq_a1, List.length_cons, List.length_nil, List.nil_append, List.cons_append, List.append_nil, List.replicate, Nat.reduceAdd, Nat.reduceSub, Nat.reduceLeDiff, true_and, and_true, List.append_eq, List.cons.injEq, Value.int.injEq, Value.long.injEq, Value.ref.injEq, exists_and_left, exists_eq_left', and_assoc, zc_b, zc_0, zc_1, zc_10, zc_01, lg_cmp_ge, lg_cmp_le, lg_cmp_gt, lg_cmp_lt, lg_cmp_eq, zw_le, zw_lt, reduceIte, true_or, or_true, zw_g0, zw_l0, zw_g1, zw_l1, zw_g2, zw_l2, zw_g3, zw_l3, zw_g5, zw_l5, zw_g6, zw_l6, zw_g7, zw_l7, zw_g9, zw_l9, zw_g10, zw_l10, zw_g15, zw_l15, zw_g16, zw_l16, zw_g48, zw_l48, zw_g50, zw_l50, zw_g57, zw_l57, zw_g97, zw_l97, zw_g100, zw_l100, zw_g200, zw_l200, zw_g999, zw_l999, zw_g9999, zw_l9999]
      exact ⟨b, V, nI x, rfl, hX, zMo_mono hV kk (fun r now _ k1 h1 x1 f1 => fin r h1 (k1 h1 x1 f1))⟩
/-! acts read -/
def zap (s : Nat → Int32) (e : Nat) : Nat → Nat
  | 0 => 0
  | i + 1 => (zact s e (zap s e i)).2.2 + 1
def zac (s : Nat → Int32) (e i : Nat) : Nat × Nat × Nat × Nat := (zact s e (zap s e i)).2.1
def zrd (s : Nat → Int32) (e : Nat) : Nat → Nat → Bool × Nat × Nat
  | 0, i => (false, i, zap s e i)
  | f + 1, i => if (zact s e (zap s e i)).1 = true then (if (zact s e (zap s e i)).2.2 < e ∧ s (zact s e (zap s e i)).2.2 = 59 then zrd s e f (i + 1) else (true, i + 1, (zact s e (zap s e i)).2.2)) else (false, i, (zact s e (zap s e i)).2.2)
/-- the text as acts: fine, how many, up to where -/
def zsup (s : Nat → Int32) (n : Nat) : Bool × Nat × Nat := if n = 0 then (true, 0, 0) else zrd s (min n 60) 21 0
theorem zact_k {s : Nat → Int32} {e p : Nat} (h : (zact s e p).1 = true) : (zact s e p).2.1.1 < 3 ∧ p + 2 ≤ (zact s e p).2.2 ∧ (zact s e p).2.2 ≤ e := by
  have tk : ∀ q k g, k < 3 → (zatl s e q k g).1 = true → (zatl s e q k g).2.1.1 < 3 := by
    intro q k g hk h2
    unfold zatl at *
    by_cases c1 : zln s e q 2 = 0
    · rw [if_pos c1] at h2
      exact absurd h2 (by simp)
    · rw [if_neg c1] at h2 ⊢
      by_cases c2 : k = 2
      · rw [if_pos c2]
        exact hk
      · rw [if_neg c2] at h2 ⊢
        by_cases c3 : q + zln s e q 2 < e ∧ s (q + zln s e q 2) = 45
        · rw [if_neg (fun z => z c3)] at h2 ⊢
          by_cases c4 : zln s e (q + zln s e q 2 + 1) 2 = 0
          · rw [if_pos c4] at h2
            exact absurd h2 (by simp)
          · rw [if_neg c4]
            exact hk
        · rw [if_pos c3] at h2
          exact absurd h2 (by simp)
  unfold zact at *
  by_cases c0 : ziso s e p 7
  · rw [if_neg (fun z => z c0)] at h ⊢
    have hk : zix (zsb 7) (s p) < 3 := c0.2
    by_cases c1 : zix (zsb 7) (s p) = 0
    · rw [if_pos c1] at h ⊢
      by_cases c2 : zisl s e (p + 1) 6
      · rw [if_pos c2] at h ⊢
        obtain ⟨l1, l2⟩ := zatl_ok (by decide) h
        exact ⟨tk _ _ _ (by decide) h, by omega, l2⟩
      · rw [if_neg c2] at h
        exact absurd h (by simp)
    · rw [if_neg c1] at h ⊢
      obtain ⟨l1, l2⟩ := zatl_ok hk h
      exact ⟨tk _ _ _ hk h, by omega, l2⟩
  · rw [if_pos c0] at h
    exact absurd h (by simp)
theorem zact_end {s : Nat → Int32} {e p : Nat} (h : e ≤ p) : zact s e p = (false, (0, 0, 0, 0), p) := if_pos (fun z => by have := z.1; omega)
/-- i acts are read, each with its ';' -/
def zrok (s : Nat → Int32) (e i : Nat) : Prop := i ≤ 20 ∧ 3 * i ≤ zap s e i ∧ zap s e i ≤ e ∧ ∀ j, j < i → (zac s e j).1 < 3
theorem zrok_s {s : Nat → Int32} {e i : Nat} (he : e ≤ 60) (k : zrok s e i) (h1 : (zact s e (zap s e i)).1 = true) (h2 : (zact s e (zap s e i)).2.2 < e) : zrok s e (i + 1) := by
  obtain ⟨k1, k2, k3, k4⟩ := k
  obtain ⟨a, b, c⟩ := zact_k h1
  have e1 : zap s e (i + 1) = (zact s e (zap s e i)).2.2 + 1 := rfl
  refine ⟨by omega, by omega, by omega, fun j hj => ?_⟩
  by_cases q : j = i
  · rw [q]
    exact a
  · exact k4 j (by omega)
theorem zrd_s (s : Nat → Int32) (e f i : Nat) : zrd s e (f + 1) i = if (zact s e (zap s e i)).1 = true then (if (zact s e (zap s e i)).2.2 < e ∧ s (zact s e (zap s e i)).2.2 = 59 then zrd s e f (i + 1) else (true, i + 1, (zact s e (zap s e i)).2.2)) else (false, i, (zact s e (zap s e i)).2.2) := rfl
def sp_readActs : zq_Sp := fun args h Q => ∃ n s, args = [.ref 0] ∧ XT n s h ∧ ∀ h', XD n s (min n 60) (zsup s n).2.2 h' → ((zsup s n).1 = true → h'.1 0 15 = nI (zsup s n).2.1 ∧ (zsup s n).2.1 ≤ 20 ∧ ∀ j, j < (zsup s n).2.1 → zXa j (zac s (min n 60) j) h' ∧ (zac s (min n 60) j).1 < 3) → zq_fr [0, 1, 38] h h' → Q (some (.int (if (zsup s n).1 = true ∧ n ≤ (zsup s n).2.2 then 1 else 0))) h'
def I_rdA (Q : zq_Q) (z : zq_H × Nat × (Nat → Int32) × Nat × Nat) : zq_P := fun ls st h => match z with
  | (h0, n, s, i, f) => ls = [some (.ref 0)] ∧ st = [] ∧ (f + i = 21 ∧ n ≤ 80 ∧ 0 < n) ∧ zrok s (min n 60) i ∧ zrd s (min n 60) f i = zrd s (min n 60) 21 0 ∧ XD n s (min n 60) (zap s (min n 60) i) h ∧ h.1 0 15 = nI i ∧ (∀ j, j < i → zXa j (zac s (min n 60) j) h) ∧ zq_fr [0, 1, 38] h0 h ∧ ∀ h', XD n s (min n 60) (zsup s n).2.2 h' → ((zsup s n).1 = true → h'.1 0 15 = nI (zsup s n).2.1 ∧ (zsup s n).2.1 ≤ 20 ∧ ∀ j, j < (zsup s n).2.1 → zXa j (zac s (min n 60) j) h' ∧ (zac s (min n 60) j).1 < 3) → zq_fr [0, 1, 38] h0 h' → Q (some (.int (if (zsup s n).1 = true ∧ n ≤ (zsup s n).2.2 then 1 else 0))) h'
theorem zXa_eq {i : Nat} {a : Nat × Nat × Nat × Nat} {h h' : zq_H} (k : zXa i a h) (e : ∀ j, j < 4 * i + 4 → h'.1 38 j = h.1 38 j) : zXa i a h' := by
  obtain ⟨k1, k2, k3, k4⟩ := k
  exact ⟨by rw [e _ (by omega)]; exact k1, by rw [e _ (by omega)]; exact k2, by rw [e _ (by omega)]; exact k3, by rw [e _ (by omega)]; exact k4⟩
theorem ok_readActs : zq_M yX11_readActs cX11_readActs 1 (some .boolean) 1 4 sp_readActs := by
  refine mX11_readActs ok_xStart (by decide) ok_xFin (by decide) ok_readAct (by decide) ok_xSkip (by decide) (fun z => 100 - z.2.2.2.1) I_rdA (fun args h Q hs => ?_) (fun Q z ls st h hi => ?_)
  · obtain ⟨n, s, rfl, hT, kk⟩ := hs
    have hn := hT.2.1
    refine ⟨Nat.le_of_ble_eq_true rfl, ?_⟩
    have f0 : zq_fr [0, 1, 38] h (zq_setI h 0 15 0) := zq_fr_I zq_fr_rf (by decide)
    simp only [xX11_readActs_0, zi_push, zi_iload, zi_lload, zi_aload, zi_istore, zi_astore, zi_lstore, zi_iinc, zi_i2, zi_i1, zi_idv, zi_l2, zi_ldv, zi_lsh, zi_i2l, zi_l2i, zi_lcmp, zi_dup, zi_dup2, zi_pop, zi_if1, zi_if2, zi_getI, zi_getL, zi_getR, zi_putI, zi_putZ, zi_putL, zi_aldI, zi_aldL, zi_astI, zi_astZ, zi_astL, zi_alen, zi_iret, zi_zret, zi_lret, zi_vret, zi_callV, zi_callS, zi_sw, zi_copyI, zi_copyL, zi_m2, zi_m1, zi_sval, zi_scod, zi_fmt, zi_balen, zi_bald, zi_bret, zi_callT, zq_nth, zq_put1, zq_put2, zq_clr, zq_nl, zq_tk, zq_ps, zq_sw, zq_l0, zq_a, zq_a1, List.length_cons, List.length_nil, List.nil_append, List.cons_append, List.append_nil, List.replicate, Nat.reduceAdd, Nat.reduceSub, Nat.reduceLeDiff, true_and, and_true, List.append_eq, List.cons.injEq, Value.int.injEq, Value.long.injEq, Value.ref.injEq, exists_and_left, exists_eq_left', and_assoc, zc_b, zc_0, zc_1, zc_10, zc_01, lg_cmp_ge, lg_cmp_le, lg_cmp_gt, lg_cmp_lt, lg_cmp_eq, zw_le, zw_lt, reduceIte, true_or, or_true, zw_g0, zw_l0, zw_g1, zw_l1, zw_g2, zw_l2, zw_g3, zw_l3, zw_g5, zw_l5, zw_g6, zw_l6, zw_g7, zw_l7, zw_g9, zw_l9, zw_g10, zw_l10, zw_g15, zw_l15, zw_g16, zw_l16, zw_g48, zw_l48, zw_g50, zw_l50, zw_g57, zw_l57, zw_g97, zw_l97, zw_g100, zw_l100, zw_g200, zw_l200, zw_g999, zw_l999, zw_g9999, zw_l9999]
    refine ⟨n, s, 60, rfl, by decide, XT_fr hT (zq_fr_I (ps := [0]) zq_fr_rf (by decide)) (by decide), fun h1 d1 f1 => ?_⟩
    have c0 : h1.1 0 15 = nI 0 := by rw [(f1 0 (by decide)).1]; simp [zq_sI]; rfl
    have f1' := zq_fr_t f0 f1 (by decide)
    simp only [zi_push, zi_iload, zi_lload, zi_aload, zi_istore, zi_astore, zi_lstore, zi_iinc, zi_i2, zi_i1, zi_idv, zi_l2, zi_ldv, zi_lsh, zi_i2l, zi_l2i, zi_lcmp, zi_dup, zi_dup2, zi_pop, zi_if1, zi_if2, zi_getI, zi_getL, zi_getR, zi_putI, zi_putZ, zi_putL, zi_aldI, zi_aldL, zi_astI, zi_astZ, zi_astL, zi_alen, zi_iret, zi_zret, zi_lret, zi_vret, zi_callV, zi_callS, zi_sw, zi_copyI, zi_copyL, zi_m2, zi_m1, zi_sval, zi_scod, zi_fmt, zi_balen, zi_bald, zi_bret, zi_callT, zq_nth, zq_put1, zq_put2, zq_clr, zq_nl, zq_tk, zq_ps, zq_sw, zq_l0, zq_a, zq_a1, List.length_cons, List.length_nil, List.nil_append, List.cons_append, List.append_nil, List.replicate, Nat.reduceAdd, Nat.reduceSub, Nat.reduceLeDiff, true_and, and_true, List.append_eq, List.cons.injEq, Value.int.injEq, Value.long.injEq, Value.ref.injEq, exists_and_left, exists_eq_left', and_assoc, zc_b, zc_0, zc_1, zc_10, zc_01, lg_cmp_ge, lg_cmp_le, lg_cmp_gt, lg_cmp_lt, lg_cmp_eq, zw_le, zw_lt, reduceIte, true_or, or_true, zw_g0, zw_l0, zw_g1, zw_l1, zw_g2, zw_l2, zw_g3, zw_l3, zw_g5, zw_l5, zw_g6, zw_l6, zw_g7, zw_l7, zw_g9, zw_l9, zw_g10, zw_l10, zw_g15, zw_l15, zw_g16, zw_l16, zw_g48, zw_l48, zw_g50, zw_l50, zw_g57, zw_l57, zw_g97, zw_l97, zw_g100, zw_l100, zw_g200, zw_l200, zw_g999, zw_l999, zw_g9999, zw_l9999]
    refine ⟨n, s, _, 0, rfl, d1, fun q => ?_, fun q => ?_⟩
    · have q0 : n = 0 := by omega
      simp only [xX11_readActs_24, not_true_eq_false, not_false_eq_true, forall_const, true_and, and_true, false_and, and_false, if_true, if_false, reduceIte, implies_true, and_self, ite_self, true_or, or_true, false_or, or_false, true_implies, false_implies, Classical.not_not, false_imp_iff, not_false_iff, zi_push, zi_iload, zi_lload, zi_aload, zi_istore, zi_astore, zi_lstore, zi_iinc, zi_i2, zi_i1, zi_idv, zi_l2, zi_ldv, zi_lsh, zi_i2l, zi_l2i, zi_lcmp, zi_dup, zi_dup2, zi_pop, zi_if1, zi_if2, zi_getI, zi_getL, zi_getR, zi_putI, zi_putZ, zi_putL, zi_aldI, zi_aldL, zi_astI, zi_astZ, zi_astL, zi_alen, zi_iret, zi_zret, zi_lret, zi_vret, zi_callV, zi_callS, zi_sw, zi_copyI, zi_copyL, zi_m2, zi_m1, zi_sval, zi_scod, zi_fmt, zi_balen, zi_bald, zi_bret, zi_callT, zq_nth, zq_put1, zq_put2, zq_clr, zq_nl, zq_tk, zq_ps, zq_sw, zq_l0, zq_a, zq_a1, List.length_cons, List.length_nil, List.nil_append, List.cons_append, List.append_nil, List.replicate, Nat.reduceAdd, Nat.reduceSub, Nat.reduceLeDiff, true_and, and_true, List.append_eq, List.cons.injEq, Value.int.injEq, Value.long.injEq, Value.ref.injEq, exists_and_left, exists_eq_left', and_assoc, zc_b, zc_0, zc_1, zc_10, zc_01, lg_cmp_ge, lg_cmp_le, lg_cmp_gt, lg_cmp_lt, lg_cmp_eq, zw_le, zw_lt, reduceIte, true_or, or_true, zw_g0, zw_l0, zw_g1, zw_l1, zw_g2, zw_l2, zw_g3, zw_l3, zw_g5, zw_l5, zw_g6, zw_l6, zw_g7, zw_l7, zw_g9, zw_l9, zw_g10, zw_l10, zw_g15, zw_l15, zw_g16, zw_l16, zw_g48, zw_l48, zw_g50, zw_l50, zw_g57, zw_l57, zw_g97, zw_l97, zw_g100, zw_l100, zw_g200, zw_l200, zw_g999, zw_l999, zw_g9999, zw_l9999]
      have es : zsup s n = (true, 0, 0) := if_pos q0
      rw [es] at kk
      have := kk h1 d1 (fun _ => ⟨c0, by decide, fun j hj => absurd hj (Nat.not_lt_zero _)⟩) f1'
      rw [if_pos ⟨rfl, q⟩] at this
      exact this
    · simp only [not_true_eq_false, not_false_eq_true, forall_const, true_and, and_true, false_and, and_false, if_true, if_false, reduceIte, implies_true, and_self, ite_self, true_or, or_true, false_or, or_false, true_implies, false_implies, Classical.not_not, false_imp_iff, not_false_iff, zi_push, zi_iload, zi_lload, zi_aload, zi_istore, zi_astore, zi_lstore, zi_iinc, zi_i2, zi_i1, zi_idv, zi_l2, zi_ldv, zi_lsh, zi_i2l, zi_l2i, zi_lcmp, zi_dup, zi_dup2, zi_pop, zi_if1, zi_if2, zi_getI, zi_getL, zi_getR, zi_putI, zi_putZ, zi_putL, zi_aldI, zi_aldL, zi_astI, zi_astZ, zi_astL, zi_alen, zi_iret, zi_zret, zi_lret, zi_vret, zi_callV, zi_callS, zi_sw, zi_copyI, zi_copyL, zi_m2, zi_m1, zi_sval, zi_scod, zi_fmt, zi_balen, zi_bald, zi_bret, zi_callT, zq_nth, zq_put1, zq_put2, zq_clr, zq_nl, zq_tk, zq_ps, zq_sw, zq_l0, zq_a, zq_a1, List.length_cons, List.length_nil, List.nil_append, List.cons_append, List.append_nil, List.replicate, Nat.reduceAdd, Nat.reduceSub, Nat.reduceLeDiff, true_and, and_true, List.append_eq, List.cons.injEq, Value.int.injEq, Value.long.injEq, Value.ref.injEq, exists_and_left, exists_eq_left', and_assoc, zc_b, zc_0, zc_1, zc_10, zc_01, lg_cmp_ge, lg_cmp_le, lg_cmp_gt, lg_cmp_lt, lg_cmp_eq, zw_le, zw_lt, reduceIte, true_or, or_true, zw_g0, zw_l0, zw_g1, zw_l1, zw_g2, zw_l2, zw_g3, zw_l3, zw_g5, zw_l5, zw_g6, zw_l6, zw_g7, zw_l7, zw_g9, zw_l9, zw_g10, zw_l10, zw_g15, zw_l15, zw_g16, zw_l16, zw_g48, zw_l48, zw_g50, zw_l50, zw_g57, zw_l57, zw_g97, zw_l97, zw_g100, zw_l100, zw_g200, zw_l200, zw_g999, zw_l999, zw_g9999, zw_l9999]
      exact ⟨(h, n, s, 0, 21), rfl, rfl, ⟨rfl, hn, by omega⟩, ⟨by omega, Nat.le_refl _, Nat.zero_le _, fun j hj => absurd hj (Nat.not_lt_zero _)⟩, rfl, d1, c0, fun j hj => absurd hj (Nat.not_lt_zero _), f1', kk⟩
  · obtain ⟨h0, n, s, i, f⟩ := z
    obtain ⟨rfl, rfl, ⟨hf, hn, hn0⟩, hr, er, hD, c15, hA, hfr, kk⟩ := hi
    have es : zsup s n = zrd s (min n 60) f i := by rw [er]; exact if_neg (by omega)
    have e20 : (20 ≤ nI i) = (i = 20) := zl_ge (n := 20) hr.1 (by decide)
    obtain ⟨f, rfl⟩ : ∃ g, f = g + 1 := ⟨f - 1, by have := hr.1; omega⟩
    rw [es, zrd_s] at kk
    have he : min n 60 ≤ 60 := Nat.min_le_right _ _
    simp only [xX11_readActs_26, xX11_readActs_35, xX11_readActs_80, c15, e20, zi_push, zi_iload, zi_lload, zi_aload, zi_istore, zi_astore, zi_lstore, zi_iinc, zi_i2, zi_i1, zi_idv, zi_l2, zi_ldv, zi_lsh, zi_i2l, zi_l2i, zi_lcmp, zi_dup, zi_dup2, zi_pop, zi_if1, zi_if2, zi_getI, zi_getL, zi_getR, zi_putI, zi_putZ, zi_putL, zi_aldI, zi_aldL, zi_astI, zi_astZ, zi_astL, zi_alen, zi_iret, zi_zret, zi_lret, zi_vret, zi_callV, zi_callS, zi_sw, zi_copyI, zi_copyL, zi_m2, zi_m1, zi_sval, zi_scod, zi_fmt, zi_balen, zi_bald, zi_bret, zi_callT, zq_nth, zq_put1, zq_put2, zq_clr, zq_nl, zq_tk, zq_ps, zq_sw, zq_l0, zq_a, zq_a1, List.length_cons, List.length_nil, List.nil_append, List.cons_append, List.append_nil, List.replicate, Nat.reduceAdd, Nat.reduceSub, Nat.reduceLeDiff, true_and, and_true, List.append_eq, List.cons.injEq, Value.int.injEq, Value.long.injEq, Value.ref.injEq, exists_and_left, exists_eq_left', and_assoc, zc_b, zc_0, zc_1, zc_10, zc_01, lg_cmp_ge, lg_cmp_le, lg_cmp_gt, lg_cmp_lt, lg_cmp_eq, zw_le, zw_lt, reduceIte, true_or, or_true, zw_g0, zw_l0, zw_g1, zw_l1, zw_g2, zw_l2, zw_g3, zw_l3, zw_g5, zw_l5, zw_g6, zw_l6, zw_g7, zw_l7, zw_g9, zw_l9, zw_g10, zw_l10, zw_g15, zw_l15, zw_g16, zw_l16, zw_g48, zw_l48, zw_g50, zw_l50, zw_g57, zw_l57, zw_g97, zw_l97, zw_g100, zw_l100, zw_g200, zw_l200, zw_g999, zw_l999, zw_g9999, zw_l9999]
    refine ⟨fun q => ?_, fun q => ?_⟩
    · subst q
      have z := zact_end (s := s) (e := min n 60) (p := zap s (min n 60) 20) (by have := hr.2.1; omega)
      rw [z] at kk
      exact kk h hD (fun z => absurd z (by simp)) hfr
    · rw [z4a]
      refine ⟨n, s, _, _, i, rfl, by have := hr.1; omega, hD, fun h1 d1 a1 lo1 f1 => ?_⟩
      have hf1 := zq_fr_t hfr f1 (by decide)
      by_cases q1 : (zact s (min n 60) (zap s (min n 60) i)).1 = true
      · rw [if_pos q1] at kk ⊢
        have b15 : h1.1 0 15 = nI i := by rw [(f1 0 (by decide)).1]; exact c15
        have hA1 : ∀ j, j < i + 1 → zXa j (zac s (min n 60) j) h1 := fun j hj => by
          by_cases q2 : j = i
          · rw [q2]
            exact a1 q1
          · exact zXa_eq (hA j (by omega)) (fun t ht => lo1 t (by omega))
        have fI : zq_fr [0] h1 (zq_setI h1 0 15 (nI (i + 1))) := zq_fr_I zq_fr_rf (by decide)
        have hfI : zq_fr [0, 1, 38] h0 (zq_setI h1 0 15 (nI (i + 1))) := zq_fr_I hf1 (by decide)
        have dI := XD_fr d1 fI (by decide)
        simp only [xX11_readActs_50, b15, nI_1, not_true_eq_false, not_false_eq_true, forall_const, true_and, and_true, false_and, and_false, if_true, if_false, reduceIte, implies_true, and_self, ite_self, true_or, or_true, false_or, or_false, true_implies, false_implies, Classical.not_not, false_imp_iff, not_false_iff, zi_push, zi_iload, zi_lload, zi_aload, zi_istore, zi_astore, zi_lstore, zi_iinc, zi_i2, zi_i1, zi_idv, zi_l2, zi_ldv, zi_lsh, zi_i2l, zi_l2i, zi_lcmp, zi_dup, zi_dup2, zi_pop, zi_if1, zi_if2, zi_getI, zi_getL, zi_getR, zi_putI, zi_putZ, zi_putL, zi_aldI, zi_aldL, zi_astI, zi_astZ, zi_astL, zi_alen, zi_iret, zi_zret, zi_lret, zi_vret, zi_callV, zi_callS, zi_sw, zi_copyI, zi_copyL, zi_m2, zi_m1, zi_sval, zi_scod, zi_fmt, zi_balen, zi_bald, zi_bret, zi_callT, zq_nth, zq_put1, zq_put2, zq_clr, zq_nl, zq_tk, zq_ps, zq_sw, zq_l0, zq_a, zq_a1, List.length_cons, List.length_nil, List.nil_append, List.cons_append, List.append_nil, List.replicate, Nat.reduceAdd, Nat.reduceSub, Nat.reduceLeDiff, true_and, and_true, List.append_eq, List.cons.injEq, Value.int.injEq, Value.long.injEq, Value.ref.injEq, exists_and_left, exists_eq_left', and_assoc, zc_b, zc_0, zc_1, zc_10, zc_01, lg_cmp_ge, lg_cmp_le, lg_cmp_gt, lg_cmp_lt, lg_cmp_eq, zw_le, zw_lt, reduceIte, true_or, or_true, zw_g0, zw_l0, zw_g1, zw_l1, zw_g2, zw_l2, zw_g3, zw_l3, zw_g5, zw_l5, zw_g6, zw_l6, zw_g7, zw_l7, zw_g9, zw_l9, zw_g10, zw_l10, zw_g15, zw_l15, zw_g16, zw_l16, zw_g48, zw_l48, zw_g50, zw_l50, zw_g57, zw_l57, zw_g97, zw_l97, zw_g100, zw_l100, zw_g200, zw_l200, zw_g999, zw_l999, zw_g9999, zw_l9999]
        refine ⟨n, s, _, _, 59, rfl, dI, fun q2 h2 d2 f2 => ?_, fun q2 => ?_⟩
        · rw [if_pos q2] at kk
          simp only [not_true_eq_false, not_false_eq_true, forall_const, true_and, and_true, false_and, and_false, if_true, if_false, reduceIte, implies_true, and_self, ite_self, true_or, or_true, false_or, or_false, true_implies, false_implies, Classical.not_not, false_imp_iff, not_false_iff, zi_push, zi_iload, zi_lload, zi_aload, zi_istore, zi_astore, zi_lstore, zi_iinc, zi_i2, zi_i1, zi_idv, zi_l2, zi_ldv, zi_lsh, zi_i2l, zi_l2i, zi_lcmp, zi_dup, zi_dup2, zi_pop, zi_if1, zi_if2, zi_getI, zi_getL, zi_getR, zi_putI, zi_putZ, zi_putL, zi_aldI, zi_aldL, zi_astI, zi_astZ, zi_astL, zi_alen, zi_iret, zi_zret, zi_lret, zi_vret, zi_callV, zi_callS, zi_sw, zi_copyI, zi_copyL, zi_m2, zi_m1, zi_sval, zi_scod, zi_fmt, zi_balen, zi_bald, zi_bret, zi_callT, zq_nth, zq_put1, zq_put2, zq_clr, zq_nl, zq_tk, zq_ps, zq_sw, zq_l0, zq_a, zq_a1, List.length_cons, List.length_nil, List.nil_append, List.cons_append, List.append_nil, List.replicate, Nat.reduceAdd, Nat.reduceSub, Nat.reduceLeDiff, true_and, and_true, List.append_eq, List.cons.injEq, Value.int.injEq, Value.long.injEq, Value.ref.injEq, exists_and_left, exists_eq_left', and_assoc, zc_b, zc_0, zc_1, zc_10, zc_01, lg_cmp_ge, lg_cmp_le, lg_cmp_gt, lg_cmp_lt, lg_cmp_eq, zw_le, zw_lt, reduceIte, true_or, or_true, zw_g0, zw_l0, zw_g1, zw_l1, zw_g2, zw_l2, zw_g3, zw_l3, zw_g5, zw_l5, zw_g6, zw_l6, zw_g7, zw_l7, zw_g9, zw_l9, zw_g10, zw_l10, zw_g15, zw_l15, zw_g16, zw_l16, zw_g48, zw_l48, zw_g50, zw_l50, zw_g57, zw_l57, zw_g97, zw_l97, zw_g100, zw_l100, zw_g200, zw_l200, zw_g999, zw_l999, zw_g9999, zw_l9999]
          refine ⟨(h0, n, s, i + 1, f), by dsimp only; have := hr.1; omega, rfl, rfl, ⟨by omega, hn, hn0⟩, zrok_s he hr q1 q2.1, ?_, d2, by rw [(f2 0 (by decide)).1]; simp [zq_sI], fun j hj => zXa_eq (hA1 j hj) (fun t ht => by rw [(f2 38 (by decide)).1]; simp [zq_sI]), zq_fr_t hfI f2 (by decide), ?_⟩
          · rw [← er, zrd_s, if_pos q1, if_pos q2]
          · rw [es, zrd_s, if_pos q1, if_pos q2]
            exact kk
        · rw [if_neg q2] at kk
          simp only [xX11_readActs_72, not_true_eq_false, not_false_eq_true, forall_const, true_and, and_true, false_and, and_false, if_true, if_false, reduceIte, implies_true, and_self, ite_self, true_or, or_true, false_or, or_false, true_implies, false_implies, Classical.not_not, false_imp_iff, not_false_iff, zi_push, zi_iload, zi_lload, zi_aload, zi_istore, zi_astore, zi_lstore, zi_iinc, zi_i2, zi_i1, zi_idv, zi_l2, zi_ldv, zi_lsh, zi_i2l, zi_l2i, zi_lcmp, zi_dup, zi_dup2, zi_pop, zi_if1, zi_if2, zi_getI, zi_getL, zi_getR, zi_putI, zi_putZ, zi_putL, zi_aldI, zi_aldL, zi_astI, zi_astZ, zi_astL, zi_alen, zi_iret, zi_zret, zi_lret, zi_vret, zi_callV, zi_callS, zi_sw, zi_copyI, zi_copyL, zi_m2, zi_m1, zi_sval, zi_scod, zi_fmt, zi_balen, zi_bald, zi_bret, zi_callT, zq_nth, zq_put1, zq_put2, zq_clr, zq_nl, zq_tk, zq_ps, zq_sw, zq_l0, zq_a, zq_a1, List.length_cons, List.length_nil, List.nil_append, List.cons_append, List.append_nil, List.replicate, Nat.reduceAdd, Nat.reduceSub, Nat.reduceLeDiff, true_and, and_true, List.append_eq, List.cons.injEq, Value.int.injEq, Value.long.injEq, Value.ref.injEq, exists_and_left, exists_eq_left', and_assoc, zc_b, zc_0, zc_1, zc_10, zc_01, lg_cmp_ge, lg_cmp_le, lg_cmp_gt, lg_cmp_lt, lg_cmp_eq, zw_le, zw_lt, reduceIte, true_or, or_true, zw_g0, zw_l0, zw_g1, zw_l1, zw_g2, zw_l2, zw_g3, zw_l3, zw_g5, zw_l5, zw_g6, zw_l6, zw_g7, zw_l7, zw_g9, zw_l9, zw_g10, zw_l10, zw_g15, zw_l15, zw_g16, zw_l16, zw_g48, zw_l48, zw_g50, zw_l50, zw_g57, zw_l57, zw_g97, zw_l97, zw_g100, zw_l100, zw_g200, zw_l200, zw_g999, zw_l999, zw_g9999, zw_l9999]
          have := kk (zq_setI h1 0 15 (nI (i + 1))) dI (fun _ => ⟨by simp [zq_sI], by have := hr.1; show i + 1 ≤ 20; omega, fun j hj => ⟨zXa_eq (hA1 j hj) (fun t ht => by simp [zq_sI]), ?_⟩⟩) hfI
          · refine ⟨n, s, _, _, rfl, dI, fun q3 => ?_, fun q3 => ?_⟩
            · rw [if_pos ⟨rfl, q3⟩] at this
              exact ⟨Or.inr rfl, this⟩
            · rw [if_neg (fun z => q3 z.2)] at this
              exact ⟨Or.inl rfl, this⟩
          · by_cases q3 : j = i
            · rw [q3]
              exact (zact_k q1).1
            · exact hr.2.2.2 j (by have : j < i + 1 := hj; omega)
      · rw [if_neg q1] at kk ⊢
        simp only [xX11_readActs_48, not_true_eq_false, not_false_eq_true, forall_const, true_and, and_true, false_and, and_false, if_true, if_false, reduceIte, implies_true, and_self, ite_self, true_or, or_true, false_or, or_false, true_implies, false_implies, Classical.not_not, false_imp_iff, not_false_iff, zi_push, zi_iload, zi_lload, zi_aload, zi_istore, zi_astore, zi_lstore, zi_iinc, zi_i2, zi_i1, zi_idv, zi_l2, zi_ldv, zi_lsh, zi_i2l, zi_l2i, zi_lcmp, zi_dup, zi_dup2, zi_pop, zi_if1, zi_if2, zi_getI, zi_getL, zi_getR, zi_putI, zi_putZ, zi_putL, zi_aldI, zi_aldL, zi_astI, zi_astZ, zi_astL, zi_alen, zi_iret, zi_zret, zi_lret, zi_vret, zi_callV, zi_callS, zi_sw, zi_copyI, zi_copyL, zi_m2, zi_m1, zi_sval, zi_scod, zi_fmt, zi_balen, zi_bald, zi_bret, zi_callT, zq_nth, zq_put1, zq_put2, zq_clr, zq_nl, zq_tk, zq_ps, zq_sw, zq_l0, zq_a, zq_a1, List.length_cons, List.length_nil, List.nil_append, List.cons_append, List.append_nil, List.replicate, Nat.reduceAdd, Nat.reduceSub, Nat.reduceLeDiff, true_and, and_true, List.append_eq, List.cons.injEq, Value.int.injEq, Value.long.injEq, Value.ref.injEq, exists_and_left, exists_eq_left', and_assoc, zc_b, zc_0, zc_1, zc_10, zc_01, lg_cmp_ge, lg_cmp_le, lg_cmp_gt, lg_cmp_lt, lg_cmp_eq, zw_le, zw_lt, reduceIte, true_or, or_true, zw_g0, zw_l0, zw_g1, zw_l1, zw_g2, zw_l2, zw_g3, zw_l3, zw_g5, zw_l5, zw_g6, zw_l6, zw_g7, zw_l7, zw_g9, zw_l9, zw_g10, zw_l10, zw_g15, zw_l15, zw_g16, zw_l16, zw_g48, zw_l48, zw_g50, zw_l50, zw_g57, zw_l57, zw_g97, zw_l97, zw_g100, zw_l100, zw_g200, zw_l200, zw_g999, zw_l999, zw_g9999, zw_l9999]
        have := kk h1 d1 (fun z => absurd z (by simp)) hf1
        rw [if_neg (fun z => absurd z.1 (by simp))] at this
        exact this
