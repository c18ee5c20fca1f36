/-! ===== parts: the face of the reference; both joined ===== -/
def zpnf : List Nat := [0, 1, 43]
def zpnp : List Nat := [57, 72, 73, 74, 75, 83, 84]
def sp_mParts (b : Nat) (V : zV) : zq_Sp := fun args h Q => ∃ a v, args = [.ref 56, .int a, .int v] ∧ ZV V ∧ MC b V h ∧ zpts V a v (∀ h', zq_fm [0] [] h h' → Q (some (.int (-1))) h') (∀ h', zq_fm [0] [] h h' → Q (some (.int (-2))) h') (fun row r => ∀ h', MR row h' → zq_fm zpnf zpnp h h' → Q (some (.int r)) h')
def I_mPt (b : Nat) (V : zV) (Q : zq_Q) (z : zq_H × (Nat × Nat) × List Nat × List Nat) : zq_P := fun ls st h => match z with
  | (h0, (g, N), l1, l2) => ls = [some (.ref 56), some (.int (nI g)), some (.int (nI (N + 1))), some (.int (nI l1.length))] ∧ st = [] ∧ (g < vg V ∧ N ≤ 5) ∧ zgr V g (zpD V g N 0) N 0 = l1 ++ l2 ∧ (l1 ++ l2).length = N + 1 ∧ h.1 56 43 = nI (zpD V g N 0) - 1 ∧ zAt 84 (zpE (l1 ++ l2)) h ∧ MR (zpW l1) h ∧ zq_fm zpnf zpnp h0 h ∧ ∀ h', MR (zpW (zgr V g (zpD V g N 0) N 0)) h' → zq_fm zpnf zpnp h0 h' → Q (some (.int (nI (zpD V g N 0) - 1))) h'
theorem zgr_len (V : zV) (g m : Nat) : ∀ k s, (zgr V g m k s).length = k + 1
  | 0, s => rfl
  | k + 1, s => by
    show (zgr V g m k (zgu V g m s)).length + 1 = k + 1 + 1
    rw [zgr_len V g m k]
theorem ok_mParts (b : Nat) (V : zV) : zq_M yX12_parts cX12_parts 4 (some .int) 1 8 (sp_mParts b V) := by
  refine mX12_parts (ok_mIsGuestV b V) (by decide) ok_in (by decide) (ok_laysV b V) (by decide) (ok_po b V 5) (by decide) ok_entersL (by decide) (fun z => z.2.2.2.length) (I_mPt b V) (fun args h Q hs => ?_) (fun Q z ls st h hi => ?_)
  · obtain ⟨a, v, rfl, hV, hX, k0, kk⟩ := hs
    have hg := hX.2.1.1
    have hn := hX.1.1
    have f0 : zq_fm [0] [] h (zq_setI h 56 0 0) := zq_fm_F zq_fm_rf (by decide)
    have hX1 := MC_fm hX f0 (by decide)
    refine ⟨Nat.le_of_ble_eq_true rfl, ?_⟩
    simp only [xX12_parts_0, zi_push, zi_iload, zi_lload, zi_aload, zi_istore, zi_astore, zi_lstore, zi_iinc, zi_i2, zi_i1, zi_idv, zi_l2, zi_ldv, zi_lsh, zi_i2l, zi_l2i, zi_lcmp, zi_dup, zi_dup2, zi_pop, zi_if1, zi_if2, zi_getI, zi_getL, zi_getR, zi_putI, zi_putZ, zi_putL, zi_aldI, zi_aldL, zi_astI, zi_astZ, zi_astL, zi_alen, zi_iret, zi_zret, zi_lret, zi_vret, zi_callV, zi_callS, zi_sw, zi_copyI, zi_copyL, zi_m2, zi_m1, zi_sval, zi_scod, zi_fmt, zi_balen, zi_bald, zi_bret, zi_callT, zq_nth, zq_put1, zq_put2, zq_clr, zq_nl, zq_tk, zq_ps, zq_sw, zq_l0, zq_a, zq_a1, List.length_cons, List.length_nil, List.nil_append, List.cons_append, List.append_nil, List.replicate, Nat.reduceAdd, Nat.reduceSub, Nat.reduceLeDiff, true_and, and_true, List.append_eq, List.cons.injEq, Value.int.injEq, Value.long.injEq, Value.ref.injEq, exists_and_left, exists_eq_left', and_assoc, zc_b, zc_0, zc_1, zc_10, zc_01, lg_cmp_ge, lg_cmp_le, lg_cmp_gt, lg_cmp_lt, lg_cmp_eq, zw_le, zw_lt, reduceIte, true_or, or_true, zw_g0, zw_l0, zw_g1, zw_l1, zw_g2, zw_l2, zw_g3, zw_l3, zw_g5, zw_l5, zw_g6, zw_l6, zw_g7, zw_l7, zw_g9, zw_l9, zw_g10, zw_l10, zw_g15, zw_l15, zw_g16, zw_l16, zw_g48, zw_l48, zw_g50, zw_l50, zw_g57, zw_l57, zw_g97, zw_l97, zw_g100, zw_l100, zw_g200, zw_l200, zw_g999, zw_l999, zw_g9999, zw_l9999]
    refine ⟨a, rfl, hX1, ?_⟩
    simp only [xX12_parts_13, xX12_parts_25, zi_push, zi_iload, zi_lload, zi_aload, zi_istore, zi_astore, zi_lstore, zi_iinc, zi_i2, zi_i1, zi_idv, zi_l2, zi_ldv, zi_lsh, zi_i2l, zi_l2i, zi_lcmp, zi_dup, zi_dup2, zi_pop, zi_if1, zi_if2, zi_getI, zi_getL, zi_getR, zi_putI, zi_putZ, zi_putL, zi_aldI, zi_aldL, zi_astI, zi_astZ, zi_astL, zi_alen, zi_iret, zi_zret, zi_lret, zi_vret, zi_callV, zi_callS, zi_sw, zi_copyI, zi_copyL, zi_m2, zi_m1, zi_sval, zi_scod, zi_fmt, zi_balen, zi_bald, zi_bret, zi_callT, zq_nth, zq_put1, zq_put2, zq_clr, zq_nl, zq_tk, zq_ps, zq_sw, zq_l0, zq_a, zq_a1, List.length_cons, List.length_nil, List.nil_append, List.cons_append, List.append_nil, List.replicate, Nat.reduceAdd, Nat.reduceSub, Nat.reduceLeDiff, true_and, and_true, List.append_eq, List.cons.injEq, Value.int.injEq, Value.long.injEq, Value.ref.injEq, exists_and_left, exists_eq_left', and_assoc, zc_b, zc_0, zc_1, zc_10, zc_01, lg_cmp_ge, lg_cmp_le, lg_cmp_gt, lg_cmp_lt, lg_cmp_eq, zw_le, zw_lt, reduceIte, true_or, or_true, zw_g0, zw_l0, zw_g1, zw_l1, zw_g2, zw_l2, zw_g3, zw_l3, zw_g5, zw_l5, zw_g6, zw_l6, zw_g7, zw_l7, zw_g9, zw_l9, zw_g10, zw_l10, zw_g15, zw_l15, zw_g16, zw_l16, zw_g48, zw_l48, zw_g50, zw_l50, zw_g57, zw_l57, zw_g97, zw_l97, zw_g100, zw_l100, zw_g200, zw_l200, zw_g999, zw_l999, zw_g9999, zw_l9999]
    refine ⟨fun q => k0 (fun z => q z.1) _ f0, fun q => ⟨_, _, _, rfl, ?_⟩⟩
    have ec : (1 ≤ v.toInt64 ∧ v.toInt64 ≤ 6) = (1 ≤ v ∧ v ≤ 6) := by
      have e1 : ((1 : Int64) ≤ v.toInt64) = (1 ≤ v) := propext (by rw [Int64.le_iff_toInt_le, Int32.le_iff_toInt_le, Int32.toInt_toInt64]; exact Iff.rfl)
      have e2 : (v.toInt64 ≤ 6) = (v ≤ 6) := propext (by rw [Int64.le_iff_toInt_le, Int32.le_iff_toInt_le, Int32.toInt_toInt64]; exact Iff.rfl)
      rw [e1, e2]
    simp only [ec]
    by_cases c : 1 ≤ v ∧ v ≤ 6
    · rw [if_pos c]
      obtain ⟨g, N, hg2, hN, rfl, rfl⟩ := zptq_n hg ⟨Classical.not_not.mp q, c⟩
      obtain ⟨k2, k⟩ := kk g N hg2 hN rfl rfl
      have c1 : (nI (N + 1) ≤ nI (vn V)) = (N + 1 ≤ vn V) := nI_leP (by omega) (by omega)
      simp only [zc_10, xX12_parts_27, xX12_parts_35, xX12_parts_38, hX1.1.2.1, c1, not_true_eq_false, not_false_eq_true, forall_const, true_and, and_true, false_and, and_false, if_true, if_false, reduceIte, implies_true, and_self, ite_self, true_or, or_true, false_or, or_false, true_implies, false_implies, Classical.not_not, false_imp_iff, not_false_iff, zi_push, zi_iload, zi_lload, zi_aload, zi_istore, zi_astore, zi_lstore, zi_iinc, zi_i2, zi_i1, zi_idv, zi_l2, zi_ldv, zi_lsh, zi_i2l, zi_l2i, zi_lcmp, zi_dup, zi_dup2, zi_pop, zi_if1, zi_if2, zi_getI, zi_getL, zi_getR, zi_putI, zi_putZ, zi_putL, zi_aldI, zi_aldL, zi_astI, zi_astZ, zi_astL, zi_alen, zi_iret, zi_zret, zi_lret, zi_vret, zi_callV, zi_callS, zi_sw, zi_copyI, zi_copyL, zi_m2, zi_m1, zi_sval, zi_scod, zi_fmt, zi_balen, zi_bald, zi_bret, zi_callT, zq_nth, zq_put1, zq_put2, zq_clr, zq_nl, zq_tk, zq_ps, zq_sw, zq_l0, zq_a, zq_a1, List.length_cons, List.length_nil, List.nil_append, List.cons_append, List.append_nil, List.replicate, Nat.reduceAdd, Nat.reduceSub, Nat.reduceLeDiff, true_and, and_true, List.append_eq, List.cons.injEq, Value.int.injEq, Value.long.injEq, Value.ref.injEq, exists_and_left, exists_eq_left', and_assoc, zc_b, zc_0, zc_1, zc_10, zc_01, lg_cmp_ge, lg_cmp_le, lg_cmp_gt, lg_cmp_lt, lg_cmp_eq, zw_le, zw_lt, reduceIte, true_or, or_true, zw_g0, zw_l0, zw_g1, zw_l1, zw_g2, zw_l2, zw_g3, zw_l3, zw_g5, zw_l5, zw_g6, zw_l6, zw_g7, zw_l7, zw_g9, zw_l9, zw_g10, zw_l10, zw_g15, zw_l15, zw_g16, zw_l16, zw_g48, zw_l48, zw_g50, zw_l50, zw_g57, zw_l57, zw_g97, zw_l97, zw_g100, zw_l100, zw_g200, zw_l200, zw_g999, zw_l999, zw_g9999, zw_l9999]
      refine ⟨fun q2 => ⟨rfl, hV, hX1, fun h1 x1 f1 => ?_⟩, fun q2 => k2 (by omega) _ f0⟩
      have lD := zpD_le V g hn N 0
      have yD := zpD_yes V g N 0 (by omega)
      have g1 : zq_fm [43] [] h1 (zq_setI h1 56 43 (-1)) := zq_fm_F zq_fm_rf (by decide)
      have hX2 := MD_fm x1 g1 (by decide)
      simp only [zi_push, zi_iload, zi_lload, zi_aload, zi_istore, zi_astore, zi_lstore, zi_iinc, zi_i2, zi_i1, zi_idv, zi_l2, zi_ldv, zi_lsh, zi_i2l, zi_l2i, zi_lcmp, zi_dup, zi_dup2, zi_pop, zi_if1, zi_if2, zi_getI, zi_getL, zi_getR, zi_putI, zi_putZ, zi_putL, zi_aldI, zi_aldL, zi_astI, zi_astZ, zi_astL, zi_alen, zi_iret, zi_zret, zi_lret, zi_vret, zi_callV, zi_callS, zi_sw, zi_copyI, zi_copyL, zi_m2, zi_m1, zi_sval, zi_scod, zi_fmt, zi_balen, zi_bald, zi_bret, zi_callT, zq_nth, zq_put1, zq_put2, zq_clr, zq_nl, zq_tk, zq_ps, zq_sw, zq_l0, zq_a, zq_a1, List.length_cons, List.length_nil, List.nil_append, List.cons_append, List.append_nil, List.replicate, Nat.reduceAdd, Nat.reduceSub, Nat.reduceLeDiff, true_and, and_true, List.append_eq, List.cons.injEq, Value.int.injEq, Value.long.injEq, Value.ref.injEq, exists_and_left, exists_eq_left', and_assoc, zc_b, zc_0, zc_1, zc_10, zc_01, lg_cmp_ge, lg_cmp_le, lg_cmp_gt, lg_cmp_lt, lg_cmp_eq, zw_le, zw_lt, reduceIte, true_or, or_true, zw_g0, zw_l0, zw_g1, zw_l1, zw_g2, zw_l2, zw_g3, zw_l3, zw_g5, zw_l5, zw_g6, zw_l6, zw_g7, zw_l7, zw_g9, zw_l9, zw_g10, zw_l10, zw_g15, zw_l15, zw_g16, zw_l16, zw_g48, zw_l48, zw_g50, zw_l50, zw_g57, zw_l57, zw_g97, zw_l97, zw_g100, zw_l100, zw_g200, zw_l200, zw_g999, zw_l999, zw_g9999, zw_l9999]
      refine ⟨g, N, N, 0, 2147483647, 2 ^ 20, [], (0, []), rfl, ⟨hN, zmnp_M⟩, ⟨⟨hg2, hN, Nat.zero_add N, by omega, Nat.zero_le _⟩, hX2, fun h2 a91 a92 a93 => ?_⟩, ⟨by rw [zq_sI, if_pos ⟨rfl, rfl⟩]; rfl, Or.inl rfl⟩, fun i x e => by simp [zpE] at e⟩
      have ez : zpvv V g N [] 0 (2 ^ 20) (0, []) = (zpD V g N 0, zgr V g (zpD V g N 0) N 0) := by
        have em : min (2 ^ 20) (zpD V g N 0) = zpD V g N 0 := Nat.min_eq_right (by omega)
        unfold zpvv
        rw [em, if_pos (show (0 : Nat) < _ by omega)]
        rfl
      rw [ez] at a91
      have g2 : zq_fm [1] [] h2 (zq_setI h2 56 1 0) := zq_fm_F zq_fm_rf (by decide)
      have b91 := zpS_fm a91 g2 (by decide)
      simp only [zi_push, zi_iload, zi_lload, zi_aload, zi_istore, zi_astore, zi_lstore, zi_iinc, zi_i2, zi_i1, zi_idv, zi_l2, zi_ldv, zi_lsh, zi_i2l, zi_l2i, zi_lcmp, zi_dup, zi_dup2, zi_pop, zi_if1, zi_if2, zi_getI, zi_getL, zi_getR, zi_putI, zi_putZ, zi_putL, zi_aldI, zi_aldL, zi_astI, zi_astZ, zi_astL, zi_alen, zi_iret, zi_zret, zi_lret, zi_vret, zi_callV, zi_callS, zi_sw, zi_copyI, zi_copyL, zi_m2, zi_m1, zi_sval, zi_scod, zi_fmt, zi_balen, zi_bald, zi_bret, zi_callT, zq_nth, zq_put1, zq_put2, zq_clr, zq_nl, zq_tk, zq_ps, zq_sw, zq_l0, zq_a, zq_a1, List.length_cons, List.length_nil, List.nil_append, List.cons_append, List.append_nil, List.replicate, Nat.reduceAdd, Nat.reduceSub, Nat.reduceLeDiff, true_and, and_true, List.append_eq, List.cons.injEq, Value.int.injEq, Value.long.injEq, Value.ref.injEq, exists_and_left, exists_eq_left', and_assoc, zc_b, zc_0, zc_1, zc_10, zc_01, lg_cmp_ge, lg_cmp_le, lg_cmp_gt, lg_cmp_lt, lg_cmp_eq, zw_le, zw_lt, reduceIte, true_or, or_true, zw_g0, zw_l0, zw_g1, zw_l1, zw_g2, zw_l2, zw_g3, zw_l3, zw_g5, zw_l5, zw_g6, zw_l6, zw_g7, zw_l7, zw_g9, zw_l9, zw_g10, zw_l10, zw_g15, zw_l15, zw_g16, zw_l16, zw_g48, zw_l48, zw_g50, zw_l50, zw_g57, zw_l57, zw_g97, zw_l97, zw_g100, zw_l100, zw_g200, zw_l200, zw_g999, zw_l999, zw_g9999, zw_l9999]
      refine ⟨(h, (g, N), [], zgr V g (zpD V g N 0) N 0), rfl, rfl, ⟨hg2, hN⟩, rfl, zgr_len V g _ N 0, b91.1, ?_, MR_nil h2, zq_fm_t (zq_fm_t (zq_fm_t (zq_fm_t (zq_fm_w f0 (by decide)) f1 (by decide)) g1 (by decide)) a93 (by decide)) g2 (by decide), k q2⟩
      rcases b91.2 with z | z
      · have z2 : zpD V g N 0 = 0 := z
        omega
      · exact z
    · rw [if_neg c]
      simp only [xX12_parts_25, not_true_eq_false, not_false_eq_true, forall_const, true_and, and_true, false_and, and_false, if_true, if_false, reduceIte, implies_true, and_self, ite_self, true_or, or_true, false_or, or_false, true_implies, false_implies, Classical.not_not, false_imp_iff, not_false_iff, zi_push, zi_iload, zi_lload, zi_aload, zi_istore, zi_astore, zi_lstore, zi_iinc, zi_i2, zi_i1, zi_idv, zi_l2, zi_ldv, zi_lsh, zi_i2l, zi_l2i, zi_lcmp, zi_dup, zi_dup2, zi_pop, zi_if1, zi_if2, zi_getI, zi_getL, zi_getR, zi_putI, zi_putZ, zi_putL, zi_aldI, zi_aldL, zi_astI, zi_astZ, zi_astL, zi_alen, zi_iret, zi_zret, zi_lret, zi_vret, zi_callV, zi_callS, zi_sw, zi_copyI, zi_copyL, zi_m2, zi_m1, zi_sval, zi_scod, zi_fmt, zi_balen, zi_bald, zi_bret, zi_callT, zq_nth, zq_put1, zq_put2, zq_clr, zq_nl, zq_tk, zq_ps, zq_sw, zq_l0, zq_a, zq_a1, List.length_cons, List.length_nil, List.nil_append, List.cons_append, List.append_nil, List.replicate, Nat.reduceAdd, Nat.reduceSub, Nat.reduceLeDiff, true_and, and_true, List.append_eq, List.cons.injEq, Value.int.injEq, Value.long.injEq, Value.ref.injEq, exists_and_left, exists_eq_left', and_assoc, zc_b, zc_0, zc_1, zc_10, zc_01, lg_cmp_ge, lg_cmp_le, lg_cmp_gt, lg_cmp_lt, lg_cmp_eq, zw_le, zw_lt, reduceIte, true_or, or_true, zw_g0, zw_l0, zw_g1, zw_l1, zw_g2, zw_l2, zw_g3, zw_l3, zw_g5, zw_l5, zw_g6, zw_l6, zw_g7, zw_l7, zw_g9, zw_l9, zw_g10, zw_l10, zw_g15, zw_l15, zw_g16, zw_l16, zw_g48, zw_l48, zw_g50, zw_l50, zw_g57, zw_l57, zw_g97, zw_l97, zw_g100, zw_l100, zw_g200, zw_l200, zw_g999, zw_l999, zw_g9999, zw_l9999]
      exact k0 (fun z => c z.2) _ f0
  · obtain ⟨h0, ⟨g, N⟩, l1, l2⟩ := z
    obtain ⟨rfl, rfl, ⟨hg, hN⟩, ew, el, e43, hA, hR, hf, k⟩ := hi
    rw [List.length_append] at el
    have c1 : (nI (N + 1) ≤ nI l1.length) = (l1.length = N + 1) := zl_ge (by omega) (by omega)
    simp only [xX12_parts_65, xX12_parts_70, xX12_parts_87, c1, e43, nI_clamp (show l1.length < 2 ^ 31 by omega), zi_push, zi_iload, zi_lload, zi_aload, zi_istore, zi_astore, zi_lstore, zi_iinc, zi_i2, zi_i1, zi_idv, zi_l2, zi_ldv, zi_lsh, zi_i2l, zi_l2i, zi_lcmp, zi_dup, zi_dup2, zi_pop, zi_if1, zi_if2, zi_getI, zi_getL, zi_getR, zi_putI, zi_putZ, zi_putL, zi_aldI, zi_aldL, zi_astI, zi_astZ, zi_astL, zi_alen, zi_iret, zi_zret, zi_lret, zi_vret, zi_callV, zi_callS, zi_sw, zi_copyI, zi_copyL, zi_m2, zi_m1, zi_sval, zi_scod, zi_fmt, zi_balen, zi_bald, zi_bret, zi_callT, zq_nth, zq_put1, zq_put2, zq_clr, zq_nl, zq_tk, zq_ps, zq_sw, zq_l0, zq_a, zq_a1, List.length_cons, List.length_nil, List.nil_append, List.cons_append, List.append_nil, List.replicate, Nat.reduceAdd, Nat.reduceSub, Nat.reduceLeDiff, true_and, and_true, List.append_eq, List.cons.injEq, Value.int.injEq, Value.long.injEq, Value.ref.injEq, exists_and_left, exists_eq_left', and_assoc, zc_b, zc_0, zc_1, zc_10, zc_01, lg_cmp_ge, lg_cmp_le, lg_cmp_gt, lg_cmp_lt, lg_cmp_eq, zw_le, zw_lt, reduceIte, true_or, or_true, zw_g0, zw_l0, zw_g1, zw_l1, zw_g2, zw_l2, zw_g3, zw_l3, zw_g5, zw_l5, zw_g6, zw_l6, zw_g7, zw_l7, zw_g9, zw_l9, zw_g10, zw_l10, zw_g15, zw_l15, zw_g16, zw_l16, zw_g48, zw_l48, zw_g50, zw_l50, zw_g57, zw_l57, zw_g97, zw_l97, zw_g100, zw_l100, zw_g200, zw_l200, zw_g999, zw_l999, zw_g9999, zw_l9999]
    refine ⟨fun q => ?_, fun q => ⟨vp_in_nI (by omega) (by decide), ?_⟩⟩
    · obtain rfl : l2 = [] := List.length_eq_zero_iff.mp (by omega)
      rw [List.append_nil] at ew
      rw [ew] at k
      exact k h hR hf
    · obtain ⟨x, l3, rfl⟩ : ∃ x l3, l2 = x :: l3 := by
        cases l2 with
        | nil => exact absurd (show l1.length = N + 1 by simpa using el) q
        | cons x l3 => exact ⟨x, l3, rfl⟩
      have e84 : h.1 84 l1.length = nI x - 1 := hA _ _ (by
        unfold zpE
        rw [List.map_append, List.getElem?_append_right (by rw [List.length_map]; exact Nat.le_refl _), List.length_map, Nat.sub_self]
        rfl)
      rw [List.length_cons] at el
      rw [e84]
      refine ⟨_, _, rfl, hR, by unfold zpW; rw [List.length_map]; omega, fun h1 r1 f1 => ?_⟩
      simp only [nI_1, zi_push, zi_iload, zi_lload, zi_aload, zi_istore, zi_astore, zi_lstore, zi_iinc, zi_i2, zi_i1, zi_idv, zi_l2, zi_ldv, zi_lsh, zi_i2l, zi_l2i, zi_lcmp, zi_dup, zi_dup2, zi_pop, zi_if1, zi_if2, zi_getI, zi_getL, zi_getR, zi_putI, zi_putZ, zi_putL, zi_aldI, zi_aldL, zi_astI, zi_astZ, zi_astL, zi_alen, zi_iret, zi_zret, zi_lret, zi_vret, zi_callV, zi_callS, zi_sw, zi_copyI, zi_copyL, zi_m2, zi_m1, zi_sval, zi_scod, zi_fmt, zi_balen, zi_bald, zi_bret, zi_callT, zq_nth, zq_put1, zq_put2, zq_clr, zq_nl, zq_tk, zq_ps, zq_sw, zq_l0, zq_a, zq_a1, List.length_cons, List.length_nil, List.nil_append, List.cons_append, List.append_nil, List.replicate, Nat.reduceAdd, Nat.reduceSub, Nat.reduceLeDiff, true_and, and_true, List.append_eq, List.cons.injEq, Value.int.injEq, Value.long.injEq, Value.ref.injEq, exists_and_left, exists_eq_left', and_assoc, zc_b, zc_0, zc_1, zc_10, zc_01, lg_cmp_ge, lg_cmp_le, lg_cmp_gt, lg_cmp_lt, lg_cmp_eq, zw_le, zw_lt, reduceIte, true_or, or_true, zw_g0, zw_l0, zw_g1, zw_l1, zw_g2, zw_l2, zw_g3, zw_l3, zw_g5, zw_l5, zw_g6, zw_l6, zw_g7, zw_l7, zw_g9, zw_l9, zw_g10, zw_l10, zw_g15, zw_l15, zw_g16, zw_l16, zw_g48, zw_l48, zw_g50, zw_l50, zw_g57, zw_l57, zw_g97, zw_l97, zw_g100, zw_l100, zw_g200, zw_l200, zw_g999, zw_l999, zw_g9999, zw_l9999]
      have ea : l1 ++ [x] ++ l3 = l1 ++ x :: l3 := by rw [List.append_assoc]; rfl
      have el1 : (l1 ++ [x]).length = l1.length + 1 := by rw [List.length_append]; rfl
      exact ⟨(h0, (g, N), l1 ++ [x], l3), Nat.lt_succ_self _, by rw [el1], rfl, ⟨hg, hN⟩, by rw [ea]; exact ew, by rw [ea, List.length_append, List.length_cons]; exact el, by rw [(f1.2 43 (by decide)).1]; exact e43, by rw [ea]; exact zAt_fm hA f1 (by decide), by rw [zpW_app]; exact r1, zq_fm_t hf f1 (by decide), k⟩
theorem j_parts {V : zV} (hV : ZV V) (hg : vg V ≤ 6) (a v : Int32) : zJ V (zE sp_xParts) (zE2 sp_mParts) [.int a, .int v] := by
  by_cases q : zptq V a v
  · obtain ⟨g, N, hg2, hN, rfl, rfl⟩ := zptq_n hg q
    have one : ∀ g' N', g' < vg V → N' ≤ 5 → nI g = nI g' → nI (N + 1) = nI (N' + 1) → g' = g ∧ N' = N := fun g' N' h1 h2 e1 e2 => by
      have y1 := nI_is (n := vg V) (by omega) hg2 h1 e1
      have y2 := nI_is (n := 7) (by omega) (show N + 1 < 7 by omega) (show N' + 1 < 7 by omega) e2
      exact ⟨y1, by omega⟩
    by_cases c : N + 1 ≤ vn V
    · refine ⟨nI (zpD V g N 0) - 1, vSW V (zpW (zgr V g (zpD V g N 0) N 0)), hV, fun h Q hA k => ⟨V, _, _, rfl, hA.1, fun z => absurd q z, fun g' N' h1 h2 e1 e2 => ?_⟩, fun b h Q hb hA k => ⟨b, V, _, _, rfl, hV, hA.1, fun z => absurd q z, fun g' N' h1 h2 e1 e2 => ?_⟩⟩
      · obtain ⟨rfl, rfl⟩ := one g' N' h1 h2 e1 e2
        exact ⟨fun z => by omega, fun _ h' r f => k h' (XA_W hA r f (by decide)) (zXf f (by decide))⟩
      · obtain ⟨rfl, rfl⟩ := one g' N' h1 h2 e1 e2
        exact ⟨fun z => by omega, fun _ h' r f => k h' (MA_W hA r f (by decide)) (zMf f (by decide))⟩
    · refine ⟨-2, V, hV, fun h Q hA k => ⟨V, _, _, rfl, hA.1, fun z => absurd q z, fun g' N' h1 h2 e1 e2 => ?_⟩, fun b h Q hb hA k => ⟨b, V, _, _, rfl, hV, hA.1, fun z => absurd q z, fun g' N' h1 h2 e1 e2 => ?_⟩⟩
      · obtain ⟨rfl, rfl⟩ := one g' N' h1 h2 e1 e2
        exact ⟨fun _ => k h hA zXf_rf, fun z => absurd z c⟩
      · obtain ⟨rfl, rfl⟩ := one g' N' h1 h2 e1 e2
        exact ⟨fun _ h' f => k h' (MA_fm hA f (by decide)) (zMf f (by decide)), fun z => absurd z c⟩
  · have no : ∀ g N, g < vg V → N ≤ 5 → a = nI g → v = nI (N + 1) → False := fun g N h1 h2 e1 e2 => q (by
      subst e1 e2
      exact ⟨nI_bt (by omega) h1, (nI_leI (a := 1) (by decide) (by omega)).mpr (by omega), (nI_leI (b := 6) (by omega) (by decide)).mpr (by omega)⟩)
    exact ⟨-1, V, hV, fun h Q hA k => ⟨V, a, v, rfl, hA.1, fun _ => k h hA zXf_rf, fun g N h1 h2 e1 e2 => (no g N h1 h2 e1 e2).elim⟩, fun b h Q hb hA k => ⟨b, V, a, v, rfl, hV, hA.1, fun _ h' f => k h' (MA_fm hA f (by decide)) (zMf f (by decide)), fun g N h1 h2 e1 e2 => (no g N h1 h2 e1 e2).elim⟩⟩
