/-! ===== the reference: endFor, isTurnLess, serves, canServe ===== -/
def sp_endFor (b : Nat) (V : zV) (p : Nat) : zq_Sp := fun args h Q => ∃ j s, args = [.ref 56, .int (nI j), .int (nI s), .int (nI p)] ∧ (j < vg V ∧ s ≤ vn V ∧ p ≤ 1000) ∧ ZV V ∧ MD b V h ∧ (zgR V p j s ≤ vn V → Q (some (.int (nI (zgR V p j s)))) h) ∧ (¬ zgR V p j s ≤ vn V → Q (some (.int 1000)) h)
def I_endFor (b : Nat) (V : zV) (p : Nat) (Q : zq_Q) (z : Nat × Nat × Nat) : zq_P := fun ls st h => match z with
  | (j, s, u) => ls = [some (.ref 56), some (.int (nI j)), some (.int (nI s)), some (.int (nI p)), some (.long (lN (vS V j u - vS V j s))), none, some (.int (nI u))] ∧ st = [] ∧ (j < vg V ∧ s ≤ u ∧ u ≤ vn V ∧ p ≤ 1000) ∧ (∀ v, s ≤ v → v < u → zdw V j (vS V j v - vS V j s) p) ∧ ZV V ∧ MD b V h ∧ (zgR V p j s ≤ vn V → Q (some (.int (nI (zgR V p j s)))) h) ∧ (¬ zgR V p j s ≤ vn V → Q (some (.int 1000)) h)
theorem ok_endFor (b : Nat) (V : zV) (p : Nat) : zq_M yX12_endFor cX12_endFor 7 (some .int) 1 2 (sp_endFor b V p) := by
  refine mX12_endFor (ok_mIsDueV b V) (by decide) (fun z => 20 - z.2.2) (I_endFor b V p) (fun args h Q hs => ?_) (fun Q z ls st h hi => ?_)
  · obtain ⟨j, s, rfl, ⟨hj, hs, hp⟩, hV, hX, k1, k2⟩ := hs
    refine ⟨Nat.le_of_ble_eq_true rfl, ?_⟩
    simp only [xX12_endFor_0, zi_push, zi_iload, zi_lload, zi_aload, zi_istore, zi_astore, zi_lstore, zi_iinc, zi_i2, zi_i1, zi_idv, zi_l2, zi_ldv, zi_lsh, zi_i2l, zi_l2i, zi_lcmp, zi_dup, zi_dup2, zi_pop, zi_if1, zi_if2, zi_getI, zi_getL, zi_getR, zi_putI, zi_putZ, zi_putL, zi_aldI, zi_aldL, zi_astI, zi_astZ, zi_astL, zi_alen, zi_iret, zi_zret, zi_lret, zi_vret, zi_callV, zi_callS, zi_sw, zi_copyI, zi_copyL, zi_m2, zi_m1, zi_sval, zi_scod, zi_fmt, zi_balen, zi_bald, zi_bret, zi_callT, zq_nth, zq_put1, zq_put2, zq_clr, zq_nl, zq_tk, zq_ps, zq_sw, zq_l0, zq_a, zq_a1, List.length_cons, List.length_nil, List.nil_append, List.cons_append, List.append_nil, List.replicate, Nat.reduceAdd, Nat.reduceSub, Nat.reduceLeDiff, true_and, and_true, List.append_eq, List.cons.injEq, Value.int.injEq, Value.long.injEq, Value.ref.injEq, exists_and_left, exists_eq_left', and_assoc, zc_b, zc_0, zc_1, zc_10, zc_01, lg_cmp_ge, lg_cmp_le, lg_cmp_gt, lg_cmp_lt, lg_cmp_eq, zw_le, zw_lt, reduceIte, true_or, or_true, zw_g0, zw_l0, zw_g1, zw_l1, zw_g2, zw_l2, zw_g3, zw_l3, zw_g5, zw_l5, zw_g6, zw_l6, zw_g7, zw_l7, zw_g9, zw_l9, zw_g10, zw_l10, zw_g15, zw_l15, zw_g16, zw_l16, zw_g48, zw_l48, zw_g50, zw_l50, zw_g57, zw_l57, zw_g97, zw_l97, zw_g100, zw_l100, zw_g200, zw_l200, zw_g999, zw_l999, zw_g9999, zw_l9999]
    exact ⟨(j, s, s), by rw [Nat.sub_self]; rfl, rfl, ⟨hj, Nat.le_refl _, hs, hp⟩, fun v h1 h2 => by omega, hV, hX, k1, k2⟩
  · obtain ⟨j, s, u⟩ := z
    obtain ⟨rfl, rfl, ⟨hj, hsu, hu, hp⟩, hno, hV, hX, k1, k2⟩ := hi
    have hn := hX.1.1.1
    have hg := hX.1.2.1.1
    have ln := vS_le V j u
    have er : zgR V p j s = zsho V ((zgP V p).2.1 j) ((zgP V p).2.2.1 j) ((zgP V p).2.2.2 j) s := by
      unfold zgR zPR zrch
      rw [if_neg (by omega)]
      rfl
    have c3 : (nI u = nI (vn V)) = (u = vn V) := nI_eqP (by omega) (by omega)
    simp only [xX12_endFor_6, zi_push, zi_iload, zi_lload, zi_aload, zi_istore, zi_astore, zi_lstore, zi_iinc, zi_i2, zi_i1, zi_idv, zi_l2, zi_ldv, zi_lsh, zi_i2l, zi_l2i, zi_lcmp, zi_dup, zi_dup2, zi_pop, zi_if1, zi_if2, zi_getI, zi_getL, zi_getR, zi_putI, zi_putZ, zi_putL, zi_aldI, zi_aldL, zi_astI, zi_astZ, zi_astL, zi_alen, zi_iret, zi_zret, zi_lret, zi_vret, zi_callV, zi_callS, zi_sw, zi_copyI, zi_copyL, zi_m2, zi_m1, zi_sval, zi_scod, zi_fmt, zi_balen, zi_bald, zi_bret, zi_callT, zq_nth, zq_put1, zq_put2, zq_clr, zq_nl, zq_tk, zq_ps, zq_sw, zq_l0, zq_a, zq_a1, List.length_cons, List.length_nil, List.nil_append, List.cons_append, List.append_nil, List.replicate, Nat.reduceAdd, Nat.reduceSub, Nat.reduceLeDiff, true_and, and_true, List.append_eq, List.cons.injEq, Value.int.injEq, Value.long.injEq, Value.ref.injEq, exists_and_left, exists_eq_left', and_assoc, zc_b, zc_0, zc_1, zc_10, zc_01, lg_cmp_ge, lg_cmp_le, lg_cmp_gt, lg_cmp_lt, lg_cmp_eq, zw_le, zw_lt, reduceIte, true_or, or_true, zw_g0, zw_l0, zw_g1, zw_l1, zw_g2, zw_l2, zw_g3, zw_l3, zw_g5, zw_l5, zw_g6, zw_l6, zw_g7, zw_l7, zw_g9, zw_l9, zw_g10, zw_l10, zw_g15, zw_l15, zw_g16, zw_l16, zw_g48, zw_l48, zw_g50, zw_l50, zw_g57, zw_l57, zw_g97, zw_l97, zw_g100, zw_l100, zw_g200, zw_l200, zw_g999, zw_l999, zw_g9999, zw_l9999]
    refine ⟨j, vS V j u - vS V j s, p, rfl, hj, by omega, hp, hV, hX, fun q => ?_, fun q => ?_⟩
    · simp only [xX12_endFor_17, hX.1.1.2.1, c3, not_true_eq_false, not_false_eq_true, forall_const, true_and, and_true, false_and, and_false, if_true, if_false, reduceIte, implies_true, and_self, ite_self, true_or, or_true, false_or, or_false, true_implies, false_implies, Classical.not_not, false_imp_iff, not_false_iff, zi_push, zi_iload, zi_lload, zi_aload, zi_istore, zi_astore, zi_lstore, zi_iinc, zi_i2, zi_i1, zi_idv, zi_l2, zi_ldv, zi_lsh, zi_i2l, zi_l2i, zi_lcmp, zi_dup, zi_dup2, zi_pop, zi_if1, zi_if2, zi_getI, zi_getL, zi_getR, zi_putI, zi_putZ, zi_putL, zi_aldI, zi_aldL, zi_astI, zi_astZ, zi_astL, zi_alen, zi_iret, zi_zret, zi_lret, zi_vret, zi_callV, zi_callS, zi_sw, zi_copyI, zi_copyL, zi_m2, zi_m1, zi_sval, zi_scod, zi_fmt, zi_balen, zi_bald, zi_bret, zi_callT, zq_nth, zq_put1, zq_put2, zq_clr, zq_nl, zq_tk, zq_ps, zq_sw, zq_l0, zq_a, zq_a1, List.length_cons, List.length_nil, List.nil_append, List.cons_append, List.append_nil, List.replicate, Nat.reduceAdd, Nat.reduceSub, Nat.reduceLeDiff, true_and, and_true, List.append_eq, List.cons.injEq, Value.int.injEq, Value.long.injEq, Value.ref.injEq, exists_and_left, exists_eq_left', and_assoc, zc_b, zc_0, zc_1, zc_10, zc_01, lg_cmp_ge, lg_cmp_le, lg_cmp_gt, lg_cmp_lt, lg_cmp_eq, zw_le, zw_lt, reduceIte, true_or, or_true, zw_g0, zw_l0, zw_g1, zw_l1, zw_g2, zw_l2, zw_g3, zw_l3, zw_g5, zw_l5, zw_g6, zw_l6, zw_g7, zw_l7, zw_g9, zw_l9, zw_g10, zw_l10, zw_g15, zw_l15, zw_g16, zw_l16, zw_g48, zw_l48, zw_g50, zw_l50, zw_g57, zw_l57, zw_g97, zw_l97, zw_g100, zw_l100, zw_g200, zw_l200, zw_g999, zw_l999, zw_g9999, zw_l9999]
      refine ⟨fun q2 => ?_, fun q2 => ?_⟩
      · refine k2 (fun z => ?_)
        rw [er, zsho_no (by omega) (fun v h1 h2 => ?_)] at z
        · omega
        · by_cases c : v = u
          · rw [c]
            have q9 := q
            rw [zdw_i] at q9
            exact q9
          · have := hno v h1 (by omega)
            rw [zdw_i] at this
            exact this
      · have e1 : vS V j (u + 1) = vS V j u + vwN V j u := rfl
        have hmo := vS_mono (V := V) (j := j) hsu
        have hw := (vwN_eq V j u).2
        simp only [xX12_endFor_30, z16b, zi_push, zi_iload, zi_lload, zi_aload, zi_istore, zi_astore, zi_lstore, zi_iinc, zi_i2, zi_i1, zi_idv, zi_l2, zi_ldv, zi_lsh, zi_i2l, zi_l2i, zi_lcmp, zi_dup, zi_dup2, zi_pop, zi_if1, zi_if2, zi_getI, zi_getL, zi_getR, zi_putI, zi_putZ, zi_putL, zi_aldI, zi_aldL, zi_astI, zi_astZ, zi_astL, zi_alen, zi_iret, zi_zret, zi_lret, zi_vret, zi_callV, zi_callS, zi_sw, zi_copyI, zi_copyL, zi_m2, zi_m1, zi_sval, zi_scod, zi_fmt, zi_balen, zi_bald, zi_bret, zi_callT, zq_nth, zq_put1, zq_put2, zq_clr, zq_nl, zq_tk, zq_ps, zq_sw, zq_l0, zq_a, zq_a1, List.length_cons, List.length_nil, List.nil_append, List.cons_append, List.append_nil, List.replicate, Nat.reduceAdd, Nat.reduceSub, Nat.reduceLeDiff, true_and, and_true, List.append_eq, List.cons.injEq, Value.int.injEq, Value.long.injEq, Value.ref.injEq, exists_and_left, exists_eq_left', and_assoc, zc_b, zc_0, zc_1, zc_10, zc_01, lg_cmp_ge, lg_cmp_le, lg_cmp_gt, lg_cmp_lt, lg_cmp_eq, zw_le, zw_lt, reduceIte, true_or, or_true, zw_g0, zw_l0, zw_g1, zw_l1, zw_g2, zw_l2, zw_g3, zw_l3, zw_g5, zw_l5, zw_g6, zw_l6, zw_g7, zw_l7, zw_g9, zw_l9, zw_g10, zw_l10, zw_g15, zw_l15, zw_g16, zw_l16, zw_g48, zw_l48, zw_g50, zw_l50, zw_g57, zw_l57, zw_g97, zw_l97, zw_g100, zw_l100, zw_g200, zw_l200, zw_g999, zw_l999, zw_g9999, zw_l9999]
        rw [nI_clamp (by omega), (hX.2.2 _ hj).1 u (by omega), (vwN_eq V _ u).1, nI_l (by omega), lN_add, show vS V j u - vS V j s + vwN V j u = vS V j (u + 1) - vS V j s by omega, nI_1]
        refine ⟨vp_in_nI (by omega) (by decide), (j, s, u + 1), by dsimp only; omega, rfl, rfl, ⟨hj, by omega, by omega, hp⟩, fun v h1 h2 => ?_, hV, hX, k1, k2⟩
        by_cases c : v = u
        · rw [c]
          exact q
        · exact hno v h1 (by omega)
    · have eu : zgR V p j s = u := by
        rw [er]
        refine zsho_is hsu hu ?_ (fun v h1 h2 => ?_)
        · have q9 := q
          rw [zdw_i, Classical.not_not] at q9
          exact q9
        · have := hno v h1 h2
          rw [zdw_i] at this
          exact this
      simp only [zc_10, xX12_endFor_54, not_true_eq_false, not_false_eq_true, forall_const, true_and, and_true, false_and, and_false, if_true, if_false, reduceIte, implies_true, and_self, ite_self, true_or, or_true, false_or, or_false, true_implies, false_implies, Classical.not_not, false_imp_iff, not_false_iff, zi_push, zi_iload, zi_lload, zi_aload, zi_istore, zi_astore, zi_lstore, zi_iinc, zi_i2, zi_i1, zi_idv, zi_l2, zi_ldv, zi_lsh, zi_i2l, zi_l2i, zi_lcmp, zi_dup, zi_dup2, zi_pop, zi_if1, zi_if2, zi_getI, zi_getL, zi_getR, zi_putI, zi_putZ, zi_putL, zi_aldI, zi_aldL, zi_astI, zi_astZ, zi_astL, zi_alen, zi_iret, zi_zret, zi_lret, zi_vret, zi_callV, zi_callS, zi_sw, zi_copyI, zi_copyL, zi_m2, zi_m1, zi_sval, zi_scod, zi_fmt, zi_balen, zi_bald, zi_bret, zi_callT, zq_nth, zq_put1, zq_put2, zq_clr, zq_nl, zq_tk, zq_ps, zq_sw, zq_l0, zq_a, zq_a1, List.length_cons, List.length_nil, List.nil_append, List.cons_append, List.append_nil, List.replicate, Nat.reduceAdd, Nat.reduceSub, Nat.reduceLeDiff, true_and, and_true, List.append_eq, List.cons.injEq, Value.int.injEq, Value.long.injEq, Value.ref.injEq, exists_and_left, exists_eq_left', and_assoc, zc_b, zc_0, zc_1, zc_10, zc_01, lg_cmp_ge, lg_cmp_le, lg_cmp_gt, lg_cmp_lt, lg_cmp_eq, zw_le, zw_lt, reduceIte, true_or, or_true, zw_g0, zw_l0, zw_g1, zw_l1, zw_g2, zw_l2, zw_g3, zw_l3, zw_g5, zw_l5, zw_g6, zw_l6, zw_g7, zw_l7, zw_g9, zw_l9, zw_g10, zw_l10, zw_g15, zw_l15, zw_g16, zw_l16, zw_g48, zw_l48, zw_g50, zw_l50, zw_g57, zw_l57, zw_g97, zw_l97, zw_g100, zw_l100, zw_g200, zw_l200, zw_g999, zw_l999, zw_g9999, zw_l9999]
      rw [eu] at k1
      exact k1 hu
def sp_tl : zq_Sp := fun args h Q => ∃ d N, args = [.ref 56, .int (nI N)] ∧ (d < N ∧ N ≤ 12) ∧ (∀ k, k < d → h.1 81 k = h.1 82 k) ∧ h.1 82 d < h.1 81 d ∧ Q (some (.int 0)) h
def I_tl (Q : zq_Q) (z : Nat × Nat × Nat) : zq_P := fun ls st h => match z with
  | (d, N, t) => ls = [some (.ref 56), some (.int (nI N)), some (.int (nI t))] ∧ st = [] ∧ (d < N ∧ N ≤ 12 ∧ t ≤ d) ∧ (∀ k, k < d → h.1 81 k = h.1 82 k) ∧ h.1 82 d < h.1 81 d ∧ Q (some (.int 0)) h
theorem ok_tl : zq_M yX12_isTurnLess cX12_isTurnLess 3 (some .boolean) 1 0 sp_tl := by
  refine mX12_isTurnLess (fun z => 20 - z.2.2) I_tl (fun args h Q hs => ?_) (fun Q z ls st h hi => ?_)
  · obtain ⟨d, N, rfl, hd, he, hl, k⟩ := hs
    refine ⟨Nat.le_of_ble_eq_true rfl, ?_⟩
    simp only [xX12_isTurnLess_0, zi_push, zi_iload, zi_lload, zi_aload, zi_istore, zi_astore, zi_lstore, zi_iinc, zi_i2, zi_i1, zi_idv, zi_l2, zi_ldv, zi_lsh, zi_i2l, zi_l2i, zi_lcmp, zi_dup, zi_dup2, zi_pop, zi_if1, zi_if2, zi_getI, zi_getL, zi_getR, zi_putI, zi_putZ, zi_putL, zi_aldI, zi_aldL, zi_astI, zi_astZ, zi_astL, zi_alen, zi_iret, zi_zret, zi_lret, zi_vret, zi_callV, zi_callS, zi_sw, zi_copyI, zi_copyL, zi_m2, zi_m1, zi_sval, zi_scod, zi_fmt, zi_balen, zi_bald, zi_bret, zi_callT, zq_nth, zq_put1, zq_put2, zq_clr, zq_nl, zq_tk, zq_ps, zq_sw, zq_l0, zq_a, zq_a1, List.length_cons, List.length_nil, List.nil_append, List.cons_append, List.append_nil, List.replicate, Nat.reduceAdd, Nat.reduceSub, Nat.reduceLeDiff, true_and, and_true, List.append_eq, List.cons.injEq, Value.int.injEq, Value.long.injEq, Value.ref.injEq, exists_and_left, exists_eq_left', and_assoc, zc_b, zc_0, zc_1, zc_10, zc_01, lg_cmp_ge, lg_cmp_le, lg_cmp_gt, lg_cmp_lt, lg_cmp_eq, zw_le, zw_lt, reduceIte, true_or, or_true, zw_g0, zw_l0, zw_g1, zw_l1, zw_g2, zw_l2, zw_g3, zw_l3, zw_g5, zw_l5, zw_g6, zw_l6, zw_g7, zw_l7, zw_g9, zw_l9, zw_g10, zw_l10, zw_g15, zw_l15, zw_g16, zw_l16, zw_g48, zw_l48, zw_g50, zw_l50, zw_g57, zw_l57, zw_g97, zw_l97, zw_g100, zw_l100, zw_g200, zw_l200, zw_g999, zw_l999, zw_g9999, zw_l9999]
    exact ⟨(d, N, 0), rfl, rfl, ⟨hd.1, hd.2, Nat.zero_le _⟩, he, hl, k⟩
  · obtain ⟨d, N, t⟩ := z
    obtain ⟨rfl, rfl, ⟨hd, hN, ht⟩, he, hl, k⟩ := hi
    have c1 : (nI N ≤ nI t) = False := by rw [nI_leP (by omega) (by omega)]; exact eq_false (by omega)
    have v12 : vp_in (nI t) 12 = True := eq_true (vp_in_nI (by omega) (by decide))
    by_cases c : t = d
    · subst c
      have c2 : (h.1 81 t = h.1 82 t) = False := eq_false (fun z => by rw [z] at hl; exact Int32.lt_irrefl hl)
      have c4 : (h.1 82 t ≤ h.1 81 t) = True := eq_true (Int32.le_of_lt hl)
      simp only [xX12_isTurnLess_2, xX12_isTurnLess_7, xX12_isTurnLess_22, xX12_isTurnLess_41, xX12_isTurnLess_42, c1, v12, nI_clamp (show t < 2 ^ 31 by omega), c2, c4, not_true_eq_false, not_false_eq_true, forall_const, true_and, and_true, false_and, and_false, if_true, if_false, reduceIte, implies_true, and_self, ite_self, true_or, or_true, false_or, or_false, true_implies, false_implies, Classical.not_not, false_imp_iff, not_false_iff, zi_push, zi_iload, zi_lload, zi_aload, zi_istore, zi_astore, zi_lstore, zi_iinc, zi_i2, zi_i1, zi_idv, zi_l2, zi_ldv, zi_lsh, zi_i2l, zi_l2i, zi_lcmp, zi_dup, zi_dup2, zi_pop, zi_if1, zi_if2, zi_getI, zi_getL, zi_getR, zi_putI, zi_putZ, zi_putL, zi_aldI, zi_aldL, zi_astI, zi_astZ, zi_astL, zi_alen, zi_iret, zi_zret, zi_lret, zi_vret, zi_callV, zi_callS, zi_sw, zi_copyI, zi_copyL, zi_m2, zi_m1, zi_sval, zi_scod, zi_fmt, zi_balen, zi_bald, zi_bret, zi_callT, zq_nth, zq_put1, zq_put2, zq_clr, zq_nl, zq_tk, zq_ps, zq_sw, zq_l0, zq_a, zq_a1, List.length_cons, List.length_nil, List.nil_append, List.cons_append, List.append_nil, List.replicate, Nat.reduceAdd, Nat.reduceSub, Nat.reduceLeDiff, true_and, and_true, List.append_eq, List.cons.injEq, Value.int.injEq, Value.long.injEq, Value.ref.injEq, exists_and_left, exists_eq_left', and_assoc, zc_b, zc_0, zc_1, zc_10, zc_01, lg_cmp_ge, lg_cmp_le, lg_cmp_gt, lg_cmp_lt, lg_cmp_eq, zw_le, zw_lt, reduceIte, true_or, or_true, zw_g0, zw_l0, zw_g1, zw_l1, zw_g2, zw_l2, zw_g3, zw_l3, zw_g5, zw_l5, zw_g6, zw_l6, zw_g7, zw_l7, zw_g9, zw_l9, zw_g10, zw_l10, zw_g15, zw_l15, zw_g16, zw_l16, zw_g48, zw_l48, zw_g50, zw_l50, zw_g57, zw_l57, zw_g97, zw_l97, zw_g100, zw_l100, zw_g200, zw_l200, zw_g999, zw_l999, zw_g9999, zw_l9999]
      exact k
    · have c2 : (h.1 81 t = h.1 82 t) = True := eq_true (he t (by omega))
      simp only [xX12_isTurnLess_2, xX12_isTurnLess_7, xX12_isTurnLess_43, c1, v12, nI_clamp (show t < 2 ^ 31 by omega), c2, nI_1, not_true_eq_false, not_false_eq_true, forall_const, true_and, and_true, false_and, and_false, if_true, if_false, reduceIte, implies_true, and_self, ite_self, true_or, or_true, false_or, or_false, true_implies, false_implies, Classical.not_not, false_imp_iff, not_false_iff, zi_push, zi_iload, zi_lload, zi_aload, zi_istore, zi_astore, zi_lstore, zi_iinc, zi_i2, zi_i1, zi_idv, zi_l2, zi_ldv, zi_lsh, zi_i2l, zi_l2i, zi_lcmp, zi_dup, zi_dup2, zi_pop, zi_if1, zi_if2, zi_getI, zi_getL, zi_getR, zi_putI, zi_putZ, zi_putL, zi_aldI, zi_aldL, zi_astI, zi_astZ, zi_astL, zi_alen, zi_iret, zi_zret, zi_lret, zi_vret, zi_callV, zi_callS, zi_sw, zi_copyI, zi_copyL, zi_m2, zi_m1, zi_sval, zi_scod, zi_fmt, zi_balen, zi_bald, zi_bret, zi_callT, zq_nth, zq_put1, zq_put2, zq_clr, zq_nl, zq_tk, zq_ps, zq_sw, zq_l0, zq_a, zq_a1, List.length_cons, List.length_nil, List.nil_append, List.cons_append, List.append_nil, List.replicate, Nat.reduceAdd, Nat.reduceSub, Nat.reduceLeDiff, true_and, and_true, List.append_eq, List.cons.injEq, Value.int.injEq, Value.long.injEq, Value.ref.injEq, exists_and_left, exists_eq_left', and_assoc, zc_b, zc_0, zc_1, zc_10, zc_01, lg_cmp_ge, lg_cmp_le, lg_cmp_gt, lg_cmp_lt, lg_cmp_eq, zw_le, zw_lt, reduceIte, true_or, or_true, zw_g0, zw_l0, zw_g1, zw_l1, zw_g2, zw_l2, zw_g3, zw_l3, zw_g5, zw_l5, zw_g6, zw_l6, zw_g7, zw_l7, zw_g9, zw_l9, zw_g10, zw_l10, zw_g15, zw_l15, zw_g16, zw_l16, zw_g48, zw_l48, zw_g50, zw_l50, zw_g57, zw_l57, zw_g97, zw_l97, zw_g100, zw_l100, zw_g200, zw_l200, zw_g999, zw_l999, zw_g9999, zw_l9999]
      exact ⟨(d, N, t + 1), by dsimp only; omega, rfl, rfl, ⟨hd, hN, by omega⟩, he, hl, k⟩
/-- a row as far as told -/
def zAt (q : Nat) (w : List Int32) (h : zq_H) : Prop := ∀ k x, w[k]? = some x → h.1 q k = x
theorem zAt_fm {q : Nat} {w : List Int32} {fs ps : List Nat} {h h' : zq_H} (k : zAt q w h) (f : zq_fm fs ps h h') (d : q ∉ ps ∧ q ≠ 56) : zAt q w h' := by
  unfold zAt at *
  rw [(f.1 q d.2 d.1).1]
  exact k
theorem zAt_app {q : Nat} {w v : List Int32} {h : zq_H} (k : zAt q (w ++ v) h) : zAt q w h := fun i x e => k i x (by
  have hl : i < w.length := (List.getElem?_eq_some_iff.mp e).1
  rw [List.getElem?_append_left hl]
  exact e)
def zmS (n : Nat) (R : Nat → Nat → Nat) (S : Nat × List Nat) (h : zq_H) : Prop := h.1 56 40 = nI S.1 ∧ (S.1 = 1000 ∨ (S.1 ≤ n ∧ zAt 82 (zoW R S.2 0) h))
def zsvk (b : Nat) (V : zV) (p mask s : Nat) (pre : List Nat) (S : Nat × List Nat) (Q : zq_Q) (h : zq_H) : Prop := ∀ h', zmS (vn V) (zgR V p) (zsv (vn V) (vg V) (zgR V p) (zbc mask) mask pre s S) h' → zAt 81 (zoW (zgR V p) pre 0) h' → zq_fm [40] [81, 82] h h' → Q none h'
def zsvd (b : Nat) (V : zV) (p mask s : Nat) (pre : List Nat) (S : Nat × List Nat) (Q : zq_Q) (h : zq_H) : Prop := (mask < 2 ^ vg V ∧ s ≤ vn V ∧ pre.length + zbc mask ≤ 6) ∧ p ≤ 1000 ∧ ZV V ∧ MD b V h ∧ s = zoE (zgR V p) pre 0 ∧ (S.1 = 1000 ∨ zsd S.2 pre) ∧ zsvk b V p mask s pre S Q h
def sp_serves (b : Nat) (V : zV) (p k : Nat) : zq_Sp := fun args h Q => ∃ mask s pre S, args = [.ref 56, .int (nI mask), .int (nI s), .int (nI pre.length), .int (nI p)] ∧ zbc mask ≤ k ∧ zsvd b V p mask s pre S Q h ∧ zmS (vn V) (zgR V p) S h ∧ zAt 81 (zoW (zgR V p) pre 0) h
abbrev zsvT : Type := zq_H × (Nat × Nat × List Nat × (Nat × List Nat)) × Nat × Nat
def I_sv38 (b : Nat) (V : zV) (p : Nat) (Q : zq_Q) (z : zsvT) : zq_P := fun ls st h => match z with
  | (h0, (mask, s, pre, S), t, _) => ∃ s6, ls = [some (.ref 56), some (.int (nI mask)), some (.int (nI s)), some (.int (nI pre.length)), some (.int (nI p)), some (.int (nI t)), s6] ∧ st = [] ∧ t ≤ 2 * pre.length ∧ mask = 0 ∧ s < S.1 ∧ zsvd b V p mask s pre S Q h0 ∧ zq_fm [40] [81, 82] h0 h ∧ h.1 56 40 = nI s ∧ zAt 81 (zoW (zgR V p) pre 0) h ∧ ∀ k, k < t → h.1 82 k = h.1 81 k
def I_sv70 (b : Nat) (V : zV) (p k : Nat) (Q : zq_Q) (z : zsvT) : zq_P := fun ls st h => match z with
  | (h0, (mask, s, pre, S), t, j) => ∃ s6, ls = [some (.ref 56), some (.int (nI mask)), some (.int (nI s)), some (.int (nI pre.length)), some (.int (nI p)), some (.int (nI t)), s6] ∧ st = [] ∧ (t ≤ vg V ∧ j < k ∧ zbc mask = j + 1) ∧ zsvd b V p mask s pre S Q h0 ∧ zq_fm [40] [81, 82] h0 h ∧ zmS (vn V) (zgR V p) (zoT (vn V) (vg V) (zgR V p) j mask pre s S t) h ∧ ((zoT (vn V) (vg V) (zgR V p) j mask pre s S t).1 = 1000 ∨ zsL (zoT (vn V) (vg V) (zgR V p) j mask pre s S t).2 pre t) ∧ zAt 81 (zoW (zgR V p) pre 0) h
theorem zmS_fm {n : Nat} {R : Nat → Nat → Nat} {S : Nat × List Nat} {fs ps : List Nat} {h h' : zq_H} (k : zmS n R S h) (f : zq_fm fs ps h h') (d : 40 ∉ fs ∧ 82 ∉ ps) : zmS n R S h' := ⟨by rw [(f.2 40 d.1).1]; exact k.1, k.2.imp id (fun q => ⟨q.1, zAt_fm q.2 f ⟨d.2, by decide⟩⟩)⟩
theorem zsv_1 {n m : Nat} {R : Nat → Nat → Nat} {k mask : Nat} {pre : List Nat} {s : Nat} {S : Nat × List Nat} (h : S.1 ≤ 1000) : (zsv n m R k mask pre s S).1 ≤ 1000 := by
  unfold zsv
  split
  · next q =>
    show zoG m R k mask s ≤ 1000
    omega
  · exact h
theorem z2m (k : Nat) : (2 : Int32) * nI k = nI (2 * k) := by rw [show (2 : Int32) = nI 2 from rfl, pk_mul]
theorem sv_leaf {b : Nat} {V : zV} {p : Nat} {s5 s6 : Option Value} {sm : zq_Sp} {J38 J70 : zq_P} {Q : zq_Q} {h : zq_H} {mask s : Nat} {pre : List Nat} {S : Nat × List Nat} (hm0 : mask = 0) (hd : zsvd b V p mask s pre S Q h) (hS : zmS (vn V) (zgR V p) S h) (hA : zAt 81 (zoW (zgR V p) pre 0) h) (hJ : s < S.1 → J38 [some (.ref 56), some (.int (nI mask)), some (.int (nI s)), some (.int (nI pre.length)), some (.int (nI p)), some (.int (nI 0)), s6] [] (zq_setI h 56 40 (nI s))) : xX12_serves_4 sp_tl sp_has (sp_endFor b V p) sm J38 J70 Q [some (.ref 56), some (.int (nI mask)), some (.int (nI s)), some (.int (nI pre.length)), some (.int (nI p)), s5, s6] [] h := by
  obtain ⟨⟨hm, hs, hl⟩, hp, hV, hX, es, hsd, kk⟩ := hd
  have hn := hX.1.1.1
  have hg := hX.1.2.1.1
  have hS1 : S.1 ≤ 1000 := by
    rcases hS.2 with q | q
    · omega
    · have := q.1
      omega
  have c1 : (nI s < nI S.1) = (s < S.1) := nI_ltP (by omega) (by omega)
  have c2 : (nI s = nI S.1) = (s = S.1) := nI_eqP (by omega) (by omega)
  have ez : zsv (vn V) (vg V) (zgR V p) (zbc mask) mask pre s S = if s < S.1 then (s, pre) else S := by
    rw [hm0]
    show (if s ≤ vn V ∧ s < S.1 then (s, pre ++ (if s = s then some [] else none).getD []) else S) = _
    rw [if_pos rfl]
    by_cases q : s < S.1
    · rw [if_pos q, if_pos ⟨hs, q⟩]
      simp
    · rw [if_neg q, if_neg (fun z => q z.2)]
  unfold zsvk at kk
  rw [ez] at kk
  simp only [xX12_serves_4, xX12_serves_12, xX12_serves_20, xX12_serves_30, xX12_serves_66, hS.1, c1, c2, z2m, not_true_eq_false, not_false_eq_true, forall_const, true_and, and_true, false_and, and_false, if_true, if_false, reduceIte, implies_true, and_self, ite_self, true_or, or_true, false_or, or_false, true_implies, false_implies, Classical.not_not, false_imp_iff, not_false_iff, zi_push, zi_iload, zi_lload, zi_aload, zi_istore, zi_astore, zi_lstore, zi_iinc, zi_i2, zi_i1, zi_idv, zi_l2, zi_ldv, zi_lsh, zi_i2l, zi_l2i, zi_lcmp, zi_dup, zi_dup2, zi_pop, zi_if1, zi_if2, zi_getI, zi_getL, zi_getR, zi_putI, zi_putZ, zi_putL, zi_aldI, zi_aldL, zi_astI, zi_astZ, zi_astL, zi_alen, zi_iret, zi_zret, zi_lret, zi_vret, zi_callV, zi_callS, zi_sw, zi_copyI, zi_copyL, zi_m2, zi_m1, zi_sval, zi_scod, zi_fmt, zi_balen, zi_bald, zi_bret, zi_callT, zq_nth, zq_put1, zq_put2, zq_clr, zq_nl, zq_tk, zq_ps, zq_sw, zq_l0, zq_a, zq_a1, List.length_cons, List.length_nil, List.nil_append, List.cons_append, List.append_nil, List.replicate, Nat.reduceAdd, Nat.reduceSub, Nat.reduceLeDiff, true_and, and_true, List.append_eq, List.cons.injEq, Value.int.injEq, Value.long.injEq, Value.ref.injEq, exists_and_left, exists_eq_left', and_assoc, zc_b, zc_0, zc_1, zc_10, zc_01, lg_cmp_ge, lg_cmp_le, lg_cmp_gt, lg_cmp_lt, lg_cmp_eq, zw_le, zw_lt, reduceIte, true_or, or_true, zw_g0, zw_l0, zw_g1, zw_l1, zw_g2, zw_l2, zw_g3, zw_l3, zw_g5, zw_l5, zw_g6, zw_l6, zw_g7, zw_l7, zw_g9, zw_l9, zw_g10, zw_l10, zw_g15, zw_l15, zw_g16, zw_l16, zw_g48, zw_l48, zw_g50, zw_l50, zw_g57, zw_l57, zw_g97, zw_l97, zw_g100, zw_l100, zw_g200, zw_l200, zw_g999, zw_l999, zw_g9999, zw_l9999]
  refine ⟨fun q => hJ q, fun q => ?_⟩
  rw [if_neg q] at kk
  refine ⟨fun q2 => ?_, fun q2 => kk h hS hA zq_fm_rf⟩
  rcases hsd with q3 | ⟨r, a, b2, o2, q3, eo, ep, hab, hb6⟩
  · omega
  · have hA2 : zAt 82 (zoW (zgR V p) S.2 0) h := by
      rcases hS.2 with q4 | q4
      · omega
      · exact q4.2
    have ew1 : zoW (zgR V p) pre 0 = zoW (zgR V p) r 0 ++ zoW (zgR V p) (b2 :: q3) (zoE (zgR V p) r 0) := by rw [ep, zoW_app]
    have ew2 : zoW (zgR V p) S.2 0 = zoW (zgR V p) r 0 ++ zoW (zgR V p) (a :: o2) (zoE (zgR V p) r 0) := by rw [eo, zoW_app]
    have hB := hA
    have hB2 := hA2
    rw [ew1] at hB
    rw [ew2] at hB2
    have hlen : pre.length = r.length + (q3.length + 1) := by rw [ep, List.length_append, List.length_cons]
    have at1 : h.1 81 (2 * r.length) = nI b2 := hB _ _ (by
      rw [List.getElem?_append_right (by rw [zoW_len]; exact Nat.le_refl _), zoW_len, Nat.sub_self]
      rfl)
    have at2 : h.1 82 (2 * r.length) = nI a := hB2 _ _ (by
      rw [List.getElem?_append_right (by rw [zoW_len]; exact Nat.le_refl _), zoW_len, Nat.sub_self]
      rfl)
    refine ⟨2 * r.length, 2 * pre.length, rfl, ⟨by omega, by omega⟩, fun i hi => ?_, ?_, ?_⟩
    · obtain ⟨x, ex⟩ : ∃ x, (zoW (zgR V p) r 0)[i]? = some x := ⟨_, List.getElem?_eq_getElem (by rw [zoW_len]; exact hi)⟩
      rw [zAt_app hB i x ex, zAt_app hB2 i x ex]
    · rw [at1, at2]
      exact nI_lt hab (by omega)
    · simp only [not_true_eq_false, not_false_eq_true, forall_const, true_and, and_true, false_and, and_false, if_true, if_false, reduceIte, implies_true, and_self, ite_self, true_or, or_true, false_or, or_false, true_implies, false_implies, Classical.not_not, false_imp_iff, not_false_iff, zi_push, zi_iload, zi_lload, zi_aload, zi_istore, zi_astore, zi_lstore, zi_iinc, zi_i2, zi_i1, zi_idv, zi_l2, zi_ldv, zi_lsh, zi_i2l, zi_l2i, zi_lcmp, zi_dup, zi_dup2, zi_pop, zi_if1, zi_if2, zi_getI, zi_getL, zi_getR, zi_putI, zi_putZ, zi_putL, zi_aldI, zi_aldL, zi_astI, zi_astZ, zi_astL, zi_alen, zi_iret, zi_zret, zi_lret, zi_vret, zi_callV, zi_callS, zi_sw, zi_copyI, zi_copyL, zi_m2, zi_m1, zi_sval, zi_scod, zi_fmt, zi_balen, zi_bald, zi_bret, zi_callT, zq_nth, zq_put1, zq_put2, zq_clr, zq_nl, zq_tk, zq_ps, zq_sw, zq_l0, zq_a, zq_a1, List.length_cons, List.length_nil, List.nil_append, List.cons_append, List.append_nil, List.replicate, Nat.reduceAdd, Nat.reduceSub, Nat.reduceLeDiff, true_and, and_true, List.append_eq, List.cons.injEq, Value.int.injEq, Value.long.injEq, Value.ref.injEq, exists_and_left, exists_eq_left', and_assoc, zc_b, zc_0, zc_1, zc_10, zc_01, lg_cmp_ge, lg_cmp_le, lg_cmp_gt, lg_cmp_lt, lg_cmp_eq, zw_le, zw_lt, reduceIte, true_or, or_true, zw_g0, zw_l0, zw_g1, zw_l1, zw_g2, zw_l2, zw_g3, zw_l3, zw_g5, zw_l5, zw_g6, zw_l6, zw_g7, zw_l7, zw_g9, zw_l9, zw_g10, zw_l10, zw_g15, zw_l15, zw_g16, zw_l16, zw_g48, zw_l48, zw_g50, zw_l50, zw_g57, zw_l57, zw_g97, zw_l97, zw_g100, zw_l100, zw_g200, zw_l200, zw_g999, zw_l999, zw_g9999, zw_l9999]
      exact kk h hS hA zq_fm_rf
theorem sv_38 {b : Nat} {V : zV} {p : Nat} {sm : zq_Sp} {J70 : zq_P} {Q : zq_Q} {z : zsvT} {ls : zq_L} {st : List Value} {h : zq_H} (hi : I_sv38 b V p Q z ls st h) : xX12_serves_38 sp_tl sp_has (sp_endFor b V p) sm (fun ls st h => ∃ b9 : zsvT, 20 - b9.2.2.1 < 20 - z.2.2.1 ∧ I_sv38 b V p Q b9 ls st h) J70 Q ls st h := by
  obtain ⟨h0, ⟨mask, s, pre, S⟩, t, t9⟩ := z
  obtain ⟨s6, rfl, rfl, ht, hm0, hsS, hd9, hf, e40, hA, h82⟩ := hi
  have hd := hd9
  obtain ⟨⟨hm, hs, hl⟩, hp, hV, hX, es, hsd, kk⟩ := hd
  have c1 : (nI (2 * pre.length) ≤ nI t) = (t = 2 * pre.length) := zl_ge ht (by omega)
  have v12 : t < 2 * pre.length → vp_in (nI t) 12 = True := fun q => eq_true (vp_in_nI (by omega) (by decide))
  simp only [xX12_serves_38, xX12_serves_46, xX12_serves_66, z2m, c1, nI_clamp (show t < 2 ^ 31 by omega), nI_1, not_true_eq_false, not_false_eq_true, forall_const, true_and, and_true, false_and, and_false, if_true, if_false, reduceIte, implies_true, and_self, ite_self, true_or, or_true, false_or, or_false, true_implies, false_implies, Classical.not_not, false_imp_iff, not_false_iff, zi_push, zi_iload, zi_lload, zi_aload, zi_istore, zi_astore, zi_lstore, zi_iinc, zi_i2, zi_i1, zi_idv, zi_l2, zi_ldv, zi_lsh, zi_i2l, zi_l2i, zi_lcmp, zi_dup, zi_dup2, zi_pop, zi_if1, zi_if2, zi_getI, zi_getL, zi_getR, zi_putI, zi_putZ, zi_putL, zi_aldI, zi_aldL, zi_astI, zi_astZ, zi_astL, zi_alen, zi_iret, zi_zret, zi_lret, zi_vret, zi_callV, zi_callS, zi_sw, zi_copyI, zi_copyL, zi_m2, zi_m1, zi_sval, zi_scod, zi_fmt, zi_balen, zi_bald, zi_bret, zi_callT, zq_nth, zq_put1, zq_put2, zq_clr, zq_nl, zq_tk, zq_ps, zq_sw, zq_l0, zq_a, zq_a1, List.length_cons, List.length_nil, List.nil_append, List.cons_append, List.append_nil, List.replicate, Nat.reduceAdd, Nat.reduceSub, Nat.reduceLeDiff, true_and, and_true, List.append_eq, List.cons.injEq, Value.int.injEq, Value.long.injEq, Value.ref.injEq, exists_and_left, exists_eq_left', and_assoc, zc_b, zc_0, zc_1, zc_10, zc_01, lg_cmp_ge, lg_cmp_le, lg_cmp_gt, lg_cmp_lt, lg_cmp_eq, zw_le, zw_lt, reduceIte, true_or, or_true, zw_g0, zw_l0, zw_g1, zw_l1, zw_g2, zw_l2, zw_g3, zw_l3, zw_g5, zw_l5, zw_g6, zw_l6, zw_g7, zw_l7, zw_g9, zw_l9, zw_g10, zw_l10, zw_g15, zw_l15, zw_g16, zw_l16, zw_g48, zw_l48, zw_g50, zw_l50, zw_g57, zw_l57, zw_g97, zw_l97, zw_g100, zw_l100, zw_g200, zw_l200, zw_g999, zw_l999, zw_g9999, zw_l9999]
  refine ⟨fun q => ?_, fun q => ?_⟩
  · subst q
    refine kk h ?_ hA hf
    have ez : zsv (vn V) (vg V) (zgR V p) (zbc mask) mask pre s S = (s, pre) := by
      rw [hm0]
      show (if s ≤ vn V ∧ s < S.1 then (s, pre ++ (if s = s then some [] else none).getD []) else S) = _
      rw [if_pos rfl, if_pos ⟨hs, hsS⟩]
      simp
    rw [ez]
    refine ⟨e40, Or.inr ⟨hs, fun i x ei => ?_⟩⟩
    have li : i < (zoW (zgR V p) pre 0).length := (List.getElem?_eq_some_iff.mp ei).1
    rw [zoW_len] at li
    rw [h82 i li]
    exact hA i x ei
  · rw [v12 (by omega)]
    refine ⟨trivial, trivial, (h0, (mask, s, pre, S), t + 1, 0), by dsimp only; omega, s6, rfl, rfl, by omega, hm0, hsS, hd9, zq_fm_I hf (by decide), by simpa [zq_sI] using e40, zAt_fm hA (zq_fm_I (fs := []) (ps := [82]) zq_fm_rf (by decide)) (by decide), fun i hi => ?_⟩
    by_cases q2 : i = t
    · simp [zq_sI, q2]
    · simpa [zq_sI, q2] using h82 i (by omega)
theorem zAt_2 {w : List Int32} {h : zq_H} {x y : Int32} {L : Nat} (hA : zAt 81 w h) (hL : w.length = L) : zAt 81 (w ++ [x, y]) (zq_setI (zq_setI h 81 L x) 81 (L + 1) y) := by
  intro i z ei
  rcases Nat.lt_trichotomy i L with q | q | q
  · rw [List.getElem?_append_left (by omega)] at ei
    rw [zq_sI, if_neg (by omega), zq_sI, if_neg (by omega)]
    exact hA i z ei
  · subst q
    rw [List.getElem?_append_right (by omega), hL, Nat.sub_self] at ei
    cases ei
    rw [zq_sI, if_neg (by omega), zq_sI, if_pos ⟨rfl, rfl⟩]
  · have li := (List.getElem?_eq_some_iff.mp ei).1
    rw [List.length_append, hL] at li
    have li2 : i < L + 2 := li
    obtain rfl : i = L + 1 := by omega
    rw [List.getElem?_append_right (by omega), hL, Nat.add_sub_cancel_left] at ei
    cases ei
    rw [zq_sI, if_pos ⟨rfl, rfl⟩]
theorem zsv_L {n m : Nat} {R : Nat → Nat → Nat} {k mask t : Nat} {pre : List Nat} {s : Nat} {S : Nat × List Nat} (h : S.1 = 1000 ∨ zsL S.2 pre t) : (zsv n m R k mask (pre ++ [t]) s S).1 = 1000 ∨ zsL (zsv n m R k mask (pre ++ [t]) s S).2 pre (t + 1) := by
  unfold zsv
  split
  · exact Or.inr (Or.inr ⟨t, (zoF m R k mask s (zoG m R k mask s)).getD [], by dsimp only; rw [List.append_assoc]; rfl, Nat.lt_succ_self t⟩)
  · exact h.imp id zsL_s
theorem sv_70 {b : Nat} {V : zV} {p k : Nat} {J38 : zq_P} {Q : zq_Q} {z : zsvT} {ls : zq_L} {st : List Value} {h : zq_H} (hi : I_sv70 b V p (k + 1) Q z ls st h) : xX12_serves_70 sp_tl sp_has (sp_endFor b V p) (sp_serves b V p k) J38 (fun ls st h => ∃ b9 : zsvT, 1000 + (10 - b9.2.2.1) < 1000 + (10 - z.2.2.1) ∧ I_sv70 b V p (k + 1) Q b9 ls st h) Q ls st h := by
  obtain ⟨h0, ⟨mask, s, pre, S⟩, t, j⟩ := z
  obtain ⟨s6, rfl, rfl, ⟨ht, hj, hb⟩, hd9, hf, hS, hL, hA⟩ := hi
  have hd := hd9
  obtain ⟨⟨hm, hs, hl⟩, hp, hV, hX, es, hsd, kk⟩ := hd
  have hn := hX.1.1.1
  have hg := hX.1.2.1.1
  have hp2 := (zp2 _ hg).2.2
  have hX1 := MD_fm hX hf (by decide)
  have hR : zoR (vn V) (vg V) (zgR V p) := zPR_ok (zgP_d hV hn hg hp)
  have nxt : ∀ h' s6, zmS (vn V) (zgR V p) (zoT (vn V) (vg V) (zgR V p) j mask pre s S (t + 1)) h' → ((zoT (vn V) (vg V) (zgR V p) j mask pre s S (t + 1)).1 = 1000 ∨ zsL (zoT (vn V) (vg V) (zgR V p) j mask pre s S (t + 1)).2 pre (t + 1)) → zAt 81 (zoW (zgR V p) pre 0) h' → zq_fm [40] [81, 82] h0 h' → t < vg V → ∃ b9 : zsvT, 1000 + (10 - b9.2.2.1) < 1000 + (10 - t) ∧ I_sv70 b V p (k + 1) Q b9 [some (.ref 56), some (.int (nI mask)), some (.int (nI s)), some (.int (nI pre.length)), some (.int (nI p)), some (.int (nI (t + 1))), s6] [] h' := fun h' s6 a1 a2 a3 a4 a5 => ⟨(h0, (mask, s, pre, S), t + 1, j), by dsimp only; omega, s6, rfl, rfl, ⟨by omega, hj, hb⟩, hd9, a4, a1, a2, a3⟩
  have skip : zoA (vg V) (zgR V p) j mask s t = 17 → t < vg V → ∀ s6, ∃ b9 : zsvT, 1000 + (10 - b9.2.2.1) < 1000 + (10 - t) ∧ I_sv70 b V p (k + 1) Q b9 [some (.ref 56), some (.int (nI mask)), some (.int (nI s)), some (.int (nI pre.length)), some (.int (nI p)), some (.int (nI (t + 1))), s6] [] h := fun e ht2 s6 => by
    have e2 := zoT_A (pre := pre) (S := S) hR ht2 (show s ≤ 17 by omega) e
    refine nxt h s6 ?_ ?_ hA hf ht2
    · rw [e2]
      exact hS
    · rw [e2]
      exact hL.imp id zsL_s
  simp only [xX12_serves_70, xX12_serves_79, xX12_serves_161, xX12_serves_167, hX1.1.2.1.2.1, zl_ge ht (show vg V < 2 ^ 31 by omega), sp_has, zbit01, Classical.not_not, nI_1, zi_push, zi_iload, zi_lload, zi_aload, zi_istore, zi_astore, zi_lstore, zi_iinc, zi_i2, zi_i1, zi_idv, zi_l2, zi_ldv, zi_lsh, zi_i2l, zi_l2i, zi_lcmp, zi_dup, zi_dup2, zi_pop, zi_if1, zi_if2, zi_getI, zi_getL, zi_getR, zi_putI, zi_putZ, zi_putL, zi_aldI, zi_aldL, zi_astI, zi_astZ, zi_astL, zi_alen, zi_iret, zi_zret, zi_lret, zi_vret, zi_callV, zi_callS, zi_sw, zi_copyI, zi_copyL, zi_m2, zi_m1, zi_sval, zi_scod, zi_fmt, zi_balen, zi_bald, zi_bret, zi_callT, zq_nth, zq_put1, zq_put2, zq_clr, zq_nl, zq_tk, zq_ps, zq_sw, zq_l0, zq_a, zq_a1, List.length_cons, List.length_nil, List.nil_append, List.cons_append, List.append_nil, List.replicate, Nat.reduceAdd, Nat.reduceSub, Nat.reduceLeDiff, true_and, and_true, List.append_eq, List.cons.injEq, Value.int.injEq, Value.long.injEq, Value.ref.injEq, exists_and_left, exists_eq_left', and_assoc, zc_b, zc_0, zc_1, zc_10, zc_01, lg_cmp_ge, lg_cmp_le, lg_cmp_gt, lg_cmp_lt, lg_cmp_eq, zw_le, zw_lt, reduceIte, true_or, or_true, zw_g0, zw_l0, zw_g1, zw_l1, zw_g2, zw_l2, zw_g3, zw_l3, zw_g5, zw_l5, zw_g6, zw_l6, zw_g7, zw_l7, zw_g9, zw_l9, zw_g10, zw_l10, zw_g15, zw_l15, zw_g16, zw_l16, zw_g48, zw_l48, zw_g50, zw_l50, zw_g57, zw_l57, zw_g97, zw_l97, zw_g100, zw_l100, zw_g200, zw_l200, zw_g999, zw_l999, zw_g9999, zw_l9999]
  refine ⟨fun q => ?_, fun q => ?_⟩
  · subst q
    rw [zoT_m] at hS
    unfold zsvk at kk
    rw [hb] at kk
    exact kk h hS hA hf
  · have ht2 : t < vg V := by omega
    rw [zbitP (by omega) (by omega)]
    refine ⟨fun q2 => ?_, fun q2 => ?_⟩
    · refine skip ?_ ht2 s6
      unfold zoA
      rw [q2]
      rfl
    · have hbit : mask.testBit t = true := by simpa using q2
      have hz := zrm_b mask (by omega) t (by omega) hbit
      simp only [xX12_serves_88, zi_push, zi_iload, zi_lload, zi_aload, zi_istore, zi_astore, zi_lstore, zi_iinc, zi_i2, zi_i1, zi_idv, zi_l2, zi_ldv, zi_lsh, zi_i2l, zi_l2i, zi_lcmp, zi_dup, zi_dup2, zi_pop, zi_if1, zi_if2, zi_getI, zi_getL, zi_getR, zi_putI, zi_putZ, zi_putL, zi_aldI, zi_aldL, zi_astI, zi_astZ, zi_astL, zi_alen, zi_iret, zi_zret, zi_lret, zi_vret, zi_callV, zi_callS, zi_sw, zi_copyI, zi_copyL, zi_m2, zi_m1, zi_sval, zi_scod, zi_fmt, zi_balen, zi_bald, zi_bret, zi_callT, zq_nth, zq_put1, zq_put2, zq_clr, zq_nl, zq_tk, zq_ps, zq_sw, zq_l0, zq_a, zq_a1, List.length_cons, List.length_nil, List.nil_append, List.cons_append, List.append_nil, List.replicate, Nat.reduceAdd, Nat.reduceSub, Nat.reduceLeDiff, true_and, and_true, List.append_eq, List.cons.injEq, Value.int.injEq, Value.long.injEq, Value.ref.injEq, exists_and_left, exists_eq_left', and_assoc, zc_b, zc_0, zc_1, zc_10, zc_01, lg_cmp_ge, lg_cmp_le, lg_cmp_gt, lg_cmp_lt, lg_cmp_eq, zw_le, zw_lt, reduceIte, true_or, or_true, zw_g0, zw_l0, zw_g1, zw_l1, zw_g2, zw_l2, zw_g3, zw_l3, zw_g5, zw_l5, zw_g6, zw_l6, zw_g7, zw_l7, zw_g9, zw_l9, zw_g10, zw_l10, zw_g15, zw_l15, zw_g16, zw_l16, zw_g48, zw_l48, zw_g50, zw_l50, zw_g57, zw_l57, zw_g97, zw_l97, zw_g100, zw_l100, zw_g200, zw_l200, zw_g999, zw_l999, zw_g9999, zw_l9999]
      refine ⟨t, s, rfl, ⟨ht2, hs, hp⟩, hV, hX1, fun q3 => ?_, fun q3 => ?_⟩
      · have c1 : (nI (vn V) < nI (zgR V p t s)) = False := by rw [nI_ltP (by omega) (by omega)]; exact eq_false (by omega)
        have c2 : (nI (zgR V p t s) = nI s) = (zgR V p t s = s) := nI_eqP (by omega) (by omega)
        have vA : vp_in (nI (2 * pre.length)) 12 = True := eq_true (vp_in_nI (by omega) (by decide))
        have vB : vp_in (nI (2 * pre.length + 1)) 12 = True := eq_true (vp_in_nI (by omega) (by decide))
        have elen : nI pre.length + 1 = nI (pre ++ [t]).length := by
          rw [List.length_append]
          exact nI_1 _
        have fin : ∀ x : Int32, x = (if zgR V p t s = s then -1 else nI (zgR V p t s) - 1) → sp_serves b V p k [.ref 56, .int (nI (zrm mask t)), .int (nI (zgR V p t s)), .int (nI (pre ++ [t]).length), .int (nI p)] (zq_setI (zq_setI h 81 (2 * pre.length) (nI t)) 81 (2 * pre.length + 1) x) (fun r h' => ∃ b9 : zsvT, 1000 + (10 - b9.2.2.1) < 1000 + (10 - t) ∧ I_sv70 b V p (k + 1) Q b9 [some (.ref 56), some (.int (nI mask)), some (.int (nI s)), some (.int (nI pre.length)), some (.int (nI p)), some (.int (nI (t + 1))), some (.int (nI (zgR V p t s)))] (zq_ps r []) h') := by
          intro x ex
          have g0 : zq_fm [40] [81, 82] h (zq_setI (zq_setI h 81 (2 * pre.length) (nI t)) 81 (2 * pre.length + 1) x) := zq_fm_I (zq_fm_I zq_fm_rf (by decide)) (by decide)
          have g1 : zq_fm [] [81] h (zq_setI (zq_setI h 81 (2 * pre.length) (nI t)) 81 (2 * pre.length + 1) x) := zq_fm_I (zq_fm_I zq_fm_rf (by decide)) (by decide)
          have ew : zoW (zgR V p) (pre ++ [t]) 0 = zoW (zgR V p) pre 0 ++ [nI t, x] := by
            rw [zoW_app, ← es, ex]
            rfl
          refine ⟨zrm mask t, zgR V p t s, pre ++ [t], zoT (vn V) (vg V) (zgR V p) j mask pre s S t, rfl, by omega, ⟨⟨by omega, q3, by rw [List.length_append]; show pre.length + 1 + _ ≤ 6; omega⟩, hp, hV, MD_fm hX1 g0 (by decide), by rw [zoE_app, ← es]; rfl, hL.imp id (zsd_at (by omega)), fun h' a1 a2 a3 => ?_⟩, zmS_fm hS g1 (by decide), by rw [ew]; exact zAt_2 hA (zoW_len _ _ _)⟩
          rw [show zbc (zrm mask t) = j by omega, ← zoT_B hR ht2 (by omega) hbit] at a1
          refine nxt h' _ a1 ?_ (zAt_app (by rw [← ew]; exact a2)) (zq_fm_t (zq_fm_t hf g0 (by decide)) a3 (by decide)) ht2
          rw [zoT_B hR ht2 (by omega) hbit]
          exact zsv_L hL
        simp only [xX12_serves_108, xX12_serves_133, xX12_serves_137, xX12_serves_141, xX12_serves_161, hX1.1.1.2.1, c1, c2, z2m, vA, vB, nI_clamp (show 2 * pre.length < 2 ^ 31 by omega), nI_clamp (show 2 * pre.length + 1 < 2 ^ 31 by omega), zrm_I mask (show mask < 64 by omega) t (show t < 6 by omega) hbit, not_true_eq_false, not_false_eq_true, forall_const, true_and, and_true, false_and, and_false, if_true, if_false, reduceIte, implies_true, and_self, ite_self, true_or, or_true, false_or, or_false, true_implies, false_implies, Classical.not_not, false_imp_iff, not_false_iff, zi_push, zi_iload, zi_lload, zi_aload, zi_istore, zi_astore, zi_lstore, zi_iinc, zi_i2, zi_i1, zi_idv, zi_l2, zi_ldv, zi_lsh, zi_i2l, zi_l2i, zi_lcmp, zi_dup, zi_dup2, zi_pop, zi_if1, zi_if2, zi_getI, zi_getL, zi_getR, zi_putI, zi_putZ, zi_putL, zi_aldI, zi_aldL, zi_astI, zi_astZ, zi_astL, zi_alen, zi_iret, zi_zret, zi_lret, zi_vret, zi_callV, zi_callS, zi_sw, zi_copyI, zi_copyL, zi_m2, zi_m1, zi_sval, zi_scod, zi_fmt, zi_balen, zi_bald, zi_bret, zi_callT, zq_nth, zq_put1, zq_put2, zq_clr, zq_nl, zq_tk, zq_ps, zq_sw, zq_l0, zq_a, zq_a1, List.length_cons, List.length_nil, List.nil_append, List.cons_append, List.append_nil, List.replicate, Nat.reduceAdd, Nat.reduceSub, Nat.reduceLeDiff, true_and, and_true, List.append_eq, List.cons.injEq, Value.int.injEq, Value.long.injEq, Value.ref.injEq, exists_and_left, exists_eq_left', and_assoc, zc_b, zc_0, zc_1, zc_10, zc_01, lg_cmp_ge, lg_cmp_le, lg_cmp_gt, lg_cmp_lt, lg_cmp_eq, zw_le, zw_lt, reduceIte, true_or, or_true, zw_g0, zw_l0, zw_g1, zw_l1, zw_g2, zw_l2, zw_g3, zw_l3, zw_g5, zw_l5, zw_g6, zw_l6, zw_g7, zw_l7, zw_g9, zw_l9, zw_g10, zw_l10, zw_g15, zw_l15, zw_g16, zw_l16, zw_g48, zw_l48, zw_g50, zw_l50, zw_g57, zw_l57, zw_g97, zw_l97, zw_g100, zw_l100, zw_g200, zw_l200, zw_g999, zw_l999, zw_g9999, zw_l9999]
        rw [elen]
        simp only [nI_1, vA, vB, nI_clamp (show 2 * pre.length < 2 ^ 31 by omega), nI_clamp (show 2 * pre.length + 1 < 2 ^ 31 by omega)]
        refine ⟨fun q4 => ?_, fun q4 => ?_⟩
        · exact ⟨trivial, fin _ (by rw [if_pos q4])⟩
        · exact ⟨trivial, fin _ (by rw [if_neg q4])⟩
      · have c1 : (nI (vn V) < 1000) = True := by rw [show (1000 : Int32) = nI 1000 from rfl, nI_ltP (by omega) (by decide)]; exact eq_true (by omega)
        simp only [hX1.1.1.2.1, c1, xX12_serves_161, nI_1, not_true_eq_false, not_false_eq_true, forall_const, true_and, and_true, false_and, and_false, if_true, if_false, reduceIte, implies_true, and_self, ite_self, true_or, or_true, false_or, or_false, true_implies, false_implies, Classical.not_not, false_imp_iff, not_false_iff, zi_push, zi_iload, zi_lload, zi_aload, zi_istore, zi_astore, zi_lstore, zi_iinc, zi_i2, zi_i1, zi_idv, zi_l2, zi_ldv, zi_lsh, zi_i2l, zi_l2i, zi_lcmp, zi_dup, zi_dup2, zi_pop, zi_if1, zi_if2, zi_getI, zi_getL, zi_getR, zi_putI, zi_putZ, zi_putL, zi_aldI, zi_aldL, zi_astI, zi_astZ, zi_astL, zi_alen, zi_iret, zi_zret, zi_lret, zi_vret, zi_callV, zi_callS, zi_sw, zi_copyI, zi_copyL, zi_m2, zi_m1, zi_sval, zi_scod, zi_fmt, zi_balen, zi_bald, zi_bret, zi_callT, zq_nth, zq_put1, zq_put2, zq_clr, zq_nl, zq_tk, zq_ps, zq_sw, zq_l0, zq_a, zq_a1, List.length_cons, List.length_nil, List.nil_append, List.cons_append, List.append_nil, List.replicate, Nat.reduceAdd, Nat.reduceSub, Nat.reduceLeDiff, true_and, and_true, List.append_eq, List.cons.injEq, Value.int.injEq, Value.long.injEq, Value.ref.injEq, exists_and_left, exists_eq_left', and_assoc, zc_b, zc_0, zc_1, zc_10, zc_01, lg_cmp_ge, lg_cmp_le, lg_cmp_gt, lg_cmp_lt, lg_cmp_eq, zw_le, zw_lt, reduceIte, true_or, or_true, zw_g0, zw_l0, zw_g1, zw_l1, zw_g2, zw_l2, zw_g3, zw_l3, zw_g5, zw_l5, zw_g6, zw_l6, zw_g7, zw_l7, zw_g9, zw_l9, zw_g10, zw_l10, zw_g15, zw_l15, zw_g16, zw_l16, zw_g48, zw_l48, zw_g50, zw_l50, zw_g57, zw_l57, zw_g97, zw_l97, zw_g100, zw_l100, zw_g200, zw_l200, zw_g999, zw_l999, zw_g9999, zw_l9999]
        refine skip ?_ ht2 _
        have e17 : zgR V p t s = 17 := by
          rcases hR.2.2.1 t s ht2 (by omega) with q4 | q4
          · exact absurd q4 q3
          · exact q4
        unfold zoA
        rw [if_pos hbit, e17]
        exact Nat.le_antisymm (zoG_17 hR _ _ _ (Nat.le_refl _)) (zoG_s hR _ _ _ (Nat.le_refl _))
theorem ok_serves (b : Nat) (V : zV) (p : Nat) : ∀ k, zq_M yX12_serves cX12_serves 7 none 0 (k + 3) (sp_serves b V p k)
  | 0 => by
    refine mX12_serves ok_tl (by decide) ok_has (by decide) (ok_endFor b V p) (by decide) (ok_none (d := 0)) (by decide) (fun z => 20 - z.2.2.1) (I_sv38 b V p) (fun z => 1000 + (10 - z.2.2.1)) (I_sv70 b V p 0) (fun args h Q hs => ?_) (fun Q z ls st h hi => sv_38 hi) (fun Q z ls st h hi => ?_)
    · obtain ⟨mask, s, pre, S, rfl, hk, hd, hS, hA⟩ := hs
      have hp2 := (zp2 _ hd.2.2.2.1.1.2.1.1).2.2
      have hm := hd.1.1
      have h0 : mask = 0 := (zbc_0 mask (by omega)).mp (by omega)
      refine ⟨Nat.le_of_ble_eq_true rfl, ?_⟩
      simp only [xX12_serves_0, nI_zP (show mask < 2 ^ 31 by omega), zi_push, zi_iload, zi_lload, zi_aload, zi_istore, zi_astore, zi_lstore, zi_iinc, zi_i2, zi_i1, zi_idv, zi_l2, zi_ldv, zi_lsh, zi_i2l, zi_l2i, zi_lcmp, zi_dup, zi_dup2, zi_pop, zi_if1, zi_if2, zi_getI, zi_getL, zi_getR, zi_putI, zi_putZ, zi_putL, zi_aldI, zi_aldL, zi_astI, zi_astZ, zi_astL, zi_alen, zi_iret, zi_zret, zi_lret, zi_vret, zi_callV, zi_callS, zi_sw, zi_copyI, zi_copyL, zi_m2, zi_m1, zi_sval, zi_scod, zi_fmt, zi_balen, zi_bald, zi_bret, zi_callT, zq_nth, zq_put1, zq_put2, zq_clr, zq_nl, zq_tk, zq_ps, zq_sw, zq_l0, zq_a, zq_a1, List.length_cons, List.length_nil, List.nil_append, List.cons_append, List.append_nil, List.replicate, Nat.reduceAdd, Nat.reduceSub, Nat.reduceLeDiff, true_and, and_true, List.append_eq, List.cons.injEq, Value.int.injEq, Value.long.injEq, Value.ref.injEq, exists_and_left, exists_eq_left', and_assoc, zc_b, zc_0, zc_1, zc_10, zc_01, lg_cmp_ge, lg_cmp_le, lg_cmp_gt, lg_cmp_lt, lg_cmp_eq, zw_le, zw_lt, reduceIte, true_or, or_true, zw_g0, zw_l0, zw_g1, zw_l1, zw_g2, zw_l2, zw_g3, zw_l3, zw_g5, zw_l5, zw_g6, zw_l6, zw_g7, zw_l7, zw_g9, zw_l9, zw_g10, zw_l10, zw_g15, zw_l15, zw_g16, zw_l16, zw_g48, zw_l48, zw_g50, zw_l50, zw_g57, zw_l57, zw_g97, zw_l97, zw_g100, zw_l100, zw_g200, zw_l200, zw_g999, zw_l999, zw_g9999, zw_l9999]
      refine ⟨fun _ => sv_leaf h0 hd hS hA (fun q => ⟨(h, (mask, s, pre, S), 0, 0), none, rfl, rfl, Nat.zero_le _, h0, q, hd, zq_fm_F zq_fm_rf (by decide), by rw [zq_sI, if_pos ⟨rfl, rfl⟩], zAt_fm hA (zq_fm_F (fs := [40]) (ps := []) zq_fm_rf (by decide)) (by decide), fun i hi => absurd hi (Nat.not_lt_zero _)⟩), fun q => absurd h0 q⟩
    · obtain ⟨h0, ⟨mask, s, pre, S⟩, t, j⟩ := z
      obtain ⟨s6, -, -, ⟨-, hj, -⟩, -⟩ := hi
      exact absurd hj (Nat.not_lt_zero _)
  | k + 1 => by
    refine mX12_serves ok_tl (by omega) ok_has (by omega) (ok_endFor b V p) (by omega) (ok_serves b V p k) (by omega) (fun z => 20 - z.2.2.1) (I_sv38 b V p) (fun z => 1000 + (10 - z.2.2.1)) (I_sv70 b V p (k + 1)) (fun args h Q hs => ?_) (fun Q z ls st h hi => sv_38 hi) (fun Q z ls st h hi => sv_70 hi)
    obtain ⟨mask, s, pre, S, rfl, hk, hd, hS, hA⟩ := hs
    have hp2 := (zp2 _ hd.2.2.2.1.1.2.1.1).2.2
    have hm := hd.1.1
    refine ⟨Nat.le_of_ble_eq_true rfl, ?_⟩
    simp only [xX12_serves_0, xX12_serves_67, nI_zP (show mask < 2 ^ 31 by omega), zi_push, zi_iload, zi_lload, zi_aload, zi_istore, zi_astore, zi_lstore, zi_iinc, zi_i2, zi_i1, zi_idv, zi_l2, zi_ldv, zi_lsh, zi_i2l, zi_l2i, zi_lcmp, zi_dup, zi_dup2, zi_pop, zi_if1, zi_if2, zi_getI, zi_getL, zi_getR, zi_putI, zi_putZ, zi_putL, zi_aldI, zi_aldL, zi_astI, zi_astZ, zi_astL, zi_alen, zi_iret, zi_zret, zi_lret, zi_vret, zi_callV, zi_callS, zi_sw, zi_copyI, zi_copyL, zi_m2, zi_m1, zi_sval, zi_scod, zi_fmt, zi_balen, zi_bald, zi_bret, zi_callT, zq_nth, zq_put1, zq_put2, zq_clr, zq_nl, zq_tk, zq_ps, zq_sw, zq_l0, zq_a, zq_a1, List.length_cons, List.length_nil, List.nil_append, List.cons_append, List.append_nil, List.replicate, Nat.reduceAdd, Nat.reduceSub, Nat.reduceLeDiff, true_and, and_true, List.append_eq, List.cons.injEq, Value.int.injEq, Value.long.injEq, Value.ref.injEq, exists_and_left, exists_eq_left', and_assoc, zc_b, zc_0, zc_1, zc_10, zc_01, lg_cmp_ge, lg_cmp_le, lg_cmp_gt, lg_cmp_lt, lg_cmp_eq, zw_le, zw_lt, reduceIte, true_or, or_true, zw_g0, zw_l0, zw_g1, zw_l1, zw_g2, zw_l2, zw_g3, zw_l3, zw_g5, zw_l5, zw_g6, zw_l6, zw_g7, zw_l7, zw_g9, zw_l9, zw_g10, zw_l10, zw_g15, zw_l15, zw_g16, zw_l16, zw_g48, zw_l48, zw_g50, zw_l50, zw_g57, zw_l57, zw_g97, zw_l97, zw_g100, zw_l100, zw_g200, zw_l200, zw_g999, zw_l999, zw_g9999, zw_l9999]
    refine ⟨fun h0 => sv_leaf h0 hd hS hA (fun q => ⟨(h, (mask, s, pre, S), 0, 0), none, rfl, rfl, Nat.zero_le _, h0, q, hd, zq_fm_F zq_fm_rf (by decide), by rw [zq_sI, if_pos ⟨rfl, rfl⟩], zAt_fm hA (zq_fm_F (fs := [40]) (ps := []) zq_fm_rf (by decide)) (by decide), fun i hi => absurd hi (Nat.not_lt_zero _)⟩), fun q => ?_⟩
    have h1 : ¬ zbc mask = 0 := fun z => q ((zbc_0 mask (by omega)).mp z)
    have hn := hd.2.2.2.1.1.1.1
    have hsd := hd.2.2.2.2.2.1
    refine ⟨(h, (mask, s, pre, S), 0, zbc mask - 1), none, rfl, rfl, ⟨Nat.zero_le _, by omega, by omega⟩, hd, zq_fm_rf, ?_, ?_, hA⟩
    · rw [zoT_0 hn]
      exact hS
    · rw [zoT_0 hn]
      exact hsd.imp id Or.inl
def sp_mCan (b : Nat) (V : zV) : zq_Sp := fun args h Q => ∃ mask p, args = [.ref 56, .int (nI mask), .int (nI p)] ∧ (mask < 2 ^ vg V ∧ p ≤ 1000) ∧ ZV V ∧ MD b V h ∧
  (zPL V (zgP V p) mask ≤ vn V → ∀ h', h'.1 56 40 = nI (zPL V (zgP V p) mask) → zAt 82 (zoW (zgR V p) ((zoF (vg V) (zgR V p) (zbc mask) mask 0 (zPL V (zgP V p) mask)).getD []) 0) h' → zq_fm [40] [81, 82] h h' → Q (some (.int 1)) h') ∧
  (¬ zPL V (zgP V p) mask ≤ vn V → ∀ h', zq_fm [40] [81, 82] h h' → Q (some (.int 0)) h')
theorem ok_mCan (b : Nat) (V : zV) : zq_M yX12_canServe cX12_canServe 3 (some .boolean) 1 10 (sp_mCan b V) := fun l D Y ad args h Q ⟨mask, p, e, hm, hV, hX, k1, k2⟩ => by
  have key : zq_M yX12_canServe cX12_canServe 3 (some .boolean) 1 10 (fun args h Q => ∃ mask, args = [.ref 56, .int (nI mask), .int (nI p)] ∧ (mask < 2 ^ vg V ∧ p ≤ 1000) ∧ ZV V ∧ MD b V h ∧ (zPL V (zgP V p) mask ≤ vn V → ∀ h', h'.1 56 40 = nI (zPL V (zgP V p) mask) → zAt 82 (zoW (zgR V p) ((zoF (vg V) (zgR V p) (zbc mask) mask 0 (zPL V (zgP V p) mask)).getD []) 0) h' → zq_fm [40] [81, 82] h h' → Q (some (.int 1)) h') ∧ (¬ zPL V (zgP V p) mask ≤ vn V → ∀ h', zq_fm [40] [81, 82] h h' → Q (some (.int 0)) h')) := by
    refine mX12_canServe (ok_serves b V p 6) (by decide) (fun args h Q hs => ?_)
    obtain ⟨mask, rfl, ⟨hm, hp⟩, hV, hX, k1, k2⟩ := hs
    have hn := hX.1.1.1
    have hg := hX.1.2.1.1
    have hp2 := (zp2 _ hg).2.2
    have hd := zgP_d hV hn hg hp
    have h6 := zbc_6 mask (by omega)
    have f0 : zq_fm [40] [] h (zq_setI h 56 40 1000) := zq_fm_F zq_fm_rf (by decide)
    refine ⟨Nat.le_of_ble_eq_true rfl, ?_⟩
    simp only [xX12_canServe_0, zi_push, zi_iload, zi_lload, zi_aload, zi_istore, zi_astore, zi_lstore, zi_iinc, zi_i2, zi_i1, zi_idv, zi_l2, zi_ldv, zi_lsh, zi_i2l, zi_l2i, zi_lcmp, zi_dup, zi_dup2, zi_pop, zi_if1, zi_if2, zi_getI, zi_getL, zi_getR, zi_putI, zi_putZ, zi_putL, zi_aldI, zi_aldL, zi_astI, zi_astZ, zi_astL, zi_alen, zi_iret, zi_zret, zi_lret, zi_vret, zi_callV, zi_callS, zi_sw, zi_copyI, zi_copyL, zi_m2, zi_m1, zi_sval, zi_scod, zi_fmt, zi_balen, zi_bald, zi_bret, zi_callT, zq_nth, zq_put1, zq_put2, zq_clr, zq_nl, zq_tk, zq_ps, zq_sw, zq_l0, zq_a, zq_a1, List.length_cons, List.length_nil, List.nil_append, List.cons_append, List.append_nil, List.replicate, Nat.reduceAdd, Nat.reduceSub, Nat.reduceLeDiff, true_and, and_true, List.append_eq, List.cons.injEq, Value.int.injEq, Value.long.injEq, Value.ref.injEq, exists_and_left, exists_eq_left', and_assoc, zc_b, zc_0, zc_1, zc_10, zc_01, lg_cmp_ge, lg_cmp_le, lg_cmp_gt, lg_cmp_lt, lg_cmp_eq, zw_le, zw_lt, reduceIte, true_or, or_true, zw_g0, zw_l0, zw_g1, zw_l1, zw_g2, zw_l2, zw_g3, zw_l3, zw_g5, zw_l5, zw_g6, zw_l6, zw_g7, zw_l7, zw_g9, zw_l9, zw_g10, zw_l10, zw_g15, zw_l15, zw_g16, zw_l16, zw_g48, zw_l48, zw_g50, zw_l50, zw_g57, zw_l57, zw_g97, zw_l97, zw_g100, zw_l100, zw_g200, zw_l200, zw_g999, zw_l999, zw_g9999, zw_l9999]
    have eG : zoG (vg V) (zgR V p) (zbc mask) mask 0 = zPL V (zgP V p) mask := zPL_G hd (by omega)
    refine ⟨mask, 0, [], (1000, []), rfl, h6, ⟨⟨hm, Nat.zero_le _, by show 0 + zbc mask ≤ 6; omega⟩, hp, hV, MD_fm hX f0 (by decide), rfl, Or.inl rfl, fun h1 a1 a2 f1 => ?_⟩, ⟨by rw [zq_sI, if_pos ⟨rfl, rfl⟩]; rfl, Or.inl rfl⟩, fun i x e => by cases e⟩
    have f1 := zq_fm_t (zq_fm_w (fs2 := [40]) (ps2 := [81, 82]) f0 (by decide)) f1 (by decide)
    unfold zsv at a1
    rw [eG] at a1
    by_cases c : zPL V (zgP V p) mask ≤ vn V
    · rw [if_pos ⟨c, by dsimp only; omega⟩] at a1
      have e40 := a1.1
      dsimp only at e40
      have c9 : (1000 ≤ nI (zPL V (zgP V p) mask)) = False := by rw [show (1000 : Int32) = nI 1000 from rfl, nI_leP (by decide) (by omega)]; exact eq_false (by omega)
      simp only [xX12_canServe_25, xX12_canServe_30, e40, c9, not_true_eq_false, not_false_eq_true, forall_const, true_and, and_true, false_and, and_false, if_true, if_false, reduceIte, implies_true, and_self, ite_self, true_or, or_true, false_or, or_false, true_implies, false_implies, Classical.not_not, false_imp_iff, not_false_iff, zi_push, zi_iload, zi_lload, zi_aload, zi_istore, zi_astore, zi_lstore, zi_iinc, zi_i2, zi_i1, zi_idv, zi_l2, zi_ldv, zi_lsh, zi_i2l, zi_l2i, zi_lcmp, zi_dup, zi_dup2, zi_pop, zi_if1, zi_if2, zi_getI, zi_getL, zi_getR, zi_putI, zi_putZ, zi_putL, zi_aldI, zi_aldL, zi_astI, zi_astZ, zi_astL, zi_alen, zi_iret, zi_zret, zi_lret, zi_vret, zi_callV, zi_callS, zi_sw, zi_copyI, zi_copyL, zi_m2, zi_m1, zi_sval, zi_scod, zi_fmt, zi_balen, zi_bald, zi_bret, zi_callT, zq_nth, zq_put1, zq_put2, zq_clr, zq_nl, zq_tk, zq_ps, zq_sw, zq_l0, zq_a, zq_a1, List.length_cons, List.length_nil, List.nil_append, List.cons_append, List.append_nil, List.replicate, Nat.reduceAdd, Nat.reduceSub, Nat.reduceLeDiff, true_and, and_true, List.append_eq, List.cons.injEq, Value.int.injEq, Value.long.injEq, Value.ref.injEq, exists_and_left, exists_eq_left', and_assoc, zc_b, zc_0, zc_1, zc_10, zc_01, lg_cmp_ge, lg_cmp_le, lg_cmp_gt, lg_cmp_lt, lg_cmp_eq, zw_le, zw_lt, reduceIte, true_or, or_true, zw_g0, zw_l0, zw_g1, zw_l1, zw_g2, zw_l2, zw_g3, zw_l3, zw_g5, zw_l5, zw_g6, zw_l6, zw_g7, zw_l7, zw_g9, zw_l9, zw_g10, zw_l10, zw_g15, zw_l15, zw_g16, zw_l16, zw_g48, zw_l48, zw_g50, zw_l50, zw_g57, zw_l57, zw_g97, zw_l97, zw_g100, zw_l100, zw_g200, zw_l200, zw_g999, zw_l999, zw_g9999, zw_l9999]
      refine k1 c h1 e40 ?_ f1
      rcases a1.2 with q | q
      · dsimp only at q
        omega
      · exact q.2
    · rw [if_neg (fun z => c z.1)] at a1
      have e40 := a1.1
      dsimp only at e40
      have c9 : ((1000 : Int32) ≤ nI 1000) = True := eq_true (by decide)
      simp only [xX12_canServe_29, xX12_canServe_30, e40, c9, not_true_eq_false, not_false_eq_true, forall_const, true_and, and_true, false_and, and_false, if_true, if_false, reduceIte, implies_true, and_self, ite_self, true_or, or_true, false_or, or_false, true_implies, false_implies, Classical.not_not, false_imp_iff, not_false_iff, zi_push, zi_iload, zi_lload, zi_aload, zi_istore, zi_astore, zi_lstore, zi_iinc, zi_i2, zi_i1, zi_idv, zi_l2, zi_ldv, zi_lsh, zi_i2l, zi_l2i, zi_lcmp, zi_dup, zi_dup2, zi_pop, zi_if1, zi_if2, zi_getI, zi_getL, zi_getR, zi_putI, zi_putZ, zi_putL, zi_aldI, zi_aldL, zi_astI, zi_astZ, zi_astL, zi_alen, zi_iret, zi_zret, zi_lret, zi_vret, zi_callV, zi_callS, zi_sw, zi_copyI, zi_copyL, zi_m2, zi_m1, zi_sval, zi_scod, zi_fmt, zi_balen, zi_bald, zi_bret, zi_callT, zq_nth, zq_put1, zq_put2, zq_clr, zq_nl, zq_tk, zq_ps, zq_sw, zq_l0, zq_a, zq_a1, List.length_cons, List.length_nil, List.nil_append, List.cons_append, List.append_nil, List.replicate, Nat.reduceAdd, Nat.reduceSub, Nat.reduceLeDiff, true_and, and_true, List.append_eq, List.cons.injEq, Value.int.injEq, Value.long.injEq, Value.ref.injEq, exists_and_left, exists_eq_left', and_assoc, zc_b, zc_0, zc_1, zc_10, zc_01, lg_cmp_ge, lg_cmp_le, lg_cmp_gt, lg_cmp_lt, lg_cmp_eq, zw_le, zw_lt, reduceIte, true_or, or_true, zw_g0, zw_l0, zw_g1, zw_l1, zw_g2, zw_l2, zw_g3, zw_l3, zw_g5, zw_l5, zw_g6, zw_l6, zw_g7, zw_l7, zw_g9, zw_l9, zw_g10, zw_l10, zw_g15, zw_l15, zw_g16, zw_l16, zw_g48, zw_l48, zw_g50, zw_l50, zw_g57, zw_l57, zw_g97, zw_l97, zw_g100, zw_l100, zw_g200, zw_l200, zw_g999, zw_l999, zw_g9999, zw_l9999]
      exact k2 c h1 f1
  exact key l D Y ad args h Q ⟨mask, e, hm, hV, hX, k1, k2⟩
