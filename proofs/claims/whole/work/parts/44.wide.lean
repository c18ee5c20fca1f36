/-! ===== chances of the reference; enough, wide ===== -/
def sp_bets (b : Nat) (V : zV) : zq_Sp := fun args h Q => ∃ p v, args = [.ref 56, .int (nI p), .int (nI v)] ∧ (p ≤ 10 ∧ v ≤ 9999) ∧ ZV V ∧ MC b V h ∧ ∀ h', h'.2 56 61 = lN (zchA V p v) → h'.2 56 62 = lN (10 ^ vg V) → zq_fm [61, 62] [] h h' → Q none h'
def zbe (b : Nat) (V : zV) (Q : zq_Q) (h0 h : zq_H) (p v : Nat) : Prop := (p ≤ 10 ∧ v ≤ 9999) ∧ ZV V ∧ MC b V h0 ∧ zq_fm [61, 62] [] h0 h ∧ ∀ h', h'.2 56 61 = lN (zchA V p v) → h'.2 56 62 = lN (10 ^ vg V) → zq_fm [61, 62] [] h0 h' → Q none h'
def I_be12 (b : Nat) (V : zV) (Q : zq_Q) (z : zq_H × Nat × Nat × Nat × Nat) : zq_P := fun ls st h => match z with
  | (h0, p, v, i, _) => ∃ s4 s5 s6, ls = [some (.ref 56), some (.int (nI p)), some (.int (nI v)), some (.int (nI i)), s4, s5, s6] ∧ st = [] ∧ i ≤ vg V ∧ h.2 56 61 = lN 0 ∧ h.2 56 62 = lN (10 ^ i) ∧ zbe b V Q h0 h p v
def I_be40 (b : Nat) (V : zV) (Q : zq_Q) (z : zq_H × Nat × Nat × Nat × Nat) : zq_P := fun ls st h => match z with
  | (h0, p, v, t, _) => ∃ s4 s5 s6, ls = [some (.ref 56), some (.int (nI p)), some (.int (nI v)), some (.int (nI t)), s4, s5, s6] ∧ st = [] ∧ t ≤ 2 ^ vg V ∧ h.2 56 61 = lN (zch V p v t) ∧ h.2 56 62 = lN (10 ^ vg V) ∧ zbe b V Q h0 h p v
def zf01 (V : zV) (t v : Nat) : Nat := if vDs V t ≤ v then 1 else 0
def I_be67 (b : Nat) (V : zV) (Q : zq_Q) (z : zq_H × Nat × Nat × Nat × Nat) : zq_P := fun ls st h => match z with
  | (h0, p, v, t, i) => ls = [some (.ref 56), some (.int (nI p)), some (.int (nI v)), some (.int (nI t)), some (.long (lN (zf01 V t v * zpr p t i))), none, some (.int (nI i))] ∧ st = [] ∧ (t < 2 ^ vg V ∧ i ≤ vg V) ∧ h.2 56 61 = lN (zch V p v t) ∧ h.2 56 62 = lN (10 ^ vg V) ∧ zbe b V Q h0 h p v
theorem ok_bets (b : Nat) (V : zV) : zq_M yX12_bets cX12_bets 7 none 0 2 (sp_bets b V) := by
  refine mX12_bets (ok_mEveryV b V) (by decide) (ok_mDsV b V) (by decide) ok_has (by decide) (fun z => 10000 - z.2.2.2.1) (I_be12 b V) (fun z => (64 - z.2.2.2.1) * 20) (I_be40 b V) (fun z => (64 - z.2.2.2.1) * 20 - 1 - z.2.2.2.2) (I_be67 b V) (fun args h Q hs => ?_) (fun Q z ls st h hi => ?_) (fun Q z ls st h hi => ?_) (fun Q z ls st h hi => ?_)
  · obtain ⟨p, v, rfl, hp, hV, hX, k⟩ := hs
    refine ⟨Nat.le_of_ble_eq_true rfl, ?_⟩
    simp only [xX12_bets_123, xX12_bets_106, xX12_bets_97, xX12_bets_92, xX12_bets_87, xX12_bets_76, xX12_bets_67, xX12_bets_62, xX12_bets_61, xX12_bets_57, xX12_bets_48, xX12_bets_40, xX12_bets_38, xX12_bets_20, xX12_bets_12, xX12_bets_0, zi_push, zi_iload, zi_lload, zi_aload, zi_istore, zi_astore, zi_lstore, zi_iinc, zi_i2, zi_i1, zi_idv, zi_l2, zi_ldv, zi_lsh, zi_i2l, zi_l2i, zi_lcmp, zi_dup, zi_dup2, zi_pop, zi_if1, zi_if2, zi_getI, zi_getL, zi_getR, zi_putI, zi_putZ, zi_putL, zi_aldI, zi_aldL, zi_astI, zi_astZ, zi_astL, zi_alen, zi_iret, zi_zret, zi_lret, zi_vret, zi_callV, zi_callS, zi_sw, zi_copyI, zi_copyL, zi_m2, zi_m1, zi_sval, zi_scod, zi_fmt, zi_balen, zi_bald, zi_bret, zi_callT, zq_nth, zq_put1, zq_put2, zq_clr, zq_nl, zq_tk, zq_ps, zq_sw, zq_l0, zq_a, zq_a1, List.length_cons, List.length_nil, List.nil_append, List.cons_append, List.append_nil, List.replicate, Nat.reduceAdd, Nat.reduceSub, Nat.reduceLeDiff, true_and, and_true, List.append_eq, List.cons.injEq, Value.int.injEq, Value.long.injEq, Value.ref.injEq, exists_and_left, exists_eq_left', and_assoc, zc_b, zc_0, zc_1, zc_10, zc_01, lg_cmp_ge, lg_cmp_le, lg_cmp_gt, lg_cmp_lt, lg_cmp_eq, zw_le, zw_lt, reduceIte, true_or, or_true, zw_g0, zw_l0, zw_g1, zw_l1, zw_g2, zw_l2, zw_g3, zw_l3, zw_g5, zw_l5, zw_g6, zw_l6, zw_g7, zw_l7, zw_g9, zw_l9, zw_g10, zw_l10, zw_g15, zw_l15, zw_g16, zw_l16, zw_g48, zw_l48, zw_g50, zw_l50, zw_g57, zw_l57, zw_g97, zw_l97, zw_g100, zw_l100, zw_g200, zw_l200, zw_g999, zw_l999, zw_g9999, zw_l9999]
    exact ⟨(h, p, v, 0, 0), none, none, none, rfl, rfl, Nat.zero_le _, by simp [zq_sL]; rfl, by simp [zq_sL]; rfl, hp, hV, hX, zq_fm_FL (zq_fm_FL zq_fm_rf (by decide)) (by decide), k⟩
  · obtain ⟨h0, p, v, i, i9⟩ := z
    obtain ⟨s4, s5, s6, rfl, rfl, hi, e61, e62, hp, hV, hX, hf, k⟩ := hi
    have hX1 := MC_fm hX hf (by decide)
    have hg := hX1.2.1.1
    simp only [xX12_bets_12, xX12_bets_20, xX12_bets_38, hX1.2.1.2.1, zl_ge hi (show vg V < 2 ^ 31 by omega), e62, zi_push, zi_iload, zi_lload, zi_aload, zi_istore, zi_astore, zi_lstore, zi_iinc, zi_i2, zi_i1, zi_idv, zi_l2, zi_ldv, zi_lsh, zi_i2l, zi_l2i, zi_lcmp, zi_dup, zi_dup2, zi_pop, zi_if1, zi_if2, zi_getI, zi_getL, zi_getR, zi_putI, zi_putZ, zi_putL, zi_aldI, zi_aldL, zi_astI, zi_astZ, zi_astL, zi_alen, zi_iret, zi_zret, zi_lret, zi_vret, zi_callV, zi_callS, zi_sw, zi_copyI, zi_copyL, zi_m2, zi_m1, zi_sval, zi_scod, zi_fmt, zi_balen, zi_bald, zi_bret, zi_callT, zq_nth, zq_put1, zq_put2, zq_clr, zq_nl, zq_tk, zq_ps, zq_sw, zq_l0, zq_a, zq_a1, List.length_cons, List.length_nil, List.nil_append, List.cons_append, List.append_nil, List.replicate, Nat.reduceAdd, Nat.reduceSub, Nat.reduceLeDiff, true_and, and_true, List.append_eq, List.cons.injEq, Value.int.injEq, Value.long.injEq, Value.ref.injEq, exists_and_left, exists_eq_left', and_assoc, zc_b, zc_0, zc_1, zc_10, zc_01, lg_cmp_ge, lg_cmp_le, lg_cmp_gt, lg_cmp_lt, lg_cmp_eq, zw_le, zw_lt, reduceIte, true_or, or_true, zw_g0, zw_l0, zw_g1, zw_l1, zw_g2, zw_l2, zw_g3, zw_l3, zw_g5, zw_l5, zw_g6, zw_l6, zw_g7, zw_l7, zw_g9, zw_l9, zw_g10, zw_l10, zw_g15, zw_l15, zw_g16, zw_l16, zw_g48, zw_l48, zw_g50, zw_l50, zw_g57, zw_l57, zw_g97, zw_l97, zw_g100, zw_l100, zw_g200, zw_l200, zw_g999, zw_l999, zw_g9999, zw_l9999]
    refine ⟨fun q => ?_, fun q => ?_⟩
    · subst q
      exact ⟨(h0, p, v, 0, 0), by dsimp only; omega, s4, s5, s6, rfl, rfl, Nat.zero_le _, e61, e62, hp, hV, hX, hf, k⟩
    · rw [show (10 : Int64) = lN 10 from rfl, lN_mul, nI_1, ← Nat.pow_succ]
      exact ⟨(h0, p, v, i + 1, 0), by dsimp only; omega, s4, s5, s6, rfl, rfl, by omega, by simpa [zq_sL] using e61, by simp [zq_sL], hp, hV, hX, zq_fm_FL hf (by decide), k⟩
  · obtain ⟨h0, p, v, t, i9⟩ := z
    obtain ⟨s4, s5, s6, rfl, rfl, ht, e61, e62, hp, hV, hX, hf, k⟩ := hi
    have hX1 := MC_fm hX hf (by decide)
    have hg := hX1.2.1.1
    have hp2 := (zp2 _ hg).2.2
    have l1 := vDs_le V t
    have l2 := vA_le hV
    simp only [xX12_bets_40, zi_push, zi_iload, zi_lload, zi_aload, zi_istore, zi_astore, zi_lstore, zi_iinc, zi_i2, zi_i1, zi_idv, zi_l2, zi_ldv, zi_lsh, zi_i2l, zi_l2i, zi_lcmp, zi_dup, zi_dup2, zi_pop, zi_if1, zi_if2, zi_getI, zi_getL, zi_getR, zi_putI, zi_putZ, zi_putL, zi_aldI, zi_aldL, zi_astI, zi_astZ, zi_astL, zi_alen, zi_iret, zi_zret, zi_lret, zi_vret, zi_callV, zi_callS, zi_sw, zi_copyI, zi_copyL, zi_m2, zi_m1, zi_sval, zi_scod, zi_fmt, zi_balen, zi_bald, zi_bret, zi_callT, zq_nth, zq_put1, zq_put2, zq_clr, zq_nl, zq_tk, zq_ps, zq_sw, zq_l0, zq_a, zq_a1, List.length_cons, List.length_nil, List.nil_append, List.cons_append, List.append_nil, List.replicate, Nat.reduceAdd, Nat.reduceSub, Nat.reduceLeDiff, true_and, and_true, List.append_eq, List.cons.injEq, Value.int.injEq, Value.long.injEq, Value.ref.injEq, exists_and_left, exists_eq_left', and_assoc, zc_b, zc_0, zc_1, zc_10, zc_01, lg_cmp_ge, lg_cmp_le, lg_cmp_gt, lg_cmp_lt, lg_cmp_eq, zw_le, zw_lt, reduceIte, true_or, or_true, zw_g0, zw_l0, zw_g1, zw_l1, zw_g2, zw_l2, zw_g3, zw_l3, zw_g5, zw_l5, zw_g6, zw_l6, zw_g7, zw_l7, zw_g9, zw_l9, zw_g10, zw_l10, zw_g15, zw_l15, zw_g16, zw_l16, zw_g48, zw_l48, zw_g50, zw_l50, zw_g57, zw_l57, zw_g97, zw_l97, zw_g100, zw_l100, zw_g200, zw_l200, zw_g999, zw_l999, zw_g9999, zw_l9999]
    refine ⟨rfl, hX1, ?_⟩
    simp only [xX12_bets_48, xX12_bets_123, zlt_p hg ht, zi_push, zi_iload, zi_lload, zi_aload, zi_istore, zi_astore, zi_lstore, zi_iinc, zi_i2, zi_i1, zi_idv, zi_l2, zi_ldv, zi_lsh, zi_i2l, zi_l2i, zi_lcmp, zi_dup, zi_dup2, zi_pop, zi_if1, zi_if2, zi_getI, zi_getL, zi_getR, zi_putI, zi_putZ, zi_putL, zi_aldI, zi_aldL, zi_astI, zi_astZ, zi_astL, zi_alen, zi_iret, zi_zret, zi_lret, zi_vret, zi_callV, zi_callS, zi_sw, zi_copyI, zi_copyL, zi_m2, zi_m1, zi_sval, zi_scod, zi_fmt, zi_balen, zi_bald, zi_bret, zi_callT, zq_nth, zq_put1, zq_put2, zq_clr, zq_nl, zq_tk, zq_ps, zq_sw, zq_l0, zq_a, zq_a1, List.length_cons, List.length_nil, List.nil_append, List.cons_append, List.append_nil, List.replicate, Nat.reduceAdd, Nat.reduceSub, Nat.reduceLeDiff, true_and, and_true, List.append_eq, List.cons.injEq, Value.int.injEq, Value.long.injEq, Value.ref.injEq, exists_and_left, exists_eq_left', and_assoc, zc_b, zc_0, zc_1, zc_10, zc_01, lg_cmp_ge, lg_cmp_le, lg_cmp_gt, lg_cmp_lt, lg_cmp_eq, zw_le, zw_lt, reduceIte, true_or, or_true, zw_g0, zw_l0, zw_g1, zw_l1, zw_g2, zw_l2, zw_g3, zw_l3, zw_g5, zw_l5, zw_g6, zw_l6, zw_g7, zw_l7, zw_g9, zw_l9, zw_g10, zw_l10, zw_g15, zw_l15, zw_g16, zw_l16, zw_g48, zw_l48, zw_g50, zw_l50, zw_g57, zw_l57, zw_g97, zw_l97, zw_g100, zw_l100, zw_g200, zw_l200, zw_g999, zw_l999, zw_g9999, zw_l9999]
    refine ⟨fun q => ?_, fun q => ⟨t, rfl, by omega, hV, hX1, ?_⟩⟩
    · subst q
      exact k h e61 e62 hf
    · simp only [xX12_bets_57, xX12_bets_61, xX12_bets_62, nI_ltP (show v < 2 ^ 31 by omega) (show vDs V t < 2 ^ 31 by omega), zi_push, zi_iload, zi_lload, zi_aload, zi_istore, zi_astore, zi_lstore, zi_iinc, zi_i2, zi_i1, zi_idv, zi_l2, zi_ldv, zi_lsh, zi_i2l, zi_l2i, zi_lcmp, zi_dup, zi_dup2, zi_pop, zi_if1, zi_if2, zi_getI, zi_getL, zi_getR, zi_putI, zi_putZ, zi_putL, zi_aldI, zi_aldL, zi_astI, zi_astZ, zi_astL, zi_alen, zi_iret, zi_zret, zi_lret, zi_vret, zi_callV, zi_callS, zi_sw, zi_copyI, zi_copyL, zi_m2, zi_m1, zi_sval, zi_scod, zi_fmt, zi_balen, zi_bald, zi_bret, zi_callT, zq_nth, zq_put1, zq_put2, zq_clr, zq_nl, zq_tk, zq_ps, zq_sw, zq_l0, zq_a, zq_a1, List.length_cons, List.length_nil, List.nil_append, List.cons_append, List.append_nil, List.replicate, Nat.reduceAdd, Nat.reduceSub, Nat.reduceLeDiff, true_and, and_true, List.append_eq, List.cons.injEq, Value.int.injEq, Value.long.injEq, Value.ref.injEq, exists_and_left, exists_eq_left', and_assoc, zc_b, zc_0, zc_1, zc_10, zc_01, lg_cmp_ge, lg_cmp_le, lg_cmp_gt, lg_cmp_lt, lg_cmp_eq, zw_le, zw_lt, reduceIte, true_or, or_true, zw_g0, zw_l0, zw_g1, zw_l1, zw_g2, zw_l2, zw_g3, zw_l3, zw_g5, zw_l5, zw_g6, zw_l6, zw_g7, zw_l7, zw_g9, zw_l9, zw_g10, zw_l10, zw_g15, zw_l15, zw_g16, zw_l16, zw_g48, zw_l48, zw_g50, zw_l50, zw_g57, zw_l57, zw_g97, zw_l97, zw_g100, zw_l100, zw_g200, zw_l200, zw_g999, zw_l999, zw_g9999, zw_l9999]
      refine ⟨fun q2 => ?_, fun q2 => ?_⟩
      · refine ⟨(h0, p, v, t, 0), by dsimp only; omega, ?_, rfl, ⟨by omega, Nat.zero_le _⟩, e61, e62, hp, hV, hX, hf, k⟩
        unfold zf01
        rw [if_neg (by omega)]
        rfl
      · refine ⟨(h0, p, v, t, 0), by dsimp only; omega, ?_, rfl, ⟨by omega, Nat.zero_le _⟩, e61, e62, hp, hV, hX, hf, k⟩
        unfold zf01
        rw [if_pos (by omega)]
        rfl
  · obtain ⟨h0, p, v, t, i⟩ := z
    obtain ⟨rfl, rfl, ⟨ht, hi⟩, e61, e62, hp, hV, hX, hf, k⟩ := hi
    have hX1 := MC_fm hX hf (by decide)
    have hg := hX1.2.1.1
    have hp2 := (zp2 _ hg).2.2
    simp only [xX12_bets_67, xX12_bets_76, xX12_bets_106, xX12_bets_87, xX12_bets_92, xX12_bets_97, hX1.2.1.2.1, zl_ge hi (show vg V < 2 ^ 31 by omega), sp_has, zbit01, Classical.not_not, e61, zi_push, zi_iload, zi_lload, zi_aload, zi_istore, zi_astore, zi_lstore, zi_iinc, zi_i2, zi_i1, zi_idv, zi_l2, zi_ldv, zi_lsh, zi_i2l, zi_l2i, zi_lcmp, zi_dup, zi_dup2, zi_pop, zi_if1, zi_if2, zi_getI, zi_getL, zi_getR, zi_putI, zi_putZ, zi_putL, zi_aldI, zi_aldL, zi_astI, zi_astZ, zi_astL, zi_alen, zi_iret, zi_zret, zi_lret, zi_vret, zi_callV, zi_callS, zi_sw, zi_copyI, zi_copyL, zi_m2, zi_m1, zi_sval, zi_scod, zi_fmt, zi_balen, zi_bald, zi_bret, zi_callT, zq_nth, zq_put1, zq_put2, zq_clr, zq_nl, zq_tk, zq_ps, zq_sw, zq_l0, zq_a, zq_a1, List.length_cons, List.length_nil, List.nil_append, List.cons_append, List.append_nil, List.replicate, Nat.reduceAdd, Nat.reduceSub, Nat.reduceLeDiff, true_and, and_true, List.append_eq, List.cons.injEq, Value.int.injEq, Value.long.injEq, Value.ref.injEq, exists_and_left, exists_eq_left', and_assoc, zc_b, zc_0, zc_1, zc_10, zc_01, lg_cmp_ge, lg_cmp_le, lg_cmp_gt, lg_cmp_lt, lg_cmp_eq, zw_le, zw_lt, reduceIte, true_or, or_true, zw_g0, zw_l0, zw_g1, zw_l1, zw_g2, zw_l2, zw_g3, zw_l3, zw_g5, zw_l5, zw_g6, zw_l6, zw_g7, zw_l7, zw_g9, zw_l9, zw_g10, zw_l10, zw_g15, zw_l15, zw_g16, zw_l16, zw_g48, zw_l48, zw_g50, zw_l50, zw_g57, zw_l57, zw_g97, zw_l97, zw_g100, zw_l100, zw_g200, zw_l200, zw_g999, zw_l999, zw_g9999, zw_l9999]
    refine ⟨fun q => ?_, fun q => ?_⟩
    · subst q
      rw [lN_add, nI_1]
      have e : zch V p v (t + 1) = zch V p v t + zf01 V t v * zpr p t (vg V) := by
        show zch V p v t + (if vDs V t ≤ v then zpr p t (vg V) else 0) = _
        unfold zf01
        split
        · rw [Nat.one_mul]
        · rw [Nat.zero_mul]
      rw [← e]
      exact ⟨(h0, p, v, t + 1, 0), by dsimp only; omega, _, _, _, rfl, rfl, by omega, by simp [zq_sL], by simpa [zq_sL] using e62, hp, hV, hX, zq_fm_FL hf (by decide), k⟩
    · have h10 := hp.1
      rw [zbitP (by omega) (by omega), show (10 : Int32) - nI p = nI (10 - p) from nI_sub (a := 10) h10, nI_l (by omega), nI_l (by omega), lN_mul, lN_mul, nI_1]
      have e : zf01 V t v * zpr p t (i + 1) = zf01 V t v * zpr p t i * (if t.testBit i = false then 10 - p else p) := (Nat.mul_assoc _ _ _).symm
      first
        | (refine ⟨Nat.le_of_ble_eq_true rfl, fun q2 => ⟨(h0, p, v, t, i + 1), by dsimp only; omega, ?_, rfl, ⟨ht, by omega⟩, e61, e62, hp, hV, hX, hf, k⟩, fun q2 => ⟨(h0, p, v, t, i + 1), by dsimp only; omega, ?_, rfl, ⟨ht, by omega⟩, e61, e62, hp, hV, hX, hf, k⟩⟩
           · rw [e, if_pos q2]
           · rw [e, if_neg q2])
        | (refine ⟨fun q2 => ⟨(h0, p, v, t, i + 1), by dsimp only; omega, ?_, rfl, ⟨ht, by omega⟩, e61, e62, hp, hV, hX, hf, k⟩, fun q2 => ⟨(h0, p, v, t, i + 1), by dsimp only; omega, ?_, rfl, ⟨ht, by omega⟩, e61, e62, hp, hV, hX, hf, k⟩⟩
           · rw [e, if_pos q2]
           · rw [e, if_neg q2])
def zKRe (h : zq_H) (Q : zq_Q) (row : List Int64) (r : Int32) : Prop := ∀ h', MR row h' → zq_fm [0, 1, 61, 62] [57] h h' → Q (some (.int r)) h'
def sp_mEnough (b : Nat) (V : zV) : zq_Sp := fun args h Q => ∃ a c, args = [.ref 56, .int a, .int c] ∧ ZV V ∧ MC b V h ∧ (¬ zpv a c 9999 → ∀ h', zq_fm [0] [] h h' → Q (some (.int (-1))) h') ∧ ∀ p v, p ≤ 10 → v ≤ 9999 → a = nI p → c = nI v → zKRe h Q (zfr (zchA V p v) (10 ^ vg V)) 0
theorem ok_mEnough (b : Nat) (V : zV) : zq_M yX12_enough cX12_enough 5 (some .int) 1 65 (sp_mEnough b V) := by
  refine mX12_enough ok_in (by decide) (ok_bets b V) (by decide) ok_gcd (by decide) ok_entersL (by decide) (fun args h Q hs => ?_)
  obtain ⟨a, c, rfl, hV, hX, k1, k2⟩ := hs
  have hg := hX.2.1.1
  have f0 : zq_fm [0] [] h (zq_setI h 56 0 0) := zq_fm_F zq_fm_rf (by decide)
  have hX1 := MC_fm hX f0 (by decide)
  refine ⟨Nat.le_of_ble_eq_true rfl, ?_⟩
  simp only [xX12_enough_31, xX12_enough_29, xX12_enough_17, xX12_enough_0, zi_push, zi_iload, zi_lload, zi_aload, zi_istore, zi_astore, zi_lstore, zi_iinc, zi_i2, zi_i1, zi_idv, zi_l2, zi_ldv, zi_lsh, zi_i2l, zi_l2i, zi_lcmp, zi_dup, zi_dup2, zi_pop, zi_if1, zi_if2, zi_getI, zi_getL, zi_getR, zi_putI, zi_putZ, zi_putL, zi_aldI, zi_aldL, zi_astI, zi_astZ, zi_astL, zi_alen, zi_iret, zi_zret, zi_lret, zi_vret, zi_callV, zi_callS, zi_sw, zi_copyI, zi_copyL, zi_m2, zi_m1, zi_sval, zi_scod, zi_fmt, zi_balen, zi_bald, zi_bret, zi_callT, zq_nth, zq_put1, zq_put2, zq_clr, zq_nl, zq_tk, zq_ps, zq_sw, zq_l0, zq_a, zq_a1, List.length_cons, List.length_nil, List.nil_append, List.cons_append, List.append_nil, List.replicate, Nat.reduceAdd, Nat.reduceSub, Nat.reduceLeDiff, true_and, and_true, List.append_eq, List.cons.injEq, Value.int.injEq, Value.long.injEq, Value.ref.injEq, exists_and_left, exists_eq_left', and_assoc, zc_b, zc_0, zc_1, zc_10, zc_01, lg_cmp_ge, lg_cmp_le, lg_cmp_gt, lg_cmp_lt, lg_cmp_eq, zw_le, zw_lt, reduceIte, true_or, or_true, zw_g0, zw_l0, zw_g1, zw_l1, zw_g2, zw_l2, zw_g3, zw_l3, zw_g5, zw_l5, zw_g6, zw_l6, zw_g7, zw_l7, zw_g9, zw_l9, zw_g10, zw_l10, zw_g15, zw_l15, zw_g16, zw_l16, zw_g48, zw_l48, zw_g50, zw_l50, zw_g57, zw_l57, zw_g97, zw_l97, zw_g100, zw_l100, zw_g200, zw_l200, zw_g999, zw_l999, zw_g9999, zw_l9999, sp_in]
  refine ⟨fun q => k1 (fun z => q z.1) _ f0, fun q => ⟨fun q2 => k1 (fun z => q2 z.2) _ f0, fun q2 => ?_⟩⟩
  obtain ⟨p, hp, rfl⟩ := z10n (by first | exact q | exact Classical.not_not.mp q)
  obtain ⟨v, hv, rfl⟩ := z9999 (by first | exact q2 | exact Classical.not_not.mp q2)
  refine ⟨p, v, rfl, ⟨hp, hv⟩, hV, hX1, fun h1 e61 e62 f1 => ?_⟩
  have l1 : zchA V p v ≤ 64000000 := zch_le hg hp (by have := (zp2 _ hg).2.2; omega)
  have l2 := z10 _ hg
  have l3 : 0 < 10 ^ vg V := Nat.pow_pos (by decide)
  simp only [e61, e62, zi_push, zi_iload, zi_lload, zi_aload, zi_istore, zi_astore, zi_lstore, zi_iinc, zi_i2, zi_i1, zi_idv, zi_l2, zi_ldv, zi_lsh, zi_i2l, zi_l2i, zi_lcmp, zi_dup, zi_dup2, zi_pop, zi_if1, zi_if2, zi_getI, zi_getL, zi_getR, zi_putI, zi_putZ, zi_putL, zi_aldI, zi_aldL, zi_astI, zi_astZ, zi_astL, zi_alen, zi_iret, zi_zret, zi_lret, zi_vret, zi_callV, zi_callS, zi_sw, zi_copyI, zi_copyL, zi_m2, zi_m1, zi_sval, zi_scod, zi_fmt, zi_balen, zi_bald, zi_bret, zi_callT, zq_nth, zq_put1, zq_put2, zq_clr, zq_nl, zq_tk, zq_ps, zq_sw, zq_l0, zq_a, zq_a1, List.length_cons, List.length_nil, List.nil_append, List.cons_append, List.append_nil, List.replicate, Nat.reduceAdd, Nat.reduceSub, Nat.reduceLeDiff, true_and, and_true, List.append_eq, List.cons.injEq, Value.int.injEq, Value.long.injEq, Value.ref.injEq, exists_and_left, exists_eq_left', and_assoc, zc_b, zc_0, zc_1, zc_10, zc_01, lg_cmp_ge, lg_cmp_le, lg_cmp_gt, lg_cmp_lt, lg_cmp_eq, zw_le, zw_lt, reduceIte, true_or, or_true, zw_g0, zw_l0, zw_g1, zw_l1, zw_g2, zw_l2, zw_g3, zw_l3, zw_g5, zw_l5, zw_g6, zw_l6, zw_g7, zw_l7, zw_g9, zw_l9, zw_g10, zw_l10, zw_g15, zw_l15, zw_g16, zw_l16, zw_g48, zw_l48, zw_g50, zw_l50, zw_g57, zw_l57, zw_g97, zw_l97, zw_g100, zw_l100, zw_g200, zw_l200, zw_g999, zw_l999, zw_g9999, zw_l9999]
  refine ⟨zchA V p v, 10 ^ vg V, rfl, ⟨by omega, by omega⟩, ?_⟩
  have hp := Nat.gcd_pos_of_pos_right (zchA V p v) l3
  have hl := Nat.gcd_le_right (zchA V p v) l3
  have n0 : (lN (Nat.gcd (zchA V p v) (10 ^ vg V)) = 0) = False := by rw [lN_zP (by omega)]; exact eq_false (by omega)
  have e61' : (zq_setI h1 56 1 0).2 56 61 = lN (zchA V p v) := e61
  have e62' : (zq_setI h1 56 1 0).2 56 62 = lN (10 ^ vg V) := e62
  simp only [n0, e61', not_false_eq_true, zi_push, zi_iload, zi_lload, zi_aload, zi_istore, zi_astore, zi_lstore, zi_iinc, zi_i2, zi_i1, zi_idv, zi_l2, zi_ldv, zi_lsh, zi_i2l, zi_l2i, zi_lcmp, zi_dup, zi_dup2, zi_pop, zi_if1, zi_if2, zi_getI, zi_getL, zi_getR, zi_putI, zi_putZ, zi_putL, zi_aldI, zi_aldL, zi_astI, zi_astZ, zi_astL, zi_alen, zi_iret, zi_zret, zi_lret, zi_vret, zi_callV, zi_callS, zi_sw, zi_copyI, zi_copyL, zi_m2, zi_m1, zi_sval, zi_scod, zi_fmt, zi_balen, zi_bald, zi_bret, zi_callT, zq_nth, zq_put1, zq_put2, zq_clr, zq_nl, zq_tk, zq_ps, zq_sw, zq_l0, zq_a, zq_a1, List.length_cons, List.length_nil, List.nil_append, List.cons_append, List.append_nil, List.replicate, Nat.reduceAdd, Nat.reduceSub, Nat.reduceLeDiff, true_and, and_true, List.append_eq, List.cons.injEq, Value.int.injEq, Value.long.injEq, Value.ref.injEq, exists_and_left, exists_eq_left', and_assoc, zc_b, zc_0, zc_1, zc_10, zc_01, lg_cmp_ge, lg_cmp_le, lg_cmp_gt, lg_cmp_lt, lg_cmp_eq, zw_le, zw_lt, reduceIte, true_or, or_true, zw_g0, zw_l0, zw_g1, zw_l1, zw_g2, zw_l2, zw_g3, zw_l3, zw_g5, zw_l5, zw_g6, zw_l6, zw_g7, zw_l7, zw_g9, zw_l9, zw_g10, zw_l10, zw_g15, zw_l15, zw_g16, zw_l16, zw_g48, zw_l48, zw_g50, zw_l50, zw_g57, zw_l57, zw_g97, zw_l97, zw_g100, zw_l100, zw_g200, zw_l200, zw_g999, zw_l999, zw_g9999, zw_l9999]
  rw [pk_lDiv (by omega) hp (by omega)]
  refine ⟨_, [], rfl, MR_nil h1, Nat.le_of_ble_eq_true rfl, fun h2 r2 f2 => ?_⟩
  have e62'' : h2.2 56 62 = lN (10 ^ vg V) := by rw [(f2.2 62 (by decide)).2]; exact e62'
  simp only [n0, e62'', not_false_eq_true, zi_push, zi_iload, zi_lload, zi_aload, zi_istore, zi_astore, zi_lstore, zi_iinc, zi_i2, zi_i1, zi_idv, zi_l2, zi_ldv, zi_lsh, zi_i2l, zi_l2i, zi_lcmp, zi_dup, zi_dup2, zi_pop, zi_if1, zi_if2, zi_getI, zi_getL, zi_getR, zi_putI, zi_putZ, zi_putL, zi_aldI, zi_aldL, zi_astI, zi_astZ, zi_astL, zi_alen, zi_iret, zi_zret, zi_lret, zi_vret, zi_callV, zi_callS, zi_sw, zi_copyI, zi_copyL, zi_m2, zi_m1, zi_sval, zi_scod, zi_fmt, zi_balen, zi_bald, zi_bret, zi_callT, zq_nth, zq_put1, zq_put2, zq_clr, zq_nl, zq_tk, zq_ps, zq_sw, zq_l0, zq_a, zq_a1, List.length_cons, List.length_nil, List.nil_append, List.cons_append, List.append_nil, List.replicate, Nat.reduceAdd, Nat.reduceSub, Nat.reduceLeDiff, true_and, and_true, List.append_eq, List.cons.injEq, Value.int.injEq, Value.long.injEq, Value.ref.injEq, exists_and_left, exists_eq_left', and_assoc, zc_b, zc_0, zc_1, zc_10, zc_01, lg_cmp_ge, lg_cmp_le, lg_cmp_gt, lg_cmp_lt, lg_cmp_eq, zw_le, zw_lt, reduceIte, true_or, or_true, zw_g0, zw_l0, zw_g1, zw_l1, zw_g2, zw_l2, zw_g3, zw_l3, zw_g5, zw_l5, zw_g6, zw_l6, zw_g7, zw_l7, zw_g9, zw_l9, zw_g10, zw_l10, zw_g15, zw_l15, zw_g16, zw_l16, zw_g48, zw_l48, zw_g50, zw_l50, zw_g57, zw_l57, zw_g97, zw_l97, zw_g100, zw_l100, zw_g200, zw_l200, zw_g999, zw_l999, zw_g9999, zw_l9999]
  rw [pk_lDiv (by omega) hp (by omega)]
  refine ⟨_, _, rfl, r2, Nat.le_of_ble_eq_true rfl, fun h3 r3 f3 => ?_⟩
  simp only [zi_push, zi_iload, zi_lload, zi_aload, zi_istore, zi_astore, zi_lstore, zi_iinc, zi_i2, zi_i1, zi_idv, zi_l2, zi_ldv, zi_lsh, zi_i2l, zi_l2i, zi_lcmp, zi_dup, zi_dup2, zi_pop, zi_if1, zi_if2, zi_getI, zi_getL, zi_getR, zi_putI, zi_putZ, zi_putL, zi_aldI, zi_aldL, zi_astI, zi_astZ, zi_astL, zi_alen, zi_iret, zi_zret, zi_lret, zi_vret, zi_callV, zi_callS, zi_sw, zi_copyI, zi_copyL, zi_m2, zi_m1, zi_sval, zi_scod, zi_fmt, zi_balen, zi_bald, zi_bret, zi_callT, zq_nth, zq_put1, zq_put2, zq_clr, zq_nl, zq_tk, zq_ps, zq_sw, zq_l0, zq_a, zq_a1, List.length_cons, List.length_nil, List.nil_append, List.cons_append, List.append_nil, List.replicate, Nat.reduceAdd, Nat.reduceSub, Nat.reduceLeDiff, true_and, and_true, List.append_eq, List.cons.injEq, Value.int.injEq, Value.long.injEq, Value.ref.injEq, exists_and_left, exists_eq_left', and_assoc, zc_b, zc_0, zc_1, zc_10, zc_01, lg_cmp_ge, lg_cmp_le, lg_cmp_gt, lg_cmp_lt, lg_cmp_eq, zw_le, zw_lt, reduceIte, true_or, or_true, zw_g0, zw_l0, zw_g1, zw_l1, zw_g2, zw_l2, zw_g3, zw_l3, zw_g5, zw_l5, zw_g6, zw_l6, zw_g7, zw_l7, zw_g9, zw_l9, zw_g10, zw_l10, zw_g15, zw_l15, zw_g16, zw_l16, zw_g48, zw_l48, zw_g50, zw_l50, zw_g57, zw_l57, zw_g97, zw_l97, zw_g100, zw_l100, zw_g200, zw_l200, zw_g999, zw_l999, zw_g9999, zw_l9999]
  exact k2 p v (by omega) hv rfl rfl h3 r3 (zq_fm_t (zq_fm_t (zq_fm_F (zq_fm_t (zq_fm_w f0 (by decide)) f1 (by decide)) (by decide)) f2 (by decide)) f3 (by decide))
/-! wide -/
abbrev zwdP (V : zV) (p n s : Nat) : Prop := n * 10 ^ vg V ≤ zchA V p s * 100
def zwdX (V : zV) (p n t : Nat) : Nat := zfold (fun k m => if vDs V k < m ∧ zwdP V p n (vDs V k) then vDs V k else m) t (vA V)
def zwdM (V : zV) (p n t : Nat) : Nat := zfold (fun k m => if m = 0 ∨ vDs V (k + 1) < m then (if zwdP V p n (vDs V (k + 1)) then vDs V (k + 1) else m) else m) t 0
theorem zwdX_s (V : zV) (p n t : Nat) : zwdX V p n (t + 1) = if vDs V t < zwdX V p n t ∧ zwdP V p n (vDs V t) then vDs V t else zwdX V p n t := rfl
theorem zwdM_s (V : zV) (p n t : Nat) : zwdM V p n (t + 1) = if zwdM V p n t = 0 ∨ vDs V (t + 1) < zwdM V p n t then (if zwdP V p n (vDs V (t + 1)) then vDs V (t + 1) else zwdM V p n t) else zwdM V p n t := rfl
theorem zwdX_p (V : zV) (p n : Nat) : ∀ t, (zwdX V p n t = vA V ∨ ∃ k, k < t ∧ zwdX V p n t = vDs V k ∧ zwdP V p n (zwdX V p n t)) ∧ zwdX V p n t ≤ vA V ∧ ∀ k, k < t → zwdP V p n (vDs V k) → zwdX V p n t ≤ vDs V k
  | 0 => ⟨Or.inl rfl, Nat.le_refl _, fun k hk => absurd hk (Nat.not_lt_zero _)⟩
  | t + 1 => by
    obtain ⟨h1, h2, h3⟩ := zwdX_p V p n t
    rw [zwdX_s]
    split
    · next q =>
      refine ⟨Or.inr ⟨t, Nat.lt_succ_self _, rfl, q.2⟩, vDs_le V t, fun k hk hp => ?_⟩
      by_cases e : k = t
      · rw [e]
        exact Nat.le_refl _
      · have := h3 k (by omega) hp
        omega
    · next q =>
      refine ⟨h1.imp id (fun ⟨k, a, b⟩ => ⟨k, by omega, b⟩), h2, fun k hk hp => ?_⟩
      by_cases e : k = t
      · subst e
        exact Nat.not_lt.mp (fun z => q ⟨z, hp⟩)
      · exact h3 k (by omega) hp
theorem zwdM_p (V : zV) (p n : Nat) (h0 : ¬ zwdP V p n 0) : ∀ t, (zwdM V p n t = 0 ∨ ∃ k, k < t ∧ zwdM V p n t = vDs V (k + 1) ∧ zwdP V p n (zwdM V p n t)) ∧ ∀ k, k < t → zwdP V p n (vDs V (k + 1)) → ¬ zwdM V p n t = 0 ∧ zwdM V p n t ≤ vDs V (k + 1)
  | 0 => ⟨Or.inl rfl, fun k hk => absurd hk (Nat.not_lt_zero _)⟩
  | t + 1 => by
    obtain ⟨h1, h3⟩ := zwdM_p V p n h0 t
    rw [zwdM_s]
    have h4 : (zwdM V p n t = 0 ∨ ∃ k, k < t + 1 ∧ zwdM V p n t = vDs V (k + 1) ∧ zwdP V p n (zwdM V p n t)) := h1.imp id (fun ⟨k, a, b⟩ => ⟨k, by omega, b⟩)
    split
    · next q =>
      split
      · next q2 =>
        refine ⟨Or.inr ⟨t, Nat.lt_succ_self _, rfl, q2⟩, fun k hk hp => ⟨fun z => h0 (by rw [z] at q2; exact q2), ?_⟩⟩
        by_cases e : k = t
        · rw [e]
          exact Nat.le_refl _
        · have := h3 k (by omega) hp
          omega
      · next q2 =>
        refine ⟨h4, fun k hk hp => ?_⟩
        by_cases e : k = t
        · subst e
          exact absurd hp q2
        · exact h3 k (by omega) hp
    · next q =>
      refine ⟨h4, fun k hk hp => ?_⟩
      by_cases e : k = t
      · subst e
        omega
      · exact h3 k (by omega) hp
theorem zpr_all : ∀ g, g ≤ 6 → ∀ p, p ≤ 10 → nsum (fun k => zpr p k g) (2 ^ g) = 10 ^ g := by decide +kernel
theorem zwdP_all {V : zV} (hg : vg V ≤ 6) {p n : Nat} (hp : p ≤ 10) (hn : n ≤ 100) : zwdP V p n (vA V) := by
  have e : zchA V p (vA V) = 10 ^ vg V := by
    rw [← zpr_all _ hg p hp]
    exact nsum_cong _ (fun k _ => if_pos (vDs_le V k))
  unfold zwdP
  rw [e, Nat.mul_comm]
  exact Nat.mul_le_mul_left _ hn
theorem zwd_eq {V : zV} (hg : vg V ≤ 6) {p n : Nat} (hp : p ≤ 10) (hn : n ≤ 100) : zwdX V p n (2 ^ vg V) = if zwdP V p n 0 then 0 else zwdM V p n (2 ^ vg V - 1) := by
  obtain ⟨x1, x2, x3⟩ := zwdX_p V p n (2 ^ vg V)
  have h2 := (zp2 _ hg).2.2
  have d0 := vDs_0 V
  split
  · next q =>
    have := x3 0 (by omega) (by rw [d0]; exact q)
    omega
  · next q =>
    obtain ⟨m1, m3⟩ := zwdM_p V p n q (2 ^ vg V - 1)
    rcases Nat.eq_zero_or_pos (vA V) with z | z
    · have e : zwdM V p n (2 ^ vg V - 1) = 0 := by
        rcases m1 with y | ⟨k, -, y, -⟩
        · exact y
        · have := vDs_le V (k + 1)
          omega
      omega
    · have pa := zwdP_all (V := V) hg hp hn
      have g1 : 2 ≤ 2 ^ vg V := by
        rcases Nat.eq_zero_or_pos (vg V) with y | y
        · unfold vA at z
          rw [y] at z
          exact absurd z (Nat.lt_irrefl _)
        · exact Nat.pow_le_pow_right (show 0 < 2 by decide) y
      have e1 : 2 ^ vg V - 1 - 1 + 1 = 2 ^ vg V - 1 := by omega
      have b1 := m3 (2 ^ vg V - 1 - 1) (by omega) (by rw [e1, vDs_all V hg]; exact pa)
      rw [e1, vDs_all V hg] at b1
      rcases m1 with y | ⟨k, hk, y, yp⟩
      · exact absurd y b1.1
      · have c1 := x3 (k + 1) (by omega) (by rw [← y]; exact yp)
        rcases x1 with w | ⟨k2, hk2, w, wp⟩
        · omega
        · rcases Nat.eq_zero_or_pos k2 with u | u
          · subst u
            rw [w, d0] at wp
            exact absurd wp q
          · have e2 : k2 - 1 + 1 = k2 := by omega
            have := (m3 (k2 - 1) (by omega) (by rw [e2, ← w]; exact wp)).2
            rw [e2] at this
            omega
def sp_xWide (V : zV) : zq_Sp := fun args h Q => ∃ a c, args = [.ref 0, .int a, .int c] ∧ ZV V ∧ XC V h ∧ (¬ zpv a c 100 → Q (some (.int (-1))) h) ∧ ∀ p n, p ≤ 10 → n ≤ 100 → a = nI p → c = nI n → Q (some (.int (nI (zwdX V p n (2 ^ vg V))))) h
def I_xWide (V : zV) (Q : zq_Q) (z : zq_H × Nat × Nat × Nat) : zq_P := fun ls st h => match z with
  | (h0, p, n, t) => ∃ s6, ls = [some (.ref 0), some (.int (nI p)), some (.int (nI n)), some (.int (nI (zwdX V p n t))), some (.int (nI (2 ^ vg V - 1))), some (.int (nI t)), s6] ∧ st = [] ∧ h = h0 ∧ (p ≤ 10 ∧ n ≤ 100 ∧ t ≤ 2 ^ vg V) ∧ ZV V ∧ XC V h ∧ Q (some (.int (nI (zwdX V p n (2 ^ vg V))))) h
theorem ok_xWide (V : zV) : zq_M yX11_wide cX11_wide 7 (some .int) 1 2 (sp_xWide V) := by
  refine mX11_wide (ok_allN V) (by decide) (ok_everyV V) (by decide) (ok_dsV V) (by decide) (ok_chanceOf V) (by decide) (ok_allChances V) (by decide) (fun z => 64 - z.2.2.2) (I_xWide V) (fun args h Q hs => ?_) (fun Q z ls st h hi => ?_)
  · obtain ⟨a, c, rfl, hV, hX, k1, k2⟩ := hs
    have hg := hX.2.1.1
    refine ⟨Nat.le_of_ble_eq_true rfl, ?_⟩
    simp only [xX11_wide_100, xX11_wide_94, xX11_wide_91, xX11_wide_63, xX11_wide_46, xX11_wide_39, xX11_wide_22, xX11_wide_20, xX11_wide_14, xX11_wide_10, xX11_wide_4, xX11_wide_0, zi_push, zi_iload, zi_lload, zi_aload, zi_istore, zi_astore, zi_lstore, zi_iinc, zi_i2, zi_i1, zi_idv, zi_l2, zi_ldv, zi_lsh, zi_i2l, zi_l2i, zi_lcmp, zi_dup, zi_dup2, zi_pop, zi_if1, zi_if2, zi_getI, zi_getL, zi_getR, zi_putI, zi_putZ, zi_putL, zi_aldI, zi_aldL, zi_astI, zi_astZ, zi_astL, zi_alen, zi_iret, zi_zret, zi_lret, zi_vret, zi_callV, zi_callS, zi_sw, zi_copyI, zi_copyL, zi_m2, zi_m1, zi_sval, zi_scod, zi_fmt, zi_balen, zi_bald, zi_bret, zi_callT, zq_nth, zq_put1, zq_put2, zq_clr, zq_nl, zq_tk, zq_ps, zq_sw, zq_l0, zq_a, zq_a1, List.length_cons, List.length_nil, List.nil_append, List.cons_append, List.append_nil, List.replicate, Nat.reduceAdd, Nat.reduceSub, Nat.reduceLeDiff, true_and, and_true, List.append_eq, List.cons.injEq, Value.int.injEq, Value.long.injEq, Value.ref.injEq, exists_and_left, exists_eq_left', and_assoc, zc_b, zc_0, zc_1, zc_10, zc_01, lg_cmp_ge, lg_cmp_le, lg_cmp_gt, lg_cmp_lt, lg_cmp_eq, zw_le, zw_lt, reduceIte, true_or, or_true, zw_g0, zw_l0, zw_g1, zw_l1, zw_g2, zw_l2, zw_g3, zw_l3, zw_g5, zw_l5, zw_g6, zw_l6, zw_g7, zw_l7, zw_g9, zw_l9, zw_g10, zw_l10, zw_g15, zw_l15, zw_g16, zw_l16, zw_g48, zw_l48, zw_g50, zw_l50, zw_g57, zw_l57, zw_g97, zw_l97, zw_g100, zw_l100, zw_g200, zw_l200, zw_g999, zw_l999, zw_g9999, zw_l9999]
    refine ⟨fun q => k1 (fun z => absurd q (Int32.not_lt.mpr z.1.1)), fun q => ⟨fun q2 => k1 (fun z => absurd q2 (Int32.not_lt.mpr z.1.2)), fun q2 => ⟨fun q3 => k1 (fun z => absurd q3 (Int32.not_lt.mpr z.2.1)), fun q3 => ⟨fun q4 => ⟨rfl, hV, hX, ?_⟩, fun q4 => k1 (fun z => q4 z.2.2)⟩⟩⟩⟩
    obtain ⟨p, hp, rfl⟩ := z10n ⟨Int32.not_lt.mp q, Int32.not_lt.mp q2⟩
    obtain ⟨n, hn, rfl⟩ := z100n ⟨Int32.not_lt.mp q3, q4⟩
    simp only [zi_push, zi_iload, zi_lload, zi_aload, zi_istore, zi_astore, zi_lstore, zi_iinc, zi_i2, zi_i1, zi_idv, zi_l2, zi_ldv, zi_lsh, zi_i2l, zi_l2i, zi_lcmp, zi_dup, zi_dup2, zi_pop, zi_if1, zi_if2, zi_getI, zi_getL, zi_getR, zi_putI, zi_putZ, zi_putL, zi_aldI, zi_aldL, zi_astI, zi_astZ, zi_astL, zi_alen, zi_iret, zi_zret, zi_lret, zi_vret, zi_callV, zi_callS, zi_sw, zi_copyI, zi_copyL, zi_m2, zi_m1, zi_sval, zi_scod, zi_fmt, zi_balen, zi_bald, zi_bret, zi_callT, zq_nth, zq_put1, zq_put2, zq_clr, zq_nl, zq_tk, zq_ps, zq_sw, zq_l0, zq_a, zq_a1, List.length_cons, List.length_nil, List.nil_append, List.cons_append, List.append_nil, List.replicate, Nat.reduceAdd, Nat.reduceSub, Nat.reduceLeDiff, true_and, and_true, List.append_eq, List.cons.injEq, Value.int.injEq, Value.long.injEq, Value.ref.injEq, exists_and_left, exists_eq_left', and_assoc, zc_b, zc_0, zc_1, zc_10, zc_01, lg_cmp_ge, lg_cmp_le, lg_cmp_gt, lg_cmp_lt, lg_cmp_eq, zw_le, zw_lt, reduceIte, true_or, or_true, zw_g0, zw_l0, zw_g1, zw_l1, zw_g2, zw_l2, zw_g3, zw_l3, zw_g5, zw_l5, zw_g6, zw_l6, zw_g7, zw_l7, zw_g9, zw_l9, zw_g10, zw_l10, zw_g15, zw_l15, zw_g16, zw_l16, zw_g48, zw_l48, zw_g50, zw_l50, zw_g57, zw_l57, zw_g97, zw_l97, zw_g100, zw_l100, zw_g200, zw_l200, zw_g999, zw_l999, zw_g9999, zw_l9999]
    refine ⟨rfl, hX, ?_⟩
    simp only [zi_push, zi_iload, zi_lload, zi_aload, zi_istore, zi_astore, zi_lstore, zi_iinc, zi_i2, zi_i1, zi_idv, zi_l2, zi_ldv, zi_lsh, zi_i2l, zi_l2i, zi_lcmp, zi_dup, zi_dup2, zi_pop, zi_if1, zi_if2, zi_getI, zi_getL, zi_getR, zi_putI, zi_putZ, zi_putL, zi_aldI, zi_aldL, zi_astI, zi_astZ, zi_astL, zi_alen, zi_iret, zi_zret, zi_lret, zi_vret, zi_callV, zi_callS, zi_sw, zi_copyI, zi_copyL, zi_m2, zi_m1, zi_sval, zi_scod, zi_fmt, zi_balen, zi_bald, zi_bret, zi_callT, zq_nth, zq_put1, zq_put2, zq_clr, zq_nl, zq_tk, zq_ps, zq_sw, zq_l0, zq_a, zq_a1, List.length_cons, List.length_nil, List.nil_append, List.cons_append, List.append_nil, List.replicate, Nat.reduceAdd, Nat.reduceSub, Nat.reduceLeDiff, true_and, and_true, List.append_eq, List.cons.injEq, Value.int.injEq, Value.long.injEq, Value.ref.injEq, exists_and_left, exists_eq_left', and_assoc, zc_b, zc_0, zc_1, zc_10, zc_01, lg_cmp_ge, lg_cmp_le, lg_cmp_gt, lg_cmp_lt, lg_cmp_eq, zw_le, zw_lt, reduceIte, true_or, or_true, zw_g0, zw_l0, zw_g1, zw_l1, zw_g2, zw_l2, zw_g3, zw_l3, zw_g5, zw_l5, zw_g6, zw_l6, zw_g7, zw_l7, zw_g9, zw_l9, zw_g10, zw_l10, zw_g15, zw_l15, zw_g16, zw_l16, zw_g48, zw_l48, zw_g50, zw_l50, zw_g57, zw_l57, zw_g97, zw_l97, zw_g100, zw_l100, zw_g200, zw_l200, zw_g999, zw_l999, zw_g9999, zw_l9999]
    exact ⟨(h, p, n, 0), none, rfl, rfl, rfl, ⟨hp, hn, Nat.zero_le _⟩, hV, hX, k2 p n hp hn rfl rfl⟩
  · obtain ⟨h0, p, n, t⟩ := z
    obtain ⟨s6, rfl, rfl, rfl, ⟨hp, hn, ht⟩, hV, hX, k⟩ := hi
    have hg := hX.2.1.1
    have hp2 := (zp2 _ hg).2.2
    have l1 := vDs_le V t
    have l2 := vA_le hV
    have l3 := (zwdX_p V p n t).2.1
    simp only [xX11_wide_39, xX11_wide_46, xX11_wide_100, zlt_p hg ht, zi_push, zi_iload, zi_lload, zi_aload, zi_istore, zi_astore, zi_lstore, zi_iinc, zi_i2, zi_i1, zi_idv, zi_l2, zi_ldv, zi_lsh, zi_i2l, zi_l2i, zi_lcmp, zi_dup, zi_dup2, zi_pop, zi_if1, zi_if2, zi_getI, zi_getL, zi_getR, zi_putI, zi_putZ, zi_putL, zi_aldI, zi_aldL, zi_astI, zi_astZ, zi_astL, zi_alen, zi_iret, zi_zret, zi_lret, zi_vret, zi_callV, zi_callS, zi_sw, zi_copyI, zi_copyL, zi_m2, zi_m1, zi_sval, zi_scod, zi_fmt, zi_balen, zi_bald, zi_bret, zi_callT, zq_nth, zq_put1, zq_put2, zq_clr, zq_nl, zq_tk, zq_ps, zq_sw, zq_l0, zq_a, zq_a1, List.length_cons, List.length_nil, List.nil_append, List.cons_append, List.append_nil, List.replicate, Nat.reduceAdd, Nat.reduceSub, Nat.reduceLeDiff, true_and, and_true, List.append_eq, List.cons.injEq, Value.int.injEq, Value.long.injEq, Value.ref.injEq, exists_and_left, exists_eq_left', and_assoc, zc_b, zc_0, zc_1, zc_10, zc_01, lg_cmp_ge, lg_cmp_le, lg_cmp_gt, lg_cmp_lt, lg_cmp_eq, zw_le, zw_lt, reduceIte, true_or, or_true, zw_g0, zw_l0, zw_g1, zw_l1, zw_g2, zw_l2, zw_g3, zw_l3, zw_g5, zw_l5, zw_g6, zw_l6, zw_g7, zw_l7, zw_g9, zw_l9, zw_g10, zw_l10, zw_g15, zw_l15, zw_g16, zw_l16, zw_g48, zw_l48, zw_g50, zw_l50, zw_g57, zw_l57, zw_g97, zw_l97, zw_g100, zw_l100, zw_g200, zw_l200, zw_g999, zw_l999, zw_g9999, zw_l9999]
    refine ⟨fun q => ?_, fun q => ⟨t, rfl, by omega, hV, hX, ?_⟩⟩
    · subst q
      exact k
    · have fin : ∀ m s6, m = zwdX V p n (t + 1) → ∃ b : zq_H × Nat × Nat × Nat, 64 - b.2.2.2 < 64 - t ∧ I_xWide V Q b [some (.ref 0), some (.int (nI p)), some (.int (nI n)), some (.int (nI m)), some (.int (nI (2 ^ vg V - 1))), some (.int (nI t + 1)), s6] [] h := by
        intro m s6 e
        subst e
        exact ⟨(h, p, n, t + 1), by dsimp only; omega, s6, by rw [nI_1], rfl, rfl, ⟨hp, hn, by omega⟩, hV, hX, k⟩
      rw [zwdX_s] at fin
      simp only [xX11_wide_63, xX11_wide_94, nI_leP (show zwdX V p n t < 2 ^ 31 by omega) (show vDs V t < 2 ^ 31 by omega), zi_push, zi_iload, zi_lload, zi_aload, zi_istore, zi_astore, zi_lstore, zi_iinc, zi_i2, zi_i1, zi_idv, zi_l2, zi_ldv, zi_lsh, zi_i2l, zi_l2i, zi_lcmp, zi_dup, zi_dup2, zi_pop, zi_if1, zi_if2, zi_getI, zi_getL, zi_getR, zi_putI, zi_putZ, zi_putL, zi_aldI, zi_aldL, zi_astI, zi_astZ, zi_astL, zi_alen, zi_iret, zi_zret, zi_lret, zi_vret, zi_callV, zi_callS, zi_sw, zi_copyI, zi_copyL, zi_m2, zi_m1, zi_sval, zi_scod, zi_fmt, zi_balen, zi_bald, zi_bret, zi_callT, zq_nth, zq_put1, zq_put2, zq_clr, zq_nl, zq_tk, zq_ps, zq_sw, zq_l0, zq_a, zq_a1, List.length_cons, List.length_nil, List.nil_append, List.cons_append, List.append_nil, List.replicate, Nat.reduceAdd, Nat.reduceSub, Nat.reduceLeDiff, true_and, and_true, List.append_eq, List.cons.injEq, Value.int.injEq, Value.long.injEq, Value.ref.injEq, exists_and_left, exists_eq_left', and_assoc, zc_b, zc_0, zc_1, zc_10, zc_01, lg_cmp_ge, lg_cmp_le, lg_cmp_gt, lg_cmp_lt, lg_cmp_eq, zw_le, zw_lt, reduceIte, true_or, or_true, zw_g0, zw_l0, zw_g1, zw_l1, zw_g2, zw_l2, zw_g3, zw_l3, zw_g5, zw_l5, zw_g6, zw_l6, zw_g7, zw_l7, zw_g9, zw_l9, zw_g10, zw_l10, zw_g15, zw_l15, zw_g16, zw_l16, zw_g48, zw_l48, zw_g50, zw_l50, zw_g57, zw_l57, zw_g97, zw_l97, zw_g100, zw_l100, zw_g200, zw_l200, zw_g999, zw_l999, zw_g9999, zw_l9999]
      refine ⟨fun q2 => ?_, fun q2 => ⟨p, vDs V t, rfl, ⟨hp, by omega⟩, hV, hX, ?_⟩⟩
      · rw [if_neg (by omega)] at fin
        exact fin _ _ rfl
      · simp only [zi_push, zi_iload, zi_lload, zi_aload, zi_istore, zi_astore, zi_lstore, zi_iinc, zi_i2, zi_i1, zi_idv, zi_l2, zi_ldv, zi_lsh, zi_i2l, zi_l2i, zi_lcmp, zi_dup, zi_dup2, zi_pop, zi_if1, zi_if2, zi_getI, zi_getL, zi_getR, zi_putI, zi_putZ, zi_putL, zi_aldI, zi_aldL, zi_astI, zi_astZ, zi_astL, zi_alen, zi_iret, zi_zret, zi_lret, zi_vret, zi_callV, zi_callS, zi_sw, zi_copyI, zi_copyL, zi_m2, zi_m1, zi_sval, zi_scod, zi_fmt, zi_balen, zi_bald, zi_bret, zi_callT, zq_nth, zq_put1, zq_put2, zq_clr, zq_nl, zq_tk, zq_ps, zq_sw, zq_l0, zq_a, zq_a1, List.length_cons, List.length_nil, List.nil_append, List.cons_append, List.append_nil, List.replicate, Nat.reduceAdd, Nat.reduceSub, Nat.reduceLeDiff, true_and, and_true, List.append_eq, List.cons.injEq, Value.int.injEq, Value.long.injEq, Value.ref.injEq, exists_and_left, exists_eq_left', and_assoc, zc_b, zc_0, zc_1, zc_10, zc_01, lg_cmp_ge, lg_cmp_le, lg_cmp_gt, lg_cmp_lt, lg_cmp_eq, zw_le, zw_lt, reduceIte, true_or, or_true, zw_g0, zw_l0, zw_g1, zw_l1, zw_g2, zw_l2, zw_g3, zw_l3, zw_g5, zw_l5, zw_g6, zw_l6, zw_g7, zw_l7, zw_g9, zw_l9, zw_g10, zw_l10, zw_g15, zw_l15, zw_g16, zw_l16, zw_g48, zw_l48, zw_g50, zw_l50, zw_g57, zw_l57, zw_g97, zw_l97, zw_g100, zw_l100, zw_g200, zw_l200, zw_g999, zw_l999, zw_g9999, zw_l9999]
        refine ⟨rfl, hX, ?_⟩
        have b1 : zchA V p (vDs V t) ≤ 64000000 := zch_le hg hp (by omega)
        have b2 := z10 _ hg
        have b3 : n * 10 ^ vg V ≤ 100 * 1000000 := Nat.mul_le_mul hn b2
        rw [show (100 : Int64) = lN 100 from rfl, lN_mul, nI_l (by omega)]
        simp only [xX11_wide_91, xX11_wide_94, lN_mul, lN_ltP (show zchA V p (vDs V t) * 100 < 2 ^ 63 by omega) (show n * 10 ^ vg V < 2 ^ 63 by omega), zi_push, zi_iload, zi_lload, zi_aload, zi_istore, zi_astore, zi_lstore, zi_iinc, zi_i2, zi_i1, zi_idv, zi_l2, zi_ldv, zi_lsh, zi_i2l, zi_l2i, zi_lcmp, zi_dup, zi_dup2, zi_pop, zi_if1, zi_if2, zi_getI, zi_getL, zi_getR, zi_putI, zi_putZ, zi_putL, zi_aldI, zi_aldL, zi_astI, zi_astZ, zi_astL, zi_alen, zi_iret, zi_zret, zi_lret, zi_vret, zi_callV, zi_callS, zi_sw, zi_copyI, zi_copyL, zi_m2, zi_m1, zi_sval, zi_scod, zi_fmt, zi_balen, zi_bald, zi_bret, zi_callT, zq_nth, zq_put1, zq_put2, zq_clr, zq_nl, zq_tk, zq_ps, zq_sw, zq_l0, zq_a, zq_a1, List.length_cons, List.length_nil, List.nil_append, List.cons_append, List.append_nil, List.replicate, Nat.reduceAdd, Nat.reduceSub, Nat.reduceLeDiff, true_and, and_true, List.append_eq, List.cons.injEq, Value.int.injEq, Value.long.injEq, Value.ref.injEq, exists_and_left, exists_eq_left', and_assoc, zc_b, zc_0, zc_1, zc_10, zc_01, lg_cmp_ge, lg_cmp_le, lg_cmp_gt, lg_cmp_lt, lg_cmp_eq, zw_le, zw_lt, reduceIte, true_or, or_true, zw_g0, zw_l0, zw_g1, zw_l1, zw_g2, zw_l2, zw_g3, zw_l3, zw_g5, zw_l5, zw_g6, zw_l6, zw_g7, zw_l7, zw_g9, zw_l9, zw_g10, zw_l10, zw_g15, zw_l15, zw_g16, zw_l16, zw_g48, zw_l48, zw_g50, zw_l50, zw_g57, zw_l57, zw_g97, zw_l97, zw_g100, zw_l100, zw_g200, zw_l200, zw_g999, zw_l999, zw_g9999, zw_l9999]
        refine ⟨fun q3 => ?_, fun q3 => ?_⟩
        · rw [if_neg (fun z => by have := z.2; unfold zwdP at this; omega)] at fin
          exact fin _ _ rfl
        · rw [if_pos ⟨by omega, by unfold zwdP; omega⟩] at fin
          exact fin _ _ rfl
