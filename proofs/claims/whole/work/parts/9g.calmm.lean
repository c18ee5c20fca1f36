/-! ===== calm: the reference ===== -/
def sp_mIsCalm : zq_Sp := fun args h Q => ∃ (m : Nat) (W : Nat → Nat → Nat), args = [.ref 56] ∧ (m ≤ 6 ∧ h.1 56 4 = nI m) ∧ (∀ g o, g < m → o < m → h.1 87 (6 * g + o) = nI (W g o) ∧ W g o ≤ 2 ^ 20) ∧ ((∀ g, g < m → ∀ o, o < m → W g o ≤ W g g) → Q (some (.int 1)) h) ∧ (¬ (∀ g, g < m → ∀ o, o < m → W g o ≤ W g g) → Q (some (.int 0)) h)
def zicP (m : Nat) (W : Nat → Nat → Nat) (t u : Nat) : Prop := (∀ g, g < t → ∀ o, o < m → W g o ≤ W g g) ∧ ∀ o, o < u → W t o ≤ W t t
def zicQ (m : Nat) (W : Nat → Nat → Nat) (Q : zq_Q) (h : zq_H) : Prop := (m ≤ 6 ∧ h.1 56 4 = nI m) ∧ (∀ g o, g < m → o < m → h.1 87 (6 * g + o) = nI (W g o) ∧ W g o ≤ 2 ^ 20) ∧ ((∀ g, g < m → ∀ o, o < m → W g o ≤ W g g) → Q (some (.int 1)) h) ∧ (¬ (∀ g, g < m → ∀ o, o < m → W g o ≤ W g g) → Q (some (.int 0)) h)
def I_ic4 (Q : zq_Q) (z : Nat × (Nat → Nat → Nat) × Nat × Nat) : zq_P := fun ls st h => match z with
  | (m, W, t, _) => ∃ (x : Int32) (s3 : Option Value), ls = [some (.ref 56), some (.int x), some (.int (nI t)), s3] ∧ st = [] ∧ t ≤ m ∧ ((x = 1 ∧ zicP m W t 0) ∨ (x = 0 ∧ ¬ zicP m W t 0)) ∧ zicQ m W Q h
def I_ic14 (Q : zq_Q) (z : Nat × (Nat → Nat → Nat) × Nat × Nat) : zq_P := fun ls st h => match z with
  | (m, W, t, u) => ∃ x : Int32, ls = [some (.ref 56), some (.int x), some (.int (nI t)), some (.int (nI u))] ∧ st = [] ∧ (t < m ∧ u ≤ m) ∧ ((x = 1 ∧ zicP m W t u) ∨ (x = 0 ∧ ¬ zicP m W t u)) ∧ zicQ m W Q h
theorem zic_n {m t : Nat} {W : Nat → Nat → Nat} : zicP m W t m ↔ zicP m W (t + 1) 0 := by
  constructor
  · rintro ⟨h1, h2⟩
    refine ⟨fun g hg o ho => ?_, fun o ho => absurd ho (Nat.not_lt_zero _)⟩
    by_cases q : g = t
    · subst q
      exact h2 o ho
    · exact h1 g (by omega) o ho
  · rintro ⟨h1, h2⟩
    exact ⟨fun g hg o ho => h1 g (by omega) o ho, fun o ho => h1 t (by omega) o ho⟩
theorem zng (a b : Nat) : nI (a + b) + -1 * nI b = nI a := by
  rw [← nI_add]
  grind
theorem z6b (k t : Nat) : 6 * nI k + nI t = nI (6 * k + t) := by
  rw [show (6 : Int32) = nI 6 from rfl, pk_mul, nI_add]
theorem ok_mIsCalm : zq_M yX12_isCalm cX12_isCalm 4 (some .boolean) 1 0 sp_mIsCalm := by
  refine mX12_isCalm (fun z => (10 - z.2.2.1) * 20) I_ic4 (fun z => (10 - z.2.2.1) * 20 - 1 - z.2.2.2) I_ic14 (fun args h Q hs => ?_) (fun Q z ls st h hi => ?_) (fun Q z ls st h hi => ?_)
  · obtain ⟨m, W, rfl, hk⟩ := hs
    refine ⟨Nat.le_of_ble_eq_true rfl, ?_⟩
    simp only [xX12_isCalm_0, zi_push, zi_iload, zi_lload, zi_aload, zi_istore, zi_astore, zi_lstore, zi_iinc, zi_i2, zi_i1, zi_idv, zi_l2, zi_ldv, zi_lsh, zi_i2l, zi_l2i, zi_lcmp, zi_dup, zi_dup2, zi_pop, zi_if1, zi_if2, zi_getI, zi_getL, zi_getR, zi_putI, zi_putZ, zi_putL, zi_aldI, zi_aldL, zi_astI, zi_astZ, zi_astL, zi_alen, zi_iret, zi_zret, zi_lret, zi_vret, zi_callV, zi_callS, zi_sw, zi_copyI, zi_copyL, zi_m2, zi_m1, zi_sval, zi_scod, zi_fmt, zi_balen, zi_bald, zi_bret, zi_callT, zq_nth, zq_put1, zq_put2, zq_clr, zq_nl, zq_tk, zq_ps, zq_sw, zq_l0, zq_a, zq_a1, List.length_cons, List.length_nil, List.nil_append, List.cons_append, List.append_nil, List.replicate, Nat.reduceAdd, Nat.reduceSub, Nat.reduceLeDiff, true_and, and_true, List.append_eq, List.cons.injEq, Value.int.injEq, Value.long.injEq, Value.ref.injEq, exists_and_left, exists_eq_left', and_assoc, zc_b, zc_0, zc_1, zc_10, zc_01, lg_cmp_ge, lg_cmp_le, lg_cmp_gt, lg_cmp_lt, lg_cmp_eq, zw_le, zw_lt, reduceIte, true_or, or_true, zw_g0, zw_l0, zw_g1, zw_l1, zw_g2, zw_l2, zw_g3, zw_l3, zw_g5, zw_l5, zw_g6, zw_l6, zw_g7, zw_l7, zw_g9, zw_l9, zw_g10, zw_l10, zw_g15, zw_l15, zw_g16, zw_l16, zw_g48, zw_l48, zw_g50, zw_l50, zw_g57, zw_l57, zw_g97, zw_l97, zw_g100, zw_l100, zw_g200, zw_l200, zw_g999, zw_l999, zw_g9999, zw_l9999]
    exact ⟨(m, W, 0, 0), 1, none, rfl, rfl, Nat.zero_le _, Or.inl ⟨rfl, fun g hg => absurd hg (Nat.not_lt_zero _), fun o ho => absurd ho (Nat.not_lt_zero _)⟩, hk⟩
  · obtain ⟨m, W, t, u⟩ := z
    obtain ⟨x, s3, rfl, rfl, ht, hx, hk9⟩ := hi
    have hk := hk9
    obtain ⟨⟨h6, e4⟩, hW, k1, k2⟩ := hk
    simp only [xX12_isCalm_4, xX12_isCalm_12, xX12_isCalm_69, e4, zl_ge ht (show m < 2 ^ 31 by omega), zi_push, zi_iload, zi_lload, zi_aload, zi_istore, zi_astore, zi_lstore, zi_iinc, zi_i2, zi_i1, zi_idv, zi_l2, zi_ldv, zi_lsh, zi_i2l, zi_l2i, zi_lcmp, zi_dup, zi_dup2, zi_pop, zi_if1, zi_if2, zi_getI, zi_getL, zi_getR, zi_putI, zi_putZ, zi_putL, zi_aldI, zi_aldL, zi_astI, zi_astZ, zi_astL, zi_alen, zi_iret, zi_zret, zi_lret, zi_vret, zi_callV, zi_callS, zi_sw, zi_copyI, zi_copyL, zi_m2, zi_m1, zi_sval, zi_scod, zi_fmt, zi_balen, zi_bald, zi_bret, zi_callT, zq_nth, zq_put1, zq_put2, zq_clr, zq_nl, zq_tk, zq_ps, zq_sw, zq_l0, zq_a, zq_a1, List.length_cons, List.length_nil, List.nil_append, List.cons_append, List.append_nil, List.replicate, Nat.reduceAdd, Nat.reduceSub, Nat.reduceLeDiff, true_and, and_true, List.append_eq, List.cons.injEq, Value.int.injEq, Value.long.injEq, Value.ref.injEq, exists_and_left, exists_eq_left', and_assoc, zc_b, zc_0, zc_1, zc_10, zc_01, lg_cmp_ge, lg_cmp_le, lg_cmp_gt, lg_cmp_lt, lg_cmp_eq, zw_le, zw_lt, reduceIte, true_or, or_true, zw_g0, zw_l0, zw_g1, zw_l1, zw_g2, zw_l2, zw_g3, zw_l3, zw_g5, zw_l5, zw_g6, zw_l6, zw_g7, zw_l7, zw_g9, zw_l9, zw_g10, zw_l10, zw_g15, zw_l15, zw_g16, zw_l16, zw_g48, zw_l48, zw_g50, zw_l50, zw_g57, zw_l57, zw_g97, zw_l97, zw_g100, zw_l100, zw_g200, zw_l200, zw_g999, zw_l999, zw_g9999, zw_l9999]
    refine ⟨fun q => ?_, fun q => ⟨(m, W, t, 0), by dsimp only; omega, x, rfl, rfl, ⟨by omega, Nat.zero_le _⟩, hx, hk9⟩⟩
    subst q
    rcases hx with ⟨rfl, hp⟩ | ⟨rfl, hp⟩
    · simp only [zc_10, not_true_eq_false, not_false_eq_true, forall_const, true_and, and_true, false_and, and_false, if_true, if_false, reduceIte, implies_true, and_self, ite_self, true_or, or_true, false_or, or_false, true_implies, false_implies, Classical.not_not, false_imp_iff, not_false_iff, zi_push, zi_iload, zi_lload, zi_aload, zi_istore, zi_astore, zi_lstore, zi_iinc, zi_i2, zi_i1, zi_idv, zi_l2, zi_ldv, zi_lsh, zi_i2l, zi_l2i, zi_lcmp, zi_dup, zi_dup2, zi_pop, zi_if1, zi_if2, zi_getI, zi_getL, zi_getR, zi_putI, zi_putZ, zi_putL, zi_aldI, zi_aldL, zi_astI, zi_astZ, zi_astL, zi_alen, zi_iret, zi_zret, zi_lret, zi_vret, zi_callV, zi_callS, zi_sw, zi_copyI, zi_copyL, zi_m2, zi_m1, zi_sval, zi_scod, zi_fmt, zi_balen, zi_bald, zi_bret, zi_callT, zq_nth, zq_put1, zq_put2, zq_clr, zq_nl, zq_tk, zq_ps, zq_sw, zq_l0, zq_a, zq_a1, List.length_cons, List.length_nil, List.nil_append, List.cons_append, List.append_nil, List.replicate, Nat.reduceAdd, Nat.reduceSub, Nat.reduceLeDiff, true_and, and_true, List.append_eq, List.cons.injEq, Value.int.injEq, Value.long.injEq, Value.ref.injEq, exists_and_left, exists_eq_left', and_assoc, zc_b, zc_0, zc_1, zc_10, zc_01, lg_cmp_ge, lg_cmp_le, lg_cmp_gt, lg_cmp_lt, lg_cmp_eq, zw_le, zw_lt, reduceIte, true_or, or_true, zw_g0, zw_l0, zw_g1, zw_l1, zw_g2, zw_l2, zw_g3, zw_l3, zw_g5, zw_l5, zw_g6, zw_l6, zw_g7, zw_l7, zw_g9, zw_l9, zw_g10, zw_l10, zw_g15, zw_l15, zw_g16, zw_l16, zw_g48, zw_l48, zw_g50, zw_l50, zw_g57, zw_l57, zw_g97, zw_l97, zw_g100, zw_l100, zw_g200, zw_l200, zw_g999, zw_l999, zw_g9999, zw_l9999]
      exact k1 (fun g hg o ho => hp.1 g hg o ho)
    · simp only [zc_10, not_true_eq_false, not_false_eq_true, forall_const, true_and, and_true, false_and, and_false, if_true, if_false, reduceIte, implies_true, and_self, ite_self, true_or, or_true, false_or, or_false, true_implies, false_implies, Classical.not_not, false_imp_iff, not_false_iff, zi_push, zi_iload, zi_lload, zi_aload, zi_istore, zi_astore, zi_lstore, zi_iinc, zi_i2, zi_i1, zi_idv, zi_l2, zi_ldv, zi_lsh, zi_i2l, zi_l2i, zi_lcmp, zi_dup, zi_dup2, zi_pop, zi_if1, zi_if2, zi_getI, zi_getL, zi_getR, zi_putI, zi_putZ, zi_putL, zi_aldI, zi_aldL, zi_astI, zi_astZ, zi_astL, zi_alen, zi_iret, zi_zret, zi_lret, zi_vret, zi_callV, zi_callS, zi_sw, zi_copyI, zi_copyL, zi_m2, zi_m1, zi_sval, zi_scod, zi_fmt, zi_balen, zi_bald, zi_bret, zi_callT, zq_nth, zq_put1, zq_put2, zq_clr, zq_nl, zq_tk, zq_ps, zq_sw, zq_l0, zq_a, zq_a1, List.length_cons, List.length_nil, List.nil_append, List.cons_append, List.append_nil, List.replicate, Nat.reduceAdd, Nat.reduceSub, Nat.reduceLeDiff, true_and, and_true, List.append_eq, List.cons.injEq, Value.int.injEq, Value.long.injEq, Value.ref.injEq, exists_and_left, exists_eq_left', and_assoc, zc_b, zc_0, zc_1, zc_10, zc_01, lg_cmp_ge, lg_cmp_le, lg_cmp_gt, lg_cmp_lt, lg_cmp_eq, zw_le, zw_lt, reduceIte, true_or, or_true, zw_g0, zw_l0, zw_g1, zw_l1, zw_g2, zw_l2, zw_g3, zw_l3, zw_g5, zw_l5, zw_g6, zw_l6, zw_g7, zw_l7, zw_g9, zw_l9, zw_g10, zw_l10, zw_g15, zw_l15, zw_g16, zw_l16, zw_g48, zw_l48, zw_g50, zw_l50, zw_g57, zw_l57, zw_g97, zw_l97, zw_g100, zw_l100, zw_g200, zw_l200, zw_g999, zw_l999, zw_g9999, zw_l9999]
      exact k2 (fun z => hp ⟨fun g hg o ho => z g hg o ho, fun o ho => absurd ho (Nat.not_lt_zero _)⟩)
  · obtain ⟨m, W, t, u⟩ := z
    obtain ⟨x, rfl, rfl, ⟨ht, hu⟩, hx, hk9⟩ := hi
    have hk := hk9
    obtain ⟨⟨h6, e4⟩, hW, k1, k2⟩ := hk
    simp only [xX12_isCalm_14, xX12_isCalm_22, xX12_isCalm_63, e4, zl_ge hu (show m < 2 ^ 31 by omega), nI_1, zi_push, zi_iload, zi_lload, zi_aload, zi_istore, zi_astore, zi_lstore, zi_iinc, zi_i2, zi_i1, zi_idv, zi_l2, zi_ldv, zi_lsh, zi_i2l, zi_l2i, zi_lcmp, zi_dup, zi_dup2, zi_pop, zi_if1, zi_if2, zi_getI, zi_getL, zi_getR, zi_putI, zi_putZ, zi_putL, zi_aldI, zi_aldL, zi_astI, zi_astZ, zi_astL, zi_alen, zi_iret, zi_zret, zi_lret, zi_vret, zi_callV, zi_callS, zi_sw, zi_copyI, zi_copyL, zi_m2, zi_m1, zi_sval, zi_scod, zi_fmt, zi_balen, zi_bald, zi_bret, zi_callT, zq_nth, zq_put1, zq_put2, zq_clr, zq_nl, zq_tk, zq_ps, zq_sw, zq_l0, zq_a, zq_a1, List.length_cons, List.length_nil, List.nil_append, List.cons_append, List.append_nil, List.replicate, Nat.reduceAdd, Nat.reduceSub, Nat.reduceLeDiff, true_and, and_true, List.append_eq, List.cons.injEq, Value.int.injEq, Value.long.injEq, Value.ref.injEq, exists_and_left, exists_eq_left', and_assoc, zc_b, zc_0, zc_1, zc_10, zc_01, lg_cmp_ge, lg_cmp_le, lg_cmp_gt, lg_cmp_lt, lg_cmp_eq, zw_le, zw_lt, reduceIte, true_or, or_true, zw_g0, zw_l0, zw_g1, zw_l1, zw_g2, zw_l2, zw_g3, zw_l3, zw_g5, zw_l5, zw_g6, zw_l6, zw_g7, zw_l7, zw_g9, zw_l9, zw_g10, zw_l10, zw_g15, zw_l15, zw_g16, zw_l16, zw_g48, zw_l48, zw_g50, zw_l50, zw_g57, zw_l57, zw_g97, zw_l97, zw_g100, zw_l100, zw_g200, zw_l200, zw_g999, zw_l999, zw_g9999, zw_l9999]
    refine ⟨fun q => ?_, fun q => ?_⟩
    · subst q
      exact ⟨(u, W, t + 1, 0), by dsimp only; omega, x, _, rfl, rfl, by omega, hx.imp (fun y => ⟨y.1, zic_n.mp y.2⟩) (fun y => ⟨y.1, fun z => y.2 (zic_n.mpr z)⟩), hk9⟩
    · have fin : ∀ x2 : Int32, ((x2 = 1 ∧ zicP m W t (u + 1)) ∨ (x2 = 0 ∧ ¬ zicP m W t (u + 1))) → ∃ b9 : Nat × (Nat → Nat → Nat) × Nat × Nat, (10 - b9.2.2.1) * 20 - 1 - b9.2.2.2 < (10 - t) * 20 - 1 - u ∧ I_ic14 Q b9 [some (.ref 56), some (.int x2), some (.int (nI t)), some (.int (nI (u + 1)))] [] h := fun x2 y => ⟨(m, W, t, u + 1), by dsimp only; omega, x2, rfl, rfl, ⟨ht, by omega⟩, y, hk9⟩
      rcases hx with ⟨rfl, hp⟩ | ⟨rfl, hp⟩
      · obtain ⟨w1, l1⟩ := hW t u ht (by omega)
        obtain ⟨w2, l2⟩ := hW t t ht ht
        have cc : (nI (W t t) < nI (W t u)) = (W t t < W t u) := nI_ltP (by omega) (by omega)
        simp only [xX12_isCalm_26, xX12_isCalm_51, xX12_isCalm_55, xX12_isCalm_56, zc_10, z6b, nI_clamp (show 6 * t + u < 2 ^ 31 by omega), nI_clamp (show 6 * t + t < 2 ^ 31 by omega), w1, w2, cc, nI_1, show ((1 : Int32) = 0) = False from eq_false (by decide), not_true_eq_false, not_false_eq_true, forall_const, true_and, and_true, false_and, and_false, if_true, if_false, reduceIte, implies_true, and_self, ite_self, true_or, or_true, false_or, or_false, true_implies, false_implies, Classical.not_not, false_imp_iff, not_false_iff, zi_push, zi_iload, zi_lload, zi_aload, zi_istore, zi_astore, zi_lstore, zi_iinc, zi_i2, zi_i1, zi_idv, zi_l2, zi_ldv, zi_lsh, zi_i2l, zi_l2i, zi_lcmp, zi_dup, zi_dup2, zi_pop, zi_if1, zi_if2, zi_getI, zi_getL, zi_getR, zi_putI, zi_putZ, zi_putL, zi_aldI, zi_aldL, zi_astI, zi_astZ, zi_astL, zi_alen, zi_iret, zi_zret, zi_lret, zi_vret, zi_callV, zi_callS, zi_sw, zi_copyI, zi_copyL, zi_m2, zi_m1, zi_sval, zi_scod, zi_fmt, zi_balen, zi_bald, zi_bret, zi_callT, zq_nth, zq_put1, zq_put2, zq_clr, zq_nl, zq_tk, zq_ps, zq_sw, zq_l0, zq_a, zq_a1, List.length_cons, List.length_nil, List.nil_append, List.cons_append, List.append_nil, List.replicate, Nat.reduceAdd, Nat.reduceSub, Nat.reduceLeDiff, true_and, and_true, List.append_eq, List.cons.injEq, Value.int.injEq, Value.long.injEq, Value.ref.injEq, exists_and_left, exists_eq_left', and_assoc, zc_b, zc_0, zc_1, zc_10, zc_01, lg_cmp_ge, lg_cmp_le, lg_cmp_gt, lg_cmp_lt, lg_cmp_eq, zw_le, zw_lt, reduceIte, true_or, or_true, zw_g0, zw_l0, zw_g1, zw_l1, zw_g2, zw_l2, zw_g3, zw_l3, zw_g5, zw_l5, zw_g6, zw_l6, zw_g7, zw_l7, zw_g9, zw_l9, zw_g10, zw_l10, zw_g15, zw_l15, zw_g16, zw_l16, zw_g48, zw_l48, zw_g50, zw_l50, zw_g57, zw_l57, zw_g97, zw_l97, zw_g100, zw_l100, zw_g200, zw_l200, zw_g999, zw_l999, zw_g9999, zw_l9999]
        refine ⟨vp_in_nI (by omega) (by decide), vp_in_nI (by omega) (by decide), fun q2 => ?_, fun q2 => ?_⟩
        · exact fin 0 (Or.inr ⟨rfl, fun z => by
            have := z.2 u (Nat.lt_succ_self u)
            omega⟩)
        · exact fin 1 (Or.inl ⟨rfl, hp.1, fun o ho => by
            by_cases y : o = u
            · subst y
              omega
            · exact hp.2 o (by omega)⟩)
      · simp only [xX12_isCalm_55, xX12_isCalm_56, zc_10, nI_1, not_true_eq_false, not_false_eq_true, forall_const, true_and, and_true, false_and, and_false, if_true, if_false, reduceIte, implies_true, and_self, ite_self, true_or, or_true, false_or, or_false, true_implies, false_implies, Classical.not_not, false_imp_iff, not_false_iff, zi_push, zi_iload, zi_lload, zi_aload, zi_istore, zi_astore, zi_lstore, zi_iinc, zi_i2, zi_i1, zi_idv, zi_l2, zi_ldv, zi_lsh, zi_i2l, zi_l2i, zi_lcmp, zi_dup, zi_dup2, zi_pop, zi_if1, zi_if2, zi_getI, zi_getL, zi_getR, zi_putI, zi_putZ, zi_putL, zi_aldI, zi_aldL, zi_astI, zi_astZ, zi_astL, zi_alen, zi_iret, zi_zret, zi_lret, zi_vret, zi_callV, zi_callS, zi_sw, zi_copyI, zi_copyL, zi_m2, zi_m1, zi_sval, zi_scod, zi_fmt, zi_balen, zi_bald, zi_bret, zi_callT, zq_nth, zq_put1, zq_put2, zq_clr, zq_nl, zq_tk, zq_ps, zq_sw, zq_l0, zq_a, zq_a1, List.length_cons, List.length_nil, List.nil_append, List.cons_append, List.append_nil, List.replicate, Nat.reduceAdd, Nat.reduceSub, Nat.reduceLeDiff, true_and, and_true, List.append_eq, List.cons.injEq, Value.int.injEq, Value.long.injEq, Value.ref.injEq, exists_and_left, exists_eq_left', and_assoc, zc_b, zc_0, zc_1, zc_10, zc_01, lg_cmp_ge, lg_cmp_le, lg_cmp_gt, lg_cmp_lt, lg_cmp_eq, zw_le, zw_lt, reduceIte, true_or, or_true, zw_g0, zw_l0, zw_g1, zw_l1, zw_g2, zw_l2, zw_g3, zw_l3, zw_g5, zw_l5, zw_g6, zw_l6, zw_g7, zw_l7, zw_g9, zw_l9, zw_g10, zw_l10, zw_g15, zw_l15, zw_g16, zw_l16, zw_g48, zw_l48, zw_g50, zw_l50, zw_g57, zw_l57, zw_g97, zw_l97, zw_g100, zw_l100, zw_g200, zw_l200, zw_g999, zw_l999, zw_g9999, zw_l9999]
        exact fin 0 (Or.inr ⟨rfl, fun z => hp ⟨z.1, fun o ho => z.2 o (by omega)⟩⟩)
def MSw (m : Nat) (W : Nat → Nat → Nat) (h : zq_H) : Prop := ∀ g o, g < m → o < m → h.1 87 (6 * g + o) = nI (W g o)
def sp_goesTo : zq_Sp := fun args h Q => ∃ (b : Nat) (V : zV) (o c : Nat) (x : Int32) (A B : Nat → Nat → Nat), args = [.ref 56, .int (nI o), .int (nI c), .int x] ∧ (o < vg V ∧ c < vn V) ∧ MD b V h ∧ MSw (vg V) A h ∧ (∀ g p, g < vg V → p < vg V → ¬ p = o → A g p = B g p) ∧ (∀ g, g < vg V → nI (A g o) + x * nI (vwN V g c) = nI (B g o)) ∧ ∀ h', MSw (vg V) B h' → zq_fm [] [87] h h' → Q none h'
def I_goesTo (Q : zq_Q) (z : zq_H × (Nat × zV × Nat × Nat × Int32) × ((Nat → Nat → Nat) × (Nat → Nat → Nat)) × Nat) : zq_P := fun ls st h => match z with
  | (h0, (b, V, o, c, x), (A, B), t) => ls = [some (.ref 56), some (.int (nI o)), some (.int (nI c)), some (.int x), some (.int (nI t))] ∧ st = [] ∧ (o < vg V ∧ c < vn V ∧ t ≤ vg V) ∧ MD b V h0 ∧ zq_fm [] [87] h0 h ∧ MSw (vg V) (fun g p => if g < t then B g p else A g p) h ∧ (∀ g p, g < vg V → p < vg V → ¬ p = o → A g p = B g p) ∧ (∀ g, g < vg V → nI (A g o) + x * nI (vwN V g c) = nI (B g o)) ∧ ∀ h', MSw (vg V) B h' → zq_fm [] [87] h0 h' → Q none h'
theorem ok_goesTo : zq_M yX12_goesTo cX12_goesTo 5 none 0 0 sp_goesTo := by
  refine mX12_goesTo (fun z => 10 - z.2.2.2) I_goesTo (fun args h Q hs => ?_) (fun Q z ls st h hi => ?_)
  · obtain ⟨b, V, o, c, x, A, B, rfl, ho, hX, hA, e1, e2, k⟩ := hs
    refine ⟨Nat.le_of_ble_eq_true rfl, ?_⟩
    simp only [xX12_goesTo_0, zi_push, zi_iload, zi_lload, zi_aload, zi_istore, zi_astore, zi_lstore, zi_iinc, zi_i2, zi_i1, zi_idv, zi_l2, zi_ldv, zi_lsh, zi_i2l, zi_l2i, zi_lcmp, zi_dup, zi_dup2, zi_pop, zi_if1, zi_if2, zi_getI, zi_getL, zi_getR, zi_putI, zi_putZ, zi_putL, zi_aldI, zi_aldL, zi_astI, zi_astZ, zi_astL, zi_alen, zi_iret, zi_zret, zi_lret, zi_vret, zi_callV, zi_callS, zi_sw, zi_copyI, zi_copyL, zi_m2, zi_m1, zi_sval, zi_scod, zi_fmt, zi_balen, zi_bald, zi_bret, zi_callT, zq_nth, zq_put1, zq_put2, zq_clr, zq_nl, zq_tk, zq_ps, zq_sw, zq_l0, zq_a, zq_a1, List.length_cons, List.length_nil, List.nil_append, List.cons_append, List.append_nil, List.replicate, Nat.reduceAdd, Nat.reduceSub, Nat.reduceLeDiff, true_and, and_true, List.append_eq, List.cons.injEq, Value.int.injEq, Value.long.injEq, Value.ref.injEq, exists_and_left, exists_eq_left', and_assoc, zc_b, zc_0, zc_1, zc_10, zc_01, lg_cmp_ge, lg_cmp_le, lg_cmp_gt, lg_cmp_lt, lg_cmp_eq, zw_le, zw_lt, reduceIte, true_or, or_true, zw_g0, zw_l0, zw_g1, zw_l1, zw_g2, zw_l2, zw_g3, zw_l3, zw_g5, zw_l5, zw_g6, zw_l6, zw_g7, zw_l7, zw_g9, zw_l9, zw_g10, zw_l10, zw_g15, zw_l15, zw_g16, zw_l16, zw_g48, zw_l48, zw_g50, zw_l50, zw_g57, zw_l57, zw_g97, zw_l97, zw_g100, zw_l100, zw_g200, zw_l200, zw_g999, zw_l999, zw_g9999, zw_l9999]
    exact ⟨(h, (b, V, o, c, x), (A, B), 0), rfl, rfl, ⟨ho.1, ho.2, Nat.zero_le _⟩, hX, zq_fm_rf, hA, e1, e2, k⟩
  · obtain ⟨h0, ⟨b, V, o, c, x⟩, ⟨A, B⟩, t⟩ := z
    obtain ⟨rfl, rfl, ⟨ho, hc, ht⟩, hX, hf, hA, e1, e2, k⟩ := hi
    have hX1 := MD_fm hX hf (by decide)
    have hg := hX1.1.2.1.1
    have hn := hX1.1.1.1
    simp only [xX12_goesTo_3, xX12_goesTo_12, xX12_goesTo_47, hX1.1.2.1.2.1, zl_ge ht (show vg V < 2 ^ 31 by omega), nI_1, z6b, z16b, nI_clamp (show 6 * t + o < 2 ^ 31 by omega), nI_clamp (show 16 * t + c < 2 ^ 31 by omega), zi_push, zi_iload, zi_lload, zi_aload, zi_istore, zi_astore, zi_lstore, zi_iinc, zi_i2, zi_i1, zi_idv, zi_l2, zi_ldv, zi_lsh, zi_i2l, zi_l2i, zi_lcmp, zi_dup, zi_dup2, zi_pop, zi_if1, zi_if2, zi_getI, zi_getL, zi_getR, zi_putI, zi_putZ, zi_putL, zi_aldI, zi_aldL, zi_astI, zi_astZ, zi_astL, zi_alen, zi_iret, zi_zret, zi_lret, zi_vret, zi_callV, zi_callS, zi_sw, zi_copyI, zi_copyL, zi_m2, zi_m1, zi_sval, zi_scod, zi_fmt, zi_balen, zi_bald, zi_bret, zi_callT, zq_nth, zq_put1, zq_put2, zq_clr, zq_nl, zq_tk, zq_ps, zq_sw, zq_l0, zq_a, zq_a1, List.length_cons, List.length_nil, List.nil_append, List.cons_append, List.append_nil, List.replicate, Nat.reduceAdd, Nat.reduceSub, Nat.reduceLeDiff, true_and, and_true, List.append_eq, List.cons.injEq, Value.int.injEq, Value.long.injEq, Value.ref.injEq, exists_and_left, exists_eq_left', and_assoc, zc_b, zc_0, zc_1, zc_10, zc_01, lg_cmp_ge, lg_cmp_le, lg_cmp_gt, lg_cmp_lt, lg_cmp_eq, zw_le, zw_lt, reduceIte, true_or, or_true, zw_g0, zw_l0, zw_g1, zw_l1, zw_g2, zw_l2, zw_g3, zw_l3, zw_g5, zw_l5, zw_g6, zw_l6, zw_g7, zw_l7, zw_g9, zw_l9, zw_g10, zw_l10, zw_g15, zw_l15, zw_g16, zw_l16, zw_g48, zw_l48, zw_g50, zw_l50, zw_g57, zw_l57, zw_g97, zw_l97, zw_g100, zw_l100, zw_g200, zw_l200, zw_g999, zw_l999, zw_g9999, zw_l9999]
    refine ⟨fun q => ?_, fun q => ?_⟩
    · subst q
      exact k h (fun g p hg2 hp => by
        have := hA g p hg2 hp
        dsimp only at this
        rw [if_pos hg2] at this
        exact this) hf
    · have a1 := hA t o (by omega) ho
      dsimp only at a1
      rw [if_neg (Nat.lt_irrefl t)] at a1
      rw [a1, (hX1.2.2 t (by omega)).1 c hc, (vwN_eq V t c).1, e2 t (by omega)]
      refine ⟨vp_in_nI (by omega) (by decide), vp_in_nI (by omega) (by decide), vp_in_nI (by omega) (by decide), (h0, (b, V, o, c, x), (A, B), t + 1), by dsimp only; omega, rfl, rfl, ⟨ho, hc, by omega⟩, hX, zq_fm_I hf (by decide), fun g p hg2 hp => ?_, e1, e2, k⟩
      have a2 := hA g p hg2 hp
      dsimp only at a2
      show _ = nI (if g < t + 1 then B g p else A g p)
      by_cases y : g = t
      · subst y
        rw [if_neg (Nat.lt_irrefl g)] at a2
        rw [if_pos (Nat.lt_succ_self g), zq_sI]
        by_cases y2 : p = o
        · subst y2
          rw [if_pos ⟨rfl, rfl⟩]
        · rw [if_neg (by omega), a2, e1 g p hg2 hp y2]
      · rw [zq_sI, if_neg (by omega), a2]
        by_cases y2 : g < t
        · rw [if_pos y2, if_pos (by omega)]
        · rw [if_neg y2, if_neg (by omega)]
/-- the first way, told when the first is found -/
def zfB (F : Nat) (B : Nat → Nat) (R : Option (Nat → Nat)) : Nat → Nat := if 0 < F then B else R.getD zw0
def MCw (V : zV) (c : Nat) (w : Nat → Nat) (F : Nat) (B : Nat → Nat) (h : zq_H) : Prop := (∀ i, i < c → h.1 85 i = nI (w i)) ∧ MSw (vg V) (zcW V c w) h ∧ h.1 56 47 = nI F ∧ (0 < F → ∀ i, i < vn V → h.1 86 i = nI (B i))
def zcfp (b : Nat) (V : zV) (c used : Nat) (w : Nat → Nat) (F : Nat) (B : Nat → Nat) (Q : zq_Q) (h : zq_H) : Prop := (c ≤ vn V ∧ used < 64 ∧ vg V ≤ 4 ∧ F + zcN V (vn V - c) c w ≤ 2 ^ 30) ∧ (∀ o, o < vg V → (used.testBit o = true ↔ ¬ zcnw c w o)) ∧ (∀ i, i < c → w i < vg V) ∧ MD b V h ∧ ∀ h', MCw V c w (F + zcN V (vn V - c) c w) (zfB F B (zcF V (vn V - c) c w)) h' → zq_fm [47] [85, 86, 87] h h' → Q none h'
def sp_cf (k : Nat) : zq_Sp := fun args h Q => ∃ (b : Nat) (V : zV) (c used : Nat) (w : Nat → Nat) (F : Nat) (B : Nat → Nat), args = [.ref 56, .int (nI c), .int (nI used)] ∧ vn V - c ≤ k ∧ zcfp b V c used w F B Q h ∧ MCw V c w F B h
abbrev zcfT : Type := zq_H × (Nat × zV × Nat × Nat × (Nat → Nat) × Nat × (Nat → Nat)) × Nat
def I_cf17 (Q : zq_Q) (z : zcfT) : zq_P := fun ls st h => match z with
  | (h0, (b, V, c, used, w, F, B), t) => ls = [some (.ref 56), some (.int (nI c)), some (.int (nI used)), some (.int (nI t))] ∧ st = [] ∧ (c = vn V ∧ t ≤ vn V ∧ zcal V w) ∧ zcfp b V c used w F B Q h0 ∧ zq_fm [47] [85, 86, 87] h0 h ∧ MCw V c w F B h ∧ (F = 0 → ∀ i, i < t → h.1 86 i = nI (w i)) ∧ (0 < t → F = 0)
def zcfG (V : zV) (k c : Nat) (w : Nat → Nat) (g : Nat) : Nat := if zcal2 c w g then zcN V k (c + 1) (zupd w c g) else 0
def zcfH (V : zV) (k c : Nat) (w : Nat → Nat) (g : Nat) : Option (Nat → Nat) := if zcal2 c w g then zcF V k (c + 1) (zupd w c g) else none
def I_cf63 (k : Nat) (Q : zq_Q) (z : zcfT) : zq_P := fun ls st h => match z with
  | (h0, (b, V, c, used, w, F, B), t) => ∃ j, ls = [some (.ref 56), some (.int (nI c)), some (.int (nI used)), some (.int (nI t))] ∧ st = [] ∧ (t ≤ vg V ∧ j < k ∧ vn V - c = j + 1) ∧ zcfp b V c used w F B Q h0 ∧ zq_fm [47] [85, 86, 87] h0 h ∧ MCw V c w (F + nsum (zcfG V j c w) t) (zfB F B (zfi (zcfH V j c w) t)) h
theorem zcf_0 {V : zV} {k c : Nat} {w : Nat → Nat} (hc : c + (k + 1) = vn V) : ∀ t, nsum (zcfG V k c w) t = 0 ↔ zfi (zcfH V k c w) t = none
  | 0 => ⟨fun _ => rfl, fun _ => rfl⟩
  | t + 1 => by
    have ih := zcf_0 (w := w) hc t
    have one : zcfG V k c w t = 0 ↔ zcfH V k c w t = none := by
      unfold zcfG zcfH
      by_cases q : zcal2 c w t
      · rw [if_pos q, if_pos q]
        have sp := zcF_sp (V := V) k (c + 1) (zupd w c t) (by omega)
        constructor
        · intro y
          cases e : zcF V k (c + 1) (zupd w c t) with
          | none => rfl
          | some f =>
            have := (sp.2 f e).1
            omega
        · exact fun y => (sp.1 y).1
      · rw [if_neg q, if_neg q]
        exact ⟨fun _ => rfl, fun _ => rfl⟩
    rw [nsum, zfi]
    cases e : zfi (zcfH V k c w) t with
    | none =>
      rw [e] at ih
      have := ih.mpr rfl
      show _ ↔ zcfH V k c w t = none
      rw [← one]
      omega
    | some y =>
      rw [e] at ih
      constructor
      · intro z
        exact absurd (ih.mp (by omega)) (fun q => by cases q)
      · intro z
        cases z
theorem zfB_s {V : zV} {k c F t : Nat} {w B : Nat → Nat} (hc : c + (k + 1) = vn V) : zfB (F + nsum (zcfG V k c w) t) (zfB F B (zfi (zcfH V k c w) t)) (zcfH V k c w t) = zfB F B (zfi (zcfH V k c w) (t + 1)) := by
  have h0 := zcf_0 (w := w) hc t
  unfold zfB
  by_cases q : 0 < F
  · rw [if_pos (by omega), if_pos q, if_pos q]
  · rw [if_neg q, if_neg q]
    by_cases q2 : 0 < F + nsum (zcfG V k c w) t
    · rw [if_pos q2]
      cases e : zfi (zcfH V k c w) t with
      | none =>
        have := h0.mpr e
        omega
      | some y => rw [zfi_s e]
    · rw [if_neg q2, zfi_n (h0.mp (by omega))]
theorem zfB_k {V : zV} {k c F t : Nat} {w B : Nat → Nat} (h : zcfH V k c w t = none) : zfB F B (zfi (zcfH V k c w) (t + 1)) = zfB F B (zfi (zcfH V k c w) t) := by
  unfold zfB
  cases e : zfi (zcfH V k c w) t with
  | none => rw [zfi_n e, h]
  | some y => rw [zfi_s e]
theorem MCw_fm {V : zV} {c F : Nat} {w B : Nat → Nat} {fs ps : List Nat} {h h' : zq_H} (k : MCw V c w F B h) (f : zq_fm fs ps h h') (d : 47 ∉ fs ∧ 85 ∉ ps ∧ 86 ∉ ps ∧ 87 ∉ ps) : MCw V c w F B h' := by
  unfold MCw MSw at *
  rw [(f.2 47 d.1).1, (f.1 85 (by decide) d.2.1).1, (f.1 86 (by decide) d.2.2.1).1, (f.1 87 (by decide) d.2.2.2).1]
  exact k
theorem cf_17 {sm : zq_Sp} {J63 : zq_P} {Q : zq_Q} {z : zcfT} {ls : zq_L} {st : List Value} {h : zq_H} (hi : I_cf17 Q z ls st h) : xX12_calmsFrom_17 sp_mIsCalm sp_has sp_goesTo sm (fun ls st h => ∃ b9 : zcfT, 20 - b9.2.2 < 20 - z.2.2 ∧ I_cf17 Q b9 ls st h) J63 Q ls st h := by
  obtain ⟨h0, ⟨b, V, c, used, w, F, B⟩, t⟩ := z
  obtain ⟨rfl, rfl, ⟨hc, ht, hcal⟩, hp9, hf, hM, hw0, ht0⟩ := hi
  have hp := hp9
  obtain ⟨⟨p1, p2, p3, p4⟩, p5, p6, p7, kk⟩ := hp
  subst hc
  have hX1 := MD_fm p7 hf (by decide)
  have hn := hX1.1.1.1
  rw [Nat.sub_self] at p4 kk
  have e1 : zcN V 0 (vn V) w = 1 := if_pos hcal
  have e2 : zcF V 0 (vn V) w = some w := if_pos hcal
  rw [e1, e2] at kk
  rw [e1] at p4
  have fin : (0 < F ∨ t = vn V) → Q none (zq_setI h 56 47 (nI (F + 1))) := fun hw => by
    refine kk _ ⟨fun i hi => by rw [zq_sI, if_neg (by omega)]; exact hM.1 i hi, fun g o hg ho => by rw [zq_sI, if_neg (by omega)]; exact hM.2.1 g o hg ho, by rw [zq_sI, if_pos ⟨rfl, rfl⟩], fun _ i hi => ?_⟩ (zq_fm_F hf (by decide))
    rw [zq_sI, if_neg (by omega)]
    unfold zfB
    by_cases q : 0 < F
    · rw [if_pos q]
      exact hM.2.2.2 q i hi
    · rw [if_neg q]
      rcases hw with z | z
      · exact absurd z q
      · subst z
        exact hw0 (by omega) i hi
  have cF : (nI F = 0) = (F = 0) := nI_zP (by omega)
  have c1 : (nI (vn V) ≤ nI t) = (t = vn V) := zl_ge ht (by omega)
  simp only [xX12_calmsFrom_17, xX12_calmsFrom_25, xX12_calmsFrom_32, xX12_calmsFrom_50, xX12_calmsFrom_60, hX1.1.1.2.1, hM.2.2.1, cF, c1, nI_1, nI_clamp (show t < 2 ^ 31 by omega), zi_push, zi_iload, zi_lload, zi_aload, zi_istore, zi_astore, zi_lstore, zi_iinc, zi_i2, zi_i1, zi_idv, zi_l2, zi_ldv, zi_lsh, zi_i2l, zi_l2i, zi_lcmp, zi_dup, zi_dup2, zi_pop, zi_if1, zi_if2, zi_getI, zi_getL, zi_getR, zi_putI, zi_putZ, zi_putL, zi_aldI, zi_aldL, zi_astI, zi_astZ, zi_astL, zi_alen, zi_iret, zi_zret, zi_lret, zi_vret, zi_callV, zi_callS, zi_sw, zi_copyI, zi_copyL, zi_m2, zi_m1, zi_sval, zi_scod, zi_fmt, zi_balen, zi_bald, zi_bret, zi_callT, zq_nth, zq_put1, zq_put2, zq_clr, zq_nl, zq_tk, zq_ps, zq_sw, zq_l0, zq_a, zq_a1, List.length_cons, List.length_nil, List.nil_append, List.cons_append, List.append_nil, List.replicate, Nat.reduceAdd, Nat.reduceSub, Nat.reduceLeDiff, true_and, and_true, List.append_eq, List.cons.injEq, Value.int.injEq, Value.long.injEq, Value.ref.injEq, exists_and_left, exists_eq_left', and_assoc, zc_b, zc_0, zc_1, zc_10, zc_01, lg_cmp_ge, lg_cmp_le, lg_cmp_gt, lg_cmp_lt, lg_cmp_eq, zw_le, zw_lt, reduceIte, true_or, or_true, zw_g0, zw_l0, zw_g1, zw_l1, zw_g2, zw_l2, zw_g3, zw_l3, zw_g5, zw_l5, zw_g6, zw_l6, zw_g7, zw_l7, zw_g9, zw_l9, zw_g10, zw_l10, zw_g15, zw_l15, zw_g16, zw_l16, zw_g48, zw_l48, zw_g50, zw_l50, zw_g57, zw_l57, zw_g97, zw_l97, zw_g100, zw_l100, zw_g200, zw_l200, zw_g999, zw_l999, zw_g9999, zw_l9999]
  refine ⟨fun q => fin (Or.inr q), fun q => ⟨fun q2 => ⟨vp_in_nI (by omega) (by decide), vp_in_nI (by omega) (by decide), (h0, (b, V, vn V, used, w, F, B), t + 1), by dsimp only; omega, rfl, rfl, ⟨rfl, by omega, hcal⟩, hp9, zq_fm_I hf (by decide), ?_, fun _ i hi => ?_, fun _ => q2⟩, fun q2 => fin (Or.inl (by omega))⟩⟩
  · exact ⟨fun i hi => by rw [zq_sI, if_neg (by omega)]; exact hM.1 i hi, fun g o hg ho => by rw [zq_sI, if_neg (by omega)]; exact hM.2.1 g o hg ho, by rw [zq_sI, if_neg (by omega)]; exact hM.2.2.1, fun y => by omega⟩
  · rw [zq_sI]
    by_cases y : i = t
    · subst y
      rw [if_pos ⟨rfl, rfl⟩]
      exact hM.1 i (by omega)
    · rw [if_neg (fun z => y z.2)]
      exact hw0 q2 i (by omega)
theorem zbor6 : ∀ m, m < 64 → ∀ t, t < 6 → (nI m ||| zf_shl 1 (nI t) = nI (m ||| 2 ^ t)) ∧ m ||| 2 ^ t < 64 ∧ ∀ o, o < 6 → ((m ||| 2 ^ t).testBit o = (m.testBit o || o == t)) := by decide +kernel
theorem cf_63 {k : Nat} {J17 : zq_P} {Q : zq_Q} {z : zcfT} {ls : zq_L} {st : List Value} {h : zq_H} (hi : I_cf63 (k + 1) Q z ls st h) : xX12_calmsFrom_63 sp_mIsCalm sp_has sp_goesTo (sp_cf k) J17 (fun ls st h => ∃ b9 : zcfT, 1000 + (20 - b9.2.2) < 1000 + (20 - z.2.2) ∧ I_cf63 (k + 1) Q b9 ls st h) Q ls st h := by
  obtain ⟨h0, ⟨b, V, c, used, w, F, B⟩, t⟩ := z
  obtain ⟨j, rfl, rfl, ⟨ht, hj, hcj⟩, hp9, hf, hM⟩ := hi
  have hp := hp9
  obtain ⟨⟨p1, p2, p3, p4⟩, p5, p6, p7, kk⟩ := hp
  have hX1 := MD_fm p7 hf (by decide)
  have hn := hX1.1.1.1
  have hg := hX1.1.2.1.1
  rw [hcj] at p4 kk
  have eN : zcN V (j + 1) c w = nsum (zcfG V j c w) (vg V) := rfl
  have eF : zcF V (j + 1) c w = zfi (zcfH V j c w) (vg V) := rfl
  simp only [xX12_calmsFrom_63, xX12_calmsFrom_71, xX12_calmsFrom_134, hX1.1.2.1.2.1, zl_ge ht (show vg V < 2 ^ 31 by omega), sp_has, zbit01, Classical.not_not, zi_push, zi_iload, zi_lload, zi_aload, zi_istore, zi_astore, zi_lstore, zi_iinc, zi_i2, zi_i1, zi_idv, zi_l2, zi_ldv, zi_lsh, zi_i2l, zi_l2i, zi_lcmp, zi_dup, zi_dup2, zi_pop, zi_if1, zi_if2, zi_getI, zi_getL, zi_getR, zi_putI, zi_putZ, zi_putL, zi_aldI, zi_aldL, zi_astI, zi_astZ, zi_astL, zi_alen, zi_iret, zi_zret, zi_lret, zi_vret, zi_callV, zi_callS, zi_sw, zi_copyI, zi_copyL, zi_m2, zi_m1, zi_sval, zi_scod, zi_fmt, zi_balen, zi_bald, zi_bret, zi_callT, zq_nth, zq_put1, zq_put2, zq_clr, zq_nl, zq_tk, zq_ps, zq_sw, zq_l0, zq_a, zq_a1, List.length_cons, List.length_nil, List.nil_append, List.cons_append, List.append_nil, List.replicate, Nat.reduceAdd, Nat.reduceSub, Nat.reduceLeDiff, true_and, and_true, List.append_eq, List.cons.injEq, Value.int.injEq, Value.long.injEq, Value.ref.injEq, exists_and_left, exists_eq_left', and_assoc, zc_b, zc_0, zc_1, zc_10, zc_01, lg_cmp_ge, lg_cmp_le, lg_cmp_gt, lg_cmp_lt, lg_cmp_eq, zw_le, zw_lt, reduceIte, true_or, or_true, zw_g0, zw_l0, zw_g1, zw_l1, zw_g2, zw_l2, zw_g3, zw_l3, zw_g5, zw_l5, zw_g6, zw_l6, zw_g7, zw_l7, zw_g9, zw_l9, zw_g10, zw_l10, zw_g15, zw_l15, zw_g16, zw_l16, zw_g48, zw_l48, zw_g50, zw_l50, zw_g57, zw_l57, zw_g97, zw_l97, zw_g100, zw_l100, zw_g200, zw_l200, zw_g999, zw_l999, zw_g9999, zw_l9999]
  refine ⟨fun q => ?_, fun q => ?_⟩
  · subst q
    rw [eN, eF] at kk
    exact kk h hM hf
  · have ht2 : t < vg V := by omega
    rw [zbitP (by omega) (by omega)]
    have nxt : ∀ h', MCw V c w (F + nsum (zcfG V j c w) (t + 1)) (zfB F B (zfi (zcfH V j c w) (t + 1))) h' → zq_fm [47] [85, 86, 87] h0 h' → ∃ b9 : zcfT, 1000 + (20 - b9.2.2) < 1000 + (20 - t) ∧ I_cf63 (k + 1) Q b9 [some (.ref 56), some (.int (nI c)), some (.int (nI used)), some (.int (nI (t + 1)))] [] h' := fun h' m1 m2 => ⟨(h0, (b, V, c, used, w, F, B), t + 1), by dsimp only; omega, j, rfl, rfl, ⟨by omega, hj, hcj⟩, hp9, m2, m1⟩
    have skip : ¬ zcal2 c w t → ∃ b9 : zcfT, 1000 + (20 - b9.2.2) < 1000 + (20 - t) ∧ I_cf63 (k + 1) Q b9 [some (.ref 56), some (.int (nI c)), some (.int (nI used)), some (.int (nI (t + 1)))] [] h := fun y => by
      have e1 : zcfG V j c w t = 0 := if_neg y
      have e2 : zcfH V j c w t = none := if_neg y
      refine nxt h ?_ hf
      rw [nsum, e1, Nat.add_zero, zfB_k e2]
      exact hM
    have go : zcal2 c w t → xX12_calmsFrom_95 sp_mIsCalm sp_has sp_goesTo (sp_cf k) J17 (fun ls st h => ∃ b9 : zcfT, 1000 + (20 - b9.2.2) < 1000 + (20 - t) ∧ I_cf63 (k + 1) Q b9 ls st h) Q [some (.ref 56), some (.int (nI c)), some (.int (nI used)), some (.int (nI t))] [] h := fun y => by
      have e1 : zcfG V j c w t = zcN V j (c + 1) (zupd w c t) := if_pos y
      have e2 : zcfH V j c w t = zcF V j (c + 1) (zupd w c t) := if_pos y
      have g1 : zq_fm [] [85] h (zq_setI h 85 c (nI t)) := zq_fm_I zq_fm_rf (by decide)
      simp only [xX12_calmsFrom_95, nI_clamp (show c < 2 ^ 31 by omega), zi_push, zi_iload, zi_lload, zi_aload, zi_istore, zi_astore, zi_lstore, zi_iinc, zi_i2, zi_i1, zi_idv, zi_l2, zi_ldv, zi_lsh, zi_i2l, zi_l2i, zi_lcmp, zi_dup, zi_dup2, zi_pop, zi_if1, zi_if2, zi_getI, zi_getL, zi_getR, zi_putI, zi_putZ, zi_putL, zi_aldI, zi_aldL, zi_astI, zi_astZ, zi_astL, zi_alen, zi_iret, zi_zret, zi_lret, zi_vret, zi_callV, zi_callS, zi_sw, zi_copyI, zi_copyL, zi_m2, zi_m1, zi_sval, zi_scod, zi_fmt, zi_balen, zi_bald, zi_bret, zi_callT, zq_nth, zq_put1, zq_put2, zq_clr, zq_nl, zq_tk, zq_ps, zq_sw, zq_l0, zq_a, zq_a1, List.length_cons, List.length_nil, List.nil_append, List.cons_append, List.append_nil, List.replicate, Nat.reduceAdd, Nat.reduceSub, Nat.reduceLeDiff, true_and, and_true, List.append_eq, List.cons.injEq, Value.int.injEq, Value.long.injEq, Value.ref.injEq, exists_and_left, exists_eq_left', and_assoc, zc_b, zc_0, zc_1, zc_10, zc_01, lg_cmp_ge, lg_cmp_le, lg_cmp_gt, lg_cmp_lt, lg_cmp_eq, zw_le, zw_lt, reduceIte, true_or, or_true, zw_g0, zw_l0, zw_g1, zw_l1, zw_g2, zw_l2, zw_g3, zw_l3, zw_g5, zw_l5, zw_g6, zw_l6, zw_g7, zw_l7, zw_g9, zw_l9, zw_g10, zw_l10, zw_g15, zw_l15, zw_g16, zw_l16, zw_g48, zw_l48, zw_g50, zw_l50, zw_g57, zw_l57, zw_g97, zw_l97, zw_g100, zw_l100, zw_g200, zw_l200, zw_g999, zw_l999, zw_g9999, zw_l9999]
      have hk1 := nsum_mono (g := zcfG V j c w) (show t + 1 ≤ vg V by omega)
      rw [eN] at p4
      have hk2 : nsum (zcfG V j c w) (t + 1) = nsum (zcfG V j c w) t + zcfG V j c w t := rfl
      refine ⟨vp_in_nI (by omega) (by decide), b, V, t, c, 1, zcW V c w, zcW V (c + 1) (zupd w c t), rfl, ⟨ht2, by omega⟩, MD_fm hX1 g1 (by decide), fun g p hg2 hp2 => by rw [zq_sI, if_neg (by omega)]; exact hM.2.1 g p hg2 hp2, fun g p hg2 hp2 hne => by rw [zcW_s, if_neg (fun z => hne z.symm), Nat.add_zero], fun g hg2 => by rw [zcW_s, if_pos rfl, Int32.one_mul, nI_add], fun h1 w1 f1 => ?_⟩
      obtain ⟨m1, m2, m3⟩ := zbor6 used p2 t (by omega)
      have f01 : zq_fm [47] [85, 86, 87] h h1 := zq_fm_t (zq_fm_w g1 (by decide)) f1 (by decide)
      have hX2 := MD_fm hX1 f01 (by decide)
      have eJ : vn V - (c + 1) = j := by clear skip nxt; omega
      have un : ∀ o, ¬ zcnw (c + 1) (zupd w c t) o ↔ (¬ zcnw c w o ∨ o = t) := fun o => zfu_un (w := w) (c := c) (g := t) (j := 0) (o := o)
      have hM1 : MCw V (c + 1) (zupd w c t) (F + nsum (zcfG V j c w) t) (zfB F B (zfi (zcfH V j c w) t)) h1 := by
        refine ⟨fun i hi => ?_, w1, ?_, fun y i hi => ?_⟩
        · rw [(f1.1 85 (by decide) (by decide)).1, zq_sI]
          by_cases y : i = c
          · rw [if_pos ⟨rfl, y⟩, y, zupd_at]
          · rw [if_neg (fun z => y z.2), zupd_lt (by omega)]
            exact hM.1 i (by omega)
        · rw [(f1.2 47 (by decide)).1, zq_sI, if_neg (by omega)]
          exact hM.2.2.1
        · rw [(f1.1 86 (by decide) (by decide)).1, zq_sI, if_neg (by omega)]
          exact hM.2.2.2 y i hi
      simp only [nI_1, m1, zi_push, zi_iload, zi_lload, zi_aload, zi_istore, zi_astore, zi_lstore, zi_iinc, zi_i2, zi_i1, zi_idv, zi_l2, zi_ldv, zi_lsh, zi_i2l, zi_l2i, zi_lcmp, zi_dup, zi_dup2, zi_pop, zi_if1, zi_if2, zi_getI, zi_getL, zi_getR, zi_putI, zi_putZ, zi_putL, zi_aldI, zi_aldL, zi_astI, zi_astZ, zi_astL, zi_alen, zi_iret, zi_zret, zi_lret, zi_vret, zi_callV, zi_callS, zi_sw, zi_copyI, zi_copyL, zi_m2, zi_m1, zi_sval, zi_scod, zi_fmt, zi_balen, zi_bald, zi_bret, zi_callT, zq_nth, zq_put1, zq_put2, zq_clr, zq_nl, zq_tk, zq_ps, zq_sw, zq_l0, zq_a, zq_a1, List.length_cons, List.length_nil, List.nil_append, List.cons_append, List.append_nil, List.replicate, Nat.reduceAdd, Nat.reduceSub, Nat.reduceLeDiff, true_and, and_true, List.append_eq, List.cons.injEq, Value.int.injEq, Value.long.injEq, Value.ref.injEq, exists_and_left, exists_eq_left', and_assoc, zc_b, zc_0, zc_1, zc_10, zc_01, lg_cmp_ge, lg_cmp_le, lg_cmp_gt, lg_cmp_lt, lg_cmp_eq, zw_le, zw_lt, reduceIte, true_or, or_true, zw_g0, zw_l0, zw_g1, zw_l1, zw_g2, zw_l2, zw_g3, zw_l3, zw_g5, zw_l5, zw_g6, zw_l6, zw_g7, zw_l7, zw_g9, zw_l9, zw_g10, zw_l10, zw_g15, zw_l15, zw_g16, zw_l16, zw_g48, zw_l48, zw_g50, zw_l50, zw_g57, zw_l57, zw_g97, zw_l97, zw_g100, zw_l100, zw_g200, zw_l200, zw_g999, zw_l999, zw_g9999, zw_l9999]
      refine ⟨b, V, c + 1, used ||| 2 ^ t, zupd w c t, F + nsum (zcfG V j c w) t, zfB F B (zfi (zcfH V j c w) t), rfl, by omega, ⟨⟨by omega, m2, p3, by rw [eJ, ← e1]; omega⟩, fun o ho => ?_, fun i hi => ?_, hX2, fun h2 x1 x2 => ?_⟩, hM1⟩
      · rw [m3 o (by omega), Bool.or_eq_true, beq_iff_eq, un, p5 o ho]
      · by_cases z : i = c
        · rw [z, zupd_at]
          exact ht2
        · rw [zupd_lt (by omega)]
          exact p6 i (by omega)
      · rw [eJ, ← e1, ← e2, zfB_s (by omega)] at x1
        obtain ⟨y1, y2, y3, y4⟩ := x1
        simp only [zi_push, zi_iload, zi_lload, zi_aload, zi_istore, zi_astore, zi_lstore, zi_iinc, zi_i2, zi_i1, zi_idv, zi_l2, zi_ldv, zi_lsh, zi_i2l, zi_l2i, zi_lcmp, zi_dup, zi_dup2, zi_pop, zi_if1, zi_if2, zi_getI, zi_getL, zi_getR, zi_putI, zi_putZ, zi_putL, zi_aldI, zi_aldL, zi_astI, zi_astZ, zi_astL, zi_alen, zi_iret, zi_zret, zi_lret, zi_vret, zi_callV, zi_callS, zi_sw, zi_copyI, zi_copyL, zi_m2, zi_m1, zi_sval, zi_scod, zi_fmt, zi_balen, zi_bald, zi_bret, zi_callT, zq_nth, zq_put1, zq_put2, zq_clr, zq_nl, zq_tk, zq_ps, zq_sw, zq_l0, zq_a, zq_a1, List.length_cons, List.length_nil, List.nil_append, List.cons_append, List.append_nil, List.replicate, Nat.reduceAdd, Nat.reduceSub, Nat.reduceLeDiff, true_and, and_true, List.append_eq, List.cons.injEq, Value.int.injEq, Value.long.injEq, Value.ref.injEq, exists_and_left, exists_eq_left', and_assoc, zc_b, zc_0, zc_1, zc_10, zc_01, lg_cmp_ge, lg_cmp_le, lg_cmp_gt, lg_cmp_lt, lg_cmp_eq, zw_le, zw_lt, reduceIte, true_or, or_true, zw_g0, zw_l0, zw_g1, zw_l1, zw_g2, zw_l2, zw_g3, zw_l3, zw_g5, zw_l5, zw_g6, zw_l6, zw_g7, zw_l7, zw_g9, zw_l9, zw_g10, zw_l10, zw_g15, zw_l15, zw_g16, zw_l16, zw_g48, zw_l48, zw_g50, zw_l50, zw_g57, zw_l57, zw_g97, zw_l97, zw_g100, zw_l100, zw_g200, zw_l200, zw_g999, zw_l999, zw_g9999, zw_l9999]
        refine ⟨b, V, t, c, -1, zcW V (c + 1) (zupd w c t), zcW V c w, rfl, ⟨ht2, by clear skip nxt; omega⟩, MD_fm hX2 x2 (by decide), y2, fun g p hg2 hp2 hne => by rw [zcW_s, if_neg (fun z => hne z.symm), Nat.add_zero], fun g hg2 => by rw [zcW_s, if_pos rfl]; exact zng _ _, fun h3 w3 f3 => ?_⟩
        simp only [xX12_calmsFrom_128, nI_1, zi_push, zi_iload, zi_lload, zi_aload, zi_istore, zi_astore, zi_lstore, zi_iinc, zi_i2, zi_i1, zi_idv, zi_l2, zi_ldv, zi_lsh, zi_i2l, zi_l2i, zi_lcmp, zi_dup, zi_dup2, zi_pop, zi_if1, zi_if2, zi_getI, zi_getL, zi_getR, zi_putI, zi_putZ, zi_putL, zi_aldI, zi_aldL, zi_astI, zi_astZ, zi_astL, zi_alen, zi_iret, zi_zret, zi_lret, zi_vret, zi_callV, zi_callS, zi_sw, zi_copyI, zi_copyL, zi_m2, zi_m1, zi_sval, zi_scod, zi_fmt, zi_balen, zi_bald, zi_bret, zi_callT, zq_nth, zq_put1, zq_put2, zq_clr, zq_nl, zq_tk, zq_ps, zq_sw, zq_l0, zq_a, zq_a1, List.length_cons, List.length_nil, List.nil_append, List.cons_append, List.append_nil, List.replicate, Nat.reduceAdd, Nat.reduceSub, Nat.reduceLeDiff, true_and, and_true, List.append_eq, List.cons.injEq, Value.int.injEq, Value.long.injEq, Value.ref.injEq, exists_and_left, exists_eq_left', and_assoc, zc_b, zc_0, zc_1, zc_10, zc_01, lg_cmp_ge, lg_cmp_le, lg_cmp_gt, lg_cmp_lt, lg_cmp_eq, zw_le, zw_lt, reduceIte, true_or, or_true, zw_g0, zw_l0, zw_g1, zw_l1, zw_g2, zw_l2, zw_g3, zw_l3, zw_g5, zw_l5, zw_g6, zw_l6, zw_g7, zw_l7, zw_g9, zw_l9, zw_g10, zw_l10, zw_g15, zw_l15, zw_g16, zw_l16, zw_g48, zw_l48, zw_g50, zw_l50, zw_g57, zw_l57, zw_g97, zw_l97, zw_g100, zw_l100, zw_g200, zw_l200, zw_g999, zw_l999, zw_g9999, zw_l9999]
        refine nxt h3 ⟨fun i hi => ?_, w3, ?_, fun z i hi => ?_⟩ (zq_fm_t (zq_fm_t (zq_fm_t hf f01 (by decide)) x2 (by decide)) f3 (by decide))
        · rw [(f3.1 85 (by decide) (by decide)).1, y1 i (by omega), zupd_lt hi]
        · rw [(f3.2 47 (by decide)).1, y3, Nat.add_assoc]
          rfl
        · rw [(f3.1 86 (by decide) (by decide)).1]
          exact y4 (by rw [Nat.add_assoc]; exact z) i hi
    have hbit := p5 t ht2
    refine ⟨fun q2 => ?_, fun q2 => ?_⟩
    · refine go (Or.inl (Classical.not_not.mp (fun y => ?_)))
      have := hbit.mpr y
      rw [this] at q2
      cases q2
    · have hu : ¬ zcnw c w t := hbit.mp (by simpa using q2)
      simp only [xX12_calmsFrom_79, xX12_calmsFrom_83, xX12_calmsFrom_128, nI_le0 (show c < 2 ^ 31 by omega), nI_1, zi_push, zi_iload, zi_lload, zi_aload, zi_istore, zi_astore, zi_lstore, zi_iinc, zi_i2, zi_i1, zi_idv, zi_l2, zi_ldv, zi_lsh, zi_i2l, zi_l2i, zi_lcmp, zi_dup, zi_dup2, zi_pop, zi_if1, zi_if2, zi_getI, zi_getL, zi_getR, zi_putI, zi_putZ, zi_putL, zi_aldI, zi_aldL, zi_astI, zi_astZ, zi_astL, zi_alen, zi_iret, zi_zret, zi_lret, zi_vret, zi_callV, zi_callS, zi_sw, zi_copyI, zi_copyL, zi_m2, zi_m1, zi_sval, zi_scod, zi_fmt, zi_balen, zi_bald, zi_bret, zi_callT, zq_nth, zq_put1, zq_put2, zq_clr, zq_nl, zq_tk, zq_ps, zq_sw, zq_l0, zq_a, zq_a1, List.length_cons, List.length_nil, List.nil_append, List.cons_append, List.append_nil, List.replicate, Nat.reduceAdd, Nat.reduceSub, Nat.reduceLeDiff, true_and, and_true, List.append_eq, List.cons.injEq, Value.int.injEq, Value.long.injEq, Value.ref.injEq, exists_and_left, exists_eq_left', and_assoc, zc_b, zc_0, zc_1, zc_10, zc_01, lg_cmp_ge, lg_cmp_le, lg_cmp_gt, lg_cmp_lt, lg_cmp_eq, zw_le, zw_lt, reduceIte, true_or, or_true, zw_g0, zw_l0, zw_g1, zw_l1, zw_g2, zw_l2, zw_g3, zw_l3, zw_g5, zw_l5, zw_g6, zw_l6, zw_g7, zw_l7, zw_g9, zw_l9, zw_g10, zw_l10, zw_g15, zw_l15, zw_g16, zw_l16, zw_g48, zw_l48, zw_g50, zw_l50, zw_g57, zw_l57, zw_g97, zw_l97, zw_g100, zw_l100, zw_g200, zw_l200, zw_g999, zw_l999, zw_g9999, zw_l9999]
      refine ⟨fun q3 => skip (fun y => y.elim hu (fun x => by omega)), fun q3 => ?_⟩
      rw [zsub1' (show 1 ≤ c by omega), nI_clamp (show c - 1 < 2 ^ 31 by omega), hM.1 (c - 1) (by omega)]
      have hwc := p6 (c - 1) (by omega)
      have cc : (nI (w (c - 1)) = nI t) = (w (c - 1) = t) := nI_eqP (by omega) (by omega)
      simp only [cc]
      exact ⟨vp_in_nI (by omega) (by decide), fun q4 => go (Or.inr ⟨by omega, q4⟩), fun q4 => skip (fun y => y.elim hu (fun x => q4 x.2))⟩
theorem cf_8 {sm : zq_Sp} {J17 J63 : zq_P} {Q : zq_Q} {b : Nat} {V : zV} {c used F : Nat} {w B : Nat → Nat} {s3 : Option Value} {h : zq_H} (hc : c = vn V) (hp : zcfp b V c used w F B Q h) (hM : MCw V c w F B h) (hJ : zcal V w → J17 [some (.ref 56), some (.int (nI c)), some (.int (nI used)), some (.int 0)] [] h) : xX12_calmsFrom_8 sp_mIsCalm sp_has sp_goesTo sm J17 J63 Q [some (.ref 56), some (.int (nI c)), some (.int (nI used)), s3] [] h := by
  obtain ⟨⟨p1, p2, p3, p4⟩, p5, p6, p7, kk⟩ := hp
  have hg := p7.1.2.1.1
  have hn := p7.1.1.1
  subst hc
  rw [Nat.sub_self] at kk p4
  simp only [xX12_calmsFrom_8, zi_push, zi_iload, zi_lload, zi_aload, zi_istore, zi_astore, zi_lstore, zi_iinc, zi_i2, zi_i1, zi_idv, zi_l2, zi_ldv, zi_lsh, zi_i2l, zi_l2i, zi_lcmp, zi_dup, zi_dup2, zi_pop, zi_if1, zi_if2, zi_getI, zi_getL, zi_getR, zi_putI, zi_putZ, zi_putL, zi_aldI, zi_aldL, zi_astI, zi_astZ, zi_astL, zi_alen, zi_iret, zi_zret, zi_lret, zi_vret, zi_callV, zi_callS, zi_sw, zi_copyI, zi_copyL, zi_m2, zi_m1, zi_sval, zi_scod, zi_fmt, zi_balen, zi_bald, zi_bret, zi_callT, zq_nth, zq_put1, zq_put2, zq_clr, zq_nl, zq_tk, zq_ps, zq_sw, zq_l0, zq_a, zq_a1, List.length_cons, List.length_nil, List.nil_append, List.cons_append, List.append_nil, List.replicate, Nat.reduceAdd, Nat.reduceSub, Nat.reduceLeDiff, true_and, and_true, List.append_eq, List.cons.injEq, Value.int.injEq, Value.long.injEq, Value.ref.injEq, exists_and_left, exists_eq_left', and_assoc, zc_b, zc_0, zc_1, zc_10, zc_01, lg_cmp_ge, lg_cmp_le, lg_cmp_gt, lg_cmp_lt, lg_cmp_eq, zw_le, zw_lt, reduceIte, true_or, or_true, zw_g0, zw_l0, zw_g1, zw_l1, zw_g2, zw_l2, zw_g3, zw_l3, zw_g5, zw_l5, zw_g6, zw_l6, zw_g7, zw_l7, zw_g9, zw_l9, zw_g10, zw_l10, zw_g15, zw_l15, zw_g16, zw_l16, zw_g48, zw_l48, zw_g50, zw_l50, zw_g57, zw_l57, zw_g97, zw_l97, zw_g100, zw_l100, zw_g200, zw_l200, zw_g999, zw_l999, zw_g9999, zw_l9999]
  refine ⟨vg V, zcW V (vn V) w, rfl, ⟨hg, p7.1.2.1.2.1⟩, fun g o hg2 ho => ⟨hM.2.1 g o hg2 ho, ?_⟩, fun q => ?_, fun q => ?_⟩
  · have l1 := zcW_le V (vn V) w g o
    have l2 := vS_le V g (vn V)
    omega
  · simp only [zc_10, xX12_calmsFrom_15, not_true_eq_false, not_false_eq_true, forall_const, true_and, and_true, false_and, and_false, if_true, if_false, reduceIte, implies_true, and_self, ite_self, true_or, or_true, false_or, or_false, true_implies, false_implies, Classical.not_not, false_imp_iff, not_false_iff, zi_push, zi_iload, zi_lload, zi_aload, zi_istore, zi_astore, zi_lstore, zi_iinc, zi_i2, zi_i1, zi_idv, zi_l2, zi_ldv, zi_lsh, zi_i2l, zi_l2i, zi_lcmp, zi_dup, zi_dup2, zi_pop, zi_if1, zi_if2, zi_getI, zi_getL, zi_getR, zi_putI, zi_putZ, zi_putL, zi_aldI, zi_aldL, zi_astI, zi_astZ, zi_astL, zi_alen, zi_iret, zi_zret, zi_lret, zi_vret, zi_callV, zi_callS, zi_sw, zi_copyI, zi_copyL, zi_m2, zi_m1, zi_sval, zi_scod, zi_fmt, zi_balen, zi_bald, zi_bret, zi_callT, zq_nth, zq_put1, zq_put2, zq_clr, zq_nl, zq_tk, zq_ps, zq_sw, zq_l0, zq_a, zq_a1, List.length_cons, List.length_nil, List.nil_append, List.cons_append, List.append_nil, List.replicate, Nat.reduceAdd, Nat.reduceSub, Nat.reduceLeDiff, true_and, and_true, List.append_eq, List.cons.injEq, Value.int.injEq, Value.long.injEq, Value.ref.injEq, exists_and_left, exists_eq_left', and_assoc, zc_b, zc_0, zc_1, zc_10, zc_01, lg_cmp_ge, lg_cmp_le, lg_cmp_gt, lg_cmp_lt, lg_cmp_eq, zw_le, zw_lt, reduceIte, true_or, or_true, zw_g0, zw_l0, zw_g1, zw_l1, zw_g2, zw_l2, zw_g3, zw_l3, zw_g5, zw_l5, zw_g6, zw_l6, zw_g7, zw_l7, zw_g9, zw_l9, zw_g10, zw_l10, zw_g15, zw_l15, zw_g16, zw_l16, zw_g48, zw_l48, zw_g50, zw_l50, zw_g57, zw_l57, zw_g97, zw_l97, zw_g100, zw_l100, zw_g200, zw_l200, zw_g999, zw_l999, zw_g9999, zw_l9999]
    exact hJ q
  · simp only [xX12_calmsFrom_60, not_true_eq_false, not_false_eq_true, forall_const, true_and, and_true, false_and, and_false, if_true, if_false, reduceIte, implies_true, and_self, ite_self, true_or, or_true, false_or, or_false, true_implies, false_implies, Classical.not_not, false_imp_iff, not_false_iff, zi_push, zi_iload, zi_lload, zi_aload, zi_istore, zi_astore, zi_lstore, zi_iinc, zi_i2, zi_i1, zi_idv, zi_l2, zi_ldv, zi_lsh, zi_i2l, zi_l2i, zi_lcmp, zi_dup, zi_dup2, zi_pop, zi_if1, zi_if2, zi_getI, zi_getL, zi_getR, zi_putI, zi_putZ, zi_putL, zi_aldI, zi_aldL, zi_astI, zi_astZ, zi_astL, zi_alen, zi_iret, zi_zret, zi_lret, zi_vret, zi_callV, zi_callS, zi_sw, zi_copyI, zi_copyL, zi_m2, zi_m1, zi_sval, zi_scod, zi_fmt, zi_balen, zi_bald, zi_bret, zi_callT, zq_nth, zq_put1, zq_put2, zq_clr, zq_nl, zq_tk, zq_ps, zq_sw, zq_l0, zq_a, zq_a1, List.length_cons, List.length_nil, List.nil_append, List.cons_append, List.append_nil, List.replicate, Nat.reduceAdd, Nat.reduceSub, Nat.reduceLeDiff, true_and, and_true, List.append_eq, List.cons.injEq, Value.int.injEq, Value.long.injEq, Value.ref.injEq, exists_and_left, exists_eq_left', and_assoc, zc_b, zc_0, zc_1, zc_10, zc_01, lg_cmp_ge, lg_cmp_le, lg_cmp_gt, lg_cmp_lt, lg_cmp_eq, zw_le, zw_lt, reduceIte, true_or, or_true, zw_g0, zw_l0, zw_g1, zw_l1, zw_g2, zw_l2, zw_g3, zw_l3, zw_g5, zw_l5, zw_g6, zw_l6, zw_g7, zw_l7, zw_g9, zw_l9, zw_g10, zw_l10, zw_g15, zw_l15, zw_g16, zw_l16, zw_g48, zw_l48, zw_g50, zw_l50, zw_g57, zw_l57, zw_g97, zw_l97, zw_g100, zw_l100, zw_g200, zw_l200, zw_g999, zw_l999, zw_g9999, zw_l9999]
    have e1 : zcN V 0 (vn V) w = 0 := if_neg q
    have e2 : zcF V 0 (vn V) w = none := if_neg q
    rw [e1, e2] at kk
    refine kk h ⟨hM.1, hM.2.1, hM.2.2.1, fun y i hi => ?_⟩ zq_fm_rf
    unfold zfB
    rw [if_pos (show 0 < F from y)]
    exact hM.2.2.2 y i hi
theorem ok_cf : ∀ k, zq_M yX12_calmsFrom cX12_calmsFrom 4 none 0 (k + 1) (sp_cf k)
  | 0 => by
    refine mX12_calmsFrom ok_mIsCalm (by decide) ok_has (by decide) ok_goesTo (by decide) (ok_none (d := 0)) (by decide) (fun z => 20 - z.2.2) I_cf17 (fun z => 1000 + (20 - z.2.2)) (I_cf63 0) (fun args h Q hs => ?_) (fun Q z ls st h hi => cf_17 hi) (fun Q z ls st h hi => ?_)
    · obtain ⟨b, V, c, used, w, F, B, rfl, hk, hp, hM⟩ := hs
      have hn := hp.2.2.2.1.1.1.1
      have h1 := hp.1.1
      have c1 : (nI c = nI (vn V)) = (c = vn V) := nI_eqP (by omega) (by omega)
      refine ⟨Nat.le_of_ble_eq_true rfl, ?_⟩
      simp only [xX12_calmsFrom_0, hp.2.2.2.1.1.1.2.1, c1, zi_push, zi_iload, zi_lload, zi_aload, zi_istore, zi_astore, zi_lstore, zi_iinc, zi_i2, zi_i1, zi_idv, zi_l2, zi_ldv, zi_lsh, zi_i2l, zi_l2i, zi_lcmp, zi_dup, zi_dup2, zi_pop, zi_if1, zi_if2, zi_getI, zi_getL, zi_getR, zi_putI, zi_putZ, zi_putL, zi_aldI, zi_aldL, zi_astI, zi_astZ, zi_astL, zi_alen, zi_iret, zi_zret, zi_lret, zi_vret, zi_callV, zi_callS, zi_sw, zi_copyI, zi_copyL, zi_m2, zi_m1, zi_sval, zi_scod, zi_fmt, zi_balen, zi_bald, zi_bret, zi_callT, zq_nth, zq_put1, zq_put2, zq_clr, zq_nl, zq_tk, zq_ps, zq_sw, zq_l0, zq_a, zq_a1, List.length_cons, List.length_nil, List.nil_append, List.cons_append, List.append_nil, List.replicate, Nat.reduceAdd, Nat.reduceSub, Nat.reduceLeDiff, true_and, and_true, List.append_eq, List.cons.injEq, Value.int.injEq, Value.long.injEq, Value.ref.injEq, exists_and_left, exists_eq_left', and_assoc, zc_b, zc_0, zc_1, zc_10, zc_01, lg_cmp_ge, lg_cmp_le, lg_cmp_gt, lg_cmp_lt, lg_cmp_eq, zw_le, zw_lt, reduceIte, true_or, or_true, zw_g0, zw_l0, zw_g1, zw_l1, zw_g2, zw_l2, zw_g3, zw_l3, zw_g5, zw_l5, zw_g6, zw_l6, zw_g7, zw_l7, zw_g9, zw_l9, zw_g10, zw_l10, zw_g15, zw_l15, zw_g16, zw_l16, zw_g48, zw_l48, zw_g50, zw_l50, zw_g57, zw_l57, zw_g97, zw_l97, zw_g100, zw_l100, zw_g200, zw_l200, zw_g999, zw_l999, zw_g9999, zw_l9999]
      exact ⟨fun q => cf_8 q hp hM (fun y => ⟨(h, (b, V, c, used, w, F, B), 0), rfl, rfl, ⟨q, Nat.zero_le _, y⟩, hp, zq_fm_rf, hM, fun _ i hi => absurd hi (Nat.not_lt_zero _), fun z => absurd z (Nat.lt_irrefl _)⟩), fun q => absurd (show c = vn V by omega) q⟩
    · obtain ⟨h0, ⟨b, V, c, used, w, F, B⟩, t⟩ := z
      obtain ⟨j, -, -, ⟨-, hj, -⟩, -⟩ := hi
      exact absurd hj (Nat.not_lt_zero _)
  | k + 1 => by
    refine mX12_calmsFrom ok_mIsCalm (by omega) ok_has (by omega) ok_goesTo (by omega) (ok_cf k) (by omega) (fun z => 20 - z.2.2) I_cf17 (fun z => 1000 + (20 - z.2.2)) (I_cf63 (k + 1)) (fun args h Q hs => ?_) (fun Q z ls st h hi => cf_17 hi) (fun Q z ls st h hi => cf_63 hi)
    obtain ⟨b, V, c, used, w, F, B, rfl, hk, hp, hM⟩ := hs
    have hn := hp.2.2.2.1.1.1.1
    have h1 := hp.1.1
    have c1 : (nI c = nI (vn V)) = (c = vn V) := nI_eqP (by omega) (by omega)
    refine ⟨Nat.le_of_ble_eq_true rfl, ?_⟩
    simp only [xX12_calmsFrom_0, xX12_calmsFrom_61, hp.2.2.2.1.1.1.2.1, c1, zi_push, zi_iload, zi_lload, zi_aload, zi_istore, zi_astore, zi_lstore, zi_iinc, zi_i2, zi_i1, zi_idv, zi_l2, zi_ldv, zi_lsh, zi_i2l, zi_l2i, zi_lcmp, zi_dup, zi_dup2, zi_pop, zi_if1, zi_if2, zi_getI, zi_getL, zi_getR, zi_putI, zi_putZ, zi_putL, zi_aldI, zi_aldL, zi_astI, zi_astZ, zi_astL, zi_alen, zi_iret, zi_zret, zi_lret, zi_vret, zi_callV, zi_callS, zi_sw, zi_copyI, zi_copyL, zi_m2, zi_m1, zi_sval, zi_scod, zi_fmt, zi_balen, zi_bald, zi_bret, zi_callT, zq_nth, zq_put1, zq_put2, zq_clr, zq_nl, zq_tk, zq_ps, zq_sw, zq_l0, zq_a, zq_a1, List.length_cons, List.length_nil, List.nil_append, List.cons_append, List.append_nil, List.replicate, Nat.reduceAdd, Nat.reduceSub, Nat.reduceLeDiff, true_and, and_true, List.append_eq, List.cons.injEq, Value.int.injEq, Value.long.injEq, Value.ref.injEq, exists_and_left, exists_eq_left', and_assoc, zc_b, zc_0, zc_1, zc_10, zc_01, lg_cmp_ge, lg_cmp_le, lg_cmp_gt, lg_cmp_lt, lg_cmp_eq, zw_le, zw_lt, reduceIte, true_or, or_true, zw_g0, zw_l0, zw_g1, zw_l1, zw_g2, zw_l2, zw_g3, zw_l3, zw_g5, zw_l5, zw_g6, zw_l6, zw_g7, zw_l7, zw_g9, zw_l9, zw_g10, zw_l10, zw_g15, zw_l15, zw_g16, zw_l16, zw_g48, zw_l48, zw_g50, zw_l50, zw_g57, zw_l57, zw_g97, zw_l97, zw_g100, zw_l100, zw_g200, zw_l200, zw_g999, zw_l999, zw_g9999, zw_l9999]
    refine ⟨fun q => cf_8 q hp hM (fun y => ⟨(h, (b, V, c, used, w, F, B), 0), rfl, rfl, ⟨q, Nat.zero_le _, y⟩, hp, zq_fm_rf, hM, fun _ i hi => absurd hi (Nat.not_lt_zero _), fun z => absurd z (Nat.lt_irrefl _)⟩), fun q => ?_⟩
    refine ⟨(h, (b, V, c, used, w, F, B), 0), vn V - c - 1, rfl, rfl, ⟨Nat.zero_le _, by omega, by omega⟩, hp, zq_fm_rf, ?_⟩
    refine ⟨hM.1, hM.2.1, hM.2.2.1, fun y i hi => ?_⟩
    have y2 : 0 < F := y
    unfold zfB
    rw [if_pos y2]
    exact hM.2.2.2 y2 i hi
def zmcf : List Nat := [0, 1, 47]
def zmcp : List Nat := [57, 72, 73, 74, 75, 85, 86, 87]
def sp_mCalm (b : Nat) (V : zV) : zq_Sp := fun args h Q => args = [.ref 56] ∧ ZV V ∧ MC b V h ∧ (4 < vg V → ∀ h', zq_fm [0] [] h h' → Q (some (.int (-3))) h') ∧ (vg V = 0 → ∀ h', zq_fm [0] [] h h' → Q (some (.int (-2))) h') ∧ (vg V ≤ 4 → ¬ vg V = 0 → ∀ h', MR (zcmR V) h' → zq_fm zmcf zmcp h h' → Q (some (.int (nI (zcN V (vn V) 0 zw0)))) h')
def I_mCa32 (b : Nat) (V : zV) (Q : zq_Q) (z : zq_H × Nat) : zq_P := fun ls st h => match z with
  | (h0, t) => ls = [some (.ref 56), some (.int (nI t))] ∧ st = [] ∧ (t ≤ 36 ∧ vg V ≤ 4) ∧ MD b V h ∧ zq_fm zmcf zmcp h0 h ∧ (∀ i, i < t → h.1 87 i = 0) ∧ ∀ h', MR (zcmR V) h' → zq_fm zmcf zmcp h0 h' → Q (some (.int (nI (zcN V (vn V) 0 zw0)))) h'
def I_mCa69 (b : Nat) (V : zV) (Q : zq_Q) (z : zq_H × Nat) : zq_P := fun ls st h => match z with
  | (h0, t) => ls = [some (.ref 56), some (.int (nI t))] ∧ st = [] ∧ (t ≤ vn V ∧ vg V ≤ 4) ∧ MD b V h ∧ (h.1 56 47 = nI (zcN V (vn V) 0 zw0) ∧ zcN V (vn V) 0 zw0 ≤ 2 ^ 30) ∧ (0 < zcN V (vn V) 0 zw0 → ∃ B : Nat → Nat, (∀ i, i < vn V → h.1 86 i = nI (B i)) ∧ (∀ i, i < vn V → B i < 100) ∧ zcmR V = zrw B (vn V) ∧ MR (zrw B t) h) ∧ (zcN V (vn V) 0 zw0 = 0 → zcmR V = [] ∧ MR [] h) ∧ zq_fm zmcf zmcp h0 h ∧ ∀ h', MR (zcmR V) h' → zq_fm zmcf zmcp h0 h' → Q (some (.int (nI (zcN V (vn V) 0 zw0)))) h'
theorem zcF_b {V : zV} (h4 : vg V ≤ 4) : ∀ k c w f, c + k = vn V → (∀ i, i < c → w i < vg V) → zcF V k c w = some f → ∀ i, i < vn V → f i < vg V
  | 0, c, w, f, hc, hw, e, i, hi => by
    rw [zcF] at e
    split at e
    · cases e
      exact hw i (by omega)
    · cases e
  | k + 1, c, w, f, hc, hw, e, i, hi => by
    rw [zcF] at e
    obtain ⟨g, hg, h1, -⟩ := zfi_is _ e
    by_cases q : zcal2 c w g
    · rw [if_pos q] at h1
      refine zcF_b h4 k (c + 1) _ f (by omega) (fun x hx => ?_) h1 i hi
      by_cases y : x = c
      · rw [y, zupd_at]
        exact hg
      · rw [zupd_lt (by omega)]
        exact hw x (by omega)
    · rw [if_neg q] at h1
      cases h1
theorem ok_mCalm (b : Nat) (V : zV) : zq_M yX12_calm cX12_calm 2 (some .int) 1 18 (sp_mCalm b V) := by
  refine mX12_calm (ok_laysV b V) (by decide) (ok_cf 16) (by decide) ok_entersL (by decide) (fun z => 1000 + (50 - z.2)) (I_mCa32 b V) (fun z => 20 - z.2) (I_mCa69 b V) (fun args h Q hs => ?_) (fun Q z ls st h hi => ?_) (fun Q z ls st h hi => ?_)
  · obtain ⟨rfl, hV, hX, k1, k2, k3⟩ := hs
    have hg := hX.2.1.1
    have f0 : zq_fm [0] [] h (zq_setI h 56 0 0) := zq_fm_F zq_fm_rf (by decide)
    have hX1 := MC_fm hX f0 (by decide)
    have c4 : (nI (vg V) ≤ 4) = (vg V ≤ 4) := nI_leP (b := 4) (by omega) (by decide)
    refine ⟨Nat.le_of_ble_eq_true rfl, ?_⟩
    simp only [xX12_calm_0, xX12_calm_13, xX12_calm_16, xX12_calm_23, xX12_calm_26, hX1.2.1.2.1, c4, nI_zP (show vg V < 2 ^ 31 by omega), zi_push, zi_iload, zi_lload, zi_aload, zi_istore, zi_astore, zi_lstore, zi_iinc, zi_i2, zi_i1, zi_idv, zi_l2, zi_ldv, zi_lsh, zi_i2l, zi_l2i, zi_lcmp, zi_dup, zi_dup2, zi_pop, zi_if1, zi_if2, zi_getI, zi_getL, zi_getR, zi_putI, zi_putZ, zi_putL, zi_aldI, zi_aldL, zi_astI, zi_astZ, zi_astL, zi_alen, zi_iret, zi_zret, zi_lret, zi_vret, zi_callV, zi_callS, zi_sw, zi_copyI, zi_copyL, zi_m2, zi_m1, zi_sval, zi_scod, zi_fmt, zi_balen, zi_bald, zi_bret, zi_callT, zq_nth, zq_put1, zq_put2, zq_clr, zq_nl, zq_tk, zq_ps, zq_sw, zq_l0, zq_a, zq_a1, List.length_cons, List.length_nil, List.nil_append, List.cons_append, List.append_nil, List.replicate, Nat.reduceAdd, Nat.reduceSub, Nat.reduceLeDiff, true_and, and_true, List.append_eq, List.cons.injEq, Value.int.injEq, Value.long.injEq, Value.ref.injEq, exists_and_left, exists_eq_left', and_assoc, zc_b, zc_0, zc_1, zc_10, zc_01, lg_cmp_ge, lg_cmp_le, lg_cmp_gt, lg_cmp_lt, lg_cmp_eq, zw_le, zw_lt, reduceIte, true_or, or_true, zw_g0, zw_l0, zw_g1, zw_l1, zw_g2, zw_l2, zw_g3, zw_l3, zw_g5, zw_l5, zw_g6, zw_l6, zw_g7, zw_l7, zw_g9, zw_l9, zw_g10, zw_l10, zw_g15, zw_l15, zw_g16, zw_l16, zw_g48, zw_l48, zw_g50, zw_l50, zw_g57, zw_l57, zw_g97, zw_l97, zw_g100, zw_l100, zw_g200, zw_l200, zw_g999, zw_l999, zw_g9999, zw_l9999]
    refine ⟨fun q => ⟨fun q2 => k2 q2 _ f0, fun q2 => ⟨rfl, hV, hX1, fun h1 x1 f1 => ?_⟩⟩, fun q => k1 (by omega) _ f0⟩
    simp only [zi_push, zi_iload, zi_lload, zi_aload, zi_istore, zi_astore, zi_lstore, zi_iinc, zi_i2, zi_i1, zi_idv, zi_l2, zi_ldv, zi_lsh, zi_i2l, zi_l2i, zi_lcmp, zi_dup, zi_dup2, zi_pop, zi_if1, zi_if2, zi_getI, zi_getL, zi_getR, zi_putI, zi_putZ, zi_putL, zi_aldI, zi_aldL, zi_astI, zi_astZ, zi_astL, zi_alen, zi_iret, zi_zret, zi_lret, zi_vret, zi_callV, zi_callS, zi_sw, zi_copyI, zi_copyL, zi_m2, zi_m1, zi_sval, zi_scod, zi_fmt, zi_balen, zi_bald, zi_bret, zi_callT, zq_nth, zq_put1, zq_put2, zq_clr, zq_nl, zq_tk, zq_ps, zq_sw, zq_l0, zq_a, zq_a1, List.length_cons, List.length_nil, List.nil_append, List.cons_append, List.append_nil, List.replicate, Nat.reduceAdd, Nat.reduceSub, Nat.reduceLeDiff, true_and, and_true, List.append_eq, List.cons.injEq, Value.int.injEq, Value.long.injEq, Value.ref.injEq, exists_and_left, exists_eq_left', and_assoc, zc_b, zc_0, zc_1, zc_10, zc_01, lg_cmp_ge, lg_cmp_le, lg_cmp_gt, lg_cmp_lt, lg_cmp_eq, zw_le, zw_lt, reduceIte, true_or, or_true, zw_g0, zw_l0, zw_g1, zw_l1, zw_g2, zw_l2, zw_g3, zw_l3, zw_g5, zw_l5, zw_g6, zw_l6, zw_g7, zw_l7, zw_g9, zw_l9, zw_g10, zw_l10, zw_g15, zw_l15, zw_g16, zw_l16, zw_g48, zw_l48, zw_g50, zw_l50, zw_g57, zw_l57, zw_g97, zw_l97, zw_g100, zw_l100, zw_g200, zw_l200, zw_g999, zw_l999, zw_g9999, zw_l9999]
    exact ⟨(h, 0), rfl, rfl, ⟨Nat.zero_le _, q⟩, x1, zq_fm_t (zq_fm_w f0 (by decide)) f1 (by decide), fun i hi => absurd hi (Nat.not_lt_zero _), k3 q q2⟩
  · obtain ⟨h0, t⟩ := z
    obtain ⟨rfl, rfl, ⟨ht, h4⟩, hX, hf, hz, k⟩ := hi
    have hn := hX.1.1.1
    have c1 : ((36 : Int32) ≤ nI t) = (t = 36) := zl_ge (n := 36) ht (by decide)
    simp only [xX12_calm_32, xX12_calm_38, xX12_calm_51, c1, nI_1, nI_clamp (show t < 2 ^ 31 by omega), zi_push, zi_iload, zi_lload, zi_aload, zi_istore, zi_astore, zi_lstore, zi_iinc, zi_i2, zi_i1, zi_idv, zi_l2, zi_ldv, zi_lsh, zi_i2l, zi_l2i, zi_lcmp, zi_dup, zi_dup2, zi_pop, zi_if1, zi_if2, zi_getI, zi_getL, zi_getR, zi_putI, zi_putZ, zi_putL, zi_aldI, zi_aldL, zi_astI, zi_astZ, zi_astL, zi_alen, zi_iret, zi_zret, zi_lret, zi_vret, zi_callV, zi_callS, zi_sw, zi_copyI, zi_copyL, zi_m2, zi_m1, zi_sval, zi_scod, zi_fmt, zi_balen, zi_bald, zi_bret, zi_callT, zq_nth, zq_put1, zq_put2, zq_clr, zq_nl, zq_tk, zq_ps, zq_sw, zq_l0, zq_a, zq_a1, List.length_cons, List.length_nil, List.nil_append, List.cons_append, List.append_nil, List.replicate, Nat.reduceAdd, Nat.reduceSub, Nat.reduceLeDiff, true_and, and_true, List.append_eq, List.cons.injEq, Value.int.injEq, Value.long.injEq, Value.ref.injEq, exists_and_left, exists_eq_left', and_assoc, zc_b, zc_0, zc_1, zc_10, zc_01, lg_cmp_ge, lg_cmp_le, lg_cmp_gt, lg_cmp_lt, lg_cmp_eq, zw_le, zw_lt, reduceIte, true_or, or_true, zw_g0, zw_l0, zw_g1, zw_l1, zw_g2, zw_l2, zw_g3, zw_l3, zw_g5, zw_l5, zw_g6, zw_l6, zw_g7, zw_l7, zw_g9, zw_l9, zw_g10, zw_l10, zw_g15, zw_l15, zw_g16, zw_l16, zw_g48, zw_l48, zw_g50, zw_l50, zw_g57, zw_l57, zw_g97, zw_l97, zw_g100, zw_l100, zw_g200, zw_l200, zw_g999, zw_l999, zw_g9999, zw_l9999]
    refine ⟨fun q => ?_, fun q => ⟨vp_in_nI (by omega) (by decide), (h0, t + 1), by dsimp only; omega, rfl, rfl, ⟨by omega, h4⟩, MD_fm hX (zq_fm_I (fs := []) (ps := [87]) zq_fm_rf (by decide)) (by decide), zq_fm_I hf (by decide), fun i hi => ?_, k⟩⟩
    · subst q
      have g1 : zq_fm [47] [] h (zq_setI h 56 47 0) := zq_fm_F zq_fm_rf (by decide)
      have hX1 := MD_fm hX g1 (by decide)
      have hb := zcN_31 h4 (k := vn V) (c := 0) (w := zw0) hn
      have noW : ∀ o, zcnw 0 zw0 o := fun o i hi => absurd hi (Nat.not_lt_zero _)
      refine ⟨b, V, 0, 0, zw0, 0, zw0, rfl, by omega, ⟨⟨Nat.zero_le _, by decide, h4, by rw [Nat.sub_zero]; omega⟩, fun o ho => ⟨fun y => by simp at y, fun y => absurd (noW o) y⟩, fun i hi => absurd hi (Nat.not_lt_zero _), hX1, fun h1 m1 f1 => ?_⟩, ⟨fun i hi => absurd hi (Nat.not_lt_zero _), fun g o hg2 ho => ?_, by simp [zq_sI]; rfl, fun y => absurd y (Nat.lt_irrefl _)⟩⟩
      · rw [Nat.sub_zero, Nat.zero_add] at m1
        have sp := zcF_sp (V := V) (vn V) 0 zw0 (by omega)
        simp only [zi_push, zi_iload, zi_lload, zi_aload, zi_istore, zi_astore, zi_lstore, zi_iinc, zi_i2, zi_i1, zi_idv, zi_l2, zi_ldv, zi_lsh, zi_i2l, zi_l2i, zi_lcmp, zi_dup, zi_dup2, zi_pop, zi_if1, zi_if2, zi_getI, zi_getL, zi_getR, zi_putI, zi_putZ, zi_putL, zi_aldI, zi_aldL, zi_astI, zi_astZ, zi_astL, zi_alen, zi_iret, zi_zret, zi_lret, zi_vret, zi_callV, zi_callS, zi_sw, zi_copyI, zi_copyL, zi_m2, zi_m1, zi_sval, zi_scod, zi_fmt, zi_balen, zi_bald, zi_bret, zi_callT, zq_nth, zq_put1, zq_put2, zq_clr, zq_nl, zq_tk, zq_ps, zq_sw, zq_l0, zq_a, zq_a1, List.length_cons, List.length_nil, List.nil_append, List.cons_append, List.append_nil, List.replicate, Nat.reduceAdd, Nat.reduceSub, Nat.reduceLeDiff, true_and, and_true, List.append_eq, List.cons.injEq, Value.int.injEq, Value.long.injEq, Value.ref.injEq, exists_and_left, exists_eq_left', and_assoc, zc_b, zc_0, zc_1, zc_10, zc_01, lg_cmp_ge, lg_cmp_le, lg_cmp_gt, lg_cmp_lt, lg_cmp_eq, zw_le, zw_lt, reduceIte, true_or, or_true, zw_g0, zw_l0, zw_g1, zw_l1, zw_g2, zw_l2, zw_g3, zw_l3, zw_g5, zw_l5, zw_g6, zw_l6, zw_g7, zw_l7, zw_g9, zw_l9, zw_g10, zw_l10, zw_g15, zw_l15, zw_g16, zw_l16, zw_g48, zw_l48, zw_g50, zw_l50, zw_g57, zw_l57, zw_g97, zw_l97, zw_g100, zw_l100, zw_g200, zw_l200, zw_g999, zw_l999, zw_g9999, zw_l9999]
        have g2 : zq_fm [1] [] h1 (zq_setI h1 56 1 0) := zq_fm_F zq_fm_rf (by decide)
        have m2 := MCw_fm m1 g2 (by decide)
        refine ⟨(h0, 0), by dsimp only; omega, rfl, rfl, ⟨Nat.zero_le _, h4⟩, MD_fm (MD_fm hX1 f1 (by decide)) g2 (by decide), ⟨m2.2.2.1, by omega⟩, fun y => ⟨zfB 0 zw0 (zcF V (vn V) 0 zw0), m2.2.2.2 y, fun i hi => ?_, ?_, MR_nil h1⟩, fun y => ⟨?_, MR_nil h1⟩, zq_fm_t (zq_fm_t (zq_fm_t hf g1 (by decide)) f1 (by decide)) g2 (by decide), k⟩
        · unfold zfB
          rw [if_neg (Nat.lt_irrefl 0)]
          cases e : zcF V (vn V) 0 zw0 with
          | none => exact (by decide : (0 : Nat) < 100)
          | some f =>
            have := zcF_b h4 (vn V) 0 zw0 f (by omega) (fun i hi => absurd hi (Nat.not_lt_zero _)) e i hi
            show f i < 100
            omega
        · unfold zcmR zfB
          rw [if_neg (Nat.lt_irrefl 0)]
          cases e : zcF V (vn V) 0 zw0 with
          | none =>
            have := (sp.1 e).1
            omega
          | some f => rfl
        · unfold zcmR
          cases e : zcF V (vn V) 0 zw0 with
          | none => rfl
          | some f =>
            have := (sp.2 f e).1
            omega
      · rw [zq_sI, if_neg (by omega), hz _ (by omega)]
        rfl
    · rw [zq_sI]
      by_cases y : i = t
      · rw [if_pos ⟨rfl, y⟩]
      · rw [if_neg (fun z => y z.2)]
        exact hz i (by omega)
  · obtain ⟨h0, t⟩ := z
    obtain ⟨rfl, rfl, ⟨ht, h4⟩, hX, ⟨e47, hN⟩, hp, hz, hf, k⟩ := hi
    have hn := hX.1.1.1
    simp only [xX12_calm_69, xX12_calm_77, xX12_calm_84, xX12_calm_101, hX.1.1.2.1, e47, zl_ge ht (show vn V < 2 ^ 31 by omega), nI_le0 (show zcN V (vn V) 0 zw0 < 2 ^ 31 by omega), nI_clamp (show t < 2 ^ 31 by omega), zi_push, zi_iload, zi_lload, zi_aload, zi_istore, zi_astore, zi_lstore, zi_iinc, zi_i2, zi_i1, zi_idv, zi_l2, zi_ldv, zi_lsh, zi_i2l, zi_l2i, zi_lcmp, zi_dup, zi_dup2, zi_pop, zi_if1, zi_if2, zi_getI, zi_getL, zi_getR, zi_putI, zi_putZ, zi_putL, zi_aldI, zi_aldL, zi_astI, zi_astZ, zi_astL, zi_alen, zi_iret, zi_zret, zi_lret, zi_vret, zi_callV, zi_callS, zi_sw, zi_copyI, zi_copyL, zi_m2, zi_m1, zi_sval, zi_scod, zi_fmt, zi_balen, zi_bald, zi_bret, zi_callT, zq_nth, zq_put1, zq_put2, zq_clr, zq_nl, zq_tk, zq_ps, zq_sw, zq_l0, zq_a, zq_a1, List.length_cons, List.length_nil, List.nil_append, List.cons_append, List.append_nil, List.replicate, Nat.reduceAdd, Nat.reduceSub, Nat.reduceLeDiff, true_and, and_true, List.append_eq, List.cons.injEq, Value.int.injEq, Value.long.injEq, Value.ref.injEq, exists_and_left, exists_eq_left', and_assoc, zc_b, zc_0, zc_1, zc_10, zc_01, lg_cmp_ge, lg_cmp_le, lg_cmp_gt, lg_cmp_lt, lg_cmp_eq, zw_le, zw_lt, reduceIte, true_or, or_true, zw_g0, zw_l0, zw_g1, zw_l1, zw_g2, zw_l2, zw_g3, zw_l3, zw_g5, zw_l5, zw_g6, zw_l6, zw_g7, zw_l7, zw_g9, zw_l9, zw_g10, zw_l10, zw_g15, zw_l15, zw_g16, zw_l16, zw_g48, zw_l48, zw_g50, zw_l50, zw_g57, zw_l57, zw_g97, zw_l97, zw_g100, zw_l100, zw_g200, zw_l200, zw_g999, zw_l999, zw_g9999, zw_l9999]
    have done0 : zcN V (vn V) 0 zw0 = 0 → Q (some (.int (nI (zcN V (vn V) 0 zw0)))) h := fun q => by
      obtain ⟨z1, z2⟩ := hz q
      rw [← z1] at z2
      exact k h z2 hf
    refine ⟨fun q => ?_, fun q => ⟨done0, fun q2 => ⟨vp_in_nI (by omega) (by decide), ?_⟩⟩⟩
    · subst q
      by_cases q0 : zcN V (vn V) 0 zw0 = 0
      · exact done0 q0
      · obtain ⟨B, -, -, b2, b3⟩ := hp (by omega)
        rw [← b2] at b3
        exact k h b3 hf
    · obtain ⟨B, b1, b0, b2, b3⟩ := hp (by omega)
      have l1 := b0 t (by omega)
      rw [b1 t (by omega), nI_l (by omega)]
      refine ⟨_, _, rfl, b3, by rw [zrw_len]; omega, fun h1 r1 f1 => ?_⟩
      simp only [nI_1, zi_push, zi_iload, zi_lload, zi_aload, zi_istore, zi_astore, zi_lstore, zi_iinc, zi_i2, zi_i1, zi_idv, zi_l2, zi_ldv, zi_lsh, zi_i2l, zi_l2i, zi_lcmp, zi_dup, zi_dup2, zi_pop, zi_if1, zi_if2, zi_getI, zi_getL, zi_getR, zi_putI, zi_putZ, zi_putL, zi_aldI, zi_aldL, zi_astI, zi_astZ, zi_astL, zi_alen, zi_iret, zi_zret, zi_lret, zi_vret, zi_callV, zi_callS, zi_sw, zi_copyI, zi_copyL, zi_m2, zi_m1, zi_sval, zi_scod, zi_fmt, zi_balen, zi_bald, zi_bret, zi_callT, zq_nth, zq_put1, zq_put2, zq_clr, zq_nl, zq_tk, zq_ps, zq_sw, zq_l0, zq_a, zq_a1, List.length_cons, List.length_nil, List.nil_append, List.cons_append, List.append_nil, List.replicate, Nat.reduceAdd, Nat.reduceSub, Nat.reduceLeDiff, true_and, and_true, List.append_eq, List.cons.injEq, Value.int.injEq, Value.long.injEq, Value.ref.injEq, exists_and_left, exists_eq_left', and_assoc, zc_b, zc_0, zc_1, zc_10, zc_01, lg_cmp_ge, lg_cmp_le, lg_cmp_gt, lg_cmp_lt, lg_cmp_eq, zw_le, zw_lt, reduceIte, true_or, or_true, zw_g0, zw_l0, zw_g1, zw_l1, zw_g2, zw_l2, zw_g3, zw_l3, zw_g5, zw_l5, zw_g6, zw_l6, zw_g7, zw_l7, zw_g9, zw_l9, zw_g10, zw_l10, zw_g15, zw_l15, zw_g16, zw_l16, zw_g48, zw_l48, zw_g50, zw_l50, zw_g57, zw_l57, zw_g97, zw_l97, zw_g100, zw_l100, zw_g200, zw_l200, zw_g999, zw_l999, zw_g9999, zw_l9999]
      have a86 := (f1.1 86 (by decide) (by decide)).1
      exact ⟨(h0, t + 1), by dsimp only; omega, rfl, rfl, ⟨by omega, h4⟩, MD_fm hX f1 (by decide), ⟨by rw [(f1.2 47 (by decide)).1]; exact e47, hN⟩, fun _ => ⟨B, fun i hi => by rw [a86]; exact b1 i hi, b0, b2, r1⟩, fun y => absurd y q2, zq_fm_t hf f1 (by decide), k⟩
theorem j_calm {V : zV} (hV : ZV V) : zJ V (zE sp_xCalm) (zE2 sp_mCalm) [] := by
  by_cases q : vg V ≤ 4
  · by_cases q2 : vg V = 0
    · exact ⟨-2, V, hV, fun h Q hA k => ⟨V, rfl, hA.1, fun z => absurd q (Nat.not_le.mpr z), fun _ => k h hA zXf_rf, fun _ z => absurd q2 z⟩, fun b h Q hb hA k => ⟨b, V, rfl, hV, hA.1, fun z => absurd q (Nat.not_le.mpr z), fun _ h' f => k h' (MA_fm hA f (by decide)) (zMf f (by decide)), fun _ z => absurd q2 z⟩⟩
    · exact ⟨nI (zcN V (vn V) 0 zw0), vSW V (zcmR V), hV, fun h Q hA k => ⟨V, rfl, hA.1, fun z => absurd q (Nat.not_le.mpr z), fun z => absurd z q2, fun _ _ h' r f => k h' (XA_W hA r f (by decide)) (zXf f (by decide))⟩, fun b h Q hb hA k => ⟨b, V, rfl, hV, hA.1, fun z => absurd q (Nat.not_le.mpr z), fun z => absurd z q2, fun _ _ h' r f => k h' (MA_W hA r f (by decide)) (zMf f (by decide))⟩⟩
  · exact ⟨-3, V, hV, fun h Q hA k => ⟨V, rfl, hA.1, fun _ => k h hA zXf_rf, fun z => absurd z (by omega), fun z => absurd z q⟩, fun b h Q hb hA k => ⟨b, V, rfl, hV, hA.1, fun _ h' f => k h' (MA_fm hA f (by decide)) (zMf f (by decide)), fun z => absurd z (by omega), fun z => absurd z q⟩⟩
