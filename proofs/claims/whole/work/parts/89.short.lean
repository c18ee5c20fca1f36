/-! ===== placing: how far a member must cut ===== -/
def zshG (V : zV) (g m need s : Nat) : Nat → Nat → Nat
  | 0, _ => 17
  | k + 1, t => if need ≤ (vS V g t - vS V g s) * m then t else zshG V g m need s k (t + 1)
/-- the first t from s on with enough between s and t; 17: none -/
def zsho (V : zV) (g m need s : Nat) : Nat := zshG V g m need s (vn V + 1 - s) s
theorem zshG_s (V : zV) (g m need s k t : Nat) : zshG V g m need s (k + 1) t = if need ≤ (vS V g t - vS V g s) * m then t else zshG V g m need s k (t + 1) := rfl
def sp_short : zq_Sp := fun args h Q => ∃ V i g m need s, args = [.ref 22, .ref 9, .int (nI i), .int (nI s)] ∧ (i < 6 ∧ g < vg V ∧ s ≤ vn V) ∧ (m ≤ 2 ^ 40 ∧ need < 2 ^ 62) ∧ h.1 23 i = nI g ∧ h.2 24 i = lN m ∧ h.2 25 i = lN need ∧ XC V h ∧ h.1 22 7 = nI (vn V) ∧ Q (some (.int (nI (zsho V g m need s)))) h
def I_short (Q : zq_Q) (z : zV × (Nat × Nat × Nat × Nat) × Nat × Nat) : zq_P := fun ls st h => match z with
  | (V, (i, g, m, need), s, t) => ls = [some (.ref 22), some (.ref 9), some (.int (nI i)), some (.int (nI s)), some (.int (nI t))] ∧ st = [] ∧ (i < 6 ∧ g < vg V ∧ s ≤ t ∧ t ≤ vn V + 1) ∧ (m ≤ 2 ^ 40 ∧ need < 2 ^ 62) ∧ h.1 23 i = nI g ∧ h.2 24 i = lN m ∧ h.2 25 i = lN need ∧ XC V h ∧ h.1 22 7 = nI (vn V) ∧ zshG V g m need s (vn V + 1 - t) t = zsho V g m need s ∧ Q (some (.int (nI (zsho V g m need s)))) h
theorem ok_short : zq_M yX4_shortest cX4_shortest 5 (some .int) 1 1 sp_short := by
  refine mX4_shortest ok_btwL (by decide) (fun z => 100 - z.2.2.2) I_short (fun args h Q hs => ?_) (fun Q z ls st h hi => ?_)
  · obtain ⟨V, i, g, m, need, s, rfl, ⟨hi, hg, hs⟩, hm, e1, e2, e3, hX, e7, kk⟩ := hs
    refine ⟨Nat.le_of_ble_eq_true rfl, ?_⟩
    simp only [xX4_shortest_0, zi_push, zi_iload, zi_lload, zi_aload, zi_istore, zi_astore, zi_lstore, zi_iinc, zi_i2, zi_i1, zi_idv, zi_l2, zi_ldv, zi_lsh, zi_i2l, zi_l2i, zi_lcmp, zi_dup, zi_dup2, zi_pop, zi_if1, zi_if2, zi_getI, zi_getL, zi_getR, zi_putI, zi_putZ, zi_putL, zi_aldI, zi_aldL, zi_astI, zi_astZ, zi_astL, zi_alen, zi_iret, zi_zret, zi_lret, zi_vret, zi_callV, zi_callS, zi_sw, zi_copyI, zi_copyL, zi_m2, zi_m1, zi_sval, zi_scod, zi_fmt, zi_balen, zi_bald, zi_bret, zi_callT, zq_nth, zq_put1, zq_put2, zq_clr, zq_nl, zq_tk, zq_ps, zq_sw, zq_l0, zq_a, zq_a1, List.length_cons, List.length_nil, List.nil_append, List.cons_append, List.append_nil, List.replicate, Nat.reduceAdd, Nat.reduceSub, Nat.reduceLeDiff, true_and, and_true, List.append_eq, List.cons.injEq, Value.int.injEq, Value.long.injEq, Value.ref.injEq, exists_and_left, exists_eq_left', and_assoc, zc_b, zc_0, zc_1, zc_10, zc_01, lg_cmp_ge, lg_cmp_le, lg_cmp_gt, lg_cmp_lt, lg_cmp_eq, zw_le, zw_lt, reduceIte, true_or, or_true, zw_g0, zw_l0, zw_g1, zw_l1, zw_g2, zw_l2, zw_g3, zw_l3, zw_g5, zw_l5, zw_g6, zw_l6, zw_g7, zw_l7, zw_g9, zw_l9, zw_g10, zw_l10, zw_g15, zw_l15, zw_g16, zw_l16, zw_g48, zw_l48, zw_g50, zw_l50, zw_g57, zw_l57, zw_g97, zw_l97, zw_g100, zw_l100, zw_g200, zw_l200, zw_g999, zw_l999, zw_g9999, zw_l9999]
    exact ⟨(V, (i, g, m, need), s, s), rfl, rfl, ⟨hi, hg, Nat.le_refl _, by omega⟩, hm, e1, e2, e3, hX, e7, rfl, kk⟩
  · obtain ⟨V, ⟨i, g, m, need⟩, s, t⟩ := z
    obtain ⟨rfl, rfl, ⟨hi, hg, hs, ht⟩, ⟨hm, hne⟩, e1, e2, e3, hX, e7, ez, kk⟩ := hi
    have hn := hX.1.1
    have c1 : (nI (vn V) < nI t) = (vn V < t) := nI_ltP (by omega) (by omega)
    have v6 : vp_in (nI i) 6 = True := eq_true (vp_in_nI hi (by decide))
    simp only [xX4_shortest_3, xX4_shortest_12, xX4_shortest_52, e7, c1, v6, nI_clamp (show i < 2 ^ 31 by omega), e1, not_true_eq_false, not_false_eq_true, forall_const, true_and, and_true, false_and, and_false, if_true, if_false, reduceIte, implies_true, and_self, ite_self, true_or, or_true, false_or, or_false, true_implies, false_implies, Classical.not_not, false_imp_iff, not_false_iff, zi_push, zi_iload, zi_lload, zi_aload, zi_istore, zi_astore, zi_lstore, zi_iinc, zi_i2, zi_i1, zi_idv, zi_l2, zi_ldv, zi_lsh, zi_i2l, zi_l2i, zi_lcmp, zi_dup, zi_dup2, zi_pop, zi_if1, zi_if2, zi_getI, zi_getL, zi_getR, zi_putI, zi_putZ, zi_putL, zi_aldI, zi_aldL, zi_astI, zi_astZ, zi_astL, zi_alen, zi_iret, zi_zret, zi_lret, zi_vret, zi_callV, zi_callS, zi_sw, zi_copyI, zi_copyL, zi_m2, zi_m1, zi_sval, zi_scod, zi_fmt, zi_balen, zi_bald, zi_bret, zi_callT, zq_nth, zq_put1, zq_put2, zq_clr, zq_nl, zq_tk, zq_ps, zq_sw, zq_l0, zq_a, zq_a1, List.length_cons, List.length_nil, List.nil_append, List.cons_append, List.append_nil, List.replicate, Nat.reduceAdd, Nat.reduceSub, Nat.reduceLeDiff, true_and, and_true, List.append_eq, List.cons.injEq, Value.int.injEq, Value.long.injEq, Value.ref.injEq, exists_and_left, exists_eq_left', and_assoc, zc_b, zc_0, zc_1, zc_10, zc_01, lg_cmp_ge, lg_cmp_le, lg_cmp_gt, lg_cmp_lt, lg_cmp_eq, zw_le, zw_lt, reduceIte, true_or, or_true, zw_g0, zw_l0, zw_g1, zw_l1, zw_g2, zw_l2, zw_g3, zw_l3, zw_g5, zw_l5, zw_g6, zw_l6, zw_g7, zw_l7, zw_g9, zw_l9, zw_g10, zw_l10, zw_g15, zw_l15, zw_g16, zw_l16, zw_g48, zw_l48, zw_g50, zw_l50, zw_g57, zw_l57, zw_g97, zw_l97, zw_g100, zw_l100, zw_g200, zw_l200, zw_g999, zw_l999, zw_g9999, zw_l9999]
    refine ⟨fun q => ?_, fun q => ⟨V, g, s, t, rfl, ?_⟩⟩
    · obtain rfl : t = vn V + 1 := by omega
      rw [Nat.sub_self] at ez
      rw [← ez] at kk
      exact kk
    · refine ⟨hg, hs, by omega, hX, ?_⟩
      have l1 := vS_le V g t
      have ld : vS V g t - vS V g s ≤ 15984 := by omega
      have lm : (vS V g t - vS V g s) * m ≤ 15984 * 2 ^ 40 := Nat.mul_le_mul ld hm
      have el : (lN ((vS V g t - vS V g s) * m) < lN need) = ((vS V g t - vS V g s) * m < need) := lN_ltP (by omega) (by omega)
      obtain ⟨k, ek⟩ : ∃ k, vn V + 1 - t = k + 1 := ⟨vn V - t, by omega⟩
      rw [ek, zshG_s] at ez
      simp only [xX4_shortest_43, xX4_shortest_46, v6, nI_clamp (show i < 2 ^ 31 by omega), nI_l (show vS V g t - vS V g s < 2 ^ 31 by omega), e2, e3, lN_mul, el, nI_1, not_true_eq_false, not_false_eq_true, forall_const, true_and, and_true, false_and, and_false, if_true, if_false, reduceIte, implies_true, and_self, ite_self, true_or, or_true, false_or, or_false, true_implies, false_implies, Classical.not_not, false_imp_iff, not_false_iff, zi_push, zi_iload, zi_lload, zi_aload, zi_istore, zi_astore, zi_lstore, zi_iinc, zi_i2, zi_i1, zi_idv, zi_l2, zi_ldv, zi_lsh, zi_i2l, zi_l2i, zi_lcmp, zi_dup, zi_dup2, zi_pop, zi_if1, zi_if2, zi_getI, zi_getL, zi_getR, zi_putI, zi_putZ, zi_putL, zi_aldI, zi_aldL, zi_astI, zi_astZ, zi_astL, zi_alen, zi_iret, zi_zret, zi_lret, zi_vret, zi_callV, zi_callS, zi_sw, zi_copyI, zi_copyL, zi_m2, zi_m1, zi_sval, zi_scod, zi_fmt, zi_balen, zi_bald, zi_bret, zi_callT, zq_nth, zq_put1, zq_put2, zq_clr, zq_nl, zq_tk, zq_ps, zq_sw, zq_l0, zq_a, zq_a1, List.length_cons, List.length_nil, List.nil_append, List.cons_append, List.append_nil, List.replicate, Nat.reduceAdd, Nat.reduceSub, Nat.reduceLeDiff, true_and, and_true, List.append_eq, List.cons.injEq, Value.int.injEq, Value.long.injEq, Value.ref.injEq, exists_and_left, exists_eq_left', and_assoc, zc_b, zc_0, zc_1, zc_10, zc_01, lg_cmp_ge, lg_cmp_le, lg_cmp_gt, lg_cmp_lt, lg_cmp_eq, zw_le, zw_lt, reduceIte, true_or, or_true, zw_g0, zw_l0, zw_g1, zw_l1, zw_g2, zw_l2, zw_g3, zw_l3, zw_g5, zw_l5, zw_g6, zw_l6, zw_g7, zw_l7, zw_g9, zw_l9, zw_g10, zw_l10, zw_g15, zw_l15, zw_g16, zw_l16, zw_g48, zw_l48, zw_g50, zw_l50, zw_g57, zw_l57, zw_g97, zw_l97, zw_g100, zw_l100, zw_g200, zw_l200, zw_g999, zw_l999, zw_g9999, zw_l9999]
      refine ⟨fun q2 => ?_, fun q2 => ?_⟩
      · rw [if_neg (by omega)] at ez
        exact ⟨(V, (i, g, m, need), s, t + 1), by dsimp only; omega, rfl, rfl, ⟨hi, hg, by omega, by omega⟩, ⟨hm, hne⟩, e1, e2, e3, hX, e7, by rw [show vn V + 1 - (t + 1) = k by omega]; exact ez, kk⟩
      · rw [if_pos (by omega)] at ez
        rw [ez]
        exact kk
theorem z17l (i s : Nat) : nI i * 17 + nI s = nI (17 * i + s) := by
  rw [show (17 : Int32) = nI 17 from rfl, pk_mul, nI_add, Nat.mul_comm]
/-- the ends laid: member i from s; beyond the loaf 17 -/
def zrch (n : Nat) (f : Nat → Nat → Nat) (i s : Nat) : Nat := if n < s then 17 else f i s
def sp_reached : zq_Sp := fun args h Q => ∃ (n : Nat) (f : Nat → Nat → Nat) (i s : Nat), args = [.ref 22, .int (nI i), .int (nI s)] ∧ (i < 6 ∧ s ≤ 17 ∧ n ≤ 16) ∧ h.1 22 7 = nI n ∧ (∀ t, t ≤ n → h.1 26 (17 * i + t) = nI (f i t)) ∧ Q (some (.int (nI (zrch n f i s)))) h
theorem ok_reached : zq_M yX4_reached cX4_reached 3 (some .int) 1 0 sp_reached := by
  refine mX4_reached (fun args h Q hs => ?_)
  obtain ⟨n, f, i, s, rfl, ⟨hi, hs, hn⟩, e7, e26, kk⟩ := hs
  refine ⟨Nat.le_of_ble_eq_true rfl, ?_⟩
  have c1 : (nI n < nI s) = (n < s) := nI_ltP (by omega) (by omega)
  simp only [xX4_reached_0, xX4_reached_8, xX4_reached_22, xX4_reached_24, e7, c1, z17l, nI_clamp (show 17 * i + s < 2 ^ 31 by omega), zi_push, zi_iload, zi_lload, zi_aload, zi_istore, zi_astore, zi_lstore, zi_iinc, zi_i2, zi_i1, zi_idv, zi_l2, zi_ldv, zi_lsh, zi_i2l, zi_l2i, zi_lcmp, zi_dup, zi_dup2, zi_pop, zi_if1, zi_if2, zi_getI, zi_getL, zi_getR, zi_putI, zi_putZ, zi_putL, zi_aldI, zi_aldL, zi_astI, zi_astZ, zi_astL, zi_alen, zi_iret, zi_zret, zi_lret, zi_vret, zi_callV, zi_callS, zi_sw, zi_copyI, zi_copyL, zi_m2, zi_m1, zi_sval, zi_scod, zi_fmt, zi_balen, zi_bald, zi_bret, zi_callT, zq_nth, zq_put1, zq_put2, zq_clr, zq_nl, zq_tk, zq_ps, zq_sw, zq_l0, zq_a, zq_a1, List.length_cons, List.length_nil, List.nil_append, List.cons_append, List.append_nil, List.replicate, Nat.reduceAdd, Nat.reduceSub, Nat.reduceLeDiff, true_and, and_true, List.append_eq, List.cons.injEq, Value.int.injEq, Value.long.injEq, Value.ref.injEq, exists_and_left, exists_eq_left', and_assoc, zc_b, zc_0, zc_1, zc_10, zc_01, lg_cmp_ge, lg_cmp_le, lg_cmp_gt, lg_cmp_lt, lg_cmp_eq, zw_le, zw_lt, reduceIte, true_or, or_true, zw_g0, zw_l0, zw_g1, zw_l1, zw_g2, zw_l2, zw_g3, zw_l3, zw_g5, zw_l5, zw_g6, zw_l6, zw_g7, zw_l7, zw_g9, zw_l9, zw_g10, zw_l10, zw_g15, zw_l15, zw_g16, zw_l16, zw_g48, zw_l48, zw_g50, zw_l50, zw_g57, zw_l57, zw_g97, zw_l97, zw_g100, zw_l100, zw_g200, zw_l200, zw_g999, zw_l999, zw_g9999, zw_l9999]
  unfold zrch at kk
  refine ⟨fun q => ?_, fun q => ⟨vp_in_nI (by omega) (by decide), ?_⟩⟩
  · rw [if_pos q] at kk
    exact kk
  · rw [if_neg q] at kk
    rw [e26 s (by omega)]
    exact kk
def sp_canServe : zq_Sp := fun args h Q => ∃ (n : Nat) (L : Nat → Nat) (mask : Nat), args = [.ref 22, .int (nI mask)] ∧ (mask < 64 ∧ n ≤ 16 ∧ L mask ≤ 17) ∧ h.1 22 7 = nI n ∧ h.1 27 mask = nI (L mask) ∧ Q (some (.int (if n < L mask then 0 else 1))) h
theorem ok_canServe : zq_M yX4_canServe cX4_canServe 2 (some .boolean) 1 0 sp_canServe := by
  refine mX4_canServe (fun args h Q hs => ?_)
  obtain ⟨n, L, mask, rfl, ⟨hk, hn, hL⟩, e7, e27, kk⟩ := hs
  refine ⟨Nat.le_of_ble_eq_true rfl, ?_⟩
  have c1 : (nI n < nI (L mask)) = (n < L mask) := nI_ltP (by omega) (by omega)
  simp only [xX4_canServe_0, xX4_canServe_13, xX4_canServe_17, xX4_canServe_18, e7, e27, c1, nI_clamp (show mask < 2 ^ 31 by omega), zi_push, zi_iload, zi_lload, zi_aload, zi_istore, zi_astore, zi_lstore, zi_iinc, zi_i2, zi_i1, zi_idv, zi_l2, zi_ldv, zi_lsh, zi_i2l, zi_l2i, zi_lcmp, zi_dup, zi_dup2, zi_pop, zi_if1, zi_if2, zi_getI, zi_getL, zi_getR, zi_putI, zi_putZ, zi_putL, zi_aldI, zi_aldL, zi_astI, zi_astZ, zi_astL, zi_alen, zi_iret, zi_zret, zi_lret, zi_vret, zi_callV, zi_callS, zi_sw, zi_copyI, zi_copyL, zi_m2, zi_m1, zi_sval, zi_scod, zi_fmt, zi_balen, zi_bald, zi_bret, zi_callT, zq_nth, zq_put1, zq_put2, zq_clr, zq_nl, zq_tk, zq_ps, zq_sw, zq_l0, zq_a, zq_a1, List.length_cons, List.length_nil, List.nil_append, List.cons_append, List.append_nil, List.replicate, Nat.reduceAdd, Nat.reduceSub, Nat.reduceLeDiff, true_and, and_true, List.append_eq, List.cons.injEq, Value.int.injEq, Value.long.injEq, Value.ref.injEq, exists_and_left, exists_eq_left', and_assoc, zc_b, zc_0, zc_1, zc_10, zc_01, lg_cmp_ge, lg_cmp_le, lg_cmp_gt, lg_cmp_lt, lg_cmp_eq, zw_le, zw_lt, reduceIte, true_or, or_true, zw_g0, zw_l0, zw_g1, zw_l1, zw_g2, zw_l2, zw_g3, zw_l3, zw_g5, zw_l5, zw_g6, zw_l6, zw_g7, zw_l7, zw_g9, zw_l9, zw_g10, zw_l10, zw_g15, zw_l15, zw_g16, zw_l16, zw_g48, zw_l48, zw_g50, zw_l50, zw_g57, zw_l57, zw_g97, zw_l97, zw_g100, zw_l100, zw_g200, zw_l200, zw_g999, zw_l999, zw_g9999, zw_l9999]
  refine ⟨vp_in_nI (by omega) (by decide), fun q => ?_, fun q => ?_⟩
  · rw [if_pos q] at kk
    exact kk
  · rw [if_neg q] at kk
    exact kk
