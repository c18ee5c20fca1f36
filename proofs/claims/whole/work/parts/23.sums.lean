/-! ===== sums over cells, guests ===== -/
def zsum (f : Nat → Int32) : Nat → Int32
  | 0 => 0
  | n + 1 => zsum f n + f n
theorem zsum_cong {f g : Nat → Int32} : ∀ {n : Nat}, (∀ k, k < n → f k = g k) → zsum f n = zsum g n
  | 0, _ => rfl
  | n + 1, h => by rw [zsum, zsum, zsum_cong (fun k hk => h k (by omega)), h n (by omega)]
/-- the head of a counted loop: at nI k, bound nI n -/
theorem zl_ge {n k : Nat} (hk : k ≤ n) (hn : n < 2 ^ 31) : (nI n ≤ nI k) = (k = n) := by
  apply propext
  rw [nI_leI hn (by omega)]
  omega
theorem zl_in {n k N : Nat} (hk : k ≤ n) (h : ¬ k = n) (hn : n ≤ N) (hN : N < 2 ^ 31) : vp_in (nI k) N := vp_in_nI (by omega) hN
def sp_allCrumbs : zq_Sp := fun args h Q => args = [.ref 40] ∧ ∃ n : Nat, n ≤ 16 ∧ h.1 40 3 = nI n ∧ Q (some (.int (zsum (h.1 41) n))) h
def I_allCrumbs (Q : zq_Q) (a : zq_H × Nat × Nat) : zq_P := fun ls st h => ls = [some (.ref 40), some (.int (zsum (a.1.1 41) a.2.2)), some (.int (nI a.2.2))] ∧ st = [] ∧ h = a.1 ∧ a.2.2 ≤ a.2.1 ∧ a.2.1 ≤ 16 ∧ a.1.1 40 3 = nI a.2.1 ∧ Q (some (.int (zsum (a.1.1 41) a.2.1))) a.1
theorem ok_allCrumbs : zq_M yX2_allCrumbs cX2_allCrumbs 3 (some .int) 1 0 sp_allCrumbs := by
  refine mX2_allCrumbs (fun a => a.2.1 - a.2.2) I_allCrumbs (fun args h Q hs => ?_) (fun Q a ls st h hi => ?_)
  · obtain ⟨rfl, n, hn, e, h2⟩ := hs
    refine ⟨Nat.le_of_ble_eq_true rfl, ?_⟩
    simp only [xX2_allCrumbs_27, xX2_allCrumbs_12, xX2_allCrumbs_4, xX2_allCrumbs_0, zi_push, zi_iload, zi_lload, zi_aload, zi_istore, zi_astore, zi_lstore, zi_iinc, zi_i2, zi_i1, zi_idv, zi_l2, zi_ldv, zi_lsh, zi_i2l, zi_l2i, zi_lcmp, zi_dup, zi_dup2, zi_pop, zi_if1, zi_if2, zi_getI, zi_getL, zi_getR, zi_putI, zi_putZ, zi_putL, zi_aldI, zi_aldL, zi_astI, zi_astZ, zi_astL, zi_alen, zi_iret, zi_zret, zi_lret, zi_vret, zi_callV, zi_callS, zi_sw, zi_copyI, zi_copyL, zi_m2, zi_m1, zi_sval, zi_scod, zi_fmt, zi_balen, zi_bald, zi_bret, zi_callT, zq_nth, zq_put1, zq_put2, zq_clr, zq_nl, zq_tk, zq_ps, zq_sw, zq_l0, zq_a, zq_a1, List.length_cons, List.length_nil, List.nil_append, List.cons_append, List.append_nil, List.replicate, Nat.reduceAdd, Nat.reduceSub, Nat.reduceLeDiff, true_and, and_true, List.append_eq, List.cons.injEq, Value.int.injEq, Value.long.injEq, Value.ref.injEq, exists_and_left, exists_eq_left', and_assoc, zc_b, zc_0, zc_1, zc_10, zc_01, lg_cmp_ge, lg_cmp_le, lg_cmp_gt, lg_cmp_lt, lg_cmp_eq, zw_le, zw_lt, reduceIte, true_or, or_true, zw_g0, zw_l0, zw_g1, zw_l1, zw_g2, zw_l2, zw_g3, zw_l3, zw_g5, zw_l5, zw_g6, zw_l6, zw_g7, zw_l7, zw_g9, zw_l9, zw_g10, zw_l10, zw_g15, zw_l15, zw_g16, zw_l16, zw_g48, zw_l48, zw_g50, zw_l50, zw_g57, zw_l57, zw_g97, zw_l97, zw_g100, zw_l100, zw_g200, zw_l200, zw_g999, zw_l999, zw_g9999, zw_l9999]
    exact ⟨(h, n, 0), rfl, rfl, rfl, Nat.zero_le _, hn, e, h2⟩
  · obtain ⟨h0, n, k⟩ := a
    obtain ⟨rfl, rfl, rfl, hk, hn, e, h2⟩ := hi
    dsimp only at hk hn e h2 ⊢
    simp only [xX2_allCrumbs_27, xX2_allCrumbs_12, xX2_allCrumbs_4, xX2_allCrumbs_0, zi_push, zi_iload, zi_lload, zi_aload, zi_istore, zi_astore, zi_lstore, zi_iinc, zi_i2, zi_i1, zi_idv, zi_l2, zi_ldv, zi_lsh, zi_i2l, zi_l2i, zi_lcmp, zi_dup, zi_dup2, zi_pop, zi_if1, zi_if2, zi_getI, zi_getL, zi_getR, zi_putI, zi_putZ, zi_putL, zi_aldI, zi_aldL, zi_astI, zi_astZ, zi_astL, zi_alen, zi_iret, zi_zret, zi_lret, zi_vret, zi_callV, zi_callS, zi_sw, zi_copyI, zi_copyL, zi_m2, zi_m1, zi_sval, zi_scod, zi_fmt, zi_balen, zi_bald, zi_bret, zi_callT, zq_nth, zq_put1, zq_put2, zq_clr, zq_nl, zq_tk, zq_ps, zq_sw, zq_l0, zq_a, zq_a1, List.length_cons, List.length_nil, List.nil_append, List.cons_append, List.append_nil, List.replicate, Nat.reduceAdd, Nat.reduceSub, Nat.reduceLeDiff, true_and, and_true, List.append_eq, List.cons.injEq, Value.int.injEq, Value.long.injEq, Value.ref.injEq, exists_and_left, exists_eq_left', and_assoc, zc_b, zc_0, zc_1, zc_10, zc_01, lg_cmp_ge, lg_cmp_le, lg_cmp_gt, lg_cmp_lt, lg_cmp_eq, zw_le, zw_lt, reduceIte, true_or, or_true, zw_g0, zw_l0, zw_g1, zw_l1, zw_g2, zw_l2, zw_g3, zw_l3, zw_g5, zw_l5, zw_g6, zw_l6, zw_g7, zw_l7, zw_g9, zw_l9, zw_g10, zw_l10, zw_g15, zw_l15, zw_g16, zw_l16, zw_g48, zw_l48, zw_g50, zw_l50, zw_g57, zw_l57, zw_g97, zw_l97, zw_g100, zw_l100, zw_g200, zw_l200, zw_g999, zw_l999, zw_g9999, zw_l9999, e, zl_ge hk (by omega : n < 2 ^ 31)]
    refine ⟨fun q => by rw [q]; exact h2, fun q => ⟨zl_in hk q hn (by decide), (h, n, k + 1), by dsimp only; omega, ?_, rfl, rfl, by dsimp only; omega, hn, e, h2⟩⟩
    rw [nI_clamp (by omega)]
    simp only [zsum, nI_1]
