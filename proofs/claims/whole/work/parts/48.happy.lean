/-! ===== happiest ===== -/
theorem vH_le2 (V : zV) (j : Nat) (v : Int32) : vH V j v ≤ vS V j (vn V) := by
  refine nsum_mono2 _ (fun k _ => ?_)
  split
  · exact Nat.le_refl _
  · exact Nat.zero_le _
def zhX (V : zV) (t : Nat) : Nat × Nat × Nat := zfold (fun g s => if s.2.1 * vS V g (vn V) < vH V g (nI g) * s.2.2 then (g, vH V g (nI g), vS V g (vn V)) else s) t (0, 0, 1)
def zhM (V : zV) (t : Nat) : Nat × Nat × Nat := zfold (fun i s => if s.2.1 * max 1 (vS V (i + 1) (vn V)) < vH V (i + 1) (nI (i + 1)) * s.2.2 then (i + 1, vH V (i + 1) (nI (i + 1)), max 1 (vS V (i + 1) (vn V))) else s) t (0, vH V 0 (nI 0), max 1 (vS V 0 (vn V)))
theorem zhX_s (V : zV) (t : Nat) : zhX V (t + 1) = if (zhX V t).2.1 * vS V t (vn V) < vH V t (nI t) * (zhX V t).2.2 then (t, vH V t (nI t), vS V t (vn V)) else zhX V t := rfl
theorem zhM_s (V : zV) (t : Nat) : zhM V (t + 1) = if (zhM V t).2.1 * max 1 (vS V (t + 1) (vn V)) < vH V (t + 1) (nI (t + 1)) * (zhM V t).2.2 then (t + 1, vH V (t + 1) (nI (t + 1)), max 1 (vS V (t + 1) (vn V))) else zhM V t := rfl
def zhok (n : Nat) (s : Nat × Nat × Nat) : Prop := s.2.1 ≤ 999 * n ∧ 1 ≤ s.2.2 ∧ s.2.2 ≤ 999 * n + 1
theorem zhX_ok (V : zV) : ∀ t, zhok (vn V) (zhX V t)
  | 0 => ⟨Nat.zero_le _, Nat.le_refl _, Nat.le_add_left _ _⟩
  | t + 1 => by
    obtain ⟨h1, h2, h3⟩ := zhX_ok V t
    rw [zhX_s]
    split
    · next q =>
      have l1 := vH_le2 V t (nI t)
      have l2 := vS_le V t (vn V)
      refine ⟨by dsimp only; omega, ?_, by dsimp only; omega⟩
      dsimp only
      rcases Nat.eq_zero_or_pos (vH V t (nI t)) with z | z
      · rw [z, Nat.zero_mul] at q
        exact absurd q (Nat.not_lt_zero _)
      · omega
    · exact ⟨h1, h2, h3⟩
theorem zhM_ok (V : zV) : ∀ t, zhok (vn V) (zhM V t)
  | 0 => by
    have l1 := vH_le V 0 (nI 0)
    have l2 := vS_le V 0 (vn V)
    exact ⟨l1, Nat.le_max_left _ _, by show max 1 _ ≤ _; omega⟩
  | t + 1 => by
    obtain ⟨h1, h2, h3⟩ := zhM_ok V t
    rw [zhM_s]
    have l1 := vH_le V (t + 1) (nI (t + 1))
    have l2 := vS_le V (t + 1) (vn V)
    split
    · exact ⟨l1, Nat.le_max_left _ _, by show max 1 _ ≤ _; omega⟩
    · exact ⟨h1, h2, h3⟩
def zhR (x m : Nat × Nat × Nat) : Prop := x.1 = m.1 ∧ (x.2 = m.2 ∨ (x.2.1 = 0 ∧ m.2.1 = 0))
theorem zh_rel (V : zV) : ∀ t, zhR (zhX V (t + 1)) (zhM V t)
  | 0 => by
    rw [zhX_s]
    have l1 := vH_le2 V 0 (nI 0)
    have e : zhX V 0 = (0, 0, 1) := rfl
    have em : zhM V 0 = (0, vH V 0 (nI 0), max 1 (vS V 0 (vn V))) := rfl
    rw [e, em]
    dsimp only
    rw [Nat.zero_mul, Nat.mul_one]
    split
    · next q =>
      refine ⟨rfl, Or.inl ?_⟩
      show (_, _) = (_, _)
      rw [show max 1 (vS V 0 (vn V)) = vS V 0 (vn V) by omega]
    · next q => exact ⟨rfl, Or.inr ⟨rfl, by show vH V 0 (nI 0) = 0; omega⟩⟩
  | t + 1 => by
    obtain ⟨r1, r2⟩ := zh_rel V t
    have ox := zhX_ok V (t + 1)
    have om := zhM_ok V t
    rw [zhX_s V (t + 1), zhM_s]
    have l1 := vH_le2 V (t + 1) (nI (t + 1))
    generalize zhX V (t + 1) = x at r1 r2 ox ⊢
    generalize zhM V t = m at r1 r2 om ⊢
    generalize vH V (t + 1) (nI (t + 1)) = H at l1 ⊢
    generalize vS V (t + 1) (vn V) = S at l1 ⊢
    rcases Nat.eq_zero_or_pos H with z | z
    · subst z
      rw [Nat.zero_mul, Nat.zero_mul, if_neg (Nat.not_lt_zero _), if_neg (Nat.not_lt_zero _)]
      exact ⟨r1, r2⟩
    · have e : max 1 S = S := by omega
      rw [e]
      rcases r2 with q | ⟨q1, q2⟩
      · rw [q]
        split
        · exact ⟨rfl, Or.inl rfl⟩
        · exact ⟨r1, Or.inl q⟩
      · rw [q1, q2, Nat.zero_mul, if_pos (Nat.mul_pos z ox.2.1), if_pos (Nat.mul_pos z om.2.1)]
        exact ⟨rfl, Or.inl rfl⟩
theorem zfr_0 {u v : Nat} (hu : 0 < u) (hv : 0 < v) : zfr 0 u = zfr 0 v := by
  unfold zfr
  rw [Nat.gcd_zero_left, Nat.gcd_zero_left, Nat.zero_div, Nat.zero_div, Nat.div_self hu, Nat.div_self hv]
theorem zh_eq (V : zV) (t : Nat) : (zhX V (t + 1)).1 = (zhM V t).1 ∧ zfr (zhX V (t + 1)).2.1 (zhX V (t + 1)).2.2 = zfr (zhM V t).2.1 (zhM V t).2.2 := by
  obtain ⟨r1, r2⟩ := zh_rel V t
  refine ⟨r1, ?_⟩
  rcases r2 with q | ⟨q1, q2⟩
  · rw [q]
  · rw [q1, q2]
    exact zfr_0 (zhX_ok V (t + 1)).2.1 (zhM_ok V t).2.1
def zhW (V : zV) : List Int64 := zfr (zhX V (vg V)).2.1 (zhX V (vg V)).2.2
def sp_xHappy (V : zV) : zq_Sp := fun args h Q => args = [.ref 0] ∧ XC V h ∧ (vg V = 0 → Q (some (.int (-2))) h) ∧ (0 < vg V → zKR h Q (zhW V) (nI (zhX V (vg V)).1))
def I_xHappy (V : zV) (Q : zq_Q) (z : zq_H × Nat) : zq_P := fun ls st h => match z with
  | (h0, t) => ∃ s7 s8 s9 s10, ls = [some (.ref 0), some (.int (nI (zhX V t).1)), some (.long (lN (zhX V t).2.1)), none, some (.long (lN (zhX V t).2.2)), none, some (.int (nI t)), s7, s8, s9, s10] ∧ st = [] ∧ h = h0 ∧ t ≤ vg V ∧ XC V h ∧ zKR h0 Q (zhW V) (nI (zhX V (vg V)).1)
theorem ok_xHappy (V : zV) : zq_M yX11_happiest cX11_happiest 11 (some .int) 1 2 (sp_xHappy V) := by
  refine mX11_happiest (ok_heldV V) (by decide) (ok_wholeV V) (by decide) ok_rowClearL (by decide) ok_addFrac (by decide) (fun z => 100 - z.2) (I_xHappy V) (fun args h Q hs => ?_) (fun Q z ls st h hi => ?_)
  · obtain ⟨rfl, hX, k1, k2⟩ := hs
    have hg := hX.2.1.1
    refine ⟨Nat.le_of_ble_eq_true rfl, ?_⟩
    simp only [xX11_happiest_87, xX11_happiest_81, xX11_happiest_71, xX11_happiest_35, xX11_happiest_23, xX11_happiest_13, xX11_happiest_10, xX11_happiest_0, zi_push, zi_iload, zi_lload, zi_aload, zi_istore, zi_astore, zi_lstore, zi_iinc, zi_i2, zi_i1, zi_idv, zi_l2, zi_ldv, zi_lsh, zi_i2l, zi_l2i, zi_lcmp, zi_dup, zi_dup2, zi_pop, zi_if1, zi_if2, zi_getI, zi_getL, zi_getR, zi_putI, zi_putZ, zi_putL, zi_aldI, zi_aldL, zi_astI, zi_astZ, zi_astL, zi_alen, zi_iret, zi_zret, zi_lret, zi_vret, zi_callV, zi_callS, zi_sw, zi_copyI, zi_copyL, zi_m2, zi_m1, zi_sval, zi_scod, zi_fmt, zi_balen, zi_bald, zi_bret, zi_callT, zq_nth, zq_put1, zq_put2, zq_clr, zq_nl, zq_tk, zq_ps, zq_sw, zq_l0, zq_a, zq_a1, List.length_cons, List.length_nil, List.nil_append, List.cons_append, List.append_nil, List.replicate, Nat.reduceAdd, Nat.reduceSub, Nat.reduceLeDiff, true_and, and_true, List.append_eq, List.cons.injEq, Value.int.injEq, Value.long.injEq, Value.ref.injEq, exists_and_left, exists_eq_left', and_assoc, zc_b, zc_0, zc_1, zc_10, zc_01, lg_cmp_ge, lg_cmp_le, lg_cmp_gt, lg_cmp_lt, lg_cmp_eq, zw_le, zw_lt, reduceIte, true_or, or_true, zw_g0, zw_l0, zw_g1, zw_l1, zw_g2, zw_l2, zw_g3, zw_l3, zw_g5, zw_l5, zw_g6, zw_l6, zw_g7, zw_l7, zw_g9, zw_l9, zw_g10, zw_l10, zw_g15, zw_l15, zw_g16, zw_l16, zw_g48, zw_l48, zw_g50, zw_l50, zw_g57, zw_l57, zw_g97, zw_l97, zw_g100, zw_l100, zw_g200, zw_l200, zw_g999, zw_l999, zw_g9999, zw_l9999, hX.2.1.2.1, nI_zP (show vg V < 2 ^ 31 by omega)]
    exact ⟨k1, fun q => ⟨(h, 0), none, none, none, none, rfl, rfl, rfl, Nat.zero_le _, hX, k2 (by omega)⟩⟩
  · obtain ⟨h0, t⟩ := z
    obtain ⟨s7, s8, s9, s10, rfl, rfl, rfl, ht, hX, k⟩ := hi
    have hg := hX.2.1.1
    have hn := hX.1.1
    obtain ⟨o1, o2, o3⟩ := zhX_ok V t
    simp only [xX11_happiest_23, xX11_happiest_35, xX11_happiest_87, hX.2.1.2.1, zl_ge ht (show vg V < 2 ^ 31 by omega), zi_push, zi_iload, zi_lload, zi_aload, zi_istore, zi_astore, zi_lstore, zi_iinc, zi_i2, zi_i1, zi_idv, zi_l2, zi_ldv, zi_lsh, zi_i2l, zi_l2i, zi_lcmp, zi_dup, zi_dup2, zi_pop, zi_if1, zi_if2, zi_getI, zi_getL, zi_getR, zi_putI, zi_putZ, zi_putL, zi_aldI, zi_aldL, zi_astI, zi_astZ, zi_astL, zi_alen, zi_iret, zi_zret, zi_lret, zi_vret, zi_callV, zi_callS, zi_sw, zi_copyI, zi_copyL, zi_m2, zi_m1, zi_sval, zi_scod, zi_fmt, zi_balen, zi_bald, zi_bret, zi_callT, zq_nth, zq_put1, zq_put2, zq_clr, zq_nl, zq_tk, zq_ps, zq_sw, zq_l0, zq_a, zq_a1, List.length_cons, List.length_nil, List.nil_append, List.cons_append, List.append_nil, List.replicate, Nat.reduceAdd, Nat.reduceSub, Nat.reduceLeDiff, true_and, and_true, List.append_eq, List.cons.injEq, Value.int.injEq, Value.long.injEq, Value.ref.injEq, exists_and_left, exists_eq_left', and_assoc, zc_b, zc_0, zc_1, zc_10, zc_01, lg_cmp_ge, lg_cmp_le, lg_cmp_gt, lg_cmp_lt, lg_cmp_eq, zw_le, zw_lt, reduceIte, true_or, or_true, zw_g0, zw_l0, zw_g1, zw_l1, zw_g2, zw_l2, zw_g3, zw_l3, zw_g5, zw_l5, zw_g6, zw_l6, zw_g7, zw_l7, zw_g9, zw_l9, zw_g10, zw_l10, zw_g15, zw_l15, zw_g16, zw_l16, zw_g48, zw_l48, zw_g50, zw_l50, zw_g57, zw_l57, zw_g97, zw_l97, zw_g100, zw_l100, zw_g200, zw_l200, zw_g999, zw_l999, zw_g9999, zw_l9999]
    refine ⟨fun q => ⟨rfl, fun h1 r1 f1 => ?_⟩, fun q => ⟨t, nI t, rfl, by omega, hX, ?_⟩⟩
    · subst q
      simp only [zi_push, zi_iload, zi_lload, zi_aload, zi_istore, zi_astore, zi_lstore, zi_iinc, zi_i2, zi_i1, zi_idv, zi_l2, zi_ldv, zi_lsh, zi_i2l, zi_l2i, zi_lcmp, zi_dup, zi_dup2, zi_pop, zi_if1, zi_if2, zi_getI, zi_getL, zi_getR, zi_putI, zi_putZ, zi_putL, zi_aldI, zi_aldL, zi_astI, zi_astZ, zi_astL, zi_alen, zi_iret, zi_zret, zi_lret, zi_vret, zi_callV, zi_callS, zi_sw, zi_copyI, zi_copyL, zi_m2, zi_m1, zi_sval, zi_scod, zi_fmt, zi_balen, zi_bald, zi_bret, zi_callT, zq_nth, zq_put1, zq_put2, zq_clr, zq_nl, zq_tk, zq_ps, zq_sw, zq_l0, zq_a, zq_a1, List.length_cons, List.length_nil, List.nil_append, List.cons_append, List.append_nil, List.replicate, Nat.reduceAdd, Nat.reduceSub, Nat.reduceLeDiff, true_and, and_true, List.append_eq, List.cons.injEq, Value.int.injEq, Value.long.injEq, Value.ref.injEq, exists_and_left, exists_eq_left', and_assoc, zc_b, zc_0, zc_1, zc_10, zc_01, lg_cmp_ge, lg_cmp_le, lg_cmp_gt, lg_cmp_lt, lg_cmp_eq, zw_le, zw_lt, reduceIte, true_or, or_true, zw_g0, zw_l0, zw_g1, zw_l1, zw_g2, zw_l2, zw_g3, zw_l3, zw_g5, zw_l5, zw_g6, zw_l6, zw_g7, zw_l7, zw_g9, zw_l9, zw_g10, zw_l10, zw_g15, zw_l15, zw_g16, zw_l16, zw_g48, zw_l48, zw_g50, zw_l50, zw_g57, zw_l57, zw_g97, zw_l97, zw_g100, zw_l100, zw_g200, zw_l200, zw_g999, zw_l999, zw_g9999, zw_l9999]
      refine ⟨_, _, [], rfl, ⟨by omega, by omega, by omega⟩, r1, by decide, fun h2 r2 f2 => ?_⟩
      simp only [zi_push, zi_iload, zi_lload, zi_aload, zi_istore, zi_astore, zi_lstore, zi_iinc, zi_i2, zi_i1, zi_idv, zi_l2, zi_ldv, zi_lsh, zi_i2l, zi_l2i, zi_lcmp, zi_dup, zi_dup2, zi_pop, zi_if1, zi_if2, zi_getI, zi_getL, zi_getR, zi_putI, zi_putZ, zi_putL, zi_aldI, zi_aldL, zi_astI, zi_astZ, zi_astL, zi_alen, zi_iret, zi_zret, zi_lret, zi_vret, zi_callV, zi_callS, zi_sw, zi_copyI, zi_copyL, zi_m2, zi_m1, zi_sval, zi_scod, zi_fmt, zi_balen, zi_bald, zi_bret, zi_callT, zq_nth, zq_put1, zq_put2, zq_clr, zq_nl, zq_tk, zq_ps, zq_sw, zq_l0, zq_a, zq_a1, List.length_cons, List.length_nil, List.nil_append, List.cons_append, List.append_nil, List.replicate, Nat.reduceAdd, Nat.reduceSub, Nat.reduceLeDiff, true_and, and_true, List.append_eq, List.cons.injEq, Value.int.injEq, Value.long.injEq, Value.ref.injEq, exists_and_left, exists_eq_left', and_assoc, zc_b, zc_0, zc_1, zc_10, zc_01, lg_cmp_ge, lg_cmp_le, lg_cmp_gt, lg_cmp_lt, lg_cmp_eq, zw_le, zw_lt, reduceIte, true_or, or_true, zw_g0, zw_l0, zw_g1, zw_l1, zw_g2, zw_l2, zw_g3, zw_l3, zw_g5, zw_l5, zw_g6, zw_l6, zw_g7, zw_l7, zw_g9, zw_l9, zw_g10, zw_l10, zw_g15, zw_l15, zw_g16, zw_l16, zw_g48, zw_l48, zw_g50, zw_l50, zw_g57, zw_l57, zw_g97, zw_l97, zw_g100, zw_l100, zw_g200, zw_l200, zw_g999, zw_l999, zw_g9999, zw_l9999]
      exact k h2 r2 (zq_fr_t (zq_fr_w f1 (by decide)) f2 (by decide))
    · simp only [zi_push, zi_iload, zi_lload, zi_aload, zi_istore, zi_astore, zi_lstore, zi_iinc, zi_i2, zi_i1, zi_idv, zi_l2, zi_ldv, zi_lsh, zi_i2l, zi_l2i, zi_lcmp, zi_dup, zi_dup2, zi_pop, zi_if1, zi_if2, zi_getI, zi_getL, zi_getR, zi_putI, zi_putZ, zi_putL, zi_aldI, zi_aldL, zi_astI, zi_astZ, zi_astL, zi_alen, zi_iret, zi_zret, zi_lret, zi_vret, zi_callV, zi_callS, zi_sw, zi_copyI, zi_copyL, zi_m2, zi_m1, zi_sval, zi_scod, zi_fmt, zi_balen, zi_bald, zi_bret, zi_callT, zq_nth, zq_put1, zq_put2, zq_clr, zq_nl, zq_tk, zq_ps, zq_sw, zq_l0, zq_a, zq_a1, List.length_cons, List.length_nil, List.nil_append, List.cons_append, List.append_nil, List.replicate, Nat.reduceAdd, Nat.reduceSub, Nat.reduceLeDiff, true_and, and_true, List.append_eq, List.cons.injEq, Value.int.injEq, Value.long.injEq, Value.ref.injEq, exists_and_left, exists_eq_left', and_assoc, zc_b, zc_0, zc_1, zc_10, zc_01, lg_cmp_ge, lg_cmp_le, lg_cmp_gt, lg_cmp_lt, lg_cmp_eq, zw_le, zw_lt, reduceIte, true_or, or_true, zw_g0, zw_l0, zw_g1, zw_l1, zw_g2, zw_l2, zw_g3, zw_l3, zw_g5, zw_l5, zw_g6, zw_l6, zw_g7, zw_l7, zw_g9, zw_l9, zw_g10, zw_l10, zw_g15, zw_l15, zw_g16, zw_l16, zw_g48, zw_l48, zw_g50, zw_l50, zw_g57, zw_l57, zw_g97, zw_l97, zw_g100, zw_l100, zw_g200, zw_l200, zw_g999, zw_l999, zw_g9999, zw_l9999]
      refine ⟨t, rfl, by omega, hX, ?_⟩
      have l1 := vH_le V t (nI t)
      have l2 := vS_le V t (vn V)
      have b1 : vH V t (nI t) * (zhX V t).2.2 ≤ 15984 * 15985 := Nat.mul_le_mul (by omega) (by omega)
      have b2 : (zhX V t).2.1 * vS V t (vn V) ≤ 15984 * 15984 := Nat.mul_le_mul (by omega) (by omega)
      have es := zhX_s V t
      simp only [xX11_happiest_71, xX11_happiest_81, nI_l (show vH V t (nI t) < 2 ^ 31 by omega), nI_l (show vS V t (vn V) < 2 ^ 31 by omega), lN_mul, lN_leP (show vH V t (nI t) * (zhX V t).2.2 < 2 ^ 63 by omega) (show (zhX V t).2.1 * vS V t (vn V) < 2 ^ 63 by omega), zi_push, zi_iload, zi_lload, zi_aload, zi_istore, zi_astore, zi_lstore, zi_iinc, zi_i2, zi_i1, zi_idv, zi_l2, zi_ldv, zi_lsh, zi_i2l, zi_l2i, zi_lcmp, zi_dup, zi_dup2, zi_pop, zi_if1, zi_if2, zi_getI, zi_getL, zi_getR, zi_putI, zi_putZ, zi_putL, zi_aldI, zi_aldL, zi_astI, zi_astZ, zi_astL, zi_alen, zi_iret, zi_zret, zi_lret, zi_vret, zi_callV, zi_callS, zi_sw, zi_copyI, zi_copyL, zi_m2, zi_m1, zi_sval, zi_scod, zi_fmt, zi_balen, zi_bald, zi_bret, zi_callT, zq_nth, zq_put1, zq_put2, zq_clr, zq_nl, zq_tk, zq_ps, zq_sw, zq_l0, zq_a, zq_a1, List.length_cons, List.length_nil, List.nil_append, List.cons_append, List.append_nil, List.replicate, Nat.reduceAdd, Nat.reduceSub, Nat.reduceLeDiff, true_and, and_true, List.append_eq, List.cons.injEq, Value.int.injEq, Value.long.injEq, Value.ref.injEq, exists_and_left, exists_eq_left', and_assoc, zc_b, zc_0, zc_1, zc_10, zc_01, lg_cmp_ge, lg_cmp_le, lg_cmp_gt, lg_cmp_lt, lg_cmp_eq, zw_le, zw_lt, reduceIte, true_or, or_true, zw_g0, zw_l0, zw_g1, zw_l1, zw_g2, zw_l2, zw_g3, zw_l3, zw_g5, zw_l5, zw_g6, zw_l6, zw_g7, zw_l7, zw_g9, zw_l9, zw_g10, zw_l10, zw_g15, zw_l15, zw_g16, zw_l16, zw_g48, zw_l48, zw_g50, zw_l50, zw_g57, zw_l57, zw_g97, zw_l97, zw_g100, zw_l100, zw_g200, zw_l200, zw_g999, zw_l999, zw_g9999, zw_l9999]
      refine ⟨fun q2 => ?_, fun q2 => ?_⟩
      · rw [if_neg (by omega)] at es
        exact ⟨(h, t + 1), by dsimp only; omega, _, _, _, _, by rw [es, nI_1], rfl, rfl, by omega, hX, k⟩
      · rw [if_pos (by omega)] at es
        exact ⟨(h, t + 1), by dsimp only; omega, _, _, _, _, by rw [es, nI_1], rfl, rfl, by omega, hX, k⟩
def sp_mHappy (b : Nat) (V : zV) : zq_Sp := fun args h Q => args = [.ref 56] ∧ ZV V ∧ MC b V h ∧ (vg V = 0 → ∀ h', zq_fm [0] [] h h' → Q (some (.int (-2))) h') ∧ (0 < vg V → zKRm b h Q (zhW V) (nI (zhX V (vg V)).1))
def I_mHappy (b : Nat) (V : zV) (Q : zq_Q) (z : zq_H × Nat) : zq_P := fun ls st h => match z with
  | (h0, t) => ∃ s7 s8 s9 s10, ls = [some (.ref 56), some (.int (nI (zhM V t).1)), some (.long (lN (zhM V t).2.1)), none, some (.long (lN (zhM V t).2.2)), none, some (.int (nI (t + 1))), s7, s8, s9, s10] ∧ st = [] ∧ zq_fm [0, 1] [57, 72, 73, 74, 75] h0 h ∧ t + 1 ≤ vg V ∧ MD b V h ∧ zKRm b h0 Q (zhW V) (nI (zhX V (vg V)).1)
theorem ok_mHappy (b : Nat) (V : zV) : zq_M yX12_happiest cX12_happiest 11 (some .int) 1 65 (sp_mHappy b V) := by
  refine mX12_happiest (ok_laysV b V) (by decide) (ok_mHeldV b V) (by decide) ok_gcd (by decide) ok_entersL (by decide) (by decide) (fun z => 100 - z.2) (I_mHappy b V) (fun args h Q hs => ?_) (fun Q z ls st h hi => ?_)
  · obtain ⟨rfl, hV, hX, k1, k2⟩ := hs
    have hg := hX.2.1.1
    have hn := hX.1.1
    have f0 : zq_fm [0] [] h (zq_setI h 56 0 0) := zq_fm_F zq_fm_rf (by decide)
    have hX1 := MC_fm hX f0 (by decide)
    refine ⟨Nat.le_of_ble_eq_true rfl, ?_⟩
    simp only [xX12_happiest_108, xX12_happiest_102, xX12_happiest_92, xX12_happiest_54, xX12_happiest_45, xX12_happiest_15, xX12_happiest_12, xX12_happiest_0, zi_push, zi_iload, zi_lload, zi_aload, zi_istore, zi_astore, zi_lstore, zi_iinc, zi_i2, zi_i1, zi_idv, zi_l2, zi_ldv, zi_lsh, zi_i2l, zi_l2i, zi_lcmp, zi_dup, zi_dup2, zi_pop, zi_if1, zi_if2, zi_getI, zi_getL, zi_getR, zi_putI, zi_putZ, zi_putL, zi_aldI, zi_aldL, zi_astI, zi_astZ, zi_astL, zi_alen, zi_iret, zi_zret, zi_lret, zi_vret, zi_callV, zi_callS, zi_sw, zi_copyI, zi_copyL, zi_m2, zi_m1, zi_sval, zi_scod, zi_fmt, zi_balen, zi_bald, zi_bret, zi_callT, zq_nth, zq_put1, zq_put2, zq_clr, zq_nl, zq_tk, zq_ps, zq_sw, zq_l0, zq_a, zq_a1, List.length_cons, List.length_nil, List.nil_append, List.cons_append, List.append_nil, List.replicate, Nat.reduceAdd, Nat.reduceSub, Nat.reduceLeDiff, true_and, and_true, List.append_eq, List.cons.injEq, Value.int.injEq, Value.long.injEq, Value.ref.injEq, exists_and_left, exists_eq_left', and_assoc, zc_b, zc_0, zc_1, zc_10, zc_01, lg_cmp_ge, lg_cmp_le, lg_cmp_gt, lg_cmp_lt, lg_cmp_eq, zw_le, zw_lt, reduceIte, true_or, or_true, zw_g0, zw_l0, zw_g1, zw_l1, zw_g2, zw_l2, zw_g3, zw_l3, zw_g5, zw_l5, zw_g6, zw_l6, zw_g7, zw_l7, zw_g9, zw_l9, zw_g10, zw_l10, zw_g15, zw_l15, zw_g16, zw_l16, zw_g48, zw_l48, zw_g50, zw_l50, zw_g57, zw_l57, zw_g97, zw_l97, zw_g100, zw_l100, zw_g200, zw_l200, zw_g999, zw_l999, zw_g9999, zw_l9999, hX1.2.1.2.1, nI_zP (show vg V < 2 ^ 31 by omega)]
    refine ⟨fun q => k1 q _ f0, fun q => ⟨rfl, hV, hX1, fun h1 d1 f1 => ?_⟩⟩
    simp only [zi_push, zi_iload, zi_lload, zi_aload, zi_istore, zi_astore, zi_lstore, zi_iinc, zi_i2, zi_i1, zi_idv, zi_l2, zi_ldv, zi_lsh, zi_i2l, zi_l2i, zi_lcmp, zi_dup, zi_dup2, zi_pop, zi_if1, zi_if2, zi_getI, zi_getL, zi_getR, zi_putI, zi_putZ, zi_putL, zi_aldI, zi_aldL, zi_astI, zi_astZ, zi_astL, zi_alen, zi_iret, zi_zret, zi_lret, zi_vret, zi_callV, zi_callS, zi_sw, zi_copyI, zi_copyL, zi_m2, zi_m1, zi_sval, zi_scod, zi_fmt, zi_balen, zi_bald, zi_bret, zi_callT, zq_nth, zq_put1, zq_put2, zq_clr, zq_nl, zq_tk, zq_ps, zq_sw, zq_l0, zq_a, zq_a1, List.length_cons, List.length_nil, List.nil_append, List.cons_append, List.append_nil, List.replicate, Nat.reduceAdd, Nat.reduceSub, Nat.reduceLeDiff, true_and, and_true, List.append_eq, List.cons.injEq, Value.int.injEq, Value.long.injEq, Value.ref.injEq, exists_and_left, exists_eq_left', and_assoc, zc_b, zc_0, zc_1, zc_10, zc_01, lg_cmp_ge, lg_cmp_le, lg_cmp_gt, lg_cmp_lt, lg_cmp_eq, zw_le, zw_lt, reduceIte, true_or, or_true, zw_g0, zw_l0, zw_g1, zw_l1, zw_g2, zw_l2, zw_g3, zw_l3, zw_g5, zw_l5, zw_g6, zw_l6, zw_g7, zw_l7, zw_g9, zw_l9, zw_g10, zw_l10, zw_g15, zw_l15, zw_g16, zw_l16, zw_g48, zw_l48, zw_g50, zw_l50, zw_g57, zw_l57, zw_g97, zw_l97, zw_g100, zw_l100, zw_g200, zw_l200, zw_g999, zw_l999, zw_g9999, zw_l9999]
    refine ⟨0, nI 0, rfl, by omega, d1, ?_⟩
    have l1 := vH_le V 0 (nI 0)
    have l2 := vS_le V 0 (vn V)
    have e75 : h1.1 75 (Int32.toNatClampNeg 0) = nI (vS V 0 (vn V)) := by
      show h1.1 75 0 = _
      rw [(d1.2.2 0 (by omega)).2, vS_eq]
    have em : zf_max 1 (nI (vS V 0 (vn V))) = nI (max 1 (vS V 0 (vn V))) := zmaxN (a := 1) (by decide) (by omega)
    simp only [e75, em, nI_l (show vH V 0 (nI 0) < 2 ^ 31 by omega), nI_l (show max 1 (vS V 0 (vn V)) < 2 ^ 31 by omega), zi_push, zi_iload, zi_lload, zi_aload, zi_istore, zi_astore, zi_lstore, zi_iinc, zi_i2, zi_i1, zi_idv, zi_l2, zi_ldv, zi_lsh, zi_i2l, zi_l2i, zi_lcmp, zi_dup, zi_dup2, zi_pop, zi_if1, zi_if2, zi_getI, zi_getL, zi_getR, zi_putI, zi_putZ, zi_putL, zi_aldI, zi_aldL, zi_astI, zi_astZ, zi_astL, zi_alen, zi_iret, zi_zret, zi_lret, zi_vret, zi_callV, zi_callS, zi_sw, zi_copyI, zi_copyL, zi_m2, zi_m1, zi_sval, zi_scod, zi_fmt, zi_balen, zi_bald, zi_bret, zi_callT, zq_nth, zq_put1, zq_put2, zq_clr, zq_nl, zq_tk, zq_ps, zq_sw, zq_l0, zq_a, zq_a1, List.length_cons, List.length_nil, List.nil_append, List.cons_append, List.append_nil, List.replicate, Nat.reduceAdd, Nat.reduceSub, Nat.reduceLeDiff, true_and, and_true, List.append_eq, List.cons.injEq, Value.int.injEq, Value.long.injEq, Value.ref.injEq, exists_and_left, exists_eq_left', and_assoc, zc_b, zc_0, zc_1, zc_10, zc_01, lg_cmp_ge, lg_cmp_le, lg_cmp_gt, lg_cmp_lt, lg_cmp_eq, zw_le, zw_lt, reduceIte, true_or, or_true, zw_g0, zw_l0, zw_g1, zw_l1, zw_g2, zw_l2, zw_g3, zw_l3, zw_g5, zw_l5, zw_g6, zw_l6, zw_g7, zw_l7, zw_g9, zw_l9, zw_g10, zw_l10, zw_g15, zw_l15, zw_g16, zw_l16, zw_g48, zw_l48, zw_g50, zw_l50, zw_g57, zw_l57, zw_g97, zw_l97, zw_g100, zw_l100, zw_g200, zw_l200, zw_g999, zw_l999, zw_g9999, zw_l9999]
    refine ⟨vp_in_nI (n := 0) (by decide) (by decide), (h, 0), none, none, none, none, rfl, rfl, zq_fm_t (zq_fm_w f0 (by decide)) f1 (by decide), by show 0 + 1 ≤ vg V; omega, d1, k2 (by omega)⟩
  · obtain ⟨h0, t⟩ := z
    obtain ⟨s7, s8, s9, s10, rfl, rfl, hf, ht, hX, k⟩ := hi
    have hg := hX.1.2.1.1
    have hn := hX.1.1.1
    obtain ⟨o1, o2, o3⟩ := zhM_ok V t
    simp only [xX12_happiest_45, xX12_happiest_54, xX12_happiest_108, hX.1.2.1.2.1, zl_ge ht (show vg V < 2 ^ 31 by omega), zi_push, zi_iload, zi_lload, zi_aload, zi_istore, zi_astore, zi_lstore, zi_iinc, zi_i2, zi_i1, zi_idv, zi_l2, zi_ldv, zi_lsh, zi_i2l, zi_l2i, zi_lcmp, zi_dup, zi_dup2, zi_pop, zi_if1, zi_if2, zi_getI, zi_getL, zi_getR, zi_putI, zi_putZ, zi_putL, zi_aldI, zi_aldL, zi_astI, zi_astZ, zi_astL, zi_alen, zi_iret, zi_zret, zi_lret, zi_vret, zi_callV, zi_callS, zi_sw, zi_copyI, zi_copyL, zi_m2, zi_m1, zi_sval, zi_scod, zi_fmt, zi_balen, zi_bald, zi_bret, zi_callT, zq_nth, zq_put1, zq_put2, zq_clr, zq_nl, zq_tk, zq_ps, zq_sw, zq_l0, zq_a, zq_a1, List.length_cons, List.length_nil, List.nil_append, List.cons_append, List.append_nil, List.replicate, Nat.reduceAdd, Nat.reduceSub, Nat.reduceLeDiff, true_and, and_true, List.append_eq, List.cons.injEq, Value.int.injEq, Value.long.injEq, Value.ref.injEq, exists_and_left, exists_eq_left', and_assoc, zc_b, zc_0, zc_1, zc_10, zc_01, lg_cmp_ge, lg_cmp_le, lg_cmp_gt, lg_cmp_lt, lg_cmp_eq, zw_le, zw_lt, reduceIte, true_or, or_true, zw_g0, zw_l0, zw_g1, zw_l1, zw_g2, zw_l2, zw_g3, zw_l3, zw_g5, zw_l5, zw_g6, zw_l6, zw_g7, zw_l7, zw_g9, zw_l9, zw_g10, zw_l10, zw_g15, zw_l15, zw_g16, zw_l16, zw_g48, zw_l48, zw_g50, zw_l50, zw_g57, zw_l57, zw_g97, zw_l97, zw_g100, zw_l100, zw_g200, zw_l200, zw_g999, zw_l999, zw_g9999, zw_l9999]
    refine ⟨fun q => ⟨_, _, rfl, ⟨by omega, by omega⟩, ?_⟩, fun q => ⟨t + 1, nI (t + 1), rfl, by omega, hX, ?_⟩⟩
    · have hp := Nat.gcd_pos_of_pos_right (zhM V t).2.1 (show 0 < (zhM V t).2.2 by omega)
      have hl := Nat.gcd_le_right (zhM V t).2.1 (show 0 < (zhM V t).2.2 by omega)
      have n0 : (lN (Nat.gcd (zhM V t).2.1 (zhM V t).2.2) = 0) = False := by rw [lN_zP (by omega)]; exact eq_false (by omega)
      have hq := zh_eq V t
      rw [q] at hq
      simp only [n0, not_false_eq_true, zi_push, zi_iload, zi_lload, zi_aload, zi_istore, zi_astore, zi_lstore, zi_iinc, zi_i2, zi_i1, zi_idv, zi_l2, zi_ldv, zi_lsh, zi_i2l, zi_l2i, zi_lcmp, zi_dup, zi_dup2, zi_pop, zi_if1, zi_if2, zi_getI, zi_getL, zi_getR, zi_putI, zi_putZ, zi_putL, zi_aldI, zi_aldL, zi_astI, zi_astZ, zi_astL, zi_alen, zi_iret, zi_zret, zi_lret, zi_vret, zi_callV, zi_callS, zi_sw, zi_copyI, zi_copyL, zi_m2, zi_m1, zi_sval, zi_scod, zi_fmt, zi_balen, zi_bald, zi_bret, zi_callT, zq_nth, zq_put1, zq_put2, zq_clr, zq_nl, zq_tk, zq_ps, zq_sw, zq_l0, zq_a, zq_a1, List.length_cons, List.length_nil, List.nil_append, List.cons_append, List.append_nil, List.replicate, Nat.reduceAdd, Nat.reduceSub, Nat.reduceLeDiff, true_and, and_true, List.append_eq, List.cons.injEq, Value.int.injEq, Value.long.injEq, Value.ref.injEq, exists_and_left, exists_eq_left', and_assoc, zc_b, zc_0, zc_1, zc_10, zc_01, lg_cmp_ge, lg_cmp_le, lg_cmp_gt, lg_cmp_lt, lg_cmp_eq, zw_le, zw_lt, reduceIte, true_or, or_true, zw_g0, zw_l0, zw_g1, zw_l1, zw_g2, zw_l2, zw_g3, zw_l3, zw_g5, zw_l5, zw_g6, zw_l6, zw_g7, zw_l7, zw_g9, zw_l9, zw_g10, zw_l10, zw_g15, zw_l15, zw_g16, zw_l16, zw_g48, zw_l48, zw_g50, zw_l50, zw_g57, zw_l57, zw_g97, zw_l97, zw_g100, zw_l100, zw_g200, zw_l200, zw_g999, zw_l999, zw_g9999, zw_l9999]
      rw [pk_lDiv (by omega) hp (by omega)]
      refine ⟨_, [], rfl, MR_nil h, by decide, fun h1 r1 f1 => ?_⟩
      simp only [n0, not_false_eq_true, zi_push, zi_iload, zi_lload, zi_aload, zi_istore, zi_astore, zi_lstore, zi_iinc, zi_i2, zi_i1, zi_idv, zi_l2, zi_ldv, zi_lsh, zi_i2l, zi_l2i, zi_lcmp, zi_dup, zi_dup2, zi_pop, zi_if1, zi_if2, zi_getI, zi_getL, zi_getR, zi_putI, zi_putZ, zi_putL, zi_aldI, zi_aldL, zi_astI, zi_astZ, zi_astL, zi_alen, zi_iret, zi_zret, zi_lret, zi_vret, zi_callV, zi_callS, zi_sw, zi_copyI, zi_copyL, zi_m2, zi_m1, zi_sval, zi_scod, zi_fmt, zi_balen, zi_bald, zi_bret, zi_callT, zq_nth, zq_put1, zq_put2, zq_clr, zq_nl, zq_tk, zq_ps, zq_sw, zq_l0, zq_a, zq_a1, List.length_cons, List.length_nil, List.nil_append, List.cons_append, List.append_nil, List.replicate, Nat.reduceAdd, Nat.reduceSub, Nat.reduceLeDiff, true_and, and_true, List.append_eq, List.cons.injEq, Value.int.injEq, Value.long.injEq, Value.ref.injEq, exists_and_left, exists_eq_left', and_assoc, zc_b, zc_0, zc_1, zc_10, zc_01, lg_cmp_ge, lg_cmp_le, lg_cmp_gt, lg_cmp_lt, lg_cmp_eq, zw_le, zw_lt, reduceIte, true_or, or_true, zw_g0, zw_l0, zw_g1, zw_l1, zw_g2, zw_l2, zw_g3, zw_l3, zw_g5, zw_l5, zw_g6, zw_l6, zw_g7, zw_l7, zw_g9, zw_l9, zw_g10, zw_l10, zw_g15, zw_l15, zw_g16, zw_l16, zw_g48, zw_l48, zw_g50, zw_l50, zw_g57, zw_l57, zw_g97, zw_l97, zw_g100, zw_l100, zw_g200, zw_l200, zw_g999, zw_l999, zw_g9999, zw_l9999]
      rw [pk_lDiv (by omega) hp (by omega)]
      refine ⟨_, _, rfl, r1, Nat.le_of_ble_eq_true rfl, fun h2 r2 f2 => ?_⟩
      simp only [zi_push, zi_iload, zi_lload, zi_aload, zi_istore, zi_astore, zi_lstore, zi_iinc, zi_i2, zi_i1, zi_idv, zi_l2, zi_ldv, zi_lsh, zi_i2l, zi_l2i, zi_lcmp, zi_dup, zi_dup2, zi_pop, zi_if1, zi_if2, zi_getI, zi_getL, zi_getR, zi_putI, zi_putZ, zi_putL, zi_aldI, zi_aldL, zi_astI, zi_astZ, zi_astL, zi_alen, zi_iret, zi_zret, zi_lret, zi_vret, zi_callV, zi_callS, zi_sw, zi_copyI, zi_copyL, zi_m2, zi_m1, zi_sval, zi_scod, zi_fmt, zi_balen, zi_bald, zi_bret, zi_callT, zq_nth, zq_put1, zq_put2, zq_clr, zq_nl, zq_tk, zq_ps, zq_sw, zq_l0, zq_a, zq_a1, List.length_cons, List.length_nil, List.nil_append, List.cons_append, List.append_nil, List.replicate, Nat.reduceAdd, Nat.reduceSub, Nat.reduceLeDiff, true_and, and_true, List.append_eq, List.cons.injEq, Value.int.injEq, Value.long.injEq, Value.ref.injEq, exists_and_left, exists_eq_left', and_assoc, zc_b, zc_0, zc_1, zc_10, zc_01, lg_cmp_ge, lg_cmp_le, lg_cmp_gt, lg_cmp_lt, lg_cmp_eq, zw_le, zw_lt, reduceIte, true_or, or_true, zw_g0, zw_l0, zw_g1, zw_l1, zw_g2, zw_l2, zw_g3, zw_l3, zw_g5, zw_l5, zw_g6, zw_l6, zw_g7, zw_l7, zw_g9, zw_l9, zw_g10, zw_l10, zw_g15, zw_l15, zw_g16, zw_l16, zw_g48, zw_l48, zw_g50, zw_l50, zw_g57, zw_l57, zw_g97, zw_l97, zw_g100, zw_l100, zw_g200, zw_l200, zw_g999, zw_l999, zw_g9999, zw_l9999]
      rw [← hq.1]
      refine k h2 ?_ (zq_fm_t (zq_fm_t (zq_fm_F hf (by decide)) f1 (by decide)) f2 (by decide))
      unfold zhW
      rw [hq.2]
      exact r2
    · have l1 := vH_le V (t + 1) (nI (t + 1))
      have l2 := vS_le V (t + 1) (vn V)
      have b1 : vH V (t + 1) (nI (t + 1)) * (zhM V t).2.2 ≤ 15984 * 15985 := Nat.mul_le_mul (by omega) (by omega)
      have b2 : (zhM V t).2.1 * max 1 (vS V (t + 1) (vn V)) ≤ 15984 * 15985 := Nat.mul_le_mul (by omega) (by omega)
      have es := zhM_s V t
      have e75 : h.1 75 (t + 1) = nI (vS V (t + 1) (vn V)) := by rw [(hX.2.2 (t + 1) (by omega)).2, vS_eq]
      have em : zf_max 1 (nI (vS V (t + 1) (vn V))) = nI (max 1 (vS V (t + 1) (vn V))) := zmaxN (a := 1) (by decide) (by omega)
      simp only [xX12_happiest_92, xX12_happiest_102, nI_clamp (show t + 1 < 2 ^ 31 by omega), e75, em, nI_l (show vH V (t + 1) (nI (t + 1)) < 2 ^ 31 by omega), nI_l (show max 1 (vS V (t + 1) (vn V)) < 2 ^ 31 by omega), lN_mul, lN_leP (show vH V (t + 1) (nI (t + 1)) * (zhM V t).2.2 < 2 ^ 63 by omega) (show (zhM V t).2.1 * max 1 (vS V (t + 1) (vn V)) < 2 ^ 63 by omega), zi_push, zi_iload, zi_lload, zi_aload, zi_istore, zi_astore, zi_lstore, zi_iinc, zi_i2, zi_i1, zi_idv, zi_l2, zi_ldv, zi_lsh, zi_i2l, zi_l2i, zi_lcmp, zi_dup, zi_dup2, zi_pop, zi_if1, zi_if2, zi_getI, zi_getL, zi_getR, zi_putI, zi_putZ, zi_putL, zi_aldI, zi_aldL, zi_astI, zi_astZ, zi_astL, zi_alen, zi_iret, zi_zret, zi_lret, zi_vret, zi_callV, zi_callS, zi_sw, zi_copyI, zi_copyL, zi_m2, zi_m1, zi_sval, zi_scod, zi_fmt, zi_balen, zi_bald, zi_bret, zi_callT, zq_nth, zq_put1, zq_put2, zq_clr, zq_nl, zq_tk, zq_ps, zq_sw, zq_l0, zq_a, zq_a1, List.length_cons, List.length_nil, List.nil_append, List.cons_append, List.append_nil, List.replicate, Nat.reduceAdd, Nat.reduceSub, Nat.reduceLeDiff, true_and, and_true, List.append_eq, List.cons.injEq, Value.int.injEq, Value.long.injEq, Value.ref.injEq, exists_and_left, exists_eq_left', and_assoc, zc_b, zc_0, zc_1, zc_10, zc_01, lg_cmp_ge, lg_cmp_le, lg_cmp_gt, lg_cmp_lt, lg_cmp_eq, zw_le, zw_lt, reduceIte, true_or, or_true, zw_g0, zw_l0, zw_g1, zw_l1, zw_g2, zw_l2, zw_g3, zw_l3, zw_g5, zw_l5, zw_g6, zw_l6, zw_g7, zw_l7, zw_g9, zw_l9, zw_g10, zw_l10, zw_g15, zw_l15, zw_g16, zw_l16, zw_g48, zw_l48, zw_g50, zw_l50, zw_g57, zw_l57, zw_g97, zw_l97, zw_g100, zw_l100, zw_g200, zw_l200, zw_g999, zw_l999, zw_g9999, zw_l9999]
      refine ⟨vp_in_nI (by omega) (by decide), fun q2 => ?_, fun q2 => ?_⟩
      · rw [if_neg (by omega)] at es
        exact ⟨(h0, t + 1), by dsimp only; omega, _, _, _, _, by rw [es, nI_1], rfl, hf, by omega, hX, k⟩
      · rw [if_pos (by omega)] at es
        exact ⟨(h0, t + 1), by dsimp only; omega, _, _, _, _, by rw [es, nI_1], rfl, hf, by omega, hX, k⟩
/-! ===== settle ===== -/
def zst2 : Nat → Nat → Nat → Nat → Nat × Nat × Nat
  | 0, lo, hi, m => (lo, hi, m)
  | F + 1, lo, hi, m => if hi - lo ≤ 1 then (lo, hi, m) else zst2 F (lo + ((hi - lo) / 3 + 1)) (hi - ((hi - (lo + ((hi - lo) / 3 + 1))) / 3 + 1)) (m + 1)
theorem zst2_end {F lo hi m : Nat} (h : hi - lo ≤ 1) : zst2 F lo hi m = (lo, hi, m) := by
  cases F with
  | zero => rfl
  | succ F => rw [zst2, if_pos h]
theorem zdiv3 {d : Nat} (h : d < 2 ^ 31) : nI d / 3 = nI (d / 3) := pk_div (d := 3) h (by decide) (by decide)
def zseR (p q : Nat) : Nat × Nat × Nat := zst2 999 (min p q) (max p q) 0
def zseW (p q : Nat) : List Int64 := [lN (if p ≤ q then (zseR p q).2.1 else (zseR p q).1), lN (zseR p q).2.2]
def zseA (p q : Nat) : Int32 := nI (if p ≤ q then (zseR p q).1 else (zseR p q).2.1)
def zsq (a c : Int32) : Prop := (0 ≤ a ∧ a ≤ 999) ∧ 0 ≤ c ∧ c ≤ 999
theorem z999n {a : Int32} (h : 0 ≤ a ∧ a ≤ 999) : ∃ v, v ≤ 999 ∧ a = nI v := nI_of2 (M := 999) (by decide) (Int32.not_lt.mpr h.1) h.2
/-- two places, so many moves, as far as the end is theirs -/
def zsi (p q lo hi m : Nat) : Prop := lo ≤ hi ∧ hi ≤ 999 ∧ hi - lo + m ≤ 999 ∧ ∃ F, hi - lo ≤ F ∧ zst2 F lo hi m = zseR p q
theorem zsi_0 {p q : Nat} (hp : p ≤ 999) (hq : q ≤ 999) : zsi p q (min p q) (max p q) 0 := ⟨by omega, by omega, by omega, 999, by omega, rfl⟩
theorem zsi_e {p q lo hi m : Nat} (k : zsi p q lo hi m) (h : hi - lo ≤ 1) : zseR p q = (lo, hi, m) := by
  obtain ⟨-, -, -, F, -, e⟩ := k
  rw [← e, zst2_end h]
theorem zsi_s {p q lo hi m : Nat} (k : zsi p q lo hi m) (h : ¬ hi - lo ≤ 1) : zsi p q (lo + ((hi - lo) / 3 + 1)) (hi - ((hi - (lo + ((hi - lo) / 3 + 1))) / 3 + 1)) (m + 1) := by
  obtain ⟨k1, k2, k3, F, k4, e⟩ := k
  cases F with
  | zero => omega
  | succ F =>
    rw [zst2, if_neg h] at e
    exact ⟨by omega, by omega, by omega, F, by omega, e⟩
def sp_xSettle : zq_Sp := fun args h Q => ∃ a c, args = [.ref 0, .int a, .int c] ∧ (¬ zsq a c → Q (some (.int (-1))) h) ∧ ∀ p q, p ≤ 999 → q ≤ 999 → a = nI p → c = nI q → zKR h Q (zseW p q) (zseA p q)
def I_xSettle (Q : zq_Q) (z : zq_H × Nat × Nat × Nat × Nat × Nat) : zq_P := fun ls st h => match z with
  | (h0, p, q, lo, hi, m) => ∃ s7, ls = [some (.ref 0), some (.int (nI p)), some (.int (nI q)), some (.int (nI lo)), some (.int (nI hi)), some (.int (if p ≤ q then 1 else 0)), some (.int (nI m)), s7] ∧ st = [] ∧ h = h0 ∧ zsi p q lo hi m ∧ zKR h0 Q (zseW p q) (zseA p q)
theorem st_132 {Q : zq_Q} {J : zq_P} {h : zq_H} {p q lo hi m : Nat} {s7 : Option Value} (hl : lo < 2 ^ 31 ∧ hi < 2 ^ 31 ∧ m < 2 ^ 31) (e : zseR p q = (lo, hi, m)) (k : zKR h Q (zseW p q) (zseA p q)) : xX11_settle_132 sp_rowClearL sp_rowAddL J Q [some (.ref 0), some (.int (nI p)), some (.int (nI q)), some (.int (nI lo)), some (.int (nI hi)), some (.int (if p ≤ q then 1 else 0)), some (.int (nI m)), s7] [] h := by
  unfold zseW zseA at k
  rw [e] at k
  simp only [xX11_settle_132, zi_push, zi_iload, zi_lload, zi_aload, zi_istore, zi_astore, zi_lstore, zi_iinc, zi_i2, zi_i1, zi_idv, zi_l2, zi_ldv, zi_lsh, zi_i2l, zi_l2i, zi_lcmp, zi_dup, zi_dup2, zi_pop, zi_if1, zi_if2, zi_getI, zi_getL, zi_getR, zi_putI, zi_putZ, zi_putL, zi_aldI, zi_aldL, zi_astI, zi_astZ, zi_astL, zi_alen, zi_iret, zi_zret, zi_lret, zi_vret, zi_callV, zi_callS, zi_sw, zi_copyI, zi_copyL, zi_m2, zi_m1, zi_sval, zi_scod, zi_fmt, zi_balen, zi_bald, zi_bret, zi_callT, zq_nth, zq_put1, zq_put2, zq_clr, zq_nl, zq_tk, zq_ps, zq_sw, zq_l0, zq_a, zq_a1, List.length_cons, List.length_nil, List.nil_append, List.cons_append, List.append_nil, List.replicate, Nat.reduceAdd, Nat.reduceSub, Nat.reduceLeDiff, true_and, and_true, List.append_eq, List.cons.injEq, Value.int.injEq, Value.long.injEq, Value.ref.injEq, exists_and_left, exists_eq_left', and_assoc, zc_b, zc_0, zc_1, zc_10, zc_01, lg_cmp_ge, lg_cmp_le, lg_cmp_gt, lg_cmp_lt, lg_cmp_eq, zw_le, zw_lt, reduceIte, true_or, or_true, zw_g0, zw_l0, zw_g1, zw_l1, zw_g2, zw_l2, zw_g3, zw_l3, zw_g5, zw_l5, zw_g6, zw_l6, zw_g7, zw_l7, zw_g9, zw_l9, zw_g10, zw_l10, zw_g15, zw_l15, zw_g16, zw_l16, zw_g48, zw_l48, zw_g50, zw_l50, zw_g57, zw_l57, zw_g97, zw_l97, zw_g100, zw_l100, zw_g200, zw_l200, zw_g999, zw_l999, zw_g9999, zw_l9999]
  refine ⟨rfl, fun h1 r1 f1 => ?_⟩
  by_cases c : p ≤ q
  · rw [if_pos c, if_pos c] at k
    simp only [c, zc_10, xX11_settle_148, xX11_settle_156, not_true_eq_false, not_false_eq_true, forall_const, true_and, and_true, false_and, and_false, if_true, if_false, reduceIte, implies_true, and_self, ite_self, true_or, or_true, false_or, or_false, true_implies, false_implies, Classical.not_not, false_imp_iff, not_false_iff, zi_push, zi_iload, zi_lload, zi_aload, zi_istore, zi_astore, zi_lstore, zi_iinc, zi_i2, zi_i1, zi_idv, zi_l2, zi_ldv, zi_lsh, zi_i2l, zi_l2i, zi_lcmp, zi_dup, zi_dup2, zi_pop, zi_if1, zi_if2, zi_getI, zi_getL, zi_getR, zi_putI, zi_putZ, zi_putL, zi_aldI, zi_aldL, zi_astI, zi_astZ, zi_astL, zi_alen, zi_iret, zi_zret, zi_lret, zi_vret, zi_callV, zi_callS, zi_sw, zi_copyI, zi_copyL, zi_m2, zi_m1, zi_sval, zi_scod, zi_fmt, zi_balen, zi_bald, zi_bret, zi_callT, zq_nth, zq_put1, zq_put2, zq_clr, zq_nl, zq_tk, zq_ps, zq_sw, zq_l0, zq_a, zq_a1, List.length_cons, List.length_nil, List.nil_append, List.cons_append, List.append_nil, List.replicate, Nat.reduceAdd, Nat.reduceSub, Nat.reduceLeDiff, true_and, and_true, List.append_eq, List.cons.injEq, Value.int.injEq, Value.long.injEq, Value.ref.injEq, exists_and_left, exists_eq_left', and_assoc, zc_b, zc_0, zc_1, zc_10, zc_01, lg_cmp_ge, lg_cmp_le, lg_cmp_gt, lg_cmp_lt, lg_cmp_eq, zw_le, zw_lt, reduceIte, true_or, or_true, zw_g0, zw_l0, zw_g1, zw_l1, zw_g2, zw_l2, zw_g3, zw_l3, zw_g5, zw_l5, zw_g6, zw_l6, zw_g7, zw_l7, zw_g9, zw_l9, zw_g10, zw_l10, zw_g15, zw_l15, zw_g16, zw_l16, zw_g48, zw_l48, zw_g50, zw_l50, zw_g57, zw_l57, zw_g97, zw_l97, zw_g100, zw_l100, zw_g200, zw_l200, zw_g999, zw_l999, zw_g9999, zw_l9999]
    refine ⟨_, [], rfl, r1, Nat.le_of_ble_eq_true rfl, fun h2 r2 f2 => ?_⟩
    simp only [zi_push, zi_iload, zi_lload, zi_aload, zi_istore, zi_astore, zi_lstore, zi_iinc, zi_i2, zi_i1, zi_idv, zi_l2, zi_ldv, zi_lsh, zi_i2l, zi_l2i, zi_lcmp, zi_dup, zi_dup2, zi_pop, zi_if1, zi_if2, zi_getI, zi_getL, zi_getR, zi_putI, zi_putZ, zi_putL, zi_aldI, zi_aldL, zi_astI, zi_astZ, zi_astL, zi_alen, zi_iret, zi_zret, zi_lret, zi_vret, zi_callV, zi_callS, zi_sw, zi_copyI, zi_copyL, zi_m2, zi_m1, zi_sval, zi_scod, zi_fmt, zi_balen, zi_bald, zi_bret, zi_callT, zq_nth, zq_put1, zq_put2, zq_clr, zq_nl, zq_tk, zq_ps, zq_sw, zq_l0, zq_a, zq_a1, List.length_cons, List.length_nil, List.nil_append, List.cons_append, List.append_nil, List.replicate, Nat.reduceAdd, Nat.reduceSub, Nat.reduceLeDiff, true_and, and_true, List.append_eq, List.cons.injEq, Value.int.injEq, Value.long.injEq, Value.ref.injEq, exists_and_left, exists_eq_left', and_assoc, zc_b, zc_0, zc_1, zc_10, zc_01, lg_cmp_ge, lg_cmp_le, lg_cmp_gt, lg_cmp_lt, lg_cmp_eq, zw_le, zw_lt, reduceIte, true_or, or_true, zw_g0, zw_l0, zw_g1, zw_l1, zw_g2, zw_l2, zw_g3, zw_l3, zw_g5, zw_l5, zw_g6, zw_l6, zw_g7, zw_l7, zw_g9, zw_l9, zw_g10, zw_l10, zw_g15, zw_l15, zw_g16, zw_l16, zw_g48, zw_l48, zw_g50, zw_l50, zw_g57, zw_l57, zw_g97, zw_l97, zw_g100, zw_l100, zw_g200, zw_l200, zw_g999, zw_l999, zw_g9999, zw_l9999]
    refine ⟨_, _, rfl, r2, Nat.le_of_ble_eq_true rfl, fun h3 r3 f3 => ?_⟩
    simp only [zc_10, xX11_settle_174, xX11_settle_178, xX11_settle_180, not_true_eq_false, not_false_eq_true, forall_const, true_and, and_true, false_and, and_false, if_true, if_false, reduceIte, implies_true, and_self, ite_self, true_or, or_true, false_or, or_false, true_implies, false_implies, Classical.not_not, false_imp_iff, not_false_iff, zi_push, zi_iload, zi_lload, zi_aload, zi_istore, zi_astore, zi_lstore, zi_iinc, zi_i2, zi_i1, zi_idv, zi_l2, zi_ldv, zi_lsh, zi_i2l, zi_l2i, zi_lcmp, zi_dup, zi_dup2, zi_pop, zi_if1, zi_if2, zi_getI, zi_getL, zi_getR, zi_putI, zi_putZ, zi_putL, zi_aldI, zi_aldL, zi_astI, zi_astZ, zi_astL, zi_alen, zi_iret, zi_zret, zi_lret, zi_vret, zi_callV, zi_callS, zi_sw, zi_copyI, zi_copyL, zi_m2, zi_m1, zi_sval, zi_scod, zi_fmt, zi_balen, zi_bald, zi_bret, zi_callT, zq_nth, zq_put1, zq_put2, zq_clr, zq_nl, zq_tk, zq_ps, zq_sw, zq_l0, zq_a, zq_a1, List.length_cons, List.length_nil, List.nil_append, List.cons_append, List.append_nil, List.replicate, Nat.reduceAdd, Nat.reduceSub, Nat.reduceLeDiff, true_and, and_true, List.append_eq, List.cons.injEq, Value.int.injEq, Value.long.injEq, Value.ref.injEq, exists_and_left, exists_eq_left', and_assoc, zc_b, zc_0, zc_1, zc_10, zc_01, lg_cmp_ge, lg_cmp_le, lg_cmp_gt, lg_cmp_lt, lg_cmp_eq, zw_le, zw_lt, reduceIte, true_or, or_true, zw_g0, zw_l0, zw_g1, zw_l1, zw_g2, zw_l2, zw_g3, zw_l3, zw_g5, zw_l5, zw_g6, zw_l6, zw_g7, zw_l7, zw_g9, zw_l9, zw_g10, zw_l10, zw_g15, zw_l15, zw_g16, zw_l16, zw_g48, zw_l48, zw_g50, zw_l50, zw_g57, zw_l57, zw_g97, zw_l97, zw_g100, zw_l100, zw_g200, zw_l200, zw_g999, zw_l999, zw_g9999, zw_l9999]
    rw [nI_l hl.2.1, nI_l hl.2.2] at r3
    exact k h3 r3 (zq_fr_t (zq_fr_t (zq_fr_w f1 (by decide)) f2 (by decide)) f3 (by decide))
  · rw [if_neg c, if_neg c] at k
    simp only [c, zc_10, xX11_settle_154, xX11_settle_156, not_true_eq_false, not_false_eq_true, forall_const, true_and, and_true, false_and, and_false, if_true, if_false, reduceIte, implies_true, and_self, ite_self, true_or, or_true, false_or, or_false, true_implies, false_implies, Classical.not_not, false_imp_iff, not_false_iff, zi_push, zi_iload, zi_lload, zi_aload, zi_istore, zi_astore, zi_lstore, zi_iinc, zi_i2, zi_i1, zi_idv, zi_l2, zi_ldv, zi_lsh, zi_i2l, zi_l2i, zi_lcmp, zi_dup, zi_dup2, zi_pop, zi_if1, zi_if2, zi_getI, zi_getL, zi_getR, zi_putI, zi_putZ, zi_putL, zi_aldI, zi_aldL, zi_astI, zi_astZ, zi_astL, zi_alen, zi_iret, zi_zret, zi_lret, zi_vret, zi_callV, zi_callS, zi_sw, zi_copyI, zi_copyL, zi_m2, zi_m1, zi_sval, zi_scod, zi_fmt, zi_balen, zi_bald, zi_bret, zi_callT, zq_nth, zq_put1, zq_put2, zq_clr, zq_nl, zq_tk, zq_ps, zq_sw, zq_l0, zq_a, zq_a1, List.length_cons, List.length_nil, List.nil_append, List.cons_append, List.append_nil, List.replicate, Nat.reduceAdd, Nat.reduceSub, Nat.reduceLeDiff, true_and, and_true, List.append_eq, List.cons.injEq, Value.int.injEq, Value.long.injEq, Value.ref.injEq, exists_and_left, exists_eq_left', and_assoc, zc_b, zc_0, zc_1, zc_10, zc_01, lg_cmp_ge, lg_cmp_le, lg_cmp_gt, lg_cmp_lt, lg_cmp_eq, zw_le, zw_lt, reduceIte, true_or, or_true, zw_g0, zw_l0, zw_g1, zw_l1, zw_g2, zw_l2, zw_g3, zw_l3, zw_g5, zw_l5, zw_g6, zw_l6, zw_g7, zw_l7, zw_g9, zw_l9, zw_g10, zw_l10, zw_g15, zw_l15, zw_g16, zw_l16, zw_g48, zw_l48, zw_g50, zw_l50, zw_g57, zw_l57, zw_g97, zw_l97, zw_g100, zw_l100, zw_g200, zw_l200, zw_g999, zw_l999, zw_g9999, zw_l9999]
    refine ⟨_, [], rfl, r1, Nat.le_of_ble_eq_true rfl, fun h2 r2 f2 => ?_⟩
    simp only [zi_push, zi_iload, zi_lload, zi_aload, zi_istore, zi_astore, zi_lstore, zi_iinc, zi_i2, zi_i1, zi_idv, zi_l2, zi_ldv, zi_lsh, zi_i2l, zi_l2i, zi_lcmp, zi_dup, zi_dup2, zi_pop, zi_if1, zi_if2, zi_getI, zi_getL, zi_getR, zi_putI, zi_putZ, zi_putL, zi_aldI, zi_aldL, zi_astI, zi_astZ, zi_astL, zi_alen, zi_iret, zi_zret, zi_lret, zi_vret, zi_callV, zi_callS, zi_sw, zi_copyI, zi_copyL, zi_m2, zi_m1, zi_sval, zi_scod, zi_fmt, zi_balen, zi_bald, zi_bret, zi_callT, zq_nth, zq_put1, zq_put2, zq_clr, zq_nl, zq_tk, zq_ps, zq_sw, zq_l0, zq_a, zq_a1, List.length_cons, List.length_nil, List.nil_append, List.cons_append, List.append_nil, List.replicate, Nat.reduceAdd, Nat.reduceSub, Nat.reduceLeDiff, true_and, and_true, List.append_eq, List.cons.injEq, Value.int.injEq, Value.long.injEq, Value.ref.injEq, exists_and_left, exists_eq_left', and_assoc, zc_b, zc_0, zc_1, zc_10, zc_01, lg_cmp_ge, lg_cmp_le, lg_cmp_gt, lg_cmp_lt, lg_cmp_eq, zw_le, zw_lt, reduceIte, true_or, or_true, zw_g0, zw_l0, zw_g1, zw_l1, zw_g2, zw_l2, zw_g3, zw_l3, zw_g5, zw_l5, zw_g6, zw_l6, zw_g7, zw_l7, zw_g9, zw_l9, zw_g10, zw_l10, zw_g15, zw_l15, zw_g16, zw_l16, zw_g48, zw_l48, zw_g50, zw_l50, zw_g57, zw_l57, zw_g97, zw_l97, zw_g100, zw_l100, zw_g200, zw_l200, zw_g999, zw_l999, zw_g9999, zw_l9999]
    refine ⟨_, _, rfl, r2, Nat.le_of_ble_eq_true rfl, fun h3 r3 f3 => ?_⟩
    simp only [zc_10, xX11_settle_174, xX11_settle_178, xX11_settle_180, not_true_eq_false, not_false_eq_true, forall_const, true_and, and_true, false_and, and_false, if_true, if_false, reduceIte, implies_true, and_self, ite_self, true_or, or_true, false_or, or_false, true_implies, false_implies, Classical.not_not, false_imp_iff, not_false_iff, zi_push, zi_iload, zi_lload, zi_aload, zi_istore, zi_astore, zi_lstore, zi_iinc, zi_i2, zi_i1, zi_idv, zi_l2, zi_ldv, zi_lsh, zi_i2l, zi_l2i, zi_lcmp, zi_dup, zi_dup2, zi_pop, zi_if1, zi_if2, zi_getI, zi_getL, zi_getR, zi_putI, zi_putZ, zi_putL, zi_aldI, zi_aldL, zi_astI, zi_astZ, zi_astL, zi_alen, zi_iret, zi_zret, zi_lret, zi_vret, zi_callV, zi_callS, zi_sw, zi_copyI, zi_copyL, zi_m2, zi_m1, zi_sval, zi_scod, zi_fmt, zi_balen, zi_bald, zi_bret, zi_callT, zq_nth, zq_put1, zq_put2, zq_clr, zq_nl, zq_tk, zq_ps, zq_sw, zq_l0, zq_a, zq_a1, List.length_cons, List.length_nil, List.nil_append, List.cons_append, List.append_nil, List.replicate, Nat.reduceAdd, Nat.reduceSub, Nat.reduceLeDiff, true_and, and_true, List.append_eq, List.cons.injEq, Value.int.injEq, Value.long.injEq, Value.ref.injEq, exists_and_left, exists_eq_left', and_assoc, zc_b, zc_0, zc_1, zc_10, zc_01, lg_cmp_ge, lg_cmp_le, lg_cmp_gt, lg_cmp_lt, lg_cmp_eq, zw_le, zw_lt, reduceIte, true_or, or_true, zw_g0, zw_l0, zw_g1, zw_l1, zw_g2, zw_l2, zw_g3, zw_l3, zw_g5, zw_l5, zw_g6, zw_l6, zw_g7, zw_l7, zw_g9, zw_l9, zw_g10, zw_l10, zw_g15, zw_l15, zw_g16, zw_l16, zw_g48, zw_l48, zw_g50, zw_l50, zw_g57, zw_l57, zw_g97, zw_l97, zw_g100, zw_l100, zw_g200, zw_l200, zw_g999, zw_l999, zw_g9999, zw_l9999]
    rw [nI_l hl.1, nI_l hl.2.2] at r3
    exact k h3 r3 (zq_fr_t (zq_fr_t (zq_fr_w f1 (by decide)) f2 (by decide)) f3 (by decide))
theorem zad_le {a b : Nat} (h : a ≤ b) : zad b a = b - a := by unfold zad; omega
theorem zad_ge {a b : Nat} (h : a ≤ b) : zad a b = b - a := by unfold zad; omega
theorem ok_xSettle : zq_M yX11_settle cX11_settle 8 (some .int) 1 1 sp_xSettle := by
  refine mX11_settle ok_rowClearL (by decide) ok_rowAddL (by decide) (by decide) (fun z => z.2.2.2.2.1 - z.2.2.2.1) I_xSettle (fun args h Q hs => ?_) (fun Q z ls st h hi => ?_)
  · obtain ⟨a, c, rfl, k1, k2⟩ := hs
    refine ⟨Nat.le_of_ble_eq_true rfl, ?_⟩
    simp only [xX11_settle_180, xX11_settle_178, xX11_settle_174, xX11_settle_156, xX11_settle_154, xX11_settle_148, xX11_settle_132, xX11_settle_99, xX11_settle_97, xX11_settle_96, xX11_settle_92, xX11_settle_77, xX11_settle_71, xX11_settle_60, xX11_settle_52, xX11_settle_47, xX11_settle_46, xX11_settle_42, xX11_settle_24, xX11_settle_22, xX11_settle_15, xX11_settle_11, xX11_settle_4, xX11_settle_0, zi_push, zi_iload, zi_lload, zi_aload, zi_istore, zi_astore, zi_lstore, zi_iinc, zi_i2, zi_i1, zi_idv, zi_l2, zi_ldv, zi_lsh, zi_i2l, zi_l2i, zi_lcmp, zi_dup, zi_dup2, zi_pop, zi_if1, zi_if2, zi_getI, zi_getL, zi_getR, zi_putI, zi_putZ, zi_putL, zi_aldI, zi_aldL, zi_astI, zi_astZ, zi_astL, zi_alen, zi_iret, zi_zret, zi_lret, zi_vret, zi_callV, zi_callS, zi_sw, zi_copyI, zi_copyL, zi_m2, zi_m1, zi_sval, zi_scod, zi_fmt, zi_balen, zi_bald, zi_bret, zi_callT, zq_nth, zq_put1, zq_put2, zq_clr, zq_nl, zq_tk, zq_ps, zq_sw, zq_l0, zq_a, zq_a1, List.length_cons, List.length_nil, List.nil_append, List.cons_append, List.append_nil, List.replicate, Nat.reduceAdd, Nat.reduceSub, Nat.reduceLeDiff, true_and, and_true, List.append_eq, List.cons.injEq, Value.int.injEq, Value.long.injEq, Value.ref.injEq, exists_and_left, exists_eq_left', and_assoc, zc_b, zc_0, zc_1, zc_10, zc_01, lg_cmp_ge, lg_cmp_le, lg_cmp_gt, lg_cmp_lt, lg_cmp_eq, zw_le, zw_lt, reduceIte, true_or, or_true, zw_g0, zw_l0, zw_g1, zw_l1, zw_g2, zw_l2, zw_g3, zw_l3, zw_g5, zw_l5, zw_g6, zw_l6, zw_g7, zw_l7, zw_g9, zw_l9, zw_g10, zw_l10, zw_g15, zw_l15, zw_g16, zw_l16, zw_g48, zw_l48, zw_g50, zw_l50, zw_g57, zw_l57, zw_g97, zw_l97, zw_g100, zw_l100, zw_g200, zw_l200, zw_g999, zw_l999, zw_g9999, zw_l9999]
    refine ⟨fun q => k1 (fun z => absurd q (Int32.not_lt.mpr z.1.1)), fun q => ⟨fun q2 => k1 (fun z => absurd q2 (Int32.not_lt.mpr z.1.2)), fun q2 => ⟨fun q3 => k1 (fun z => absurd q3 (Int32.not_lt.mpr z.2.1)), fun q3 => ⟨fun q4 => ?_, fun q4 => k1 (fun z => q4 z.2.2)⟩⟩⟩⟩
    obtain ⟨p, hp, rfl⟩ := z999n ⟨Int32.not_lt.mp q, Int32.not_lt.mp q2⟩
    obtain ⟨q', hq, rfl⟩ := z999n ⟨Int32.not_lt.mp q3, q4⟩
    have k3 := k2 p q' hp hq rfl rfl
    rw [zminN (by omega) (by omega), zmaxN (by omega) (by omega), nI_ltP (by omega) (by omega)]
    refine ⟨fun c => ⟨(h, p, q', min p q', max p q', 0), none, ?_, rfl, rfl, zsi_0 hp hq, k3⟩, fun c => ⟨(h, p, q', min p q', max p q', 0), none, ?_, rfl, rfl, zsi_0 hp hq, k3⟩⟩
    · rw [if_neg (by omega)]
      rfl
    · rw [if_pos (by omega)]
      rfl
  · obtain ⟨h0, p, q, lo, hi, m⟩ := z
    obtain ⟨s7, rfl, rfl, rfl, hz, k⟩ := hi
    have hz9 := hz
    obtain ⟨z1, z2, z3, -⟩ := hz9
    have em : (999 < nI m) = False := eq_false (nI_nlt (a := 999) (by omega) (by decide))
    have e1 : (nI (hi - lo) ≤ 1) = (hi - lo ≤ 1) := nI_leP (b := 1) (by omega) (by decide)
    have el : (nI lo ≤ nI hi) = True := eq_true (nI_le z1 (by omega))
    simp only [xX11_settle_52, xX11_settle_60, xX11_settle_71, em, zabs (show hi < 2 ^ 30 by omega) (show lo < 2 ^ 30 by omega), zad_le z1, e1, el, not_true_eq_false, not_false_eq_true, forall_const, true_and, and_true, false_and, and_false, if_true, if_false, reduceIte, implies_true, and_self, ite_self, true_or, or_true, false_or, or_false, true_implies, false_implies, Classical.not_not, false_imp_iff, not_false_iff, zi_push, zi_iload, zi_lload, zi_aload, zi_istore, zi_astore, zi_lstore, zi_iinc, zi_i2, zi_i1, zi_idv, zi_l2, zi_ldv, zi_lsh, zi_i2l, zi_l2i, zi_lcmp, zi_dup, zi_dup2, zi_pop, zi_if1, zi_if2, zi_getI, zi_getL, zi_getR, zi_putI, zi_putZ, zi_putL, zi_aldI, zi_aldL, zi_astI, zi_astZ, zi_astL, zi_alen, zi_iret, zi_zret, zi_lret, zi_vret, zi_callV, zi_callS, zi_sw, zi_copyI, zi_copyL, zi_m2, zi_m1, zi_sval, zi_scod, zi_fmt, zi_balen, zi_bald, zi_bret, zi_callT, zq_nth, zq_put1, zq_put2, zq_clr, zq_nl, zq_tk, zq_ps, zq_sw, zq_l0, zq_a, zq_a1, List.length_cons, List.length_nil, List.nil_append, List.cons_append, List.append_nil, List.replicate, Nat.reduceAdd, Nat.reduceSub, Nat.reduceLeDiff, true_and, and_true, List.append_eq, List.cons.injEq, Value.int.injEq, Value.long.injEq, Value.ref.injEq, exists_and_left, exists_eq_left', and_assoc, zc_b, zc_0, zc_1, zc_10, zc_01, lg_cmp_ge, lg_cmp_le, lg_cmp_gt, lg_cmp_lt, lg_cmp_eq, zw_le, zw_lt, reduceIte, true_or, or_true, zw_g0, zw_l0, zw_g1, zw_l1, zw_g2, zw_l2, zw_g3, zw_l3, zw_g5, zw_l5, zw_g6, zw_l6, zw_g7, zw_l7, zw_g9, zw_l9, zw_g10, zw_l10, zw_g15, zw_l15, zw_g16, zw_l16, zw_g48, zw_l48, zw_g50, zw_l50, zw_g57, zw_l57, zw_g97, zw_l97, zw_g100, zw_l100, zw_g200, zw_l200, zw_g999, zw_l999, zw_g9999, zw_l9999]
    refine ⟨fun c => st_132 ⟨by omega, by omega, by omega⟩ (zsi_e hz c) k, fun c => ?_⟩
    have l1 : lo + ((hi - lo) / 3 + 1) ≤ hi := by omega
    have l2 : (hi - (lo + ((hi - lo) / 3 + 1))) / 3 + 1 ≤ hi := by omega
    simp only [xX11_settle_99, nI_sub z1, zdiv3 (show hi - lo < 2 ^ 31 by omega), nI_1, nI_add, zabs (show hi < 2 ^ 30 by omega) (show lo + ((hi - lo) / 3 + 1) < 2 ^ 30 by omega), zad_le l1, zdiv3 (show hi - (lo + ((hi - lo) / 3 + 1)) < 2 ^ 31 by omega), nI_sub l2, zi_push, zi_iload, zi_lload, zi_aload, zi_istore, zi_astore, zi_lstore, zi_iinc, zi_i2, zi_i1, zi_idv, zi_l2, zi_ldv, zi_lsh, zi_i2l, zi_l2i, zi_lcmp, zi_dup, zi_dup2, zi_pop, zi_if1, zi_if2, zi_getI, zi_getL, zi_getR, zi_putI, zi_putZ, zi_putL, zi_aldI, zi_aldL, zi_astI, zi_astZ, zi_astL, zi_alen, zi_iret, zi_zret, zi_lret, zi_vret, zi_callV, zi_callS, zi_sw, zi_copyI, zi_copyL, zi_m2, zi_m1, zi_sval, zi_scod, zi_fmt, zi_balen, zi_bald, zi_bret, zi_callT, zq_nth, zq_put1, zq_put2, zq_clr, zq_nl, zq_tk, zq_ps, zq_sw, zq_l0, zq_a, zq_a1, List.length_cons, List.length_nil, List.nil_append, List.cons_append, List.append_nil, List.replicate, Nat.reduceAdd, Nat.reduceSub, Nat.reduceLeDiff, true_and, and_true, List.append_eq, List.cons.injEq, Value.int.injEq, Value.long.injEq, Value.ref.injEq, exists_and_left, exists_eq_left', and_assoc, zc_b, zc_0, zc_1, zc_10, zc_01, lg_cmp_ge, lg_cmp_le, lg_cmp_gt, lg_cmp_lt, lg_cmp_eq, zw_le, zw_lt, reduceIte, true_or, or_true, zw_g0, zw_l0, zw_g1, zw_l1, zw_g2, zw_l2, zw_g3, zw_l3, zw_g5, zw_l5, zw_g6, zw_l6, zw_g7, zw_l7, zw_g9, zw_l9, zw_g10, zw_l10, zw_g15, zw_l15, zw_g16, zw_l16, zw_g48, zw_l48, zw_g50, zw_l50, zw_g57, zw_l57, zw_g97, zw_l97, zw_g100, zw_l100, zw_g200, zw_l200, zw_g999, zw_l999, zw_g9999, zw_l9999]
    first | exact ⟨(h, p, q, _, _, m + 1), by dsimp only; omega, s7, rfl, rfl, rfl, zsi_s hz c, k⟩ | (refine ⟨by decide, by decide, (h, p, q, _, _, m + 1), by dsimp only; omega, s7, rfl, rfl, rfl, zsi_s hz c, k⟩)
