/-! ===== offer: the class ===== -/
/-- of tastes 0 .. t - 1: by how many that fit a is worth no less than b -/
def zqc (V : zV) (j t a b : Nat) : Nat := nsum (fun p => if zft V j p ∧ zwq V j p b ≤ zwq V j p a then 1 else 0) t
theorem zqc_le (V : zV) (j t a b : Nat) : zqc V j t a b ≤ t := by
  have := nsum_le (g := fun p => if zft V j p ∧ zwq V j p b ≤ zwq V j p a then 1 else 0) (b := 1) t (fun k _ => by
    split <;> omega)
  unfold zqc
  omega
theorem zqc_y {V : zV} {j t : Nat} (h : zft V j t) (a b : Nat) : zqc V j (t + 1) a b = zqc V j t a b + if zwq V j t b ≤ zwq V j t a then 1 else 0 := by
  show zqc V j t a b + (if zft V j t ∧ zwq V j t b ≤ zwq V j t a then 1 else 0) = _
  by_cases q : zwq V j t b ≤ zwq V j t a
  · rw [if_pos ⟨h, q⟩, if_pos q]
  · rw [if_neg (fun z => q z.2), if_neg q]
theorem zqc_n {V : zV} {j t : Nat} (h : ¬ zft V j t) (a b : Nat) : zqc V j (t + 1) a b = zqc V j t a b := by
  show zqc V j t a b + (if zft V j t ∧ zwq V j t b ≤ zwq V j t a then 1 else 0) = _
  rw [if_neg (fun z => h z.1)]
  rfl
def zfOx : List Nat := [15, 18, 20, 21, 51]
def sp_cpairs : zq_Sp := fun args h Q => ∃ V j, args = [.ref 15, .ref 48, .ref 40, .int (nI j)] ∧ ZV V ∧ XC V h ∧ ∀ h', XC V h' → zPv (vn V) (zqc V j 1000) h' → zq_fr zfOx h h' → Q none h'
def zcp (Q : zq_Q) (h0 h : zq_H) (V : zV) (j t : Nat) : Prop := ZV V ∧ XC V h ∧ zPv (vn V) (zqc V j t) h ∧ zq_fr zfOx h0 h ∧ ∀ h', XC V h' → zPv (vn V) (zqc V j 1000) h' → zq_fr zfOx h0 h' → Q none h'
def I_cp11 (Q : zq_Q) (z : zq_H × zV × Nat × Nat × Nat) : zq_P := fun ls st h => match z with
  | (h0, V, j, t, _) => ∃ s5, ls = [some (.ref 15), some (.ref 48), some (.ref 40), some (.int (nI j)), some (.int (nI t)), s5] ∧ st = [] ∧ t ≤ 1000 ∧ zcp Q h0 h V j t
def I_cp37 (Q : zq_Q) (z : zq_H × zV × Nat × Nat × Nat) : zq_P := fun ls st h => match z with
  | (h0, V, j, t, c) => ls = [some (.ref 15), some (.ref 48), some (.ref 40), some (.int (nI j)), some (.int (nI t)), some (.int (nI c))] ∧ st = [] ∧ (t < 1000 ∧ c ≤ vn V) ∧ zft V j t ∧ XKn V j t h ∧ (∀ c', c' < c → h.1 20 c' = nI (zwq V j t c')) ∧ zcp Q h0 h V j t
theorem ok_cpairs : zq_M yX1_countPairs cX1_countPairs 6 none 0 5 sp_cpairs := by
  refine mX1_countPairs (ok_fill 21 256) (by decide) ok_fits (by decide) ok_ask (by decide) ok_ctt (by decide) (fun z => (1000 - z.2.2.2.1) * 20) I_cp11 (fun z => (1000 - z.2.2.2.1) * 20 - 1 - z.2.2.2.2) I_cp37 (fun args h Q hs => ?_) (fun Q z ls st h hi => ?_) (fun Q z ls st h hi => ?_)
  · obtain ⟨V, j, rfl, hV, hX, kk⟩ := hs
    have hn := hX.1.1
    refine ⟨Nat.le_of_ble_eq_true rfl, ?_⟩
    simp only [xX1_countPairs_0, zi_push, zi_iload, zi_lload, zi_aload, zi_istore, zi_astore, zi_lstore, zi_iinc, zi_i2, zi_i1, zi_idv, zi_l2, zi_ldv, zi_lsh, zi_i2l, zi_l2i, zi_lcmp, zi_dup, zi_dup2, zi_pop, zi_if1, zi_if2, zi_getI, zi_getL, zi_getR, zi_putI, zi_putZ, zi_putL, zi_aldI, zi_aldL, zi_astI, zi_astZ, zi_astL, zi_alen, zi_iret, zi_zret, zi_lret, zi_vret, zi_callV, zi_callS, zi_sw, zi_copyI, zi_copyL, zi_m2, zi_m1, zi_sval, zi_scod, zi_fmt, zi_balen, zi_bald, zi_bret, zi_callT, zq_nth, zq_put1, zq_put2, zq_clr, zq_nl, zq_tk, zq_ps, zq_sw, zq_l0, zq_a, zq_a1, List.length_cons, List.length_nil, List.nil_append, List.cons_append, List.append_nil, List.replicate, Nat.reduceAdd, Nat.reduceSub, Nat.reduceLeDiff, true_and, and_true, List.append_eq, List.cons.injEq, Value.int.injEq, Value.long.injEq, Value.ref.injEq, exists_and_left, exists_eq_left', and_assoc, zc_b, zc_0, zc_1, zc_10, zc_01, lg_cmp_ge, lg_cmp_le, lg_cmp_gt, lg_cmp_lt, lg_cmp_eq, zw_le, zw_lt, reduceIte, true_or, or_true, zw_g0, zw_l0, zw_g1, zw_l1, zw_g2, zw_l2, zw_g3, zw_l3, zw_g5, zw_l5, zw_g6, zw_l6, zw_g7, zw_l7, zw_g9, zw_l9, zw_g10, zw_l10, zw_g15, zw_l15, zw_g16, zw_l16, zw_g48, zw_l48, zw_g50, zw_l50, zw_g57, zw_l57, zw_g97, zw_l97, zw_g100, zw_l100, zw_g200, zw_l200, zw_g999, zw_l999, zw_g9999, zw_l9999]
    refine ⟨0, rfl, rfl, by decide, fun h1 e1 f1 => ?_⟩
    simp only [zi_push, zi_iload, zi_lload, zi_aload, zi_istore, zi_astore, zi_lstore, zi_iinc, zi_i2, zi_i1, zi_idv, zi_l2, zi_ldv, zi_lsh, zi_i2l, zi_l2i, zi_lcmp, zi_dup, zi_dup2, zi_pop, zi_if1, zi_if2, zi_getI, zi_getL, zi_getR, zi_putI, zi_putZ, zi_putL, zi_aldI, zi_aldL, zi_astI, zi_astZ, zi_astL, zi_alen, zi_iret, zi_zret, zi_lret, zi_vret, zi_callV, zi_callS, zi_sw, zi_copyI, zi_copyL, zi_m2, zi_m1, zi_sval, zi_scod, zi_fmt, zi_balen, zi_bald, zi_bret, zi_callT, zq_nth, zq_put1, zq_put2, zq_clr, zq_nl, zq_tk, zq_ps, zq_sw, zq_l0, zq_a, zq_a1, List.length_cons, List.length_nil, List.nil_append, List.cons_append, List.append_nil, List.replicate, Nat.reduceAdd, Nat.reduceSub, Nat.reduceLeDiff, true_and, and_true, List.append_eq, List.cons.injEq, Value.int.injEq, Value.long.injEq, Value.ref.injEq, exists_and_left, exists_eq_left', and_assoc, zc_b, zc_0, zc_1, zc_10, zc_01, lg_cmp_ge, lg_cmp_le, lg_cmp_gt, lg_cmp_lt, lg_cmp_eq, zw_le, zw_lt, reduceIte, true_or, or_true, zw_g0, zw_l0, zw_g1, zw_l1, zw_g2, zw_l2, zw_g3, zw_l3, zw_g5, zw_l5, zw_g6, zw_l6, zw_g7, zw_l7, zw_g9, zw_l9, zw_g10, zw_l10, zw_g15, zw_l15, zw_g16, zw_l16, zw_g48, zw_l48, zw_g50, zw_l50, zw_g57, zw_l57, zw_g97, zw_l97, zw_g100, zw_l100, zw_g200, zw_l200, zw_g999, zw_l999, zw_g9999, zw_l9999]
    exact ⟨(h, V, j, 0, 0), none, rfl, rfl, Nat.zero_le _, hV, XC_fr hX f1 (by decide), fun a b ha hb _ => by rw [e1 _ (by omega)]; rfl, zq_fr_w f1 (by decide), kk⟩
  · obtain ⟨h0, V, j, t, c⟩ := z
    obtain ⟨s5, rfl, rfl, ht, hV, hX, hP, hf, kk⟩ := hi
    have e1 : (1000 ≤ nI t) = (t = 1000) := zl_ge (n := 1000) ht (by decide)
    simp only [xX1_countPairs_11, xX1_countPairs_19, xX1_countPairs_76, e1, zi_push, zi_iload, zi_lload, zi_aload, zi_istore, zi_astore, zi_lstore, zi_iinc, zi_i2, zi_i1, zi_idv, zi_l2, zi_ldv, zi_lsh, zi_i2l, zi_l2i, zi_lcmp, zi_dup, zi_dup2, zi_pop, zi_if1, zi_if2, zi_getI, zi_getL, zi_getR, zi_putI, zi_putZ, zi_putL, zi_aldI, zi_aldL, zi_astI, zi_astZ, zi_astL, zi_alen, zi_iret, zi_zret, zi_lret, zi_vret, zi_callV, zi_callS, zi_sw, zi_copyI, zi_copyL, zi_m2, zi_m1, zi_sval, zi_scod, zi_fmt, zi_balen, zi_bald, zi_bret, zi_callT, zq_nth, zq_put1, zq_put2, zq_clr, zq_nl, zq_tk, zq_ps, zq_sw, zq_l0, zq_a, zq_a1, List.length_cons, List.length_nil, List.nil_append, List.cons_append, List.append_nil, List.replicate, Nat.reduceAdd, Nat.reduceSub, Nat.reduceLeDiff, true_and, and_true, List.append_eq, List.cons.injEq, Value.int.injEq, Value.long.injEq, Value.ref.injEq, exists_and_left, exists_eq_left', and_assoc, zc_b, zc_0, zc_1, zc_10, zc_01, lg_cmp_ge, lg_cmp_le, lg_cmp_gt, lg_cmp_lt, lg_cmp_eq, zw_le, zw_lt, reduceIte, true_or, or_true, zw_g0, zw_l0, zw_g1, zw_l1, zw_g2, zw_l2, zw_g3, zw_l3, zw_g5, zw_l5, zw_g6, zw_l6, zw_g7, zw_l7, zw_g9, zw_l9, zw_g10, zw_l10, zw_g15, zw_l15, zw_g16, zw_l16, zw_g48, zw_l48, zw_g50, zw_l50, zw_g57, zw_l57, zw_g97, zw_l97, zw_g100, zw_l100, zw_g200, zw_l200, zw_g999, zw_l999, zw_g9999, zw_l9999]
    refine ⟨fun q => ?_, fun q => ⟨V, j, t, rfl, by omega, hV, hX, fun h1 x1 k1 f1 => ?_⟩⟩
    · subst q
      exact kk h hX hP hf
    · have hf1 : zq_fr zfOx h0 h1 := zq_fr_t hf f1 (by decide)
      have hP1 : zPv (vn V) (zqc V j t) h1 := fun a b ha hb hab => by rw [(f1 21 (by decide)).1]; exact hP a b ha hb hab
      by_cases q2 : zft V j t
      · rw [if_pos q2]
        simp only [xX1_countPairs_34, zc_10, not_true_eq_false, not_false_eq_true, forall_const, true_and, and_true, false_and, and_false, if_true, if_false, reduceIte, implies_true, and_self, ite_self, true_or, or_true, false_or, or_false, true_implies, false_implies, Classical.not_not, false_imp_iff, not_false_iff, zi_push, zi_iload, zi_lload, zi_aload, zi_istore, zi_astore, zi_lstore, zi_iinc, zi_i2, zi_i1, zi_idv, zi_l2, zi_ldv, zi_lsh, zi_i2l, zi_l2i, zi_lcmp, zi_dup, zi_dup2, zi_pop, zi_if1, zi_if2, zi_getI, zi_getL, zi_getR, zi_putI, zi_putZ, zi_putL, zi_aldI, zi_aldL, zi_astI, zi_astZ, zi_astL, zi_alen, zi_iret, zi_zret, zi_lret, zi_vret, zi_callV, zi_callS, zi_sw, zi_copyI, zi_copyL, zi_m2, zi_m1, zi_sval, zi_scod, zi_fmt, zi_balen, zi_bald, zi_bret, zi_callT, zq_nth, zq_put1, zq_put2, zq_clr, zq_nl, zq_tk, zq_ps, zq_sw, zq_l0, zq_a, zq_a1, List.length_cons, List.length_nil, List.nil_append, List.cons_append, List.append_nil, List.replicate, Nat.reduceAdd, Nat.reduceSub, Nat.reduceLeDiff, true_and, and_true, List.append_eq, List.cons.injEq, Value.int.injEq, Value.long.injEq, Value.ref.injEq, exists_and_left, exists_eq_left', and_assoc, zc_b, zc_0, zc_1, zc_10, zc_01, lg_cmp_ge, lg_cmp_le, lg_cmp_gt, lg_cmp_lt, lg_cmp_eq, zw_le, zw_lt, reduceIte, true_or, or_true, zw_g0, zw_l0, zw_g1, zw_l1, zw_g2, zw_l2, zw_g3, zw_l3, zw_g5, zw_l5, zw_g6, zw_l6, zw_g7, zw_l7, zw_g9, zw_l9, zw_g10, zw_l10, zw_g15, zw_l15, zw_g16, zw_l16, zw_g48, zw_l48, zw_g50, zw_l50, zw_g57, zw_l57, zw_g97, zw_l97, zw_g100, zw_l100, zw_g200, zw_l200, zw_g999, zw_l999, zw_g9999, zw_l9999]
        exact ⟨(h0, V, j, t, 0), by dsimp only; omega, rfl, rfl, ⟨by omega, Nat.zero_le _⟩, q2, k1, fun c' hc' => absurd hc' (Nat.not_lt_zero _), hV, x1, hP1, hf1, kk⟩
      · rw [if_neg q2]
        simp only [xX1_countPairs_31, xX1_countPairs_70, nI_1, not_true_eq_false, not_false_eq_true, forall_const, true_and, and_true, false_and, and_false, if_true, if_false, reduceIte, implies_true, and_self, ite_self, true_or, or_true, false_or, or_false, true_implies, false_implies, Classical.not_not, false_imp_iff, not_false_iff, zi_push, zi_iload, zi_lload, zi_aload, zi_istore, zi_astore, zi_lstore, zi_iinc, zi_i2, zi_i1, zi_idv, zi_l2, zi_ldv, zi_lsh, zi_i2l, zi_l2i, zi_lcmp, zi_dup, zi_dup2, zi_pop, zi_if1, zi_if2, zi_getI, zi_getL, zi_getR, zi_putI, zi_putZ, zi_putL, zi_aldI, zi_aldL, zi_astI, zi_astZ, zi_astL, zi_alen, zi_iret, zi_zret, zi_lret, zi_vret, zi_callV, zi_callS, zi_sw, zi_copyI, zi_copyL, zi_m2, zi_m1, zi_sval, zi_scod, zi_fmt, zi_balen, zi_bald, zi_bret, zi_callT, zq_nth, zq_put1, zq_put2, zq_clr, zq_nl, zq_tk, zq_ps, zq_sw, zq_l0, zq_a, zq_a1, List.length_cons, List.length_nil, List.nil_append, List.cons_append, List.append_nil, List.replicate, Nat.reduceAdd, Nat.reduceSub, Nat.reduceLeDiff, true_and, and_true, List.append_eq, List.cons.injEq, Value.int.injEq, Value.long.injEq, Value.ref.injEq, exists_and_left, exists_eq_left', and_assoc, zc_b, zc_0, zc_1, zc_10, zc_01, lg_cmp_ge, lg_cmp_le, lg_cmp_gt, lg_cmp_lt, lg_cmp_eq, zw_le, zw_lt, reduceIte, true_or, or_true, zw_g0, zw_l0, zw_g1, zw_l1, zw_g2, zw_l2, zw_g3, zw_l3, zw_g5, zw_l5, zw_g6, zw_l6, zw_g7, zw_l7, zw_g9, zw_l9, zw_g10, zw_l10, zw_g15, zw_l15, zw_g16, zw_l16, zw_g48, zw_l48, zw_g50, zw_l50, zw_g57, zw_l57, zw_g97, zw_l97, zw_g100, zw_l100, zw_g200, zw_l200, zw_g999, zw_l999, zw_g9999, zw_l9999]
        exact ⟨(h0, V, j, t + 1, 0), by dsimp only; omega, _, rfl, rfl, by omega, hV, x1, fun a b ha hb hab => by rw [zqc_n q2]; exact hP1 a b ha hb hab, hf1, kk⟩
  · obtain ⟨h0, V, j, t, c⟩ := z
    obtain ⟨rfl, rfl, ⟨ht, hc⟩, q2, hK, h20, hV, hX, hP, hf, kk⟩ := hi
    have hn := hX.1.1
    simp only [xX1_countPairs_37, xX1_countPairs_46, xX1_countPairs_62, hX.1.2.1, zl_ge hc (show vn V < 2 ^ 31 by omega), zi_push, zi_iload, zi_lload, zi_aload, zi_istore, zi_astore, zi_lstore, zi_iinc, zi_i2, zi_i1, zi_idv, zi_l2, zi_ldv, zi_lsh, zi_i2l, zi_l2i, zi_lcmp, zi_dup, zi_dup2, zi_pop, zi_if1, zi_if2, zi_getI, zi_getL, zi_getR, zi_putI, zi_putZ, zi_putL, zi_aldI, zi_aldL, zi_astI, zi_astZ, zi_astL, zi_alen, zi_iret, zi_zret, zi_lret, zi_vret, zi_callV, zi_callS, zi_sw, zi_copyI, zi_copyL, zi_m2, zi_m1, zi_sval, zi_scod, zi_fmt, zi_balen, zi_bald, zi_bret, zi_callT, zq_nth, zq_put1, zq_put2, zq_clr, zq_nl, zq_tk, zq_ps, zq_sw, zq_l0, zq_a, zq_a1, List.length_cons, List.length_nil, List.nil_append, List.cons_append, List.append_nil, List.replicate, Nat.reduceAdd, Nat.reduceSub, Nat.reduceLeDiff, true_and, and_true, List.append_eq, List.cons.injEq, Value.int.injEq, Value.long.injEq, Value.ref.injEq, exists_and_left, exists_eq_left', and_assoc, zc_b, zc_0, zc_1, zc_10, zc_01, lg_cmp_ge, lg_cmp_le, lg_cmp_gt, lg_cmp_lt, lg_cmp_eq, zw_le, zw_lt, reduceIte, true_or, or_true, zw_g0, zw_l0, zw_g1, zw_l1, zw_g2, zw_l2, zw_g3, zw_l3, zw_g5, zw_l5, zw_g6, zw_l6, zw_g7, zw_l7, zw_g9, zw_l9, zw_g10, zw_l10, zw_g15, zw_l15, zw_g16, zw_l16, zw_g48, zw_l48, zw_g50, zw_l50, zw_g57, zw_l57, zw_g97, zw_l97, zw_g100, zw_l100, zw_g200, zw_l200, zw_g999, zw_l999, zw_g9999, zw_l9999]
    refine ⟨fun q => ?_, fun q => ⟨V, j, t, c, rfl, by omega, hV, hX, hK, fun h1 x1 k1 f1 a1 => ?_⟩⟩
    · subst q
      refine ⟨vn V, zwq V j t, zqc V j t, rfl, hn, fun c' hc' => ⟨h20 c' hc', (zwq_eq V j t c').2⟩, hP, fun h1 p1 f1 => ?_⟩
      simp only [xX1_countPairs_70, nI_1, zi_push, zi_iload, zi_lload, zi_aload, zi_istore, zi_astore, zi_lstore, zi_iinc, zi_i2, zi_i1, zi_idv, zi_l2, zi_ldv, zi_lsh, zi_i2l, zi_l2i, zi_lcmp, zi_dup, zi_dup2, zi_pop, zi_if1, zi_if2, zi_getI, zi_getL, zi_getR, zi_putI, zi_putZ, zi_putL, zi_aldI, zi_aldL, zi_astI, zi_astZ, zi_astL, zi_alen, zi_iret, zi_zret, zi_lret, zi_vret, zi_callV, zi_callS, zi_sw, zi_copyI, zi_copyL, zi_m2, zi_m1, zi_sval, zi_scod, zi_fmt, zi_balen, zi_bald, zi_bret, zi_callT, zq_nth, zq_put1, zq_put2, zq_clr, zq_nl, zq_tk, zq_ps, zq_sw, zq_l0, zq_a, zq_a1, List.length_cons, List.length_nil, List.nil_append, List.cons_append, List.append_nil, List.replicate, Nat.reduceAdd, Nat.reduceSub, Nat.reduceLeDiff, true_and, and_true, List.append_eq, List.cons.injEq, Value.int.injEq, Value.long.injEq, Value.ref.injEq, exists_and_left, exists_eq_left', and_assoc, zc_b, zc_0, zc_1, zc_10, zc_01, lg_cmp_ge, lg_cmp_le, lg_cmp_gt, lg_cmp_lt, lg_cmp_eq, zw_le, zw_lt, reduceIte, true_or, or_true, zw_g0, zw_l0, zw_g1, zw_l1, zw_g2, zw_l2, zw_g3, zw_l3, zw_g5, zw_l5, zw_g6, zw_l6, zw_g7, zw_l7, zw_g9, zw_l9, zw_g10, zw_l10, zw_g15, zw_l15, zw_g16, zw_l16, zw_g48, zw_l48, zw_g50, zw_l50, zw_g57, zw_l57, zw_g97, zw_l97, zw_g100, zw_l100, zw_g200, zw_l200, zw_g999, zw_l999, zw_g9999, zw_l9999]
      refine ⟨(h0, V, j, t + 1, 0), by dsimp only; omega, _, rfl, rfl, by omega, hV, XC_fr hX f1 (by decide), fun a b ha hb hab => ?_, zq_fr_t hf f1 (by decide), kk⟩
      rw [zqc_y q2]
      exact p1 a b ha hb hab
    · simp only [nI_1, zi_push, zi_iload, zi_lload, zi_aload, zi_istore, zi_astore, zi_lstore, zi_iinc, zi_i2, zi_i1, zi_idv, zi_l2, zi_ldv, zi_lsh, zi_i2l, zi_l2i, zi_lcmp, zi_dup, zi_dup2, zi_pop, zi_if1, zi_if2, zi_getI, zi_getL, zi_getR, zi_putI, zi_putZ, zi_putL, zi_aldI, zi_aldL, zi_astI, zi_astZ, zi_astL, zi_alen, zi_iret, zi_zret, zi_lret, zi_vret, zi_callV, zi_callS, zi_sw, zi_copyI, zi_copyL, zi_m2, zi_m1, zi_sval, zi_scod, zi_fmt, zi_balen, zi_bald, zi_bret, zi_callT, zq_nth, zq_put1, zq_put2, zq_clr, zq_nl, zq_tk, zq_ps, zq_sw, zq_l0, zq_a, zq_a1, List.length_cons, List.length_nil, List.nil_append, List.cons_append, List.append_nil, List.replicate, Nat.reduceAdd, Nat.reduceSub, Nat.reduceLeDiff, true_and, and_true, List.append_eq, List.cons.injEq, Value.int.injEq, Value.long.injEq, Value.ref.injEq, exists_and_left, exists_eq_left', and_assoc, zc_b, zc_0, zc_1, zc_10, zc_01, lg_cmp_ge, lg_cmp_le, lg_cmp_gt, lg_cmp_lt, lg_cmp_eq, zw_le, zw_lt, reduceIte, true_or, or_true, zw_g0, zw_l0, zw_g1, zw_l1, zw_g2, zw_l2, zw_g3, zw_l3, zw_g5, zw_l5, zw_g6, zw_l6, zw_g7, zw_l7, zw_g9, zw_l9, zw_g10, zw_l10, zw_g15, zw_l15, zw_g16, zw_l16, zw_g48, zw_l48, zw_g50, zw_l50, zw_g57, zw_l57, zw_g97, zw_l97, zw_g100, zw_l100, zw_g200, zw_l200, zw_g999, zw_l999, zw_g9999, zw_l9999]
      refine ⟨(h0, V, j, t, c + 1), by dsimp only; omega, rfl, rfl, ⟨ht, by omega⟩, q2, k1, fun c' hc' => ?_, hV, x1, fun a b ha hb hab => by rw [(f1 21 (by decide)).1]; exact hP a b ha hb hab, zq_fr_t hf f1 (by decide), kk⟩
      by_cases q3 : c' = c
      · rw [q3]
        exact a1.1
      · rw [a1.2 c' q3]
        exact h20 c' (by omega)
/-- the pair (i / 16, i % 16): is it one; its number -/
abbrev zpi (n i : Nat) : Prop := i / 16 < i % 16 ∧ i % 16 < n
def zpm (V : zV) (j i : Nat) : Nat := max (zqc V j 1000 (i / 16) (i % 16)) (zqc V j 1000 (i % 16) (i / 16))
theorem zpm_le (V : zV) (j i : Nat) : zpm V j i ≤ 1000 := by
  have a := zqc_le V j 1000 (i / 16) (i % 16)
  have b := zqc_le V j 1000 (i % 16) (i / 16)
  unfold zpm
  omega
def zof1 (V : zV) (j i : Nat) (s : Nat × Nat) : Nat × Nat := if zpi (vn V) i then (if s.1 = 0 ∨ zpm V j i < s.2 then (i + 1, zpm V j i) else s) else s
/-- of the pairs before i: which is left by least (and one), and by how many -/
def zof (V : zV) (j i : Nat) : Nat × Nat := zfold (zof1 V j) i (0, 0)
theorem zof_s (V : zV) (j i : Nat) : zof V j (i + 1) = zof1 V j i (zof V j i) := rfl
theorem zof_skip (V : zV) (j a : Nat) : ∀ k, (∀ i, a ≤ i → i < a + k → ¬ zpi (vn V) i) → zof V j (a + k) = zof V j a
  | 0, _ => rfl
  | k + 1, h => by
    rw [← Nat.add_assoc, zof_s]
    unfold zof1
    rw [if_neg (h (a + k) (by omega) (by omega))]
    exact zof_skip V j a k (fun i h1 h2 => h i h1 (by omega))
theorem zof_ok (V : zV) (j : Nat) : ∀ i, (zof V j i).1 ≤ i ∧ (zof V j i).2 ≤ 1000
  | 0 => ⟨Nat.le_refl _, by show 0 ≤ 1000; decide⟩
  | i + 1 => by
    have ih := zof_ok V j i
    have := zpm_le V j i
    rw [zof_s]
    unfold zof1
    split
    · split
      · exact ⟨Nat.le_refl _, this⟩
      · exact ⟨by omega, ih.2⟩
    · exact ⟨by omega, ih.2⟩
def zob (s : Nat × Nat) : Int32 := if s.1 = 0 then -1 else nI (s.1 - 1)
theorem zob_1 {s : Nat × Nat} (h : s.1 ≤ 256) : (zob s = -1) = (s.1 = 0) ∧ (zob s < 0) = (s.1 = 0) := by
  unfold zob
  by_cases q : s.1 = 0
  · rw [if_pos q]
    exact ⟨propext ⟨fun _ => q, fun _ => rfl⟩, propext ⟨fun _ => q, fun _ => by decide⟩⟩
  · rw [if_neg q]
    have p := nI_pos (n := s.1 - 1) (by omega)
    refine ⟨propext ⟨fun z => absurd (z ▸ (by decide : (-1 : Int32) < 0)) p, fun z => absurd z q⟩, propext ⟨fun z => absurd z p, fun z => absurd z q⟩⟩
def zOf (V : zV) (a : Int32) (K : List Int64 → Int32 → Prop) (K1 : Int32 → Prop) : Prop := (¬ (0 ≤ a ∧ a < nI (vg V)) → K1 (-1)) ∧ ∀ j, j < vg V → a = nI j → (vn V < 2 → K1 (-2)) ∧ (2 ≤ vn V → K [lN (zof V j (16 * vn V)).2] (zob (zof V j (16 * vn V))))
def sp_latm : zq_Sp := fun args h Q => ∃ V j x y, args = [.ref 15, .int (nI x), .int (nI y)] ∧ x < y ∧ y < vn V ∧ XC V h ∧ zPv (vn V) (zqc V j 1000) h ∧ Q (some (.int (nI (zpm V j (16 * x + y))))) h
theorem ok_latm : zq_M yX1_leftAtMost cX1_leftAtMost 3 (some .int) 1 1 sp_latm := by
  refine mX1_leftAtMost (by decide) (fun args h Q hs => ?_)
  obtain ⟨V, j, x, y, rfl, hx, hy, hX, hP, kk⟩ := hs
  have hn := hX.1.1
  have a1 := zqc_le V j 1000 x y
  have a2 := zqc_le V j 1000 y x
  have d1 : (16 * x + y) / 16 = x := by omega
  have d2 : (16 * x + y) % 16 = y := by omega
  have em : zf_max (nI (zqc V j 1000 x y)) (nI (zqc V j 1000 y x)) = nI (max (zqc V j 1000 x y) (zqc V j 1000 y x)) := zmaxN (by omega) (by omega)
  refine ⟨Nat.le_of_ble_eq_true rfl, ?_⟩
  simp only [xX1_leftAtMost_0, z16a, nI_clamp (show 16 * x + y < 2 ^ 31 by omega), nI_clamp (show 16 * y + x < 2 ^ 31 by omega), hP x y (by omega) hy (by omega), hP y x hy (by omega) (by omega), em, zi_push, zi_iload, zi_lload, zi_aload, zi_istore, zi_astore, zi_lstore, zi_iinc, zi_i2, zi_i1, zi_idv, zi_l2, zi_ldv, zi_lsh, zi_i2l, zi_l2i, zi_lcmp, zi_dup, zi_dup2, zi_pop, zi_if1, zi_if2, zi_getI, zi_getL, zi_getR, zi_putI, zi_putZ, zi_putL, zi_aldI, zi_aldL, zi_astI, zi_astZ, zi_astL, zi_alen, zi_iret, zi_zret, zi_lret, zi_vret, zi_callV, zi_callS, zi_sw, zi_copyI, zi_copyL, zi_m2, zi_m1, zi_sval, zi_scod, zi_fmt, zi_balen, zi_bald, zi_bret, zi_callT, zq_nth, zq_put1, zq_put2, zq_clr, zq_nl, zq_tk, zq_ps, zq_sw, zq_l0, zq_a, zq_a1, List.length_cons, List.length_nil, List.nil_append, List.cons_append, List.append_nil, List.replicate, Nat.reduceAdd, Nat.reduceSub, Nat.reduceLeDiff, true_and, and_true, List.append_eq, List.cons.injEq, Value.int.injEq, Value.long.injEq, Value.ref.injEq, exists_and_left, exists_eq_left', and_assoc, zc_b, zc_0, zc_1, zc_10, zc_01, lg_cmp_ge, lg_cmp_le, lg_cmp_gt, lg_cmp_lt, lg_cmp_eq, zw_le, zw_lt, reduceIte, true_or, or_true, zw_g0, zw_l0, zw_g1, zw_l1, zw_g2, zw_l2, zw_g3, zw_l3, zw_g5, zw_l5, zw_g6, zw_l6, zw_g7, zw_l7, zw_g9, zw_l9, zw_g10, zw_l10, zw_g15, zw_l15, zw_g16, zw_l16, zw_g48, zw_l48, zw_g50, zw_l50, zw_g57, zw_l57, zw_g97, zw_l97, zw_g100, zw_l100, zw_g200, zw_l200, zw_g999, zw_l999, zw_g9999, zw_l9999]
  refine ⟨vp_in_nI (by omega) (by decide), vp_in_nI (by omega) (by decide), ?_⟩
  unfold zpm at kk
  rw [d1, d2] at kk
  exact kk
def zfOf : List Nat := [3, 4, 15, 18, 20, 21, 51]
def zxo (V : zV) (Q : zq_Q) (h0 h : zq_H) (j : Nat) : Prop := XC V h ∧ zPv (vn V) (zqc V j 1000) h ∧ zq_fr zfOf h0 h ∧ ∀ h', XR [lN (zof V j (16 * vn V)).2] h' → XC V h' → zq_fr zfOf h0 h' → Q (some (.int (zob (zof V j (16 * vn V))))) h'
def sp_xOffer (V : zV) : zq_Sp := fun args h Q => ∃ a, args = [.ref 0, .int a] ∧ ZV V ∧ XC V h ∧ zOf V a (fun row r => ∀ h', XR row h' → XC V h' → zq_fr zfOf h h' → Q (some (.int r)) h') (fun r => Q (some (.int r)) h)
def I_xo47 (V : zV) (Q : zq_Q) (z : zq_H × Nat × Nat × Nat) : zq_P := fun ls st h => match z with
  | (h0, j, x, _) => ∃ s5 s6, ls = [some (.ref 0), some (.int (nI j)), some (.int (zob (zof V j (16 * x)))), some (.int (nI (zof V j (16 * x)).2)), some (.int (nI x)), s5, s6] ∧ st = [] ∧ x ≤ vn V ∧ zxo V Q h0 h j
def I_xo65 (V : zV) (Q : zq_Q) (z : zq_H × Nat × Nat × Nat) : zq_P := fun ls st h => match z with
  | (h0, j, x, y) => ∃ s6, ls = [some (.ref 0), some (.int (nI j)), some (.int (zob (zof V j (16 * x + y)))), some (.int (nI (zof V j (16 * x + y)).2)), some (.int (nI x)), some (.int (nI y)), s6] ∧ st = [] ∧ (x < vn V ∧ x < y ∧ y ≤ vn V) ∧ zxo V Q h0 h j
theorem ok_xOffer (V : zV) : zq_M yX11_offer cX11_offer 7 (some .int) 1 6 (sp_xOffer V) := by
  refine mX11_offer (ok_isGuestV V) (by decide) ok_cpairs (by decide) ok_latm (by decide) ok_rowClearL (by decide) ok_rowAddL (by decide) (fun z => (vn V - z.2.2.1) * 20) (I_xo47 V) (fun z => (vn V - z.2.2.1) * 20 - 1 - z.2.2.2) (I_xo65 V) (fun args h Q hs => ?_) (fun Q z ls st h hi => ?_) (fun Q z ls st h hi => ?_)
  · obtain ⟨a, rfl, hV, hX, k1, k2⟩ := hs
    have hg := hX.2.1.1
    have hn := hX.1.1
    have e2 : (2 ≤ nI (vn V)) = (2 ≤ vn V) := nI_leP (a := 2) (by omega) (by omega)
    refine ⟨Nat.le_of_ble_eq_true rfl, ?_⟩
    simp only [xX11_offer_0, zi_push, zi_iload, zi_lload, zi_aload, zi_istore, zi_astore, zi_lstore, zi_iinc, zi_i2, zi_i1, zi_idv, zi_l2, zi_ldv, zi_lsh, zi_i2l, zi_l2i, zi_lcmp, zi_dup, zi_dup2, zi_pop, zi_if1, zi_if2, zi_getI, zi_getL, zi_getR, zi_putI, zi_putZ, zi_putL, zi_aldI, zi_aldL, zi_astI, zi_astZ, zi_astL, zi_alen, zi_iret, zi_zret, zi_lret, zi_vret, zi_callV, zi_callS, zi_sw, zi_copyI, zi_copyL, zi_m2, zi_m1, zi_sval, zi_scod, zi_fmt, zi_balen, zi_bald, zi_bret, zi_callT, zq_nth, zq_put1, zq_put2, zq_clr, zq_nl, zq_tk, zq_ps, zq_sw, zq_l0, zq_a, zq_a1, List.length_cons, List.length_nil, List.nil_append, List.cons_append, List.append_nil, List.replicate, Nat.reduceAdd, Nat.reduceSub, Nat.reduceLeDiff, true_and, and_true, List.append_eq, List.cons.injEq, Value.int.injEq, Value.long.injEq, Value.ref.injEq, exists_and_left, exists_eq_left', and_assoc, zc_b, zc_0, zc_1, zc_10, zc_01, lg_cmp_ge, lg_cmp_le, lg_cmp_gt, lg_cmp_lt, lg_cmp_eq, zw_le, zw_lt, reduceIte, true_or, or_true, zw_g0, zw_l0, zw_g1, zw_l1, zw_g2, zw_l2, zw_g3, zw_l3, zw_g5, zw_l5, zw_g6, zw_l6, zw_g7, zw_l7, zw_g9, zw_l9, zw_g10, zw_l10, zw_g15, zw_l15, zw_g16, zw_l16, zw_g48, zw_l48, zw_g50, zw_l50, zw_g57, zw_l57, zw_g97, zw_l97, zw_g100, zw_l100, zw_g200, zw_l200, zw_g999, zw_l999, zw_g9999, zw_l9999]
    refine ⟨a, rfl, hX, ?_⟩
    simp only [xX11_offer_8, xX11_offer_10, xX11_offer_21, xX11_offer_24, hX.1.2.1, e2, zi_push, zi_iload, zi_lload, zi_aload, zi_istore, zi_astore, zi_lstore, zi_iinc, zi_i2, zi_i1, zi_idv, zi_l2, zi_ldv, zi_lsh, zi_i2l, zi_l2i, zi_lcmp, zi_dup, zi_dup2, zi_pop, zi_if1, zi_if2, zi_getI, zi_getL, zi_getR, zi_putI, zi_putZ, zi_putL, zi_aldI, zi_aldL, zi_astI, zi_astZ, zi_astL, zi_alen, zi_iret, zi_zret, zi_lret, zi_vret, zi_callV, zi_callS, zi_sw, zi_copyI, zi_copyL, zi_m2, zi_m1, zi_sval, zi_scod, zi_fmt, zi_balen, zi_bald, zi_bret, zi_callT, zq_nth, zq_put1, zq_put2, zq_clr, zq_nl, zq_tk, zq_ps, zq_sw, zq_l0, zq_a, zq_a1, List.length_cons, List.length_nil, List.nil_append, List.cons_append, List.append_nil, List.replicate, Nat.reduceAdd, Nat.reduceSub, Nat.reduceLeDiff, true_and, and_true, List.append_eq, List.cons.injEq, Value.int.injEq, Value.long.injEq, Value.ref.injEq, exists_and_left, exists_eq_left', and_assoc, zc_b, zc_0, zc_1, zc_10, zc_01, lg_cmp_ge, lg_cmp_le, lg_cmp_gt, lg_cmp_lt, lg_cmp_eq, zw_le, zw_lt, reduceIte, true_or, or_true, zw_g0, zw_l0, zw_g1, zw_l1, zw_g2, zw_l2, zw_g3, zw_l3, zw_g5, zw_l5, zw_g6, zw_l6, zw_g7, zw_l7, zw_g9, zw_l9, zw_g10, zw_l10, zw_g15, zw_l15, zw_g16, zw_l16, zw_g48, zw_l48, zw_g50, zw_l50, zw_g57, zw_l57, zw_g97, zw_l97, zw_g100, zw_l100, zw_g200, zw_l200, zw_g999, zw_l999, zw_g9999, zw_l9999]
    refine ⟨fun q => k1 q, fun q => ?_⟩
    obtain ⟨j, hj, rfl⟩ := zg_nat (by omega) (Classical.not_not.mp q)
    obtain ⟨k3, k4⟩ := k2 j hj rfl
    refine ⟨fun q2 => ⟨V, j, rfl, hV, hX, fun h1 x1 p1 f1 => ?_⟩, fun q2 => k3 (by omega)⟩
    simp only [zi_push, zi_iload, zi_lload, zi_aload, zi_istore, zi_astore, zi_lstore, zi_iinc, zi_i2, zi_i1, zi_idv, zi_l2, zi_ldv, zi_lsh, zi_i2l, zi_l2i, zi_lcmp, zi_dup, zi_dup2, zi_pop, zi_if1, zi_if2, zi_getI, zi_getL, zi_getR, zi_putI, zi_putZ, zi_putL, zi_aldI, zi_aldL, zi_astI, zi_astZ, zi_astL, zi_alen, zi_iret, zi_zret, zi_lret, zi_vret, zi_callV, zi_callS, zi_sw, zi_copyI, zi_copyL, zi_m2, zi_m1, zi_sval, zi_scod, zi_fmt, zi_balen, zi_bald, zi_bret, zi_callT, zq_nth, zq_put1, zq_put2, zq_clr, zq_nl, zq_tk, zq_ps, zq_sw, zq_l0, zq_a, zq_a1, List.length_cons, List.length_nil, List.nil_append, List.cons_append, List.append_nil, List.replicate, Nat.reduceAdd, Nat.reduceSub, Nat.reduceLeDiff, true_and, and_true, List.append_eq, List.cons.injEq, Value.int.injEq, Value.long.injEq, Value.ref.injEq, exists_and_left, exists_eq_left', and_assoc, zc_b, zc_0, zc_1, zc_10, zc_01, lg_cmp_ge, lg_cmp_le, lg_cmp_gt, lg_cmp_lt, lg_cmp_eq, zw_le, zw_lt, reduceIte, true_or, or_true, zw_g0, zw_l0, zw_g1, zw_l1, zw_g2, zw_l2, zw_g3, zw_l3, zw_g5, zw_l5, zw_g6, zw_l6, zw_g7, zw_l7, zw_g9, zw_l9, zw_g10, zw_l10, zw_g15, zw_l15, zw_g16, zw_l16, zw_g48, zw_l48, zw_g50, zw_l50, zw_g57, zw_l57, zw_g97, zw_l97, zw_g100, zw_l100, zw_g200, zw_l200, zw_g999, zw_l999, zw_g9999, zw_l9999]
    exact ⟨(h, j, 0, 0), none, none, rfl, rfl, Nat.zero_le _, x1, p1, zq_fr_w f1 (by decide), k4 q2⟩
  · obtain ⟨h0, j, x, y⟩ := z
    obtain ⟨s5, s6, rfl, rfl, hx, hX, hP, hf, kk⟩ := hi
    have hn := hX.1.1
    have ok := zof_ok V j (16 * x)
    simp only [xX11_offer_47, xX11_offer_59, xX11_offer_125, hX.1.2.1, zl_ge hx (show vn V < 2 ^ 31 by omega), nI_1, zi_push, zi_iload, zi_lload, zi_aload, zi_istore, zi_astore, zi_lstore, zi_iinc, zi_i2, zi_i1, zi_idv, zi_l2, zi_ldv, zi_lsh, zi_i2l, zi_l2i, zi_lcmp, zi_dup, zi_dup2, zi_pop, zi_if1, zi_if2, zi_getI, zi_getL, zi_getR, zi_putI, zi_putZ, zi_putL, zi_aldI, zi_aldL, zi_astI, zi_astZ, zi_astL, zi_alen, zi_iret, zi_zret, zi_lret, zi_vret, zi_callV, zi_callS, zi_sw, zi_copyI, zi_copyL, zi_m2, zi_m1, zi_sval, zi_scod, zi_fmt, zi_balen, zi_bald, zi_bret, zi_callT, zq_nth, zq_put1, zq_put2, zq_clr, zq_nl, zq_tk, zq_ps, zq_sw, zq_l0, zq_a, zq_a1, List.length_cons, List.length_nil, List.nil_append, List.cons_append, List.append_nil, List.replicate, Nat.reduceAdd, Nat.reduceSub, Nat.reduceLeDiff, true_and, and_true, List.append_eq, List.cons.injEq, Value.int.injEq, Value.long.injEq, Value.ref.injEq, exists_and_left, exists_eq_left', and_assoc, zc_b, zc_0, zc_1, zc_10, zc_01, lg_cmp_ge, lg_cmp_le, lg_cmp_gt, lg_cmp_lt, lg_cmp_eq, zw_le, zw_lt, reduceIte, true_or, or_true, zw_g0, zw_l0, zw_g1, zw_l1, zw_g2, zw_l2, zw_g3, zw_l3, zw_g5, zw_l5, zw_g6, zw_l6, zw_g7, zw_l7, zw_g9, zw_l9, zw_g10, zw_l10, zw_g15, zw_l15, zw_g16, zw_l16, zw_g48, zw_l48, zw_g50, zw_l50, zw_g57, zw_l57, zw_g97, zw_l97, zw_g100, zw_l100, zw_g200, zw_l200, zw_g999, zw_l999, zw_g9999, zw_l9999]
    refine ⟨fun q => ?_, fun q => ⟨(h0, j, x, x + 1), by dsimp only; omega, s6, ?_, rfl, by omega, hX, hP, hf, kk⟩⟩
    · subst q
      refine ⟨rfl, fun h1 r1 f1 => ?_⟩
      simp only [zi_push, zi_iload, zi_lload, zi_aload, zi_istore, zi_astore, zi_lstore, zi_iinc, zi_i2, zi_i1, zi_idv, zi_l2, zi_ldv, zi_lsh, zi_i2l, zi_l2i, zi_lcmp, zi_dup, zi_dup2, zi_pop, zi_if1, zi_if2, zi_getI, zi_getL, zi_getR, zi_putI, zi_putZ, zi_putL, zi_aldI, zi_aldL, zi_astI, zi_astZ, zi_astL, zi_alen, zi_iret, zi_zret, zi_lret, zi_vret, zi_callV, zi_callS, zi_sw, zi_copyI, zi_copyL, zi_m2, zi_m1, zi_sval, zi_scod, zi_fmt, zi_balen, zi_bald, zi_bret, zi_callT, zq_nth, zq_put1, zq_put2, zq_clr, zq_nl, zq_tk, zq_ps, zq_sw, zq_l0, zq_a, zq_a1, List.length_cons, List.length_nil, List.nil_append, List.cons_append, List.append_nil, List.replicate, Nat.reduceAdd, Nat.reduceSub, Nat.reduceLeDiff, true_and, and_true, List.append_eq, List.cons.injEq, Value.int.injEq, Value.long.injEq, Value.ref.injEq, exists_and_left, exists_eq_left', and_assoc, zc_b, zc_0, zc_1, zc_10, zc_01, lg_cmp_ge, lg_cmp_le, lg_cmp_gt, lg_cmp_lt, lg_cmp_eq, zw_le, zw_lt, reduceIte, true_or, or_true, zw_g0, zw_l0, zw_g1, zw_l1, zw_g2, zw_l2, zw_g3, zw_l3, zw_g5, zw_l5, zw_g6, zw_l6, zw_g7, zw_l7, zw_g9, zw_l9, zw_g10, zw_l10, zw_g15, zw_l15, zw_g16, zw_l16, zw_g48, zw_l48, zw_g50, zw_l50, zw_g57, zw_l57, zw_g97, zw_l97, zw_g100, zw_l100, zw_g200, zw_l200, zw_g999, zw_l999, zw_g9999, zw_l9999]
      refine ⟨_, _, rfl, r1, Nat.le_of_ble_eq_true rfl, fun h2 r2 f2 => ?_⟩
      simp only [zi_push, zi_iload, zi_lload, zi_aload, zi_istore, zi_astore, zi_lstore, zi_iinc, zi_i2, zi_i1, zi_idv, zi_l2, zi_ldv, zi_lsh, zi_i2l, zi_l2i, zi_lcmp, zi_dup, zi_dup2, zi_pop, zi_if1, zi_if2, zi_getI, zi_getL, zi_getR, zi_putI, zi_putZ, zi_putL, zi_aldI, zi_aldL, zi_astI, zi_astZ, zi_astL, zi_alen, zi_iret, zi_zret, zi_lret, zi_vret, zi_callV, zi_callS, zi_sw, zi_copyI, zi_copyL, zi_m2, zi_m1, zi_sval, zi_scod, zi_fmt, zi_balen, zi_bald, zi_bret, zi_callT, zq_nth, zq_put1, zq_put2, zq_clr, zq_nl, zq_tk, zq_ps, zq_sw, zq_l0, zq_a, zq_a1, List.length_cons, List.length_nil, List.nil_append, List.cons_append, List.append_nil, List.replicate, Nat.reduceAdd, Nat.reduceSub, Nat.reduceLeDiff, true_and, and_true, List.append_eq, List.cons.injEq, Value.int.injEq, Value.long.injEq, Value.ref.injEq, exists_and_left, exists_eq_left', and_assoc, zc_b, zc_0, zc_1, zc_10, zc_01, lg_cmp_ge, lg_cmp_le, lg_cmp_gt, lg_cmp_lt, lg_cmp_eq, zw_le, zw_lt, reduceIte, true_or, or_true, zw_g0, zw_l0, zw_g1, zw_l1, zw_g2, zw_l2, zw_g3, zw_l3, zw_g5, zw_l5, zw_g6, zw_l6, zw_g7, zw_l7, zw_g9, zw_l9, zw_g10, zw_l10, zw_g15, zw_l15, zw_g16, zw_l16, zw_g48, zw_l48, zw_g50, zw_l50, zw_g57, zw_l57, zw_g97, zw_l97, zw_g100, zw_l100, zw_g200, zw_l200, zw_g999, zw_l999, zw_g9999, zw_l9999]
      rw [nI_l (by omega)] at r2
      exact kk h2 r2 (XC_fr (XC_fr hX f1 (by decide)) f2 (by decide)) (zq_fr_t (zq_fr_t hf f1 (by decide)) f2 (by decide))
    · have := zof_skip V j (16 * x) (x + 1) (fun i h1 h2 z => by have := z.1; omega)
      rw [this]
  · obtain ⟨h0, j, x, y⟩ := z
    obtain ⟨s6, rfl, rfl, ⟨hx, hxy, hy⟩, hX, hP, hf, kk⟩ := hi
    have hn := hX.1.1
    have ok := zof_ok V j (16 * x + y)
    have lm := zpm_le V j (16 * x + y)
    simp only [xX11_offer_65, xX11_offer_77, xX11_offer_119, hX.1.2.1, zl_ge hy (show vn V < 2 ^ 31 by omega), nI_1, zi_push, zi_iload, zi_lload, zi_aload, zi_istore, zi_astore, zi_lstore, zi_iinc, zi_i2, zi_i1, zi_idv, zi_l2, zi_ldv, zi_lsh, zi_i2l, zi_l2i, zi_lcmp, zi_dup, zi_dup2, zi_pop, zi_if1, zi_if2, zi_getI, zi_getL, zi_getR, zi_putI, zi_putZ, zi_putL, zi_aldI, zi_aldL, zi_astI, zi_astZ, zi_astL, zi_alen, zi_iret, zi_zret, zi_lret, zi_vret, zi_callV, zi_callS, zi_sw, zi_copyI, zi_copyL, zi_m2, zi_m1, zi_sval, zi_scod, zi_fmt, zi_balen, zi_bald, zi_bret, zi_callT, zq_nth, zq_put1, zq_put2, zq_clr, zq_nl, zq_tk, zq_ps, zq_sw, zq_l0, zq_a, zq_a1, List.length_cons, List.length_nil, List.nil_append, List.cons_append, List.append_nil, List.replicate, Nat.reduceAdd, Nat.reduceSub, Nat.reduceLeDiff, true_and, and_true, List.append_eq, List.cons.injEq, Value.int.injEq, Value.long.injEq, Value.ref.injEq, exists_and_left, exists_eq_left', and_assoc, zc_b, zc_0, zc_1, zc_10, zc_01, lg_cmp_ge, lg_cmp_le, lg_cmp_gt, lg_cmp_lt, lg_cmp_eq, zw_le, zw_lt, reduceIte, true_or, or_true, zw_g0, zw_l0, zw_g1, zw_l1, zw_g2, zw_l2, zw_g3, zw_l3, zw_g5, zw_l5, zw_g6, zw_l6, zw_g7, zw_l7, zw_g9, zw_l9, zw_g10, zw_l10, zw_g15, zw_l15, zw_g16, zw_l16, zw_g48, zw_l48, zw_g50, zw_l50, zw_g57, zw_l57, zw_g97, zw_l97, zw_g100, zw_l100, zw_g200, zw_l200, zw_g999, zw_l999, zw_g9999, zw_l9999]
    refine ⟨fun q => ⟨(h0, j, x + 1, 0), by dsimp only; omega, some (.int (nI y)), s6, ?_, rfl, by omega, hX, hP, hf, kk⟩, fun q => ⟨V, j, x, y, rfl, hxy, by omega, hX, hP, ?_⟩⟩
    · subst q
      have := zof_skip V j (16 * x + vn V) (16 - vn V) (fun i h1 h2 z => by have := z.2; omega)
      rw [show 16 * x + vn V + (16 - vn V) = 16 * (x + 1) by omega] at this
      rw [this]
    · have es := zof_s V j (16 * x + y)
      have hp : zpi (vn V) (16 * x + y) := ⟨by omega, by omega⟩
      unfold zof1 at es
      rw [if_pos hp] at es
      have ez := (zob_1 (s := zof V j (16 * x + y)) (by omega)).1
      have el : (nI (zof V j (16 * x + y)).2 ≤ nI (zpm V j (16 * x + y))) = ((zof V j (16 * x + y)).2 ≤ zpm V j (16 * x + y)) := nI_leP (by omega) (by omega)
      have go : ∀ h', h' = h → ((zof V j (16 * x + y)).1 = 0 ∨ zpm V j (16 * x + y) < (zof V j (16 * x + y)).2) → ∃ b9 : zq_H × Nat × Nat × Nat, (vn V - b9.2.2.1) * 20 - 1 - b9.2.2.2 < (vn V - x) * 20 - 1 - y ∧ I_xo65 V Q b9 [some (.ref 0), some (.int (nI j)), some (.int (nI (16 * x + y))), some (.int (nI (zpm V j (16 * x + y)))), some (.int (nI x)), some (.int (nI (y + 1))), some (.int (nI (zpm V j (16 * x + y))))] [] h' := by
        intro h' e q3
        subst e
        rw [if_pos q3] at es
        refine ⟨(h0, j, x, y + 1), by dsimp only; omega, some (.int (nI (zpm V j (16 * x + y)))), ?_, rfl, by omega, hX, hP, hf, kk⟩
        show _ = [_, _, some (Value.int (zob (zof V j (16 * x + y + 1)))), some (Value.int (nI (zof V j (16 * x + y + 1)).2)), _, _, _]
        rw [es]
        rfl
      simp only [xX11_offer_95, xX11_offer_101, xX11_offer_113, ez, el, z16a, nI_1, zi_push, zi_iload, zi_lload, zi_aload, zi_istore, zi_astore, zi_lstore, zi_iinc, zi_i2, zi_i1, zi_idv, zi_l2, zi_ldv, zi_lsh, zi_i2l, zi_l2i, zi_lcmp, zi_dup, zi_dup2, zi_pop, zi_if1, zi_if2, zi_getI, zi_getL, zi_getR, zi_putI, zi_putZ, zi_putL, zi_aldI, zi_aldL, zi_astI, zi_astZ, zi_astL, zi_alen, zi_iret, zi_zret, zi_lret, zi_vret, zi_callV, zi_callS, zi_sw, zi_copyI, zi_copyL, zi_m2, zi_m1, zi_sval, zi_scod, zi_fmt, zi_balen, zi_bald, zi_bret, zi_callT, zq_nth, zq_put1, zq_put2, zq_clr, zq_nl, zq_tk, zq_ps, zq_sw, zq_l0, zq_a, zq_a1, List.length_cons, List.length_nil, List.nil_append, List.cons_append, List.append_nil, List.replicate, Nat.reduceAdd, Nat.reduceSub, Nat.reduceLeDiff, true_and, and_true, List.append_eq, List.cons.injEq, Value.int.injEq, Value.long.injEq, Value.ref.injEq, exists_and_left, exists_eq_left', and_assoc, zc_b, zc_0, zc_1, zc_10, zc_01, lg_cmp_ge, lg_cmp_le, lg_cmp_gt, lg_cmp_lt, lg_cmp_eq, zw_le, zw_lt, reduceIte, true_or, or_true, zw_g0, zw_l0, zw_g1, zw_l1, zw_g2, zw_l2, zw_g3, zw_l3, zw_g5, zw_l5, zw_g6, zw_l6, zw_g7, zw_l7, zw_g9, zw_l9, zw_g10, zw_l10, zw_g15, zw_l15, zw_g16, zw_l16, zw_g48, zw_l48, zw_g50, zw_l50, zw_g57, zw_l57, zw_g97, zw_l97, zw_g100, zw_l100, zw_g200, zw_l200, zw_g999, zw_l999, zw_g9999, zw_l9999]
      refine ⟨fun q3 => go h rfl (Or.inl q3), fun q3 => ⟨fun q4 => ?_, fun q4 => go h rfl (Or.inr (by omega))⟩⟩
      rw [if_neg (show ¬ ((zof V j (16 * x + y)).1 = 0 ∨ zpm V j (16 * x + y) < (zof V j (16 * x + y)).2) by omega)] at es
      refine ⟨(h0, j, x, y + 1), by dsimp only; omega, some (.int (nI (zpm V j (16 * x + y)))), ?_, rfl, by omega, hX, hP, hf, kk⟩
      show _ = [_, _, some (Value.int (zob (zof V j (16 * x + y + 1)))), some (Value.int (nI (zof V j (16 * x + y + 1)).2)), _, _, _]
      rw [es]
