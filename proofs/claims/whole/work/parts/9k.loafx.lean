/-! ===== loaf of the class, by the exchange; both joined ===== -/
def sp_anew : zq_Sp := fun args h Q => args = [.ref 12] ∧ ∀ h', h'.2 12 2 = 0 → h'.1 12 3 = nI 0 → h'.1 12 4 = nI 0 → zq_fr [12] h h' → Q none h'
theorem ok_anew : zq_M yX0_startAnew cX0_startAnew 1 none 0 0 sp_anew := by
  refine mX0_startAnew (fun args h Q hs => ?_)
  obtain ⟨rfl, k⟩ := hs
  refine ⟨Nat.le_of_ble_eq_true rfl, ?_⟩
  simp only [xX0_startAnew_0, zi_push, zi_iload, zi_lload, zi_aload, zi_istore, zi_astore, zi_lstore, zi_iinc, zi_i2, zi_i1, zi_idv, zi_l2, zi_ldv, zi_lsh, zi_i2l, zi_l2i, zi_lcmp, zi_dup, zi_dup2, zi_pop, zi_if1, zi_if2, zi_getI, zi_getL, zi_getR, zi_putI, zi_putZ, zi_putL, zi_aldI, zi_aldL, zi_astI, zi_astZ, zi_astL, zi_alen, zi_iret, zi_zret, zi_lret, zi_vret, zi_callV, zi_callS, zi_sw, zi_copyI, zi_copyL, zi_m2, zi_m1, zi_sval, zi_scod, zi_fmt, zi_balen, zi_bald, zi_bret, zi_callT, zq_nth, zq_put1, zq_put2, zq_clr, zq_nl, zq_tk, zq_ps, zq_sw, zq_l0, zq_a, zq_a1, List.length_cons, List.length_nil, List.nil_append, List.cons_append, List.append_nil, List.replicate, Nat.reduceAdd, Nat.reduceSub, Nat.reduceLeDiff, true_and, and_true, List.append_eq, List.cons.injEq, Value.int.injEq, Value.long.injEq, Value.ref.injEq, exists_and_left, exists_eq_left', and_assoc, zc_b, zc_0, zc_1, zc_10, zc_01, lg_cmp_ge, lg_cmp_le, lg_cmp_gt, lg_cmp_lt, lg_cmp_eq, zw_le, zw_lt, reduceIte, true_or, or_true, zw_g0, zw_l0, zw_g1, zw_l1, zw_g2, zw_l2, zw_g3, zw_l3, zw_g5, zw_l5, zw_g6, zw_l6, zw_g7, zw_l7, zw_g9, zw_l9, zw_g10, zw_l10, zw_g15, zw_l15, zw_g16, zw_l16, zw_g48, zw_l48, zw_g50, zw_l50, zw_g57, zw_l57, zw_g97, zw_l97, zw_g100, zw_l100, zw_g200, zw_l200, zw_g999, zw_l999, zw_g9999, zw_l9999]
  exact k _ (by simp [zq_sI2, zq_sL]) (by simp [zq_sI]; rfl) (by simp [zq_sI]; rfl) (zq_fr_I (zq_fr_I (zq_fr_L zq_fr_rf (by decide)) (by decide)) (by decide))
theorem zlc_D {s : Nat → Int32} {e : Nat} : ∀ t i, i < zlc s e t → zlD s e (zlfp s e i)
  | 0, i, h => absurd h (Nat.not_lt_zero _)
  | t + 1, i, h => by
    rw [zlc] at h
    split at h
    · next q =>
      by_cases y : i = t
      · rw [y]
        exact q.2
      · exact zlc_D t i (by rw [q.1]; omega)
    · exact zlc_D t i h
theorem ZV_Lf {V : zV} (hV : ZV V) : ZV (vLf V) := by
  refine ZV_Lg hV (fun i hi => ?_) (fun i hi => ?_)
  · show nI (zlcu (vsg V) (min (vs V) 64) i) = 0 ∨ nI (zlcu (vsg V) (min (vs V) 64) i) = 1
    rcases zlcu_01 (vsg V) (min (vs V) 64) i with e | e
    · rw [e]
      exact Or.inl rfl
    · rw [e]
      exact Or.inr rfl
  · have hD := zlc_D 16 i hi
    refine ⟨zlcr (vsg V) (min (vs V) 64) i, zlra (vsg V) (min (vs V) 64) i, rfl, hD.2, (zdv_eq hD.1).2, rfl, ?_⟩
    unfold zlra
    split
    · next q =>
      have := (zlv_eq (by decide) q).2
      omega
    · exact Nat.zero_le _
def zlff : List Nat := [1, 9, 10, 11, 12, 15, 40, 41, 42, 43, 44, 45, 46, 47, 51]
def sp_xLoaf (V : zV) (args : List Value) (h : zq_H) (Q Q2 : zq_Q) : Prop := args = [.ref 0] ∧ ZV V ∧ XC V h ∧ XT (vs V) (vsg V) h ∧
  (zlfP (vsg V) (vs V) = vs V → ∀ h', XC (vLf V) h' → XT 0 (vsg V) h' → zq_fr zlff h h' → Q2 (some (.int (nI (zlfN (vsg V) (vs V))))) h') ∧
  (¬ zlfP (vsg V) (vs V) = vs V → ∀ h', XT 0 (vsg V) h' → zq_fr zlfx h h' → Q (some (.int (-1 - nI (zlfP (vsg V) (vs V))))) h')
theorem zxA_out {p : Nat} (hp : p ∉ zlff) : zxA p = p := by
  have h1 : ¬ (40 ≤ p ∧ p < 44) := fun z => hp (by
    have : p = 40 ∨ p = 41 ∨ p = 42 ∨ p = 43 := by omega
    rcases this with rfl | rfl | rfl | rfl <;> decide)
  have h2 : ¬ (44 ≤ p ∧ p < 48) := fun z => hp (by
    have : p = 44 ∨ p = 45 ∨ p = 46 ∨ p = 47 := by omega
    rcases this with rfl | rfl | rfl | rfl <;> decide)
  unfold zxA
  rw [if_neg h1, if_neg h2]
theorem zxA_fr {ps : List Nat} {h h1 : zq_H} (f : zq_fr ps h h1) (d : ∀ p ∈ ps, p ∈ zlff) : zq_fr zlff h (zxh zxA h1) := by
  intro p hp
  show h1.1 (zxA p) = h.1 p ∧ h1.2 (zxA p) = h.2 p
  rw [zxA_out hp]
  exact f p (fun q => hp (d p q))
theorem ok_xLoaf (V : zV) : zq_M2 zxA yX11_loaf cX11_loaf 3 (some .int) 6 (sp_xLoaf V) := by
  refine mW11_loaf ok_xLread (by decide) ok_xClear (by decide) ok_xFault (by decide) ok_anew (by decide) ok_renewWorths (by decide) (fun args h Q Q2 hs => ?_)
  obtain ⟨rfl, hV, hX, hT, k1, k2⟩ := hs
  refine ⟨Nat.le_of_ble_eq_true rfl, ?_⟩
  simp only [xW11_loaf_0, zi_push, zi_iload, zi_lload, zi_aload, zi_istore, zi_astore, zi_lstore, zi_iinc, zi_i2, zi_i1, zi_idv, zi_l2, zi_ldv, zi_lsh, zi_i2l, zi_l2i, zi_lcmp, zi_dup, zi_dup2, zi_pop, zi_if1, zi_if2, zi_getI, zi_getL, zi_getR, zi_putI, zi_putZ, zi_putL, zi_aldI, zi_aldL, zi_astI, zi_astZ, zi_astL, zi_alen, zi_iret, zi_zret, zi_lret, zi_vret, zi_callV, zi_callS, zi_sw, zi_copyI, zi_copyL, zi_m2, zi_m1, zi_sval, zi_scod, zi_fmt, zi_balen, zi_bald, zi_bret, zi_callT, zq_nth, zq_put1, zq_put2, zq_clr, zq_nl, zq_tk, zq_ps, zq_sw, zq_l0, zq_a, zq_a1, List.length_cons, List.length_nil, List.nil_append, List.cons_append, List.append_nil, List.replicate, Nat.reduceAdd, Nat.reduceSub, Nat.reduceLeDiff, true_and, and_true, List.append_eq, List.cons.injEq, Value.int.injEq, Value.long.injEq, Value.ref.injEq, exists_and_left, exists_eq_left', and_assoc, zc_b, zc_0, zc_1, zc_10, zc_01, lg_cmp_ge, lg_cmp_le, lg_cmp_gt, lg_cmp_lt, lg_cmp_eq, zw_le, zw_lt, reduceIte, true_or, or_true, zw_g0, zw_l0, zw_g1, zw_l1, zw_g2, zw_l2, zw_g3, zw_l3, zw_g5, zw_l5, zw_g6, zw_l6, zw_g7, zw_l7, zw_g9, zw_l9, zw_g10, zw_l10, zw_g15, zw_l15, zw_g16, zw_l16, zw_g48, zw_l48, zw_g50, zw_l50, zw_g57, zw_l57, zw_g97, zw_l97, zw_g100, zw_l100, zw_g200, zw_l200, zw_g999, zw_l999, zw_g9999, zw_l9999]
  refine ⟨vs V, vsg V, rfl, hT, fun q h1 t1 e3 r1 f1 => ?_, fun q h1 t1 e1 f1 => ?_⟩
  · simp only [zi_push, zi_iload, zi_lload, zi_aload, zi_istore, zi_astore, zi_lstore, zi_iinc, zi_i2, zi_i1, zi_idv, zi_l2, zi_ldv, zi_lsh, zi_i2l, zi_l2i, zi_lcmp, zi_dup, zi_dup2, zi_pop, zi_if1, zi_if2, zi_getI, zi_getL, zi_getR, zi_putI, zi_putZ, zi_putL, zi_aldI, zi_aldL, zi_astI, zi_astZ, zi_astL, zi_alen, zi_iret, zi_zret, zi_lret, zi_vret, zi_callV, zi_callS, zi_sw, zi_copyI, zi_copyL, zi_m2, zi_m1, zi_sval, zi_scod, zi_fmt, zi_balen, zi_bald, zi_bret, zi_callT, zq_nth, zq_put1, zq_put2, zq_clr, zq_nl, zq_tk, zq_ps, zq_sw, zq_l0, zq_a, zq_a1, List.length_cons, List.length_nil, List.nil_append, List.cons_append, List.append_nil, List.replicate, Nat.reduceAdd, Nat.reduceSub, Nat.reduceLeDiff, true_and, and_true, List.append_eq, List.cons.injEq, Value.int.injEq, Value.long.injEq, Value.ref.injEq, exists_and_left, exists_eq_left', and_assoc, zc_b, zc_0, zc_1, zc_10, zc_01, lg_cmp_ge, lg_cmp_le, lg_cmp_gt, lg_cmp_lt, lg_cmp_eq, zw_le, zw_lt, reduceIte, true_or, or_true, zw_g0, zw_l0, zw_g1, zw_l1, zw_g2, zw_l2, zw_g3, zw_l3, zw_g5, zw_l5, zw_g6, zw_l6, zw_g7, zw_l7, zw_g9, zw_l9, zw_g10, zw_l10, zw_g15, zw_l15, zw_g16, zw_l16, zw_g48, zw_l48, zw_g50, zw_l50, zw_g57, zw_l57, zw_g97, zw_l97, zw_g100, zw_l100, zw_g200, zw_l200, zw_g999, zw_l999, zw_g9999, zw_l9999]
    refine ⟨_, _, rfl, t1, fun h2 t2 e2 f2 => ?_⟩
    have f02 := zq_fr_t f1 f2 (by decide)
    simp only [zc_10, xW11_loaf_31, zi_swapA, not_true_eq_false, not_false_eq_true, forall_const, true_and, and_true, false_and, and_false, if_true, if_false, reduceIte, implies_true, and_self, ite_self, true_or, or_true, false_or, or_false, true_implies, false_implies, Classical.not_not, false_imp_iff, not_false_iff, zi_push, zi_iload, zi_lload, zi_aload, zi_istore, zi_astore, zi_lstore, zi_iinc, zi_i2, zi_i1, zi_idv, zi_l2, zi_ldv, zi_lsh, zi_i2l, zi_l2i, zi_lcmp, zi_dup, zi_dup2, zi_pop, zi_if1, zi_if2, zi_getI, zi_getL, zi_getR, zi_putI, zi_putZ, zi_putL, zi_aldI, zi_aldL, zi_astI, zi_astZ, zi_astL, zi_alen, zi_iret, zi_zret, zi_lret, zi_vret, zi_callV, zi_callS, zi_sw, zi_copyI, zi_copyL, zi_m2, zi_m1, zi_sval, zi_scod, zi_fmt, zi_balen, zi_bald, zi_bret, zi_callT, zq_nth, zq_put1, zq_put2, zq_clr, zq_nl, zq_tk, zq_ps, zq_sw, zq_l0, zq_a, zq_a1, List.length_cons, List.length_nil, List.nil_append, List.cons_append, List.append_nil, List.replicate, Nat.reduceAdd, Nat.reduceSub, Nat.reduceLeDiff, true_and, and_true, List.append_eq, List.cons.injEq, Value.int.injEq, Value.long.injEq, Value.ref.injEq, exists_and_left, exists_eq_left', and_assoc, zc_b, zc_0, zc_1, zc_10, zc_01, lg_cmp_ge, lg_cmp_le, lg_cmp_gt, lg_cmp_lt, lg_cmp_eq, zw_le, zw_lt, reduceIte, true_or, or_true, zw_g0, zw_l0, zw_g1, zw_l1, zw_g2, zw_l2, zw_g3, zw_l3, zw_g5, zw_l5, zw_g6, zw_l6, zw_g7, zw_l7, zw_g9, zw_l9, zw_g10, zw_l10, zw_g15, zw_l15, zw_g16, zw_l16, zw_g48, zw_l48, zw_g50, zw_l50, zw_g57, zw_l57, zw_g97, zw_l97, zw_g100, zw_l100, zw_g200, zw_l200, zw_g999, zw_l999, zw_g9999, zw_l9999]
    have fs : zq_fr zlff h (zxh zxA h2) := zxA_fr f02 (by decide)
    have e40 : (zxh zxA h2).1 40 3 = nI (zlfN (vsg V) (vs V)) := by
      show h2.1 44 3 = _
      rw [(f2 44 (by decide)).1]
      exact e3
    have r40 : zlrow (vsg V) (min (vs V) 64) (zlfN (vsg V) (vs V)) 41 42 43 (zxh zxA h2) := fun i hi => by
      show h2.1 45 i = _ ∧ h2.1 46 i = _ ∧ h2.1 47 i = _
      rw [(f2 45 (by decide)).1, (f2 46 (by decide)).1, (f2 47 (by decide)).1]
      exact r1 i hi
    have t3 : XT 0 (vsg V) (zxh zxA h2) := t2
    have a5 := (fs 5 (by decide)).1
    have a6 := (fs 6 (by decide)).1
    have a7 := (fs 7 (by decide)).1
    have a48 := (fs 48 (by decide)).1
    have a49 := (fs 49 (by decide)).1
    have c11 : (zxh zxA h2).1 11 = h.1 11 := (f02 11 (by decide)).1
    generalize zxh zxA h2 = h3 at fs e40 r40 t3 a5 a6 a7 a48 a49 c11 ⊢
    obtain ⟨x1, x2, x3, x4, x5, x6, x7⟩ := hX
    have el : zxl zxA [some (Value.ref 0), some (Value.int 1), some (Value.ref 40)] = [some (Value.ref 0), some (Value.int 1), some (Value.ref 44)] := rfl
    simp only [el, zi_push, zi_iload, zi_lload, zi_aload, zi_istore, zi_astore, zi_lstore, zi_iinc, zi_i2, zi_i1, zi_idv, zi_l2, zi_ldv, zi_lsh, zi_i2l, zi_l2i, zi_lcmp, zi_dup, zi_dup2, zi_pop, zi_if1, zi_if2, zi_getI, zi_getL, zi_getR, zi_putI, zi_putZ, zi_putL, zi_aldI, zi_aldL, zi_astI, zi_astZ, zi_astL, zi_alen, zi_iret, zi_zret, zi_lret, zi_vret, zi_callV, zi_callS, zi_sw, zi_copyI, zi_copyL, zi_m2, zi_m1, zi_sval, zi_scod, zi_fmt, zi_balen, zi_bald, zi_bret, zi_callT, zq_nth, zq_put1, zq_put2, zq_clr, zq_nl, zq_tk, zq_ps, zq_sw, zq_l0, zq_a, zq_a1, List.length_cons, List.length_nil, List.nil_append, List.cons_append, List.append_nil, List.replicate, Nat.reduceAdd, Nat.reduceSub, Nat.reduceLeDiff, true_and, and_true, List.append_eq, List.cons.injEq, Value.int.injEq, Value.long.injEq, Value.ref.injEq, exists_and_left, exists_eq_left', and_assoc, zc_b, zc_0, zc_1, zc_10, zc_01, lg_cmp_ge, lg_cmp_le, lg_cmp_gt, lg_cmp_lt, lg_cmp_eq, zw_le, zw_lt, reduceIte, true_or, or_true, zw_g0, zw_l0, zw_g1, zw_l1, zw_g2, zw_l2, zw_g3, zw_l3, zw_g5, zw_l5, zw_g6, zw_l6, zw_g7, zw_l7, zw_g9, zw_l9, zw_g10, zw_l10, zw_g15, zw_l15, zw_g16, zw_l16, zw_g48, zw_l48, zw_g50, zw_l50, zw_g57, zw_l57, zw_g97, zw_l97, zw_g100, zw_l100, zw_g200, zw_l200, zw_g999, zw_l999, zw_g9999, zw_l9999]
    refine ⟨rfl, fun h4 b1 b2 b3 f4 => ?_⟩
    simp only [zi_push, zi_iload, zi_lload, zi_aload, zi_istore, zi_astore, zi_lstore, zi_iinc, zi_i2, zi_i1, zi_idv, zi_l2, zi_ldv, zi_lsh, zi_i2l, zi_l2i, zi_lcmp, zi_dup, zi_dup2, zi_pop, zi_if1, zi_if2, zi_getI, zi_getL, zi_getR, zi_putI, zi_putZ, zi_putL, zi_aldI, zi_aldL, zi_astI, zi_astZ, zi_astL, zi_alen, zi_iret, zi_zret, zi_lret, zi_vret, zi_callV, zi_callS, zi_sw, zi_copyI, zi_copyL, zi_m2, zi_m1, zi_sval, zi_scod, zi_fmt, zi_balen, zi_bald, zi_bret, zi_callT, zq_nth, zq_put1, zq_put2, zq_clr, zq_nl, zq_tk, zq_ps, zq_sw, zq_l0, zq_a, zq_a1, List.length_cons, List.length_nil, List.nil_append, List.cons_append, List.append_nil, List.replicate, Nat.reduceAdd, Nat.reduceSub, Nat.reduceLeDiff, true_and, and_true, List.append_eq, List.cons.injEq, Value.int.injEq, Value.long.injEq, Value.ref.injEq, exists_and_left, exists_eq_left', and_assoc, zc_b, zc_0, zc_1, zc_10, zc_01, lg_cmp_ge, lg_cmp_le, lg_cmp_gt, lg_cmp_lt, lg_cmp_eq, zw_le, zw_lt, reduceIte, true_or, or_true, zw_g0, zw_l0, zw_g1, zw_l1, zw_g2, zw_l2, zw_g3, zw_l3, zw_g5, zw_l5, zw_g6, zw_l6, zw_g7, zw_l7, zw_g9, zw_l9, zw_g10, zw_l10, zw_g15, zw_l15, zw_g16, zw_l16, zw_g48, zw_l48, zw_g50, zw_l50, zw_g57, zw_l57, zw_g97, zw_l97, zw_g100, zw_l100, zw_g200, zw_l200, zw_g999, zw_l999, zw_g9999, zw_l9999]
    have hN : zlfN (vsg V) (vs V) ≤ 16 := zlfN_le
    have f5 : zq_fr [12, 15] h3 (zq_setI h4 15 7 0) := zq_fr_I (zq_fr_w f4 (by decide)) (by decide)
    have hL : XL (zlfN (vsg V) (vs V)) (fun i => nI (zlcr (vsg V) (min (vs V) 64) i)) (fun i => nI (zlra (vsg V) (min (vs V) 64) i)) (fun i => nI (zlcu (vsg V) (min (vs V) 64) i)) h3 := ⟨hN, e40, r40⟩
    have hG : XG (vg V) (vta V) (vde V) h3 := by
      unfold XG at x2 ⊢
      rw [a5, a6, a7]
      exact x2
    have hP : XP (vL V) (vcd V) h3 := by
      unfold XP at x3 ⊢
      rw [a48, a49]
      exact x3
    have h0 : XW0 h3 := by
      unfold XW0 at x7 ⊢
      rw [c11]
      exact x7
    refine ⟨_, _, _, _, _, _, _, _, _, rfl, XL_fr hL f5 (by decide), XG_fr hG f5 (by decide), hV.2.2.1, XP_fr hP f5 (by decide), XW0_fr h0 f5 (by decide), fun h6 w6 w0 f6 => ?_⟩
    simp only [zi_push, zi_iload, zi_lload, zi_aload, zi_istore, zi_astore, zi_lstore, zi_iinc, zi_i2, zi_i1, zi_idv, zi_l2, zi_ldv, zi_lsh, zi_i2l, zi_l2i, zi_lcmp, zi_dup, zi_dup2, zi_pop, zi_if1, zi_if2, zi_getI, zi_getL, zi_getR, zi_putI, zi_putZ, zi_putL, zi_aldI, zi_aldL, zi_astI, zi_astZ, zi_astL, zi_alen, zi_iret, zi_zret, zi_lret, zi_vret, zi_callV, zi_callS, zi_sw, zi_copyI, zi_copyL, zi_m2, zi_m1, zi_sval, zi_scod, zi_fmt, zi_balen, zi_bald, zi_bret, zi_callT, zq_nth, zq_put1, zq_put2, zq_clr, zq_nl, zq_tk, zq_ps, zq_sw, zq_l0, zq_a, zq_a1, List.length_cons, List.length_nil, List.nil_append, List.cons_append, List.append_nil, List.replicate, Nat.reduceAdd, Nat.reduceSub, Nat.reduceLeDiff, true_and, and_true, List.append_eq, List.cons.injEq, Value.int.injEq, Value.long.injEq, Value.ref.injEq, exists_and_left, exists_eq_left', and_assoc, zc_b, zc_0, zc_1, zc_10, zc_01, lg_cmp_ge, lg_cmp_le, lg_cmp_gt, lg_cmp_lt, lg_cmp_eq, zw_le, zw_lt, reduceIte, true_or, or_true, zw_g0, zw_l0, zw_g1, zw_l1, zw_g2, zw_l2, zw_g3, zw_l3, zw_g5, zw_l5, zw_g6, zw_l6, zw_g7, zw_l7, zw_g9, zw_l9, zw_g10, zw_l10, zw_g15, zw_l15, zw_g16, zw_l16, zw_g48, zw_l48, zw_g50, zw_l50, zw_g57, zw_l57, zw_g97, zw_l97, zw_g100, zw_l100, zw_g200, zw_l200, zw_g999, zw_l999, zw_g9999, zw_l9999]
    have hL6 := XL_fr (XL_fr hL f5 (by decide)) f6 (by decide)
    rw [hL6.2.1]
    refine k1 q h6 (XC_Lg (V := V) hL6 (XG_fr (XG_fr hG f5 (by decide)) f6 (by decide)) (XP_fr (XP_fr hP f5 (by decide)) f6 (by decide)) ⟨hN, fun i hi => ?_, ⟨?_, Nat.zero_le _⟩, fun j hj => absurd hj (Nat.not_lt_zero _), 0, by decide, ?_, fun j hj => Nat.zero_testBit j⟩ ⟨Nat.zero_le _, ?_, fun i hi => absurd hi (Nat.not_lt_zero _)⟩ w6 w0) (XT_fr (XT_fr t3 f5 (by decide)) f6 (by decide)) (zq_fr_t (zq_fr_t fs f5 (by decide)) f6 (by decide))
    · rw [(f6 12 (by decide)).2]
      show zH (h4.2 12 2) i = -1
      rw [b1]
      exact zH_0 i (Nat.lt_of_lt_of_le hi hN)
    · rw [(f6 12 (by decide)).1, zq_sI, if_neg (by omega)]
      exact b2
    · rw [(f6 12 (by decide)).1, zq_sI, if_neg (by omega)]
      exact b3
    · rw [(f6 15 (by decide)).1, zq_sI, if_pos ⟨rfl, rfl⟩]
      rfl
  · simp only [zi_push, zi_iload, zi_lload, zi_aload, zi_istore, zi_astore, zi_lstore, zi_iinc, zi_i2, zi_i1, zi_idv, zi_l2, zi_ldv, zi_lsh, zi_i2l, zi_l2i, zi_lcmp, zi_dup, zi_dup2, zi_pop, zi_if1, zi_if2, zi_getI, zi_getL, zi_getR, zi_putI, zi_putZ, zi_putL, zi_aldI, zi_aldL, zi_astI, zi_astZ, zi_astL, zi_alen, zi_iret, zi_zret, zi_lret, zi_vret, zi_callV, zi_callS, zi_sw, zi_copyI, zi_copyL, zi_m2, zi_m1, zi_sval, zi_scod, zi_fmt, zi_balen, zi_bald, zi_bret, zi_callT, zq_nth, zq_put1, zq_put2, zq_clr, zq_nl, zq_tk, zq_ps, zq_sw, zq_l0, zq_a, zq_a1, List.length_cons, List.length_nil, List.nil_append, List.cons_append, List.append_nil, List.replicate, Nat.reduceAdd, Nat.reduceSub, Nat.reduceLeDiff, true_and, and_true, List.append_eq, List.cons.injEq, Value.int.injEq, Value.long.injEq, Value.ref.injEq, exists_and_left, exists_eq_left', and_assoc, zc_b, zc_0, zc_1, zc_10, zc_01, lg_cmp_ge, lg_cmp_le, lg_cmp_gt, lg_cmp_lt, lg_cmp_eq, zw_le, zw_lt, reduceIte, true_or, or_true, zw_g0, zw_l0, zw_g1, zw_l1, zw_g2, zw_l2, zw_g3, zw_l3, zw_g5, zw_l5, zw_g6, zw_l6, zw_g7, zw_l7, zw_g9, zw_l9, zw_g10, zw_l10, zw_g15, zw_l15, zw_g16, zw_l16, zw_g48, zw_l48, zw_g50, zw_l50, zw_g57, zw_l57, zw_g97, zw_l97, zw_g100, zw_l100, zw_g200, zw_l200, zw_g999, zw_l999, zw_g9999, zw_l9999]
    refine ⟨_, _, rfl, t1, fun h2 t2 e2 f2 => ?_⟩
    simp only [xW11_loaf_23, not_true_eq_false, not_false_eq_true, forall_const, true_and, and_true, false_and, and_false, if_true, if_false, reduceIte, implies_true, and_self, ite_self, true_or, or_true, false_or, or_false, true_implies, false_implies, Classical.not_not, false_imp_iff, not_false_iff, zi_push, zi_iload, zi_lload, zi_aload, zi_istore, zi_astore, zi_lstore, zi_iinc, zi_i2, zi_i1, zi_idv, zi_l2, zi_ldv, zi_lsh, zi_i2l, zi_l2i, zi_lcmp, zi_dup, zi_dup2, zi_pop, zi_if1, zi_if2, zi_getI, zi_getL, zi_getR, zi_putI, zi_putZ, zi_putL, zi_aldI, zi_aldL, zi_astI, zi_astZ, zi_astL, zi_alen, zi_iret, zi_zret, zi_lret, zi_vret, zi_callV, zi_callS, zi_sw, zi_copyI, zi_copyL, zi_m2, zi_m1, zi_sval, zi_scod, zi_fmt, zi_balen, zi_bald, zi_bret, zi_callT, zq_nth, zq_put1, zq_put2, zq_clr, zq_nl, zq_tk, zq_ps, zq_sw, zq_l0, zq_a, zq_a1, List.length_cons, List.length_nil, List.nil_append, List.cons_append, List.append_nil, List.replicate, Nat.reduceAdd, Nat.reduceSub, Nat.reduceLeDiff, true_and, and_true, List.append_eq, List.cons.injEq, Value.int.injEq, Value.long.injEq, Value.ref.injEq, exists_and_left, exists_eq_left', and_assoc, zc_b, zc_0, zc_1, zc_10, zc_01, lg_cmp_ge, lg_cmp_le, lg_cmp_gt, lg_cmp_lt, lg_cmp_eq, zw_le, zw_lt, reduceIte, true_or, or_true, zw_g0, zw_l0, zw_g1, zw_l1, zw_g2, zw_l2, zw_g3, zw_l3, zw_g5, zw_l5, zw_g6, zw_l6, zw_g7, zw_l7, zw_g9, zw_l9, zw_g10, zw_l10, zw_g15, zw_l15, zw_g16, zw_l16, zw_g48, zw_l48, zw_g50, zw_l50, zw_g57, zw_l57, zw_g97, zw_l97, zw_g100, zw_l100, zw_g200, zw_l200, zw_g999, zw_l999, zw_g9999, zw_l9999]
    refine ⟨_, rfl, by rw [e2]; exact e1, ?_⟩
    simp only [zi_push, zi_iload, zi_lload, zi_aload, zi_istore, zi_astore, zi_lstore, zi_iinc, zi_i2, zi_i1, zi_idv, zi_l2, zi_ldv, zi_lsh, zi_i2l, zi_l2i, zi_lcmp, zi_dup, zi_dup2, zi_pop, zi_if1, zi_if2, zi_getI, zi_getL, zi_getR, zi_putI, zi_putZ, zi_putL, zi_aldI, zi_aldL, zi_astI, zi_astZ, zi_astL, zi_alen, zi_iret, zi_zret, zi_lret, zi_vret, zi_callV, zi_callS, zi_sw, zi_copyI, zi_copyL, zi_m2, zi_m1, zi_sval, zi_scod, zi_fmt, zi_balen, zi_bald, zi_bret, zi_callT, zq_nth, zq_put1, zq_put2, zq_clr, zq_nl, zq_tk, zq_ps, zq_sw, zq_l0, zq_a, zq_a1, List.length_cons, List.length_nil, List.nil_append, List.cons_append, List.append_nil, List.replicate, Nat.reduceAdd, Nat.reduceSub, Nat.reduceLeDiff, true_and, and_true, List.append_eq, List.cons.injEq, Value.int.injEq, Value.long.injEq, Value.ref.injEq, exists_and_left, exists_eq_left', and_assoc, zc_b, zc_0, zc_1, zc_10, zc_01, lg_cmp_ge, lg_cmp_le, lg_cmp_gt, lg_cmp_lt, lg_cmp_eq, zw_le, zw_lt, reduceIte, true_or, or_true, zw_g0, zw_l0, zw_g1, zw_l1, zw_g2, zw_l2, zw_g3, zw_l3, zw_g5, zw_l5, zw_g6, zw_l6, zw_g7, zw_l7, zw_g9, zw_l9, zw_g10, zw_l10, zw_g15, zw_l15, zw_g16, zw_l16, zw_g48, zw_l48, zw_g50, zw_l50, zw_g57, zw_l57, zw_g97, zw_l97, zw_g100, zw_l100, zw_g200, zw_l200, zw_g999, zw_l999, zw_g9999, zw_l9999]
    exact k2 q h2 t2 (zq_fr_t f1 f2 (by decide))
/-- as zJ, where the class' call may change places: by Q2 -/
def zJ2 (V : zV) (sx : zV → List Value → zq_H → zq_Q → zq_Q → Prop) (sm : zq_Sp) (args : List Value) : Prop := ∃ r V' f, ZV V' ∧ (∀ h Q Q2, XA V h → (f = false → ∀ h', XA V' h' → zXfr h h' → Q (some (.int r)) h') → (f = true → ∀ h', XA V' h' → zXfr h h' → Q2 (some (.int r)) h') → ∃ U, sx U (.ref 0 :: args) h Q Q2) ∧ ∀ b h Q, b < 2147483648 → MA b V h → (∀ h', MA (b + 1) V' h' → zMfr h h' → Q (some (.int r)) h') → sm (.ref 56 :: args) h Q
theorem j_loaf {V : zV} (hV : ZV V) : zJ2 V sp_xLoaf (zE2 sp_mLoaf) [] := by
  by_cases q : zlfP (vsg V) (vs V) = vs V
  · refine ⟨nI (zlfN (vsg V) (vs V)), vLf V, true, ZV_Lf hV, fun h Q Q2 hA k1 k2 => ⟨V, rfl, hV, hA.1, hA.2.1, fun _ h' x t f => k2 rfl h' ⟨x, t, XR_fr hA.2.2 f (by decide)⟩ (zXf f (by decide)), fun z => absurd q z⟩, fun b h Q hb hA k => ⟨b, V, rfl, hb, hA.1, hA.2.1, fun _ h' x t f => k h' ⟨x, t, MR_fm hA.2.2 f (by decide)⟩ (zMf f (by decide)), fun z => absurd q z⟩⟩
  · refine ⟨-1 - nI (zlfP (vsg V) (vs V)), vSX V 0 (vsg V), false, hV, fun h Q Q2 hA k1 k2 => ⟨V, rfl, hV, hA.1, hA.2.1, fun z => absurd z q, fun _ h' t f => k1 rfl h' ⟨XC_fr hA.1 f (by decide), t, XR_fr hA.2.2 f (by decide)⟩ (zXf f (by decide))⟩, fun b h Q hb hA k => ⟨b, V, rfl, hb, hA.1, hA.2.1, fun z => absurd z q, fun _ h' t f => k h' ⟨MC_le (MC_fm hA.1 f (by decide)) (Nat.le_succ b), t, MR_fm hA.2.2 f (by decide)⟩ (zMf f (by decide))⟩⟩
