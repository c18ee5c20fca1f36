/-! ===== the row: lists of numbers ===== -/
def sp_rowClearL : zq_Sp := fun args h Q => args = [.ref 3] ∧ ∀ h', XR [] h' → zq_fr [3] h h' → Q none h'
theorem ok_rowClearL : zq_M yX5_clear cX5_clear 1 none 0 0 sp_rowClearL := by
  refine mX5_clear (fun args h Q hs => ?_)
  obtain ⟨rfl, h2⟩ := hs
  refine ⟨Nat.le_of_ble_eq_true rfl, ?_⟩
  simp only [xX5_clear_0, zi_push, zi_iload, zi_lload, zi_aload, zi_istore, zi_astore, zi_lstore, zi_iinc, zi_i2, zi_i1, zi_idv, zi_l2, zi_ldv, zi_lsh, zi_i2l, zi_l2i, zi_lcmp, zi_dup, zi_dup2, zi_pop, zi_if1, zi_if2, zi_getI, zi_getL, zi_getR, zi_putI, zi_putZ, zi_putL, zi_aldI, zi_aldL, zi_astI, zi_astZ, zi_astL, zi_alen, zi_iret, zi_zret, zi_lret, zi_vret, zi_callV, zi_callS, zi_sw, zi_copyI, zi_copyL, zi_m2, zi_m1, zi_sval, zi_scod, zi_fmt, zi_balen, zi_bald, zi_bret, zi_callT, zq_nth, zq_put1, zq_put2, zq_clr, zq_nl, zq_tk, zq_ps, zq_sw, zq_l0, zq_a, zq_a1, List.length_cons, List.length_nil, List.nil_append, List.cons_append, List.append_nil, List.replicate, Nat.reduceAdd, Nat.reduceSub, Nat.reduceLeDiff, true_and, and_true, List.append_eq, List.cons.injEq, Value.int.injEq, Value.long.injEq, Value.ref.injEq, exists_and_left, exists_eq_left', and_assoc, zc_b, zc_0, zc_1, zc_10, zc_01, lg_cmp_ge, lg_cmp_le, lg_cmp_gt, lg_cmp_lt, lg_cmp_eq, zw_le, zw_lt, reduceIte, true_or, or_true, zw_g0, zw_l0, zw_g1, zw_l1, zw_g2, zw_l2, zw_g3, zw_l3, zw_g5, zw_l5, zw_g6, zw_l6, zw_g7, zw_l7, zw_g9, zw_l9, zw_g10, zw_l10, zw_g15, zw_l15, zw_g16, zw_l16, zw_g48, zw_l48, zw_g50, zw_l50, zw_g57, zw_l57, zw_g97, zw_l97, zw_g100, zw_l100, zw_g200, zw_l200, zw_g999, zw_l999, zw_g9999, zw_l9999]
  exact h2 _ ⟨by decide, by simp [zq_sI, nI_0], fun i x q => by simp at q⟩ (zq_fr_I zq_fr_rf (by decide))
def sp_rowAddL : zq_Sp := fun args h Q => ∃ v w, args = [.ref 3, .long v] ∧ XR w h ∧ w.length < 16 ∧ ∀ h', XR (w ++ [v]) h' → zq_fr [3, 4] h h' → Q none h'
theorem zr_app {w : List Int64} {v : Int64} {i : Nat} {x : Int64} (h : (w ++ [v])[i]? = some x) : (i = w.length ∧ x = v) ∨ (i ≠ w.length ∧ w[i]? = some x) := by
  by_cases q : i < w.length
  · rw [List.getElem?_append_left q] at h
    exact Or.inr ⟨by omega, h⟩
  · rw [List.getElem?_append_right (by omega)] at h
    have h1 : i - w.length < 1 := (List.getElem?_eq_some_iff.mp h).1
    have h2 : i = w.length := by omega
    subst h2
    rw [Nat.sub_self] at h
    cases h
    exact Or.inl ⟨rfl, rfl⟩
theorem ok_rowAddL : zq_M yX5_add cX5_add 3 none 0 0 sp_rowAddL := by
  refine mX5_add (fun args h Q hs => ?_)
  obtain ⟨v, w, rfl, ⟨a1, a2, a3⟩, hl, h2⟩ := hs
  refine ⟨Nat.le_of_ble_eq_true rfl, ?_⟩
  simp only [xX5_add_32, xX5_add_12, xX5_add_0, zi_push, zi_iload, zi_lload, zi_aload, zi_istore, zi_astore, zi_lstore, zi_iinc, zi_i2, zi_i1, zi_idv, zi_l2, zi_ldv, zi_lsh, zi_i2l, zi_l2i, zi_lcmp, zi_dup, zi_dup2, zi_pop, zi_if1, zi_if2, zi_getI, zi_getL, zi_getR, zi_putI, zi_putZ, zi_putL, zi_aldI, zi_aldL, zi_astI, zi_astZ, zi_astL, zi_alen, zi_iret, zi_zret, zi_lret, zi_vret, zi_callV, zi_callS, zi_sw, zi_copyI, zi_copyL, zi_m2, zi_m1, zi_sval, zi_scod, zi_fmt, zi_balen, zi_bald, zi_bret, zi_callT, zq_nth, zq_put1, zq_put2, zq_clr, zq_nl, zq_tk, zq_ps, zq_sw, zq_l0, zq_a, zq_a1, List.length_cons, List.length_nil, List.nil_append, List.cons_append, List.append_nil, List.replicate, Nat.reduceAdd, Nat.reduceSub, Nat.reduceLeDiff, true_and, and_true, List.append_eq, List.cons.injEq, Value.int.injEq, Value.long.injEq, Value.ref.injEq, exists_and_left, exists_eq_left', and_assoc, zc_b, zc_0, zc_1, zc_10, zc_01, lg_cmp_ge, lg_cmp_le, lg_cmp_gt, lg_cmp_lt, lg_cmp_eq, zw_le, zw_lt, reduceIte, true_or, or_true, zw_g0, zw_l0, zw_g1, zw_l1, zw_g2, zw_l2, zw_g3, zw_l3, zw_g5, zw_l5, zw_g6, zw_l6, zw_g7, zw_l7, zw_g9, zw_l9, zw_g10, zw_l10, zw_g15, zw_l15, zw_g16, zw_l16, zw_g48, zw_l48, zw_g50, zw_l50, zw_g57, zw_l57, zw_g97, zw_l97, zw_g100, zw_l100, zw_g200, zw_l200, zw_g999, zw_l999, zw_g9999, zw_l9999, zq_sL1, a2]
  rw [show Int32.ofNat 16 = nI 16 from rfl]
  have e1 : (nI 16 ≤ nI w.length) = False := eq_false (nI_ge hl (by decide))
  simp only [e1, not_true_eq_false, not_false_eq_true, forall_const, true_and, and_true, false_and, and_false, if_true, if_false, reduceIte, implies_true, and_self, ite_self, true_or, or_true, false_or, or_false, true_implies, false_implies, Classical.not_not, false_imp_iff, not_false_iff]
  rw [nI_clamp (by omega), nI_1]
  refine ⟨vp_in_nI hl (by decide), h2 _ ⟨by simp; omega, by simp [zq_sI], fun i x q => ?_⟩ (zq_fr_I (zq_fr_L zq_fr_rf (by decide)) (by decide))⟩
  simp only [zq_sI2, zq_sL]
  rcases zr_app q with ⟨q1, q2⟩ | ⟨q1, q2⟩
  · rw [if_pos (by simpa using q1), q2]
  · rw [if_neg (by simpa using q1)]
    exact a3 i x q2
def sp_entersL : zq_Sp := fun args h Q => ∃ v w, args = [.ref 56, .long v] ∧ MR w h ∧ w.length < 16 ∧ ∀ h', MR (w ++ [v]) h' → zq_fm [1] [57] h h' → Q none h'
theorem ok_entersL : zq_M yX12_enters cX12_enters 3 none 0 0 sp_entersL := by
  refine mX12_enters (fun args h Q hs => ?_)
  obtain ⟨v, w, rfl, ⟨a1, a2, a3⟩, hl, h2⟩ := hs
  refine ⟨Nat.le_of_ble_eq_true rfl, ?_⟩
  simp only [xX12_enters_0, zi_push, zi_iload, zi_lload, zi_aload, zi_istore, zi_astore, zi_lstore, zi_iinc, zi_i2, zi_i1, zi_idv, zi_l2, zi_ldv, zi_lsh, zi_i2l, zi_l2i, zi_lcmp, zi_dup, zi_dup2, zi_pop, zi_if1, zi_if2, zi_getI, zi_getL, zi_getR, zi_putI, zi_putZ, zi_putL, zi_aldI, zi_aldL, zi_astI, zi_astZ, zi_astL, zi_alen, zi_iret, zi_zret, zi_lret, zi_vret, zi_callV, zi_callS, zi_sw, zi_copyI, zi_copyL, zi_m2, zi_m1, zi_sval, zi_scod, zi_fmt, zi_balen, zi_bald, zi_bret, zi_callT, zq_nth, zq_put1, zq_put2, zq_clr, zq_nl, zq_tk, zq_ps, zq_sw, zq_l0, zq_a, zq_a1, List.length_cons, List.length_nil, List.nil_append, List.cons_append, List.append_nil, List.replicate, Nat.reduceAdd, Nat.reduceSub, Nat.reduceLeDiff, true_and, and_true, List.append_eq, List.cons.injEq, Value.int.injEq, Value.long.injEq, Value.ref.injEq, exists_and_left, exists_eq_left', and_assoc, zc_b, zc_0, zc_1, zc_10, zc_01, lg_cmp_ge, lg_cmp_le, lg_cmp_gt, lg_cmp_lt, lg_cmp_eq, zw_le, zw_lt, reduceIte, true_or, or_true, zw_g0, zw_l0, zw_g1, zw_l1, zw_g2, zw_l2, zw_g3, zw_l3, zw_g5, zw_l5, zw_g6, zw_l6, zw_g7, zw_l7, zw_g9, zw_l9, zw_g10, zw_l10, zw_g15, zw_l15, zw_g16, zw_l16, zw_g48, zw_l48, zw_g50, zw_l50, zw_g57, zw_l57, zw_g97, zw_l97, zw_g100, zw_l100, zw_g200, zw_l200, zw_g999, zw_l999, zw_g9999, zw_l9999, zq_sL1, a2]
  rw [nI_clamp (by omega), nI_1]
  refine ⟨vp_in_nI (by omega) (by decide), h2 _ ⟨by simp; omega, by simp [zq_sI], fun i x q => ?_⟩ (zq_fm_F (zq_fm_L zq_fm_rf (by decide)) (by decide))⟩
  simp only [zq_sI2, zq_sL]
  rcases zr_app q with ⟨q1, q2⟩ | ⟨q1, q2⟩
  · rw [if_pos (by simpa using q1), q2]
  · rw [if_neg (by simpa using q1)]
    exact a3 i x q2
theorem MR_nil (h : zq_H) : MR [] (zq_setI h 56 1 0) := ⟨by decide, by simp [zq_sI, nI_0], fun i x q => by simp at q⟩
/-! forget, chose -/
def sp_xForget : zq_Sp := fun args h Q => ∃ m on ot, args = [.ref 0] ∧ XK m on ot h ∧ ∀ h', XK 0 on ot h' → zq_fr [15] h h' → Q (some (.int (nI m))) h'
theorem ok_xForget : zq_M yX11_forget cX11_forget 2 (some .int) 1 0 sp_xForget := by
  refine mX11_forget (fun args h Q hs => ?_)
  obtain ⟨m, on, ot, rfl, ⟨a1, a2, a3⟩, h2⟩ := hs
  refine ⟨Nat.le_of_ble_eq_true rfl, ?_⟩
  simp only [xX11_forget_0, zi_push, zi_iload, zi_lload, zi_aload, zi_istore, zi_astore, zi_lstore, zi_iinc, zi_i2, zi_i1, zi_idv, zi_l2, zi_ldv, zi_lsh, zi_i2l, zi_l2i, zi_lcmp, zi_dup, zi_dup2, zi_pop, zi_if1, zi_if2, zi_getI, zi_getL, zi_getR, zi_putI, zi_putZ, zi_putL, zi_aldI, zi_aldL, zi_astI, zi_astZ, zi_astL, zi_alen, zi_iret, zi_zret, zi_lret, zi_vret, zi_callV, zi_callS, zi_sw, zi_copyI, zi_copyL, zi_m2, zi_m1, zi_sval, zi_scod, zi_fmt, zi_balen, zi_bald, zi_bret, zi_callT, zq_nth, zq_put1, zq_put2, zq_clr, zq_nl, zq_tk, zq_ps, zq_sw, zq_l0, zq_a, zq_a1, List.length_cons, List.length_nil, List.nil_append, List.cons_append, List.append_nil, List.replicate, Nat.reduceAdd, Nat.reduceSub, Nat.reduceLeDiff, true_and, and_true, List.append_eq, List.cons.injEq, Value.int.injEq, Value.long.injEq, Value.ref.injEq, exists_and_left, exists_eq_left', and_assoc, zc_b, zc_0, zc_1, zc_10, zc_01, lg_cmp_ge, lg_cmp_le, lg_cmp_gt, lg_cmp_lt, lg_cmp_eq, zw_le, zw_lt, reduceIte, true_or, or_true, zw_g0, zw_l0, zw_g1, zw_l1, zw_g2, zw_l2, zw_g3, zw_l3, zw_g5, zw_l5, zw_g6, zw_l6, zw_g7, zw_l7, zw_g9, zw_l9, zw_g10, zw_l10, zw_g15, zw_l15, zw_g16, zw_l16, zw_g48, zw_l48, zw_g50, zw_l50, zw_g57, zw_l57, zw_g97, zw_l97, zw_g100, zw_l100, zw_g200, zw_l200, zw_g999, zw_l999, zw_g9999, zw_l9999, a2]
  exact h2 _ ⟨by omega, by simp [zq_sI, nI_0], fun i q => absurd q (Nat.not_lt_zero _)⟩ (zq_fr_I zq_fr_rf (by decide))
def sp_mForget : zq_Sp := fun args h Q => ∃ m on ot, args = [.ref 56] ∧ MK m on ot h ∧ ∀ h', MK 0 on ot h' → zq_fm [0, 53] [] h h' → Q (some (.int (nI m))) h'
theorem ok_mForget : zq_M yX12_forget cX12_forget 2 (some .int) 1 0 sp_mForget := by
  refine mX12_forget (fun args h Q hs => ?_)
  obtain ⟨m, on, ot, rfl, ⟨a1, a2, a3⟩, h2⟩ := hs
  refine ⟨Nat.le_of_ble_eq_true rfl, ?_⟩
  simp only [xX12_forget_0, zi_push, zi_iload, zi_lload, zi_aload, zi_istore, zi_astore, zi_lstore, zi_iinc, zi_i2, zi_i1, zi_idv, zi_l2, zi_ldv, zi_lsh, zi_i2l, zi_l2i, zi_lcmp, zi_dup, zi_dup2, zi_pop, zi_if1, zi_if2, zi_getI, zi_getL, zi_getR, zi_putI, zi_putZ, zi_putL, zi_aldI, zi_aldL, zi_astI, zi_astZ, zi_astL, zi_alen, zi_iret, zi_zret, zi_lret, zi_vret, zi_callV, zi_callS, zi_sw, zi_copyI, zi_copyL, zi_m2, zi_m1, zi_sval, zi_scod, zi_fmt, zi_balen, zi_bald, zi_bret, zi_callT, zq_nth, zq_put1, zq_put2, zq_clr, zq_nl, zq_tk, zq_ps, zq_sw, zq_l0, zq_a, zq_a1, List.length_cons, List.length_nil, List.nil_append, List.cons_append, List.append_nil, List.replicate, Nat.reduceAdd, Nat.reduceSub, Nat.reduceLeDiff, true_and, and_true, List.append_eq, List.cons.injEq, Value.int.injEq, Value.long.injEq, Value.ref.injEq, exists_and_left, exists_eq_left', and_assoc, zc_b, zc_0, zc_1, zc_10, zc_01, lg_cmp_ge, lg_cmp_le, lg_cmp_gt, lg_cmp_lt, lg_cmp_eq, zw_le, zw_lt, reduceIte, true_or, or_true, zw_g0, zw_l0, zw_g1, zw_l1, zw_g2, zw_l2, zw_g3, zw_l3, zw_g5, zw_l5, zw_g6, zw_l6, zw_g7, zw_l7, zw_g9, zw_l9, zw_g10, zw_l10, zw_g15, zw_l15, zw_g16, zw_l16, zw_g48, zw_l48, zw_g50, zw_l50, zw_g57, zw_l57, zw_g97, zw_l97, zw_g100, zw_l100, zw_g200, zw_l200, zw_g999, zw_l999, zw_g9999, zw_l9999, zq_sI]
  simp only [Nat.reduceEqDiff, a2, not_true_eq_false, not_false_eq_true, forall_const, true_and, and_true, false_and, and_false, if_true, if_false, reduceIte, implies_true, and_self, ite_self, true_or, or_true, false_or, or_false, true_implies, false_implies, Classical.not_not, false_imp_iff, not_false_iff]
  exact h2 _ ⟨by omega, by simp [zq_sI, nI_0], fun i q => absurd q (Nat.not_lt_zero _)⟩ (zq_fm_F (zq_fm_F zq_fm_rf (by decide)) (by decide))
/-- chose: refused, or one more -/
def zChose (n m : Nat) (a b : Int32) : Prop := (0 ≤ a ∧ a < nI n) ∧ (0 ≤ b ∧ b < nI n) ∧ ¬ a = b ∧ m < 12
def sp_xChose : zq_Sp := fun args h Q => ∃ a b n cr ra cu m on ot, args = [.ref 0, .int a, .int b] ∧ XL n cr ra cu h ∧ XK m on ot h ∧ (¬ zChose n m a b → Q (some (.int (-1))) h) ∧ (zChose n m a b → ∀ h', XK (m + 1) (zupd on m a) (zupd ot m b) h' → zq_fr [15, 16, 17] h h' → Q (some (.int (nI (m + 1)))) h')
def sp_tell : zq_Sp := fun args h Q => ∃ a b m on ot, args = [.ref 15, .int a, .int b] ∧ XK m on ot h ∧ (m = 12 → Q (some (.int (-1))) h) ∧ (m < 12 → ∀ h', XK (m + 1) (zupd on m a) (zupd ot m b) h' → zq_fr [15, 16, 17] h h' → Q (some (.int (nI (m + 1)))) h')
theorem ok_tell : zq_M yX1_tell cX1_tell 3 (some .int) 1 0 sp_tell := by
  refine mX1_tell (fun args h Q hs => ?_)
  obtain ⟨a, b, m, on, ot, rfl, ⟨a1, a2, a3⟩, h1, h2⟩ := hs
  refine ⟨Nat.le_of_ble_eq_true rfl, ?_⟩
  simp only [xX1_tell_11, xX1_tell_9, xX1_tell_0, zi_push, zi_iload, zi_lload, zi_aload, zi_istore, zi_astore, zi_lstore, zi_iinc, zi_i2, zi_i1, zi_idv, zi_l2, zi_ldv, zi_lsh, zi_i2l, zi_l2i, zi_lcmp, zi_dup, zi_dup2, zi_pop, zi_if1, zi_if2, zi_getI, zi_getL, zi_getR, zi_putI, zi_putZ, zi_putL, zi_aldI, zi_aldL, zi_astI, zi_astZ, zi_astL, zi_alen, zi_iret, zi_zret, zi_lret, zi_vret, zi_callV, zi_callS, zi_sw, zi_copyI, zi_copyL, zi_m2, zi_m1, zi_sval, zi_scod, zi_fmt, zi_balen, zi_bald, zi_bret, zi_callT, zq_nth, zq_put1, zq_put2, zq_clr, zq_nl, zq_tk, zq_ps, zq_sw, zq_l0, zq_a, zq_a1, List.length_cons, List.length_nil, List.nil_append, List.cons_append, List.append_nil, List.replicate, Nat.reduceAdd, Nat.reduceSub, Nat.reduceLeDiff, true_and, and_true, List.append_eq, List.cons.injEq, Value.int.injEq, Value.long.injEq, Value.ref.injEq, exists_and_left, exists_eq_left', and_assoc, zc_b, zc_0, zc_1, zc_10, zc_01, lg_cmp_ge, lg_cmp_le, lg_cmp_gt, lg_cmp_lt, lg_cmp_eq, zw_le, zw_lt, reduceIte, true_or, or_true, zw_g0, zw_l0, zw_g1, zw_l1, zw_g2, zw_l2, zw_g3, zw_l3, zw_g5, zw_l5, zw_g6, zw_l6, zw_g7, zw_l7, zw_g9, zw_l9, zw_g10, zw_l10, zw_g15, zw_l15, zw_g16, zw_l16, zw_g48, zw_l48, zw_g50, zw_l50, zw_g57, zw_l57, zw_g97, zw_l97, zw_g100, zw_l100, zw_g200, zw_l200, zw_g999, zw_l999, zw_g9999, zw_l9999, zq_sI, a2]
  simp only [Nat.reduceEqDiff, a2, not_true_eq_false, not_false_eq_true, forall_const, true_and, and_true, false_and, and_false, if_true, if_false, reduceIte, implies_true, and_self, ite_self, true_or, or_true, false_or, or_false, true_implies, false_implies, Classical.not_not, false_imp_iff, not_false_iff]
  have e : (nI m < 12) = (m < 12) := propext (nI_ltI (b := 12) (by omega) (by decide))
  rw [e]
  refine ⟨fun q => ?_, fun q => h1 (by omega)⟩
  rw [nI_1, nI_clamp (by omega)]
  refine ⟨vp_in_nI q (by decide), vp_in_nI q (by decide), h2 q _ ⟨by omega, by simp [zq_sI], fun i hi => ?_⟩ (zq_fr_I (zq_fr_I (zq_fr_I zq_fr_rf (by decide)) (by decide)) (by decide))⟩
  unfold zupd
  by_cases q2 : i = m
  · simp [zq_sI, q2]
  · simpa [zq_sI, q2] using a3 i (by omega)
theorem ok_xChose : zq_M yX11_chose cX11_chose 3 (some .int) 1 1 sp_xChose := by
  refine mX11_chose ok_isCell (by decide) ok_tell (by decide) (fun args h Q hs => ?_)
  obtain ⟨a, b, n, cr, ra, cu, m, on, ot, rfl, ⟨l1, l2, l3⟩, hK, h1, h2⟩ := hs
  refine ⟨Nat.le_of_ble_eq_true rfl, ?_⟩
  simp only [xX11_chose_23, xX11_chose_21, xX11_chose_16, xX11_chose_8, xX11_chose_0, zi_push, zi_iload, zi_lload, zi_aload, zi_istore, zi_astore, zi_lstore, zi_iinc, zi_i2, zi_i1, zi_idv, zi_l2, zi_ldv, zi_lsh, zi_i2l, zi_l2i, zi_lcmp, zi_dup, zi_dup2, zi_pop, zi_if1, zi_if2, zi_getI, zi_getL, zi_getR, zi_putI, zi_putZ, zi_putL, zi_aldI, zi_aldL, zi_astI, zi_astZ, zi_astL, zi_alen, zi_iret, zi_zret, zi_lret, zi_vret, zi_callV, zi_callS, zi_sw, zi_copyI, zi_copyL, zi_m2, zi_m1, zi_sval, zi_scod, zi_fmt, zi_balen, zi_bald, zi_bret, zi_callT, zq_nth, zq_put1, zq_put2, zq_clr, zq_nl, zq_tk, zq_ps, zq_sw, zq_l0, zq_a, zq_a1, List.length_cons, List.length_nil, List.nil_append, List.cons_append, List.append_nil, List.replicate, Nat.reduceAdd, Nat.reduceSub, Nat.reduceLeDiff, true_and, and_true, List.append_eq, List.cons.injEq, Value.int.injEq, Value.long.injEq, Value.ref.injEq, exists_and_left, exists_eq_left', and_assoc, zc_b, zc_0, zc_1, zc_10, zc_01, lg_cmp_ge, lg_cmp_le, lg_cmp_gt, lg_cmp_lt, lg_cmp_eq, zw_le, zw_lt, reduceIte, true_or, or_true, zw_g0, zw_l0, zw_g1, zw_l1, zw_g2, zw_l2, zw_g3, zw_l3, zw_g5, zw_l5, zw_g6, zw_l6, zw_g7, zw_l7, zw_g9, zw_l9, zw_g10, zw_l10, zw_g15, zw_l15, zw_g16, zw_l16, zw_g48, zw_l48, zw_g50, zw_l50, zw_g57, zw_l57, zw_g97, zw_l97, zw_g100, zw_l100, zw_g200, zw_l200, zw_g999, zw_l999, zw_g9999, zw_l9999, sp_isCell, l2]
  refine ⟨fun q => h1 (fun z => q z.1), fun q => ⟨fun q2 => h1 (fun z => q2 z.2.1), fun q2 => ⟨fun q3 => h1 (fun z => z.2.2.1 q3), fun q3 => ⟨a, b, m, on, ot, rfl, hK, fun e => h1 (fun z => absurd z.2.2.2 (by omega)), fun e => h2 ⟨Classical.not_not.mp q, Classical.not_not.mp q2, q3, e⟩⟩⟩⟩⟩
def sp_mChose : zq_Sp := fun args h Q => ∃ a b n cr ra cu m on ot, args = [.ref 56, .int a, .int b] ∧ ML n cr ra cu h ∧ MK m on ot h ∧ (¬ zChose n m a b → ∀ h', MK m on ot h' → zq_fm [0, 53] [91, 92] h h' → Q (some (.int (-1))) h') ∧ (zChose n m a b → ∀ h', MK (m + 1) (zupd on m a) (zupd ot m b) h' → zq_fm [0, 53] [91, 92] h h' → Q (some (.int (nI (m + 1)))) h')
theorem ok_mChose : zq_M yX12_chose cX12_chose 3 (some .int) 1 2 sp_mChose := by
  refine mX12_chose ok_mIsCell (by decide) (fun args h Q hs => ?_)
  obtain ⟨a, b, n, cr, ra, cu, m, on, ot, rfl, ⟨l1, l2, l3⟩, hK, h1, h2⟩ := hs
  have hK9 := hK
  obtain ⟨a1, a2, a3⟩ := hK9
  have z0 : zq_fm [0, 53] [91, 92] h (zq_setI h 56 0 0) := zq_fm_F zq_fm_rf (by decide)
  have z1 : MK m on ot (zq_setI h 56 0 0) := MK_fm hK (zq_fm_F (fs := [0]) (ps := []) zq_fm_rf (by decide)) (by decide)
  refine ⟨Nat.le_of_ble_eq_true rfl, ?_⟩
  simp only [xX12_chose_37, xX12_chose_35, xX12_chose_26, xX12_chose_21, xX12_chose_13, xX12_chose_0, zi_push, zi_iload, zi_lload, zi_aload, zi_istore, zi_astore, zi_lstore, zi_iinc, zi_i2, zi_i1, zi_idv, zi_l2, zi_ldv, zi_lsh, zi_i2l, zi_l2i, zi_lcmp, zi_dup, zi_dup2, zi_pop, zi_if1, zi_if2, zi_getI, zi_getL, zi_getR, zi_putI, zi_putZ, zi_putL, zi_aldI, zi_aldL, zi_astI, zi_astZ, zi_astL, zi_alen, zi_iret, zi_zret, zi_lret, zi_vret, zi_callV, zi_callS, zi_sw, zi_copyI, zi_copyL, zi_m2, zi_m1, zi_sval, zi_scod, zi_fmt, zi_balen, zi_bald, zi_bret, zi_callT, zq_nth, zq_put1, zq_put2, zq_clr, zq_nl, zq_tk, zq_ps, zq_sw, zq_l0, zq_a, zq_a1, List.length_cons, List.length_nil, List.nil_append, List.cons_append, List.append_nil, List.replicate, Nat.reduceAdd, Nat.reduceSub, Nat.reduceLeDiff, true_and, and_true, List.append_eq, List.cons.injEq, Value.int.injEq, Value.long.injEq, Value.ref.injEq, exists_and_left, exists_eq_left', and_assoc, zc_b, zc_0, zc_1, zc_10, zc_01, lg_cmp_ge, lg_cmp_le, lg_cmp_gt, lg_cmp_lt, lg_cmp_eq, zw_le, zw_lt, reduceIte, true_or, or_true, zw_g0, zw_l0, zw_g1, zw_l1, zw_g2, zw_l2, zw_g3, zw_l3, zw_g5, zw_l5, zw_g6, zw_l6, zw_g7, zw_l7, zw_g9, zw_l9, zw_g10, zw_l10, zw_g15, zw_l15, zw_g16, zw_l16, zw_g48, zw_l48, zw_g50, zw_l50, zw_g57, zw_l57, zw_g97, zw_l97, zw_g100, zw_l100, zw_g200, zw_l200, zw_g999, zw_l999, zw_g9999, zw_l9999, sp_mIsCell, zq_sI]
  simp only [Nat.reduceEqDiff, l2, a2, not_true_eq_false, not_false_eq_true, forall_const, true_and, and_true, false_and, and_false, if_true, if_false, reduceIte, implies_true, and_self, ite_self, true_or, or_true, false_or, or_false, true_implies, false_implies, Classical.not_not, false_imp_iff, not_false_iff]
  have e : (nI m = 12) = (m = 12) := propext (nI_eq (b := 12) (by omega) (by decide))
  simp only [e]
  refine ⟨nI_pos' (by omega), fun q => h1 (fun z => q z.1) _ z1 z0, fun q => ⟨nI_pos' (by omega), fun q2 => h1 (fun z => q2 z.2.1) _ z1 z0, fun q2 => ⟨fun q3 => h1 (fun z => z.2.2.1 q3) _ z1 z0, fun q3 => ⟨fun q4 => h1 (fun z => absurd z.2.2.2 (by omega)) _ z1 z0, fun q4 => ?_⟩⟩⟩⟩
  rw [nI_1, nI_clamp (by omega)]
  refine ⟨vp_in_nI (by omega) (by decide), vp_in_nI (by omega) (by decide), h2 ⟨q, q2, q3, by omega⟩ _ ⟨by omega, by simp [zq_sI], fun i hi => ?_⟩ ?_⟩
  · unfold zupd
    by_cases q5 : i = m
    · simp [zq_sI, q5]
    · simpa [zq_sI, q5] using a3 i (by omega)
  · exact zq_fm_F (zq_fm_I (zq_fm_I z0 (by decide)) (by decide)) (by decide)
/-! pieces -/
def zpc (now : Nat → Int32) (g : Int32) : Nat → Int32 × Int32 × Int32 × Int32
  | 0 => (0, 0, 0, -1)
  | n + 1 => (fun q => (fun r => (if r = 1 then q.1 + 1 else q.1, r, if q.2.2.1 < r then r else q.2.2.1, if q.2.2.1 < r then nI n + 1 - r else q.2.2.2)) (if now n = g then q.2.1 + 1 else 0)) (zpc now g n)
def sp_xPieces : zq_Sp := fun args h Q => ∃ v n cr ra cu g ta de now k und kept w, args = [.ref 0, .int v] ∧ XL n cr ra cu h ∧ XG g ta de h ∧ XB n now k und kept h ∧ XR w h ∧ (¬ (0 ≤ v ∧ v < nI g) → Q (some (.int (-1))) h) ∧ (0 ≤ v ∧ v < nI g → ∀ h', XR [(zpc now v n).2.2.2.toInt64, (zpc now v n).2.2.1.toInt64] h' → zq_fr [3, 4] h h' → Q (some (.int (zpc now v n).1)) h')
def I_xPieces (Q : zq_Q) (a : zq_H × Int32 × Nat × (Nat → Int32) × Nat) : zq_P := fun ls st h => match a with
  | (h0, v, n, now, t) => ls = [some (.ref 0), some (.int v), some (.int (zpc now v t).1), some (.int (zpc now v t).2.1), some (.int (zpc now v t).2.2.1), some (.int (zpc now v t).2.2.2), some (.int (nI t))] ∧ st = [] ∧ h = h0 ∧ t ≤ n ∧ n ≤ 16 ∧ h.1 40 3 = nI n ∧ (∀ i, i < n → zH (h.2 12 2) i = now i) ∧ ∀ h', XR [(zpc now v n).2.2.2.toInt64, (zpc now v n).2.2.1.toInt64] h' → zq_fr [3, 4] h0 h' → Q (some (.int (zpc now v n).1)) h'
theorem ok_xPieces : zq_M yX11_pieces cX11_pieces 7 (some .int) 1 1 sp_xPieces := by
  refine mX11_pieces ok_isGuest (by decide) ok_holderOf (by decide) ok_rowClearL (by decide) ok_rowAddL (by decide) (fun a => a.2.2.1 - a.2.2.2.2) I_xPieces (fun args h Q hs => ?_) (fun Q a ls st h hi => ?_)
  · obtain ⟨v, n, cr, ra, cu, g, ta, de, now, k, und, kept, w, rfl, ⟨l1, l2, l3⟩, ⟨g1, g2, g3⟩, ⟨b1, b2, b3⟩, hR, h1, h2⟩ := hs
    refine ⟨Nat.le_of_ble_eq_true rfl, ?_⟩
    simp only [xX11_pieces_87, xX11_pieces_81, xX11_pieces_70, xX11_pieces_64, xX11_pieces_61, xX11_pieces_55, xX11_pieces_54, xX11_pieces_48, xX11_pieces_35, xX11_pieces_23, xX11_pieces_10, xX11_pieces_8, xX11_pieces_0, zi_push, zi_iload, zi_lload, zi_aload, zi_istore, zi_astore, zi_lstore, zi_iinc, zi_i2, zi_i1, zi_idv, zi_l2, zi_ldv, zi_lsh, zi_i2l, zi_l2i, zi_lcmp, zi_dup, zi_dup2, zi_pop, zi_if1, zi_if2, zi_getI, zi_getL, zi_getR, zi_putI, zi_putZ, zi_putL, zi_aldI, zi_aldL, zi_astI, zi_astZ, zi_astL, zi_alen, zi_iret, zi_zret, zi_lret, zi_vret, zi_callV, zi_callS, zi_sw, zi_copyI, zi_copyL, zi_m2, zi_m1, zi_sval, zi_scod, zi_fmt, zi_balen, zi_bald, zi_bret, zi_callT, zq_nth, zq_put1, zq_put2, zq_clr, zq_nl, zq_tk, zq_ps, zq_sw, zq_l0, zq_a, zq_a1, List.length_cons, List.length_nil, List.nil_append, List.cons_append, List.append_nil, List.replicate, Nat.reduceAdd, Nat.reduceSub, Nat.reduceLeDiff, true_and, and_true, List.append_eq, List.cons.injEq, Value.int.injEq, Value.long.injEq, Value.ref.injEq, exists_and_left, exists_eq_left', and_assoc, zc_b, zc_0, zc_1, zc_10, zc_01, lg_cmp_ge, lg_cmp_le, lg_cmp_gt, lg_cmp_lt, lg_cmp_eq, zw_le, zw_lt, reduceIte, true_or, or_true, zw_g0, zw_l0, zw_g1, zw_l1, zw_g2, zw_l2, zw_g3, zw_l3, zw_g5, zw_l5, zw_g6, zw_l6, zw_g7, zw_l7, zw_g9, zw_l9, zw_g10, zw_l10, zw_g15, zw_l15, zw_g16, zw_l16, zw_g48, zw_l48, zw_g50, zw_l50, zw_g57, zw_l57, zw_g97, zw_l97, zw_g100, zw_l100, zw_g200, zw_l200, zw_g999, zw_l999, zw_g9999, zw_l9999, sp_isGuest, g2]
    exact ⟨h1, fun q => ⟨(h, v, n, now, 0), rfl, rfl, rfl, Nat.zero_le _, l1, l2, b2, h2 (Classical.not_not.mp q)⟩⟩
  · obtain ⟨h0, v, n, now, t⟩ := a
    obtain ⟨rfl, rfl, rfl, ht, hn, l2, b2, h2⟩ := hi
    simp only [xX11_pieces_87, xX11_pieces_81, xX11_pieces_70, xX11_pieces_64, xX11_pieces_61, xX11_pieces_55, xX11_pieces_54, xX11_pieces_48, xX11_pieces_35, xX11_pieces_23, xX11_pieces_10, xX11_pieces_8, xX11_pieces_0, zi_push, zi_iload, zi_lload, zi_aload, zi_istore, zi_astore, zi_lstore, zi_iinc, zi_i2, zi_i1, zi_idv, zi_l2, zi_ldv, zi_lsh, zi_i2l, zi_l2i, zi_lcmp, zi_dup, zi_dup2, zi_pop, zi_if1, zi_if2, zi_getI, zi_getL, zi_getR, zi_putI, zi_putZ, zi_putL, zi_aldI, zi_aldL, zi_astI, zi_astZ, zi_astL, zi_alen, zi_iret, zi_zret, zi_lret, zi_vret, zi_callV, zi_callS, zi_sw, zi_copyI, zi_copyL, zi_m2, zi_m1, zi_sval, zi_scod, zi_fmt, zi_balen, zi_bald, zi_bret, zi_callT, zq_nth, zq_put1, zq_put2, zq_clr, zq_nl, zq_tk, zq_ps, zq_sw, zq_l0, zq_a, zq_a1, List.length_cons, List.length_nil, List.nil_append, List.cons_append, List.append_nil, List.replicate, Nat.reduceAdd, Nat.reduceSub, Nat.reduceLeDiff, true_and, and_true, List.append_eq, List.cons.injEq, Value.int.injEq, Value.long.injEq, Value.ref.injEq, exists_and_left, exists_eq_left', and_assoc, zc_b, zc_0, zc_1, zc_10, zc_01, lg_cmp_ge, lg_cmp_le, lg_cmp_gt, lg_cmp_lt, lg_cmp_eq, zw_le, zw_lt, reduceIte, true_or, or_true, zw_g0, zw_l0, zw_g1, zw_l1, zw_g2, zw_l2, zw_g3, zw_l3, zw_g5, zw_l5, zw_g6, zw_l6, zw_g7, zw_l7, zw_g9, zw_l9, zw_g10, zw_l10, zw_g15, zw_l15, zw_g16, zw_l16, zw_g48, zw_l48, zw_g50, zw_l50, zw_g57, zw_l57, zw_g97, zw_l97, zw_g100, zw_l100, zw_g200, zw_l200, zw_g999, zw_l999, zw_g9999, zw_l9999, l2, sp_rowClearL, sp_rowAddL, zl_ge ht (by omega : n < 2 ^ 31)]
    refine ⟨fun q => ?_, fun q => ⟨t, rfl, ?_⟩⟩
    · subst q
      intro h1 r1 f1
      refine ⟨[], r1, Nat.le_of_ble_eq_true rfl, fun h3 r3 f3 => ⟨_, r3, Nat.le_of_ble_eq_true rfl, fun h4 r4 f4 => h2 h4 r4 ?_⟩⟩
      exact zq_fr_tr (zq_fr_tr f1 f3 (rs := [3, 4]) (by simp)) f4 (by simp)
    · rw [b2 t (by omega)]
      have fin : ∀ m r mo f : Int32, (m, r, mo, f) = zpc now v (t + 1) → ∃ b : zq_H × Int32 × Nat × (Nat → Int32) × Nat, b.2.2.1 - b.2.2.2.2 < n - t ∧ I_xPieces Q b [some (.ref 0), some (.int v), some (.int m), some (.int r), some (.int mo), some (.int f), some (.int (nI t + 1))] [] h := by
        intro m r mo f e
        refine ⟨(h, v, n, now, t + 1), by dsimp only; omega, ?_, rfl, rfl, by omega, hn, l2, b2, h2⟩
        rw [← e, nI_1]
      have e0 : zpc now v (t + 1) = (fun q => (fun r => (if r = 1 then q.1 + 1 else q.1, r, if q.2.2.1 < r then r else q.2.2.1, if q.2.2.1 < r then nI t + 1 - r else q.2.2.2)) (if now t = v then q.2.1 + 1 else 0)) (zpc now v t) := rfl
      rw [e0] at fin
      generalize zpc now v t = z at fin ⊢
      obtain ⟨m, r, mo, f⟩ := z
      dsimp only at fin ⊢
      have el : ∀ x : Int32, (x ≤ mo) = ¬ mo < x := fun x => propext Int32.not_lt.symm
      rcases Classical.propComplete (now t = v) with c1 | c1
      · simp only [el, c1, not_true_eq_false, not_false_eq_true, forall_const, true_and, and_true, false_and, and_false, if_true, if_false, reduceIte, implies_true, and_self, ite_self, true_or, or_true, false_or, or_false, true_implies, false_implies, Classical.not_not, false_imp_iff, not_false_iff] at fin ⊢
        rcases Classical.propComplete (r + 1 = 1) with c2 | c2 <;> rcases Classical.propComplete (mo < r + 1) with c3 | c3 <;> simp only [c2, c3, not_true_eq_false, not_false_eq_true, forall_const, true_and, and_true, false_and, and_false, if_true, if_false, reduceIte, implies_true, and_self, ite_self, true_or, or_true, false_or, or_false, true_implies, false_implies, Classical.not_not, false_imp_iff, not_false_iff] at fin ⊢ <;> exact fin _ _ _ _ rfl
      · simp only [el, c1, zc_01, not_true_eq_false, not_false_eq_true, forall_const, true_and, and_true, false_and, and_false, if_true, if_false, reduceIte, implies_true, and_self, ite_self, true_or, or_true, false_or, or_false, true_implies, false_implies, Classical.not_not, false_imp_iff, not_false_iff] at fin ⊢
        rcases Classical.propComplete (mo < 0) with c3 | c3 <;> simp only [c3, not_true_eq_false, not_false_eq_true, forall_const, true_and, and_true, false_and, and_false, if_true, if_false, reduceIte, implies_true, and_self, ite_self, true_or, or_true, false_or, or_false, true_implies, false_implies, Classical.not_not, false_imp_iff, not_false_iff] at fin ⊢ <;> exact fin _ _ _ _ rfl
def sp_mPieces : zq_Sp := fun args h Q => ∃ v b n cr ra cu g ta de now k und kept, args = [.ref 56, .int v] ∧ ML n cr ra cu h ∧ MG g ta de h ∧ MB b n now k und kept h ∧ (¬ (0 ≤ v ∧ v < nI g) → ∀ h', zq_fm [0] [] h h' → Q (some (.int (-1))) h') ∧ (0 ≤ v ∧ v < nI g → ∀ h', MR [(zpc now v n).2.2.2.toInt64, (zpc now v n).2.2.1.toInt64] h' → zq_fm [0, 1] [57] h h' → Q (some (.int (zpc now v n).1)) h')
def I_mPieces (Q : zq_Q) (a : zq_H × Int32 × Nat × (Nat → Int32) × Nat) : zq_P := fun ls st h => match a with
  | (h0, v, n, now, t) => ls = [some (.ref 56), some (.int v), some (.int (zpc now v t).1), some (.int (zpc now v t).2.1), some (.int (zpc now v t).2.2.1), some (.int (zpc now v t).2.2.2), some (.int (nI t))] ∧ st = [] ∧ zq_fm [0] [] h0 h ∧ t ≤ n ∧ n ≤ 16 ∧ h.1 56 3 = nI n ∧ (∀ i, i < n → h.1 63 i = now i) ∧ ∀ h', MR [(zpc now v n).2.2.2.toInt64, (zpc now v n).2.2.1.toInt64] h' → zq_fm [0, 1] [57] h0 h' → Q (some (.int (zpc now v n).1)) h'
theorem ok_mPieces : zq_M yX12_pieces cX12_pieces 7 (some .int) 1 2 sp_mPieces := by
  refine mX12_pieces ok_mIsGuest (by decide) ok_flag (by decide) ok_entersL (by decide) (fun a => a.2.2.1 - a.2.2.2.2) I_mPieces (fun args h Q hs => ?_) (fun Q a ls st h hi => ?_)
  · obtain ⟨v, b, n, cr, ra, cu, g, ta, de, now, k, und, kept, rfl, ⟨l1, l2, l3⟩, ⟨g1, g2, g3⟩, ⟨b1, b2, b3⟩, h1, h2⟩ := hs
    have z0 : zq_fm [0] [] h (zq_setI h 56 0 0) := zq_fm_F zq_fm_rf (by decide)
    refine ⟨Nat.le_of_ble_eq_true rfl, ?_⟩
    simp only [xX12_pieces_95, xX12_pieces_89, xX12_pieces_78, xX12_pieces_67, xX12_pieces_66, xX12_pieces_62, xX12_pieces_55, xX12_pieces_54, xX12_pieces_48, xX12_pieces_37, xX12_pieces_28, xX12_pieces_15, xX12_pieces_13, xX12_pieces_0, zi_push, zi_iload, zi_lload, zi_aload, zi_istore, zi_astore, zi_lstore, zi_iinc, zi_i2, zi_i1, zi_idv, zi_l2, zi_ldv, zi_lsh, zi_i2l, zi_l2i, zi_lcmp, zi_dup, zi_dup2, zi_pop, zi_if1, zi_if2, zi_getI, zi_getL, zi_getR, zi_putI, zi_putZ, zi_putL, zi_aldI, zi_aldL, zi_astI, zi_astZ, zi_astL, zi_alen, zi_iret, zi_zret, zi_lret, zi_vret, zi_callV, zi_callS, zi_sw, zi_copyI, zi_copyL, zi_m2, zi_m1, zi_sval, zi_scod, zi_fmt, zi_balen, zi_bald, zi_bret, zi_callT, zq_nth, zq_put1, zq_put2, zq_clr, zq_nl, zq_tk, zq_ps, zq_sw, zq_l0, zq_a, zq_a1, List.length_cons, List.length_nil, List.nil_append, List.cons_append, List.append_nil, List.replicate, Nat.reduceAdd, Nat.reduceSub, Nat.reduceLeDiff, true_and, and_true, List.append_eq, List.cons.injEq, Value.int.injEq, Value.long.injEq, Value.ref.injEq, exists_and_left, exists_eq_left', and_assoc, zc_b, zc_0, zc_1, zc_10, zc_01, lg_cmp_ge, lg_cmp_le, lg_cmp_gt, lg_cmp_lt, lg_cmp_eq, zw_le, zw_lt, reduceIte, true_or, or_true, zw_g0, zw_l0, zw_g1, zw_l1, zw_g2, zw_l2, zw_g3, zw_l3, zw_g5, zw_l5, zw_g6, zw_l6, zw_g7, zw_l7, zw_g9, zw_l9, zw_g10, zw_l10, zw_g15, zw_l15, zw_g16, zw_l16, zw_g48, zw_l48, zw_g50, zw_l50, zw_g57, zw_l57, zw_g97, zw_l97, zw_g100, zw_l100, zw_g200, zw_l200, zw_g999, zw_l999, zw_g9999, zw_l9999, sp_mIsGuest, zq_sI]
    simp only [Nat.reduceEqDiff, g2, not_true_eq_false, not_false_eq_true, forall_const, true_and, and_true, false_and, and_false, if_true, if_false, reduceIte, implies_true, and_self, ite_self, true_or, or_true, false_or, or_false, true_implies, false_implies, Classical.not_not, false_imp_iff, not_false_iff]
    refine ⟨nI_pos' (by omega), fun q => h1 q _ z0, fun q => ⟨(h, v, n, now, 0), rfl, rfl, z0, Nat.zero_le _, l1, by simpa [zq_sI] using l2, fun i hi => by simpa [zq_sI] using b2 i hi, h2 q⟩⟩
  · obtain ⟨h0, v, n, now, t⟩ := a
    obtain ⟨rfl, rfl, hf, ht, hn, l2, b2, h2⟩ := hi
    simp only [xX12_pieces_95, xX12_pieces_89, xX12_pieces_78, xX12_pieces_67, xX12_pieces_66, xX12_pieces_62, xX12_pieces_55, xX12_pieces_54, xX12_pieces_48, xX12_pieces_37, xX12_pieces_28, xX12_pieces_15, xX12_pieces_13, xX12_pieces_0, zi_push, zi_iload, zi_lload, zi_aload, zi_istore, zi_astore, zi_lstore, zi_iinc, zi_i2, zi_i1, zi_idv, zi_l2, zi_ldv, zi_lsh, zi_i2l, zi_l2i, zi_lcmp, zi_dup, zi_dup2, zi_pop, zi_if1, zi_if2, zi_getI, zi_getL, zi_getR, zi_putI, zi_putZ, zi_putL, zi_aldI, zi_aldL, zi_astI, zi_astZ, zi_astL, zi_alen, zi_iret, zi_zret, zi_lret, zi_vret, zi_callV, zi_callS, zi_sw, zi_copyI, zi_copyL, zi_m2, zi_m1, zi_sval, zi_scod, zi_fmt, zi_balen, zi_bald, zi_bret, zi_callT, zq_nth, zq_put1, zq_put2, zq_clr, zq_nl, zq_tk, zq_ps, zq_sw, zq_l0, zq_a, zq_a1, List.length_cons, List.length_nil, List.nil_append, List.cons_append, List.append_nil, List.replicate, Nat.reduceAdd, Nat.reduceSub, Nat.reduceLeDiff, true_and, and_true, List.append_eq, List.cons.injEq, Value.int.injEq, Value.long.injEq, Value.ref.injEq, exists_and_left, exists_eq_left', and_assoc, zc_b, zc_0, zc_1, zc_10, zc_01, lg_cmp_ge, lg_cmp_le, lg_cmp_gt, lg_cmp_lt, lg_cmp_eq, zw_le, zw_lt, reduceIte, true_or, or_true, zw_g0, zw_l0, zw_g1, zw_l1, zw_g2, zw_l2, zw_g3, zw_l3, zw_g5, zw_l5, zw_g6, zw_l6, zw_g7, zw_l7, zw_g9, zw_l9, zw_g10, zw_l10, zw_g15, zw_l15, zw_g16, zw_l16, zw_g48, zw_l48, zw_g50, zw_l50, zw_g57, zw_l57, zw_g97, zw_l97, zw_g100, zw_l100, zw_g200, zw_l200, zw_g999, zw_l999, zw_g9999, zw_l9999, l2, sp_flag, sp_entersL, zl_ge ht (by omega : n < 2 ^ 31)]
    refine ⟨fun q => ?_, fun q => ⟨vp_in_nI (by omega) (by decide), ?_⟩⟩
    · subst q
      refine ⟨[], MR_nil h, Nat.le_of_ble_eq_true rfl, fun h3 r3 f3 => ⟨_, r3, Nat.le_of_ble_eq_true rfl, fun h4 r4 f4 => h2 h4 r4 ?_⟩⟩
      exact zq_fm_tr (zq_fm_tr (zq_fm_F (zq_fm_w hf (fs2 := [0, 1]) (ps2 := [57]) (by decide)) (by decide)) f3 (fs2 := [0, 1]) (ps2 := [57]) (by simp)) f4 (by simp)
    · rw [nI_clamp (by omega), b2 t (by omega)]
      have fin : ∀ m r mo f : Int32, (m, r, mo, f) = zpc now v (t + 1) → ∃ b : zq_H × Int32 × Nat × (Nat → Int32) × Nat, b.2.2.1 - b.2.2.2.2 < n - t ∧ I_mPieces Q b [some (.ref 56), some (.int v), some (.int m), some (.int r), some (.int mo), some (.int f), some (.int (nI t + 1))] [] h := by
        intro m r mo f e
        refine ⟨(h0, v, n, now, t + 1), by dsimp only; omega, ?_, rfl, hf, by omega, hn, l2, b2, h2⟩
        rw [← e, nI_1]
      have e0 : zpc now v (t + 1) = (fun q => (fun r => (if r = 1 then q.1 + 1 else q.1, r, if q.2.2.1 < r then r else q.2.2.1, if q.2.2.1 < r then nI t + 1 - r else q.2.2.2)) (if now t = v then q.2.1 + 1 else 0)) (zpc now v t) := rfl
      rw [e0] at fin
      generalize zpc now v t = z at fin ⊢
      obtain ⟨m, r, mo, f⟩ := z
      dsimp only at fin ⊢
      have el : ∀ x : Int32, (x ≤ mo) = ¬ mo < x := fun x => propext Int32.not_lt.symm
      have e2 : ∀ x : Int32, nI t - x + 1 = nI t + 1 - x := fun x => by grind
      rcases Classical.propComplete (now t = v) with c1 | c1
      · simp only [el, e2, c1, Int32.add_zero, not_true_eq_false, not_false_eq_true, forall_const, true_and, and_true, false_and, and_false, if_true, if_false, reduceIte, implies_true, and_self, ite_self, true_or, or_true, false_or, or_false, true_implies, false_implies, Classical.not_not, false_imp_iff, not_false_iff] at fin ⊢
        rcases Classical.propComplete (r + 1 = 1) with c2 | c2 <;> rcases Classical.propComplete (mo < r + 1) with c3 | c3 <;> simp only [c2, c3, Int32.add_zero, zc_10, not_true_eq_false, not_false_eq_true, forall_const, true_and, and_true, false_and, and_false, if_true, if_false, reduceIte, implies_true, and_self, ite_self, true_or, or_true, false_or, or_false, true_implies, false_implies, Classical.not_not, false_imp_iff, not_false_iff] at fin ⊢ <;> exact fin _ _ _ _ rfl
      · simp only [el, e2, c1, zc_01, Int32.add_zero, not_true_eq_false, not_false_eq_true, forall_const, true_and, and_true, false_and, and_false, if_true, if_false, reduceIte, implies_true, and_self, ite_self, true_or, or_true, false_or, or_false, true_implies, false_implies, Classical.not_not, false_imp_iff, not_false_iff] at fin ⊢
        rcases Classical.propComplete (mo < 0) with c3 | c3 <;> simp only [c3, Int32.add_zero, not_true_eq_false, not_false_eq_true, forall_const, true_and, and_true, false_and, and_false, if_true, if_false, reduceIte, implies_true, and_self, ite_self, true_or, or_true, false_or, or_false, true_implies, false_implies, Classical.not_not, false_imp_iff, not_false_iff] at fin ⊢ <;> exact fin _ _ _ _ rfl
