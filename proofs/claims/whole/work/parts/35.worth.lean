/-! ===== worth, seen, taste: both sides ===== -/
theorem zq_fm_fr {fs ps qs rs : List Nat} {h h1 h2 : zq_H} (k : zq_fm fs ps h h1) (f : zq_fr qs h1 h2) (m : ∀ p, p ∉ rs → p ∉ ps ∧ p ∉ qs) (m2 : 56 ∉ qs) : zq_fm fs rs h h2 :=
  ⟨fun p h56 hp => ⟨(f p (m p hp).2).1.trans (k.1 p h56 (m p hp).1).1, (f p (m p hp).2).2.trans (k.1 p h56 (m p hp).1).2⟩, fun j hj => by rw [(f 56 m2).1, (f 56 m2).2]; exact k.2 j hj⟩
theorem MP_fm {L : Nat} {cd : Nat → zTk} {fs ps : List Nat} {h h' : zq_H} (k : MP L cd h) (f : zq_fm fs ps h h') (d : 25 ∉ fs ∧ 70 ∉ ps) : MP L cd h' := by
  unfold MP at *
  rw [(f.2 25 d.1).1, (f.1 70 (by decide) d.2).1]
  exact k
def sp_mSeen : zq_Sp := fun args h Q => ∃ a v b n cr ra cu g ta de L cd now k und kept, args = [.ref 56, .int a, .int v] ∧ (∀ i, i < n → cu i = 0 ∨ cu i = 1) ∧ ML n cr ra cu h ∧ MG g ta de h ∧ MB b n now k und kept h ∧ ZC L cd ∧ MP L cd h ∧ (¬ ((0 ≤ a ∧ a < nI g) ∧ 0 ≤ v ∧ v < nI g) → ∀ h', zq_fm [0] [] h h' → Q (some (.int (-1))) h') ∧ ∀ j, j < g → a = nI j → (0 ≤ v ∧ v < nI g) → ∀ h', zq_fm [0] [72, 73, 74, 75] h h' → Q (some (.int (zheld now (zwt n cr ra cu ta L cd j) v n))) h'
theorem ok_mSeen : zq_M yX12_seen cX12_seen 3 (some .int) 1 6 sp_mSeen := by
  refine mX12_seen ok_mIsGuest (by decide) ok_lays (by decide) ok_held (by decide) (fun args h Q hs => ?_)
  obtain ⟨a, v, b, n, cr, ra, cu, g, ta, de, L, cd, now, k, und, kept, rfl, hk, hL, hG, hB, hC, hP, h1, h2⟩ := hs
  have f0 : zq_fm [0] [] h (zq_setI h 56 0 0) := zq_fm_F zq_fm_rf (by decide)
  replace hL := ML_fm hL f0 (by decide)
  replace hG := MG_fm hG f0 (by decide)
  replace hB := MB_fm hB f0 (by decide)
  replace hP := MP_fm hP f0 (by decide)
  refine ⟨Nat.le_of_ble_eq_true rfl, ?_⟩
  simp only [xX12_seen_23, xX12_seen_21, xX12_seen_13, xX12_seen_0, zi_push, zi_iload, zi_lload, zi_aload, zi_istore, zi_astore, zi_lstore, zi_iinc, zi_i2, zi_i1, zi_idv, zi_l2, zi_ldv, zi_lsh, zi_i2l, zi_l2i, zi_lcmp, zi_dup, zi_dup2, zi_pop, zi_if1, zi_if2, zi_getI, zi_getL, zi_getR, zi_putI, zi_putZ, zi_putL, zi_aldI, zi_aldL, zi_astI, zi_astZ, zi_astL, zi_alen, zi_iret, zi_zret, zi_lret, zi_vret, zi_callV, zi_callS, zi_sw, zi_copyI, zi_copyL, zi_m2, zi_m1, zi_sval, zi_scod, zi_fmt, zi_balen, zi_bald, zi_bret, zi_callT, zq_nth, zq_put1, zq_put2, zq_clr, zq_nl, zq_tk, zq_ps, zq_sw, zq_l0, zq_a, zq_a1, List.length_cons, List.length_nil, List.nil_append, List.cons_append, List.append_nil, List.replicate, Nat.reduceAdd, Nat.reduceSub, Nat.reduceLeDiff, true_and, and_true, List.append_eq, List.cons.injEq, Value.int.injEq, Value.long.injEq, Value.ref.injEq, exists_and_left, exists_eq_left', and_assoc, zc_b, zc_0, zc_1, zc_10, zc_01, lg_cmp_ge, lg_cmp_le, lg_cmp_gt, lg_cmp_lt, lg_cmp_eq, zw_le, zw_lt, reduceIte, true_or, or_true, zw_g0, zw_l0, zw_g1, zw_l1, zw_g2, zw_l2, zw_g3, zw_l3, zw_g5, zw_l5, zw_g6, zw_l6, zw_g7, zw_l7, zw_g9, zw_l9, zw_g10, zw_l10, zw_g15, zw_l15, zw_g16, zw_l16, zw_g48, zw_l48, zw_g50, zw_l50, zw_g57, zw_l57, zw_g97, zw_l97, zw_g100, zw_l100, zw_g200, zw_l200, zw_g999, zw_l999, zw_g9999, zw_l9999]
  generalize zq_setI h 56 0 0 = h9 at f0 hL hG hB hP ⊢
  have hg := hG.1
  simp only [sp_mIsGuest, hG.2.1, zi_push, zi_iload, zi_lload, zi_aload, zi_istore, zi_astore, zi_lstore, zi_iinc, zi_i2, zi_i1, zi_idv, zi_l2, zi_ldv, zi_lsh, zi_i2l, zi_l2i, zi_lcmp, zi_dup, zi_dup2, zi_pop, zi_if1, zi_if2, zi_getI, zi_getL, zi_getR, zi_putI, zi_putZ, zi_putL, zi_aldI, zi_aldL, zi_astI, zi_astZ, zi_astL, zi_alen, zi_iret, zi_zret, zi_lret, zi_vret, zi_callV, zi_callS, zi_sw, zi_copyI, zi_copyL, zi_m2, zi_m1, zi_sval, zi_scod, zi_fmt, zi_balen, zi_bald, zi_bret, zi_callT, zq_nth, zq_put1, zq_put2, zq_clr, zq_nl, zq_tk, zq_ps, zq_sw, zq_l0, zq_a, zq_a1, List.length_cons, List.length_nil, List.nil_append, List.cons_append, List.append_nil, List.replicate, Nat.reduceAdd, Nat.reduceSub, Nat.reduceLeDiff, true_and, and_true, List.append_eq, List.cons.injEq, Value.int.injEq, Value.long.injEq, Value.ref.injEq, exists_and_left, exists_eq_left', and_assoc, zc_b, zc_0, zc_1, zc_10, zc_01, lg_cmp_ge, lg_cmp_le, lg_cmp_gt, lg_cmp_lt, lg_cmp_eq, zw_le, zw_lt, reduceIte, true_or, or_true, zw_g0, zw_l0, zw_g1, zw_l1, zw_g2, zw_l2, zw_g3, zw_l3, zw_g5, zw_l5, zw_g6, zw_l6, zw_g7, zw_l7, zw_g9, zw_l9, zw_g10, zw_l10, zw_g15, zw_l15, zw_g16, zw_l16, zw_g48, zw_l48, zw_g50, zw_l50, zw_g57, zw_l57, zw_g97, zw_l97, zw_g100, zw_l100, zw_g200, zw_l200, zw_g999, zw_l999, zw_g9999, zw_l9999, not_true_eq_false, not_false_eq_true, forall_const, true_and, and_true, false_and, and_false, if_true, if_false, reduceIte, implies_true, and_self, ite_self, true_or, or_true, false_or, or_false, true_implies, false_implies, Classical.not_not, false_imp_iff, not_false_iff]
  refine ⟨nI_pos' (by omega), fun q => h1 (fun z => q z.1) _ f0, fun q => ⟨nI_pos' (by omega), fun q2 => h1 (fun z => q2 z.2) _ f0, fun q2 => ?_⟩⟩
  obtain ⟨j, hj, rfl⟩ := zg_nat (by omega) q
  refine ⟨n, g, cr, ra, cu, ta, de, L, cd, rfl, hk, hL, hG, hC, hP, fun h3 w f2 => ?_⟩
  exact ⟨Nat.le_of_ble_eq_true rfl, j, v, b, n, cr, ra, cu, g, _, now, k, und, kept, rfl, hj, ML_fr hL f2 (by decide), MB_fr hB f2 (by decide), w, h2 j hj rfl q2 _ (zq_fm_fr f0 f2 (fun p hp => ⟨by simp, hp⟩) (by decide))⟩
def sp_xWorth : zq_Sp := fun args h Q => ∃ a v n cr ra cu g ta de wt, args = [.ref 0, .int a, .int v] ∧ XL n cr ra cu h ∧ XG g ta de h ∧ XW n g wt h ∧ (¬ ((0 ≤ a ∧ a < nI g) ∧ 0 ≤ v ∧ v < nI n) → Q (some (.int (-1))) h) ∧ ∀ j c, j < g → c < n → a = nI j → v = nI c → Q (some (.int (wt j c))) h
theorem ok_xWorth : zq_M yX11_worth cX11_worth 3 (some .int) 1 1 sp_xWorth := by
  refine mX11_worth ok_isGuest (by decide) ok_isCell (by decide) ok_wOf (by decide) (fun args h Q hs => ?_)
  obtain ⟨a, v, n, cr, ra, cu, g, ta, de, wt, rfl, hL, hG, hW, h1, h2⟩ := hs
  have hn := hL.1
  have hg := hG.1
  refine ⟨Nat.le_of_ble_eq_true rfl, ?_⟩
  simp only [xX11_worth_29, xX11_worth_28, xX11_worth_16, xX11_worth_8, xX11_worth_0, zi_push, zi_iload, zi_lload, zi_aload, zi_istore, zi_astore, zi_lstore, zi_iinc, zi_i2, zi_i1, zi_idv, zi_l2, zi_ldv, zi_lsh, zi_i2l, zi_l2i, zi_lcmp, zi_dup, zi_dup2, zi_pop, zi_if1, zi_if2, zi_getI, zi_getL, zi_getR, zi_putI, zi_putZ, zi_putL, zi_aldI, zi_aldL, zi_astI, zi_astZ, zi_astL, zi_alen, zi_iret, zi_zret, zi_lret, zi_vret, zi_callV, zi_callS, zi_sw, zi_copyI, zi_copyL, zi_m2, zi_m1, zi_sval, zi_scod, zi_fmt, zi_balen, zi_bald, zi_bret, zi_callT, zq_nth, zq_put1, zq_put2, zq_clr, zq_nl, zq_tk, zq_ps, zq_sw, zq_l0, zq_a, zq_a1, List.length_cons, List.length_nil, List.nil_append, List.cons_append, List.append_nil, List.replicate, Nat.reduceAdd, Nat.reduceSub, Nat.reduceLeDiff, true_and, and_true, List.append_eq, List.cons.injEq, Value.int.injEq, Value.long.injEq, Value.ref.injEq, exists_and_left, exists_eq_left', and_assoc, zc_b, zc_0, zc_1, zc_10, zc_01, lg_cmp_ge, lg_cmp_le, lg_cmp_gt, lg_cmp_lt, lg_cmp_eq, zw_le, zw_lt, reduceIte, true_or, or_true, zw_g0, zw_l0, zw_g1, zw_l1, zw_g2, zw_l2, zw_g3, zw_l3, zw_g5, zw_l5, zw_g6, zw_l6, zw_g7, zw_l7, zw_g9, zw_l9, zw_g10, zw_l10, zw_g15, zw_l15, zw_g16, zw_l16, zw_g48, zw_l48, zw_g50, zw_l50, zw_g57, zw_l57, zw_g97, zw_l97, zw_g100, zw_l100, zw_g200, zw_l200, zw_g999, zw_l999, zw_g9999, zw_l9999, sp_isGuest, sp_isCell, sp_wOf, hG.2.1, hL.2.1]
  simp only [not_true_eq_false, not_false_eq_true, forall_const, true_and, and_true, false_and, and_false, if_true, if_false, reduceIte, implies_true, and_self, ite_self, true_or, or_true, false_or, or_false, true_implies, false_implies, Classical.not_not, false_imp_iff, not_false_iff]
  refine ⟨fun q => h1 (fun z => q z.1), fun q => ⟨fun q2 => h1 (fun z => q2 z.2), fun q2 => ?_⟩⟩
  obtain ⟨j, hj, rfl⟩ := zg_nat (by omega) q
  obtain ⟨c, hc, rfl⟩ := zg_nat (by omega) q2
  have h3 := h2 j c hj hc rfl rfl
  rw [← (hW.2 j hj).1 c hc] at h3
  unfold zA
  rw [z16a, nI_clamp (by omega)]
  first | exact ⟨vp_in_nI (by omega) (by decide), h3⟩ | exact ⟨Nat.le_of_ble_eq_true rfl, vp_in_nI (by omega) (by decide), h3⟩
def sp_mWorth : zq_Sp := fun args h Q => ∃ a v n cr ra cu g ta de L cd, args = [.ref 56, .int a, .int v] ∧ (∀ i, i < n → cu i = 0 ∨ cu i = 1) ∧ ML n cr ra cu h ∧ MG g ta de h ∧ ZC L cd ∧ MP L cd h ∧ (¬ ((0 ≤ a ∧ a < nI g) ∧ 0 ≤ v ∧ v < nI n) → ∀ h', zq_fm [0] [] h h' → Q (some (.int (-1))) h') ∧ ∀ j c, j < g → c < n → a = nI j → v = nI c → ∀ h', zq_fm [0] [72, 73] h h' → Q (some (.int (zwt n cr ra cu ta L cd j c))) h'
theorem ok_mWorth : zq_M yX12_worth cX12_worth 3 (some .int) 1 5 sp_mWorth := by
  refine mX12_worth ok_mIsGuest (by decide) ok_mIsCell (by decide) ok_mWorthOf (by decide) (fun args h Q hs => ?_)
  obtain ⟨a, v, n, cr, ra, cu, g, ta, de, L, cd, rfl, hk, hL, hG, hC, hP, h1, h2⟩ := hs
  have f0 : zq_fm [0] [] h (zq_setI h 56 0 0) := zq_fm_F zq_fm_rf (by decide)
  replace hL := ML_fm hL f0 (by decide)
  replace hG := MG_fm hG f0 (by decide)
  replace hP := MP_fm hP f0 (by decide)
  refine ⟨Nat.le_of_ble_eq_true rfl, ?_⟩
  simp only [xX12_worth_31, xX12_worth_30, xX12_worth_21, xX12_worth_13, xX12_worth_0, zi_push, zi_iload, zi_lload, zi_aload, zi_istore, zi_astore, zi_lstore, zi_iinc, zi_i2, zi_i1, zi_idv, zi_l2, zi_ldv, zi_lsh, zi_i2l, zi_l2i, zi_lcmp, zi_dup, zi_dup2, zi_pop, zi_if1, zi_if2, zi_getI, zi_getL, zi_getR, zi_putI, zi_putZ, zi_putL, zi_aldI, zi_aldL, zi_astI, zi_astZ, zi_astL, zi_alen, zi_iret, zi_zret, zi_lret, zi_vret, zi_callV, zi_callS, zi_sw, zi_copyI, zi_copyL, zi_m2, zi_m1, zi_sval, zi_scod, zi_fmt, zi_balen, zi_bald, zi_bret, zi_callT, zq_nth, zq_put1, zq_put2, zq_clr, zq_nl, zq_tk, zq_ps, zq_sw, zq_l0, zq_a, zq_a1, List.length_cons, List.length_nil, List.nil_append, List.cons_append, List.append_nil, List.replicate, Nat.reduceAdd, Nat.reduceSub, Nat.reduceLeDiff, true_and, and_true, List.append_eq, List.cons.injEq, Value.int.injEq, Value.long.injEq, Value.ref.injEq, exists_and_left, exists_eq_left', and_assoc, zc_b, zc_0, zc_1, zc_10, zc_01, lg_cmp_ge, lg_cmp_le, lg_cmp_gt, lg_cmp_lt, lg_cmp_eq, zw_le, zw_lt, reduceIte, true_or, or_true, zw_g0, zw_l0, zw_g1, zw_l1, zw_g2, zw_l2, zw_g3, zw_l3, zw_g5, zw_l5, zw_g6, zw_l6, zw_g7, zw_l7, zw_g9, zw_l9, zw_g10, zw_l10, zw_g15, zw_l15, zw_g16, zw_l16, zw_g48, zw_l48, zw_g50, zw_l50, zw_g57, zw_l57, zw_g97, zw_l97, zw_g100, zw_l100, zw_g200, zw_l200, zw_g999, zw_l999, zw_g9999, zw_l9999]
  generalize zq_setI h 56 0 0 = h9 at f0 hL hG hP ⊢
  have hg := hG.1
  have hn := hL.1
  simp only [sp_mIsGuest, sp_mIsCell, hG.2.1, hL.2.1, zi_push, zi_iload, zi_lload, zi_aload, zi_istore, zi_astore, zi_lstore, zi_iinc, zi_i2, zi_i1, zi_idv, zi_l2, zi_ldv, zi_lsh, zi_i2l, zi_l2i, zi_lcmp, zi_dup, zi_dup2, zi_pop, zi_if1, zi_if2, zi_getI, zi_getL, zi_getR, zi_putI, zi_putZ, zi_putL, zi_aldI, zi_aldL, zi_astI, zi_astZ, zi_astL, zi_alen, zi_iret, zi_zret, zi_lret, zi_vret, zi_callV, zi_callS, zi_sw, zi_copyI, zi_copyL, zi_m2, zi_m1, zi_sval, zi_scod, zi_fmt, zi_balen, zi_bald, zi_bret, zi_callT, zq_nth, zq_put1, zq_put2, zq_clr, zq_nl, zq_tk, zq_ps, zq_sw, zq_l0, zq_a, zq_a1, List.length_cons, List.length_nil, List.nil_append, List.cons_append, List.append_nil, List.replicate, Nat.reduceAdd, Nat.reduceSub, Nat.reduceLeDiff, true_and, and_true, List.append_eq, List.cons.injEq, Value.int.injEq, Value.long.injEq, Value.ref.injEq, exists_and_left, exists_eq_left', and_assoc, zc_b, zc_0, zc_1, zc_10, zc_01, lg_cmp_ge, lg_cmp_le, lg_cmp_gt, lg_cmp_lt, lg_cmp_eq, zw_le, zw_lt, reduceIte, true_or, or_true, zw_g0, zw_l0, zw_g1, zw_l1, zw_g2, zw_l2, zw_g3, zw_l3, zw_g5, zw_l5, zw_g6, zw_l6, zw_g7, zw_l7, zw_g9, zw_l9, zw_g10, zw_l10, zw_g15, zw_l15, zw_g16, zw_l16, zw_g48, zw_l48, zw_g50, zw_l50, zw_g57, zw_l57, zw_g97, zw_l97, zw_g100, zw_l100, zw_g200, zw_l200, zw_g999, zw_l999, zw_g9999, zw_l9999, not_true_eq_false, not_false_eq_true, forall_const, true_and, and_true, false_and, and_false, if_true, if_false, reduceIte, implies_true, and_self, ite_self, true_or, or_true, false_or, or_false, true_implies, false_implies, Classical.not_not, false_imp_iff, not_false_iff]
  refine ⟨nI_pos' (by omega), fun q => h1 (fun z => q z.1) _ f0, fun q => ⟨nI_pos' (by omega), fun q2 => h1 (fun z => q2 z.2) _ f0, fun q2 => ?_⟩⟩
  obtain ⟨j, hj, rfl⟩ := zg_nat (by omega) q
  obtain ⟨c, hc, rfl⟩ := zg_nat (by omega) q2
  exact ⟨j, c, n, g, cr, ra, cu, ta, de, L, cd, rfl, hj, hc, hk, hL, hG, hC, hP, fun h3 f2 => h2 j c hj hc rfl rfl _ (zq_fm_fr f0 f2 (fun p hp => ⟨by simp, hp⟩) (by decide))⟩
/-! taste -/
theorem z3b (k t : Nat) : nI k * 3 + nI t = nI (3 * k + t) := by
  rw [z3a, nI_add]
theorem z3c (k t : Nat) : 3 * nI k + nI t = nI (3 * k + t) := by
  rw [show (3 : Int32) = nI 3 from rfl, pk_mul, nI_add]
theorem XG_set {g k : Nat} {ta de : Nat → Int32} {v : Int32} {h : zq_H} (q : XG g ta de h) : XG g (zupd ta k v) de (zq_setI h 6 k v) :=
  ⟨q.1, by simpa [zq_sI] using q.2.1, zupd_set (fun i hi _ => q.2.2.1 i hi), fun i hi => by simpa [zq_sI] using q.2.2.2 i hi⟩
theorem MG_set {g k : Nat} {ta de : Nat → Int32} {v : Int32} {h : zq_H} (q : MG g ta de h) : MG g (zupd ta k v) de (zq_setI h 61 k v) :=
  ⟨q.1, by simpa [zq_sI] using q.2.1, zupd_set (fun i hi _ => q.2.2.1 i hi), fun i hi => by simpa [zq_sI] using q.2.2.2 i hi⟩
theorem XP_fr {L : Nat} {cd : Nat → zTk} {ps : List Nat} {h h' : zq_H} (k : XP L cd h) (f : zq_fr ps h h') (d : 48 ∉ ps ∧ 49 ∉ ps) : XP L cd h' := by
  unfold XP at *
  rw [(f 48 d.1).1, (f 49 d.2).1]
  exact k
def ztc (g : Nat) (a w v : Int32) : Prop := (0 ≤ a ∧ a < nI g) ∧ (0 ≤ w ∧ w ≤ 2) ∧ 0 ≤ v ∧ v ≤ 9
theorem ztw {w : Int32} (h : 0 ≤ w ∧ w ≤ 2) : ∃ i, i < 3 ∧ w = nI i := zg_nat (by decide) ⟨h.1, by have := h.2; show w < 3; grind⟩
def sp_xTaste : zq_Sp := fun args h Q => ∃ a w v n cr ra cu g ta de L cd, args = [.ref 0, .int a, .int w, .int v] ∧ XL n cr ra cu h ∧ XG g ta de h ∧ ZC L cd ∧ XP L cd h ∧ XW0 h ∧ (¬ ztc g a w v → Q (some (.int (-1))) h) ∧ ∀ j i, j < g → i < 3 → ztc g a w v → a = nI j → w = nI i → ∀ h', XG g (zupd ta (3 * j + i) v) de h' → XW n g (zwt n cr ra cu (zupd ta (3 * j + i) v) L cd) h' → XW0 h' → zq_fr [6, 9, 10, 11, 51] h h' → Q (some (.int (ta (3 * j + i)))) h'
theorem ok_xTaste : zq_M yX11_taste cX11_taste 5 (some .int) 1 5 sp_xTaste := by
  refine mX11_taste ok_isGuest (by decide) ok_tasteOf (by decide) ok_renewWorths (by decide) (fun args h Q hs => ?_)
  obtain ⟨a, w, v, n, cr, ra, cu, g, ta, de, L, cd, rfl, hL, hG, hC, hP, h0, h1, h2⟩ := hs
  have hg := hG.1
  refine ⟨Nat.le_of_ble_eq_true rfl, ?_⟩
  simp only [xX11_taste_29, xX11_taste_27, xX11_taste_21, xX11_taste_17, xX11_taste_12, xX11_taste_8, xX11_taste_0, zi_push, zi_iload, zi_lload, zi_aload, zi_istore, zi_astore, zi_lstore, zi_iinc, zi_i2, zi_i1, zi_idv, zi_l2, zi_ldv, zi_lsh, zi_i2l, zi_l2i, zi_lcmp, zi_dup, zi_dup2, zi_pop, zi_if1, zi_if2, zi_getI, zi_getL, zi_getR, zi_putI, zi_putZ, zi_putL, zi_aldI, zi_aldL, zi_astI, zi_astZ, zi_astL, zi_alen, zi_iret, zi_zret, zi_lret, zi_vret, zi_callV, zi_callS, zi_sw, zi_copyI, zi_copyL, zi_m2, zi_m1, zi_sval, zi_scod, zi_fmt, zi_balen, zi_bald, zi_bret, zi_callT, zq_nth, zq_put1, zq_put2, zq_clr, zq_nl, zq_tk, zq_ps, zq_sw, zq_l0, zq_a, zq_a1, List.length_cons, List.length_nil, List.nil_append, List.cons_append, List.append_nil, List.replicate, Nat.reduceAdd, Nat.reduceSub, Nat.reduceLeDiff, true_and, and_true, List.append_eq, List.cons.injEq, Value.int.injEq, Value.long.injEq, Value.ref.injEq, exists_and_left, exists_eq_left', and_assoc, zc_b, zc_0, zc_1, zc_10, zc_01, lg_cmp_ge, lg_cmp_le, lg_cmp_gt, lg_cmp_lt, lg_cmp_eq, zw_le, zw_lt, reduceIte, true_or, or_true, zw_g0, zw_l0, zw_g1, zw_l1, zw_g2, zw_l2, zw_g3, zw_l3, zw_g5, zw_l5, zw_g6, zw_l6, zw_g7, zw_l7, zw_g9, zw_l9, zw_g10, zw_l10, zw_g15, zw_l15, zw_g16, zw_l16, zw_g48, zw_l48, zw_g50, zw_l50, zw_g57, zw_l57, zw_g97, zw_l97, zw_g100, zw_l100, zw_g200, zw_l200, zw_g999, zw_l999, zw_g9999, zw_l9999, sp_isGuest, sp_tasteOf, hG.2.1]
  simp only [not_true_eq_false, not_false_eq_true, forall_const, true_and, and_true, false_and, and_false, if_true, if_false, reduceIte, implies_true, and_self, ite_self, true_or, or_true, false_or, or_false, true_implies, false_implies, Classical.not_not, false_imp_iff, not_false_iff]
  refine ⟨fun q => h1 (fun z => q z.1), fun q => ⟨fun q2 => h1 (fun z => absurd q2 (Int32.not_lt.mpr z.2.1.1)), fun q2 => ⟨fun q3 => h1 (fun z => by have := z.2.1.2; grind), fun q3 => ⟨fun q4 => h1 (fun z => absurd q4 (Int32.not_lt.mpr z.2.2.1)), fun q4 => ⟨fun q5 => ?_, fun q5 => h1 (fun z => q5 z.2.2.2)⟩⟩⟩⟩⟩
  have hw : 0 ≤ w ∧ w ≤ 2 := ⟨Int32.not_lt.mp q2, by grind⟩
  have hc : ztc g a w v := ⟨q, hw, Int32.not_lt.mp q4, q5⟩
  obtain ⟨j, hj, rfl⟩ := zg_nat (by omega) q
  obtain ⟨i, hi, rfl⟩ := ztw hw
  have h3 := h2 j i hj hi hc rfl rfl
  rw [← hG.2.2.1 (3 * j + i) (by omega)] at h3
  unfold zA
  rw [z3b, nI_clamp (by omega)]
  have f6 : zq_fr [6] h (zq_setI h 6 (3 * j + i) v) := zq_fr_I zq_fr_rf (by decide)
  have vv : vp_in (nI (3 * j + i)) 18 := vp_in_nI (by omega) (by decide)
  have fin : ∀ h', XW n g (zwt n cr ra cu (zupd ta (3 * j + i) v) L cd) h' → XW0 h' → zq_fr [9, 10, 11, 51] (zq_setI h 6 (3 * j + i) v) h' → Q (some (.int (h.1 6 (3 * j + i)))) h' := fun h' w1 w2 f => h3 h' (XG_fr (XG_set hG) f (by decide)) w1 w2 (zq_fr_tr f6 f (fun p hp => by simp at hp; simp; omega))
  have pre : ∀ K : zq_Q, (∀ h', Q (some (.int (h.1 6 (3 * j + i)))) h' → K none h') → sp_renewWorths [.ref 0] (zq_setI h 6 (3 * j + i) v) K := fun K hK => ⟨n, g, cr, ra, cu, zupd ta (3 * j + i) v, de, L, cd, rfl, XL_fr hL f6 (by decide), XG_set hG, hC, XP_fr hP f6 (by decide), fun i hi => by simpa [zq_sI] using h0 i hi, fun h' w1 w2 f => hK h' (fin h' w1 w2 f)⟩
  first | exact ⟨vv, vv, pre _ (fun h' z => z)⟩ | exact ⟨vv, Nat.le_of_ble_eq_true rfl, vv, pre _ (fun h' z => z)⟩ | exact ⟨vv, vv, pre _ (fun h' z => ⟨Nat.le_of_ble_eq_true rfl, z⟩)⟩ | exact ⟨vv, Nat.le_of_ble_eq_true rfl, vv, pre _ (fun h' z => ⟨Nat.le_of_ble_eq_true rfl, z⟩)⟩
def sp_mTaste : zq_Sp := fun args h Q => ∃ a w v g ta de, args = [.ref 56, .int a, .int w, .int v] ∧ MG g ta de h ∧ (¬ ztc g a w v → ∀ h', zq_fm [0] [] h h' → Q (some (.int (-1))) h') ∧ ∀ j i, j < g → i < 3 → ztc g a w v → a = nI j → w = nI i → ∀ h', MG g (zupd ta (3 * j + i) v) de h' → zq_fm [0] [61] h h' → Q (some (.int (ta (3 * j + i)))) h'
theorem ok_mTaste : zq_M yX12_taste cX12_taste 5 (some .int) 1 2 sp_mTaste := by
  refine mX12_taste ok_mIsGuest (by decide) ok_in (by decide) (fun args h Q hs => ?_)
  obtain ⟨a, w, v, g, ta, de, rfl, hG, h1, h2⟩ := hs
  have f0 : zq_fm [0] [] h (zq_setI h 56 0 0) := zq_fm_F zq_fm_rf (by decide)
  replace hG := MG_fm hG f0 (by decide)
  refine ⟨Nat.le_of_ble_eq_true rfl, ?_⟩
  simp only [xX12_taste_39, xX12_taste_37, xX12_taste_25, xX12_taste_13, xX12_taste_0, zi_push, zi_iload, zi_lload, zi_aload, zi_istore, zi_astore, zi_lstore, zi_iinc, zi_i2, zi_i1, zi_idv, zi_l2, zi_ldv, zi_lsh, zi_i2l, zi_l2i, zi_lcmp, zi_dup, zi_dup2, zi_pop, zi_if1, zi_if2, zi_getI, zi_getL, zi_getR, zi_putI, zi_putZ, zi_putL, zi_aldI, zi_aldL, zi_astI, zi_astZ, zi_astL, zi_alen, zi_iret, zi_zret, zi_lret, zi_vret, zi_callV, zi_callS, zi_sw, zi_copyI, zi_copyL, zi_m2, zi_m1, zi_sval, zi_scod, zi_fmt, zi_balen, zi_bald, zi_bret, zi_callT, zq_nth, zq_put1, zq_put2, zq_clr, zq_nl, zq_tk, zq_ps, zq_sw, zq_l0, zq_a, zq_a1, List.length_cons, List.length_nil, List.nil_append, List.cons_append, List.append_nil, List.replicate, Nat.reduceAdd, Nat.reduceSub, Nat.reduceLeDiff, true_and, and_true, List.append_eq, List.cons.injEq, Value.int.injEq, Value.long.injEq, Value.ref.injEq, exists_and_left, exists_eq_left', and_assoc, zc_b, zc_0, zc_1, zc_10, zc_01, lg_cmp_ge, lg_cmp_le, lg_cmp_gt, lg_cmp_lt, lg_cmp_eq, zw_le, zw_lt, reduceIte, true_or, or_true, zw_g0, zw_l0, zw_g1, zw_l1, zw_g2, zw_l2, zw_g3, zw_l3, zw_g5, zw_l5, zw_g6, zw_l6, zw_g7, zw_l7, zw_g9, zw_l9, zw_g10, zw_l10, zw_g15, zw_l15, zw_g16, zw_l16, zw_g48, zw_l48, zw_g50, zw_l50, zw_g57, zw_l57, zw_g97, zw_l97, zw_g100, zw_l100, zw_g200, zw_l200, zw_g999, zw_l999, zw_g9999, zw_l9999]
  generalize zq_setI h 56 0 0 = h9 at f0 hG ⊢
  have hg := hG.1
  simp only [sp_mIsGuest, sp_in, hG.2.1, zi_push, zi_iload, zi_lload, zi_aload, zi_istore, zi_astore, zi_lstore, zi_iinc, zi_i2, zi_i1, zi_idv, zi_l2, zi_ldv, zi_lsh, zi_i2l, zi_l2i, zi_lcmp, zi_dup, zi_dup2, zi_pop, zi_if1, zi_if2, zi_getI, zi_getL, zi_getR, zi_putI, zi_putZ, zi_putL, zi_aldI, zi_aldL, zi_astI, zi_astZ, zi_astL, zi_alen, zi_iret, zi_zret, zi_lret, zi_vret, zi_callV, zi_callS, zi_sw, zi_copyI, zi_copyL, zi_m2, zi_m1, zi_sval, zi_scod, zi_fmt, zi_balen, zi_bald, zi_bret, zi_callT, zq_nth, zq_put1, zq_put2, zq_clr, zq_nl, zq_tk, zq_ps, zq_sw, zq_l0, zq_a, zq_a1, List.length_cons, List.length_nil, List.nil_append, List.cons_append, List.append_nil, List.replicate, Nat.reduceAdd, Nat.reduceSub, Nat.reduceLeDiff, true_and, and_true, List.append_eq, List.cons.injEq, Value.int.injEq, Value.long.injEq, Value.ref.injEq, exists_and_left, exists_eq_left', and_assoc, zc_b, zc_0, zc_1, zc_10, zc_01, lg_cmp_ge, lg_cmp_le, lg_cmp_gt, lg_cmp_lt, lg_cmp_eq, zw_le, zw_lt, reduceIte, true_or, or_true, zw_g0, zw_l0, zw_g1, zw_l1, zw_g2, zw_l2, zw_g3, zw_l3, zw_g5, zw_l5, zw_g6, zw_l6, zw_g7, zw_l7, zw_g9, zw_l9, zw_g10, zw_l10, zw_g15, zw_l15, zw_g16, zw_l16, zw_g48, zw_l48, zw_g50, zw_l50, zw_g57, zw_l57, zw_g97, zw_l97, zw_g100, zw_l100, zw_g200, zw_l200, zw_g999, zw_l999, zw_g9999, zw_l9999, not_true_eq_false, not_false_eq_true, forall_const, true_and, and_true, false_and, and_false, if_true, if_false, reduceIte, implies_true, and_self, ite_self, true_or, or_true, false_or, or_false, true_implies, false_implies, Classical.not_not, false_imp_iff, not_false_iff]
  refine ⟨nI_pos' (by omega), fun q => h1 (fun z => q z.1) _ f0, fun q => ⟨fun q2 => h1 (fun z => q2 z.2.1) _ f0, fun q2 => ⟨fun q4 => h1 (fun z => q4 z.2.2) _ f0, fun q4 => ?_⟩⟩⟩
  have hc : ztc g a w v := ⟨q, q2, q4⟩
  obtain ⟨j, hj, rfl⟩ := zg_nat (by omega) q
  obtain ⟨i, hi, rfl⟩ := ztw q2
  have h3 := h2 j i hj hi hc rfl rfl
  rw [← hG.2.2.1 (3 * j + i) (by omega)] at h3
  rw [z3c, nI_clamp (by omega)]
  have vv : vp_in (nI (3 * j + i)) 18 := vp_in_nI (by omega) (by decide)
  exact ⟨vv, vv, h3 _ (MG_set hG) (zq_fm_I (zq_fm_w f0 (fs2 := [0]) (ps2 := [61]) (by simp)) (by decide))⟩
