/-! ===== readers at a place: the reference ===== -/
theorem ME_ok {s : Nat → Int32} {e p : Nat} {h : zq_H} (k : ME s e p h) : mt_ok h ∧ mt_cur h = zcur s e p := by
  obtain ⟨k3, k5, k4, k6, k7⟩ := k
  refine ⟨⟨?_, ?_, ?_, fun i hi => ?_⟩, ?_⟩
  · rw [k5]
    exact nI_pos' (by omega)
  · rw [k4, k5]
    exact nI_le k6 (by omega)
  · rw [k4]
    exact nI_le (b := 80) (by omega) (by decide)
  · rw [(k3 i hi).1]
    exact (k3 i hi).2
  · unfold mt_cur zcur
    rw [k4, k5, nI_clamp (by omega)]
    simp only [nI_ltP (show p < 2 ^ 31 by omega) (show e < 2 ^ 31 by omega)]
    split
    · next q => rw [(k3 p (by omega)).1]
    · rfl
theorem ME_adv {s : Nat → Int32} {e p : Nat} {h : zq_H} (k : ME s e p h) (l : p < e) : ME s e (p + 1) (mt_adv h) ∧ zq_fm [14] [] h (mt_adv h) := by
  obtain ⟨k3, k5, k4, k6, k7⟩ := k
  unfold mt_adv
  rw [k5, nI_1]
  exact ⟨⟨fun i hi => by simpa [zq_sI] using k3 i hi, by simp [zq_sI], by simpa [zq_sI] using k4, l, k7⟩, zq_fm_F zq_fm_rf (by decide)⟩
theorem ME_fm {s : Nat → Int32} {e p : Nat} {fs ps : List Nat} {h h' : zq_H} (k : ME s e p h) (f : zq_fm fs ps h h') (d : (14 ∉ fs ∧ 15 ∉ fs) ∧ 64 ∉ ps) : ME s e p h' := by
  unfold ME at *
  rw [(f.2 14 d.1.1).1, (f.2 15 d.1.2).1, (f.1 64 (by decide) d.2).1]
  exact k
theorem ME_MT {s : Nat → Int32} {e p : Nat} {h : zq_H} (k : ME s e p h) (h0 : h.1 56 13 = nI 0) : MT 0 s h := ⟨h0, Nat.zero_le _, k.1⟩
def sp_mBegins : zq_Sp := fun args h Q => ∃ n s lim, args = [.ref 56, .int (nI lim)] ∧ lim ≤ 80 ∧ MT n s h ∧ ∀ h', ME s (min n lim) 0 h' → h'.1 56 13 = nI 0 → h'.1 56 16 = nI 0 → zq_fm [13, 14, 15, 16] [] h h' → Q (some (.int (nI n))) h'
theorem ok_mBegins : zq_M yX12_begins cX12_begins 3 (some .int) 1 1 sp_mBegins := by
  refine zq_M_w ok_begins (fun args h Q ⟨n, s, lim, e, hl, hT, k⟩ => ⟨nI lim, e, ?_⟩)
  have hn := hT.2.1
  rw [hT.1, zminN (by omega) (by omega)]
  exact k _ ⟨fun i hi => by simpa [zq_sI] using hT.2.2 i hi, by simp [zq_sI]; rfl, by simp [zq_sI], Nat.zero_le _, by omega⟩ (by simp [zq_sI]; rfl) (by simp [zq_sI]; rfl) (zq_fm_F (zq_fm_F (zq_fm_F (zq_fm_F zq_fm_rf (by decide)) (by decide)) (by decide)) (by decide))
def sp_mTakes : zq_Sp := fun args h Q => ∃ s e p w, args = [.ref 56, .int w] ∧ 0 ≤ w ∧ ME s e p h ∧ (p < e ∧ s p = w → ∀ h', ME s e (p + 1) h' → zq_fm [14] [] h h' → Q (some (.int 1)) h') ∧ (¬ (p < e ∧ s p = w) → Q (some (.int 0)) h)
theorem ok_mTakes : zq_M yX12_takes cX12_takes 3 (some .boolean) 1 1 sp_mTakes := zq_M_w ok_takes (fun args h Q ⟨s, e, p, w, ea, hw, hD, k1, k2⟩ => ⟨w, ea, (ME_ok hD).1, hw, by
  rw [(ME_ok hD).2]
  unfold zcur
  by_cases c : p < e
  · rw [if_pos c]
    by_cases c2 : s p = w
    · rw [if_pos c2]
      exact k1 ⟨c, c2⟩ _ (ME_adv hD c).1 (ME_adv hD c).2
    · rw [if_neg c2]
      exact k2 (fun z => c2 z.2)
  · rw [if_neg c, if_neg (fun z => by rw [← z] at hw; exact absurd hw (by decide))]
    exact k2 (fun z => c z.1)⟩)
def sp_mIsDigit : zq_Sp := fun args h Q => ∃ s e p, args = [.ref 56] ∧ ME s e p h ∧ (zisd s e p → Q (some (.int 1)) h) ∧ (¬ zisd s e p → Q (some (.int 0)) h)
theorem ok_mIsDigit : zq_M yX12_isDigit cX12_isDigit 1 (some .boolean) 1 1 sp_mIsDigit := zq_M_w ok_isDigit (fun args h Q ⟨s, e, p, ea, hD, k1, k2⟩ => ⟨ea, (ME_ok hD).1, by
  rw [(ME_ok hD).2]
  unfold zcur
  by_cases c : p < e
  · rw [if_pos c]
    by_cases c2 : 48 ≤ s p ∧ s p ≤ 57
    · rw [if_pos c2]
      exact k1 ⟨c, c2⟩
    · rw [if_neg c2]
      exact k2 (fun z => c2 z.2)
  · rw [if_neg c, if_neg (fun z => absurd z.1 (by decide))]
    exact k2 (fun z => c z.1)⟩)
def sp_mLetter : zq_Sp := fun args h Q => ∃ s e p k, args = [.ref 56, .int (nI k)] ∧ k ≤ 26 ∧ ME s e p h ∧ (zisl s e p k → ∀ h', ME s e (p + 1) h' → zq_fm [14] [] h h' → Q (some (.int (nI (zlv s p)))) h') ∧ (¬ zisl s e p k → Q (some (.int (-1))) h)
theorem ok_mLetter : zq_M yX12_letter cX12_letter 2 (some .int) 1 1 sp_mLetter := zq_M_w ok_letter (fun args h Q ⟨s, e, p, l, ea, hl, hD, k1, k2⟩ => ⟨nI l, ea, nI_pos' (by omega), nI_le (b := 26) hl (by decide), (ME_ok hD).1, by
  rw [(ME_ok hD).2, show (97 : Int32) + nI l = nI (97 + l) from nI_add 97 l]
  unfold zcur
  by_cases c : p < e
  · rw [if_pos c]
    by_cases c2 : zisl s e p l
    · obtain ⟨v1, v2⟩ := zlv_eq hl c2
      have ew : s p - 97 = nI (zlv s p) := by
        rw [v1]
        exact (nI_sub (a := 97 + zlv s p) (b := 97) (Nat.le_add_right _ _)).trans (by rw [Nat.add_sub_cancel_left])
      rw [ew, if_pos c2.2]
      exact k1 c2 _ (ME_adv hD c).1 (ME_adv hD c).2
    · rw [if_neg (fun z => c2 ⟨c, z⟩)]
      exact k2 c2
  · rw [if_neg c, if_neg (fun z => absurd z.1 (by decide))]
    exact k2 (fun z => c z.1)⟩)
def sp_mNumber : zq_Sp := fun args h Q => ∃ s e p m, args = [.ref 56, .int (nI m)] ∧ (1 ≤ m ∧ m ≤ 3) ∧ ME s e p h ∧ (zln s e p m = 0 → Q (some (.int (-1))) h) ∧ (0 < zln s e p m → ∀ h', ME s e (p + zln s e p m) h' → zq_fm [14] [] h h' → Q (some (.int (nI (znv s p (zln s e p m))))) h')
def I_mNumber (Q : zq_Q) (z : zq_H × (Nat → Int32) × Nat × Nat × Nat × Nat) : zq_P := fun ls st h => match z with
  | (h0, s, e, p, m, k) => ls = [some (.ref 56), some (.int (nI m)), some (.int (nI (znv s p k))), some (.int (nI k))] ∧ st = [] ∧ (1 ≤ m ∧ m ≤ 3) ∧ zq_fm [14] [] h0 h ∧ k ≤ m ∧ (∀ i, i < k → zisd s e (p + i)) ∧ zisd s e p ∧ ME s e (p + k) h ∧ (0 < zln s e p m → ∀ h', ME s e (p + zln s e p m) h' → zq_fm [14] [] h0 h' → Q (some (.int (nI (znv s p (zln s e p m))))) h')
theorem ok_mNumber : zq_M yX12_number cX12_number 4 (some .int) 1 2 sp_mNumber := by
  refine mX12_number ok_mIsDigit (by decide) (fun z => 10 - z.2.2.2.2.2) I_mNumber (fun args h Q hs => ?_) (fun Q z ls st h hi => ?_)
  · obtain ⟨s, e, p, m, rfl, hm, hD, k1, k2⟩ := hs
    refine ⟨Nat.le_of_ble_eq_true rfl, ?_⟩
    simp only [xX12_number_59, xX12_number_25, xX12_number_18, xX12_number_13, xX12_number_9, xX12_number_7, xX12_number_0, zi_push, zi_iload, zi_lload, zi_aload, zi_istore, zi_astore, zi_lstore, zi_iinc, zi_i2, zi_i1, zi_idv, zi_l2, zi_ldv, zi_lsh, zi_i2l, zi_l2i, zi_lcmp, zi_dup, zi_dup2, zi_pop, zi_if1, zi_if2, zi_getI, zi_getL, zi_getR, zi_putI, zi_putZ, zi_putL, zi_aldI, zi_aldL, zi_astI, zi_astZ, zi_astL, zi_alen, zi_iret, zi_zret, zi_lret, zi_vret, zi_callV, zi_callS, zi_sw, zi_copyI, zi_copyL, zi_m2, zi_m1, zi_sval, zi_scod, zi_fmt, zi_balen, zi_bald, zi_bret, zi_callT, zq_nth, zq_put1, zq_put2, zq_clr, zq_nl, zq_tk, zq_ps, zq_sw, zq_l0, zq_a, zq_a1, List.length_cons, List.length_nil, List.nil_append, List.cons_append, List.append_nil, List.replicate, Nat.reduceAdd, Nat.reduceSub, Nat.reduceLeDiff, true_and, and_true, List.append_eq, List.cons.injEq, Value.int.injEq, Value.long.injEq, Value.ref.injEq, exists_and_left, exists_eq_left', and_assoc, zc_b, zc_0, zc_1, zc_10, zc_01, lg_cmp_ge, lg_cmp_le, lg_cmp_gt, lg_cmp_lt, lg_cmp_eq, zw_le, zw_lt, reduceIte, true_or, or_true, zw_g0, zw_l0, zw_g1, zw_l1, zw_g2, zw_l2, zw_g3, zw_l3, zw_g5, zw_l5, zw_g6, zw_l6, zw_g7, zw_l7, zw_g9, zw_l9, zw_g10, zw_l10, zw_g15, zw_l15, zw_g16, zw_l16, zw_g48, zw_l48, zw_g50, zw_l50, zw_g57, zw_l57, zw_g97, zw_l97, zw_g100, zw_l100, zw_g200, zw_l200, zw_g999, zw_l999, zw_g9999, zw_l9999]
    refine ⟨s, e, p, rfl, hD, fun q => ?_, fun q => ?_⟩
    · simp only [zc_10, not_true_eq_false, not_false_eq_true, forall_const, true_and, and_true, false_and, and_false, if_true, if_false, reduceIte, implies_true, and_self, ite_self, true_or, or_true, false_or, or_false, true_implies, false_implies, Classical.not_not, false_imp_iff, not_false_iff, zi_push, zi_iload, zi_lload, zi_aload, zi_istore, zi_astore, zi_lstore, zi_iinc, zi_i2, zi_i1, zi_idv, zi_l2, zi_ldv, zi_lsh, zi_i2l, zi_l2i, zi_lcmp, zi_dup, zi_dup2, zi_pop, zi_if1, zi_if2, zi_getI, zi_getL, zi_getR, zi_putI, zi_putZ, zi_putL, zi_aldI, zi_aldL, zi_astI, zi_astZ, zi_astL, zi_alen, zi_iret, zi_zret, zi_lret, zi_vret, zi_callV, zi_callS, zi_sw, zi_copyI, zi_copyL, zi_m2, zi_m1, zi_sval, zi_scod, zi_fmt, zi_balen, zi_bald, zi_bret, zi_callT, zq_nth, zq_put1, zq_put2, zq_clr, zq_nl, zq_tk, zq_ps, zq_sw, zq_l0, zq_a, zq_a1, List.length_cons, List.length_nil, List.nil_append, List.cons_append, List.append_nil, List.replicate, Nat.reduceAdd, Nat.reduceSub, Nat.reduceLeDiff, true_and, and_true, List.append_eq, List.cons.injEq, Value.int.injEq, Value.long.injEq, Value.ref.injEq, exists_and_left, exists_eq_left', and_assoc, zc_b, zc_0, zc_1, zc_10, zc_01, lg_cmp_ge, lg_cmp_le, lg_cmp_gt, lg_cmp_lt, lg_cmp_eq, zw_le, zw_lt, reduceIte, true_or, or_true, zw_g0, zw_l0, zw_g1, zw_l1, zw_g2, zw_l2, zw_g3, zw_l3, zw_g5, zw_l5, zw_g6, zw_l6, zw_g7, zw_l7, zw_g9, zw_l9, zw_g10, zw_l10, zw_g15, zw_l15, zw_g16, zw_l16, zw_g48, zw_l48, zw_g50, zw_l50, zw_g57, zw_l57, zw_g97, zw_l97, zw_g100, zw_l100, zw_g200, zw_l200, zw_g999, zw_l999, zw_g9999, zw_l9999]
      exact ⟨(h, s, e, p, m, 0), rfl, rfl, hm, zq_fm_rf, Nat.zero_le _, fun i hi => absurd hi (Nat.not_lt_zero _), q, hD, k2⟩
    · simp only [not_true_eq_false, not_false_eq_true, forall_const, true_and, and_true, false_and, and_false, if_true, if_false, reduceIte, implies_true, and_self, ite_self, true_or, or_true, false_or, or_false, true_implies, false_implies, Classical.not_not, false_imp_iff, not_false_iff, zi_push, zi_iload, zi_lload, zi_aload, zi_istore, zi_astore, zi_lstore, zi_iinc, zi_i2, zi_i1, zi_idv, zi_l2, zi_ldv, zi_lsh, zi_i2l, zi_l2i, zi_lcmp, zi_dup, zi_dup2, zi_pop, zi_if1, zi_if2, zi_getI, zi_getL, zi_getR, zi_putI, zi_putZ, zi_putL, zi_aldI, zi_aldL, zi_astI, zi_astZ, zi_astL, zi_alen, zi_iret, zi_zret, zi_lret, zi_vret, zi_callV, zi_callS, zi_sw, zi_copyI, zi_copyL, zi_m2, zi_m1, zi_sval, zi_scod, zi_fmt, zi_balen, zi_bald, zi_bret, zi_callT, zq_nth, zq_put1, zq_put2, zq_clr, zq_nl, zq_tk, zq_ps, zq_sw, zq_l0, zq_a, zq_a1, List.length_cons, List.length_nil, List.nil_append, List.cons_append, List.append_nil, List.replicate, Nat.reduceAdd, Nat.reduceSub, Nat.reduceLeDiff, true_and, and_true, List.append_eq, List.cons.injEq, Value.int.injEq, Value.long.injEq, Value.ref.injEq, exists_and_left, exists_eq_left', and_assoc, zc_b, zc_0, zc_1, zc_10, zc_01, lg_cmp_ge, lg_cmp_le, lg_cmp_gt, lg_cmp_lt, lg_cmp_eq, zw_le, zw_lt, reduceIte, true_or, or_true, zw_g0, zw_l0, zw_g1, zw_l1, zw_g2, zw_l2, zw_g3, zw_l3, zw_g5, zw_l5, zw_g6, zw_l6, zw_g7, zw_l7, zw_g9, zw_l9, zw_g10, zw_l10, zw_g15, zw_l15, zw_g16, zw_l16, zw_g48, zw_l48, zw_g50, zw_l50, zw_g57, zw_l57, zw_g97, zw_l97, zw_g100, zw_l100, zw_g200, zw_l200, zw_g999, zw_l999, zw_g9999, zw_l9999]
      exact k1 (zln_no q)
  · obtain ⟨h0, s, e, p, m, k⟩ := z
    obtain ⟨rfl, rfl, hm, hf, hk, hd, h0d, hD, k2⟩ := hi
    have hz : zln s e p m = k + zln s e (p + k) (m - k) := by
      have := zln_sp (s := s) (e := e) k (m - k) p hd
      rw [show k + (m - k) = m by omega] at this
      exact this
    simp only [xX12_number_13, xX12_number_18, xX12_number_59, zl_ge hk (show m < 2 ^ 31 by omega), zi_push, zi_iload, zi_lload, zi_aload, zi_istore, zi_astore, zi_lstore, zi_iinc, zi_i2, zi_i1, zi_idv, zi_l2, zi_ldv, zi_lsh, zi_i2l, zi_l2i, zi_lcmp, zi_dup, zi_dup2, zi_pop, zi_if1, zi_if2, zi_getI, zi_getL, zi_getR, zi_putI, zi_putZ, zi_putL, zi_aldI, zi_aldL, zi_astI, zi_astZ, zi_astL, zi_alen, zi_iret, zi_zret, zi_lret, zi_vret, zi_callV, zi_callS, zi_sw, zi_copyI, zi_copyL, zi_m2, zi_m1, zi_sval, zi_scod, zi_fmt, zi_balen, zi_bald, zi_bret, zi_callT, zq_nth, zq_put1, zq_put2, zq_clr, zq_nl, zq_tk, zq_ps, zq_sw, zq_l0, zq_a, zq_a1, List.length_cons, List.length_nil, List.nil_append, List.cons_append, List.append_nil, List.replicate, Nat.reduceAdd, Nat.reduceSub, Nat.reduceLeDiff, true_and, and_true, List.append_eq, List.cons.injEq, Value.int.injEq, Value.long.injEq, Value.ref.injEq, exists_and_left, exists_eq_left', and_assoc, zc_b, zc_0, zc_1, zc_10, zc_01, lg_cmp_ge, lg_cmp_le, lg_cmp_gt, lg_cmp_lt, lg_cmp_eq, zw_le, zw_lt, reduceIte, true_or, or_true, zw_g0, zw_l0, zw_g1, zw_l1, zw_g2, zw_l2, zw_g3, zw_l3, zw_g5, zw_l5, zw_g6, zw_l6, zw_g7, zw_l7, zw_g9, zw_l9, zw_g10, zw_l10, zw_g15, zw_l15, zw_g16, zw_l16, zw_g48, zw_l48, zw_g50, zw_l50, zw_g57, zw_l57, zw_g97, zw_l97, zw_g100, zw_l100, zw_g200, zw_l200, zw_g999, zw_l999, zw_g9999, zw_l9999]
    refine ⟨fun q => ?_, fun q => ⟨s, e, p + k, rfl, hD, fun q2 => ?_, fun q2 => ?_⟩⟩
    · subst q
      rw [Nat.sub_self, zln, Nat.add_zero] at hz
      rw [hz] at k2
      exact k2 (by omega) h hD hf
    · obtain ⟨v1, v2⟩ := zdv_eq q2
      obtain ⟨d1, d2, d3, d4, d5⟩ := hD
      have a := ME_adv ⟨d1, d2, d3, d4, d5⟩ q2.1
      unfold mt_adv at a
      have e64 := (d1 (p + k) (by have := q2.1; omega)).1
      have hp := q2.1
      have ca : (h.1 56 14).toNatClampNeg = p + k := by rw [d2, nI_clamp (by omega)]
      simp only [xX12_number_25, zc_10, ca, e64, v1, not_true_eq_false, not_false_eq_true, forall_const, true_and, and_true, false_and, and_false, if_true, if_false, reduceIte, implies_true, and_self, ite_self, true_or, or_true, false_or, or_false, true_implies, false_implies, Classical.not_not, false_imp_iff, not_false_iff, zi_push, zi_iload, zi_lload, zi_aload, zi_istore, zi_astore, zi_lstore, zi_iinc, zi_i2, zi_i1, zi_idv, zi_l2, zi_ldv, zi_lsh, zi_i2l, zi_l2i, zi_lcmp, zi_dup, zi_dup2, zi_pop, zi_if1, zi_if2, zi_getI, zi_getL, zi_getR, zi_putI, zi_putZ, zi_putL, zi_aldI, zi_aldL, zi_astI, zi_astZ, zi_astL, zi_alen, zi_iret, zi_zret, zi_lret, zi_vret, zi_callV, zi_callS, zi_sw, zi_copyI, zi_copyL, zi_m2, zi_m1, zi_sval, zi_scod, zi_fmt, zi_balen, zi_bald, zi_bret, zi_callT, zq_nth, zq_put1, zq_put2, zq_clr, zq_nl, zq_tk, zq_ps, zq_sw, zq_l0, zq_a, zq_a1, List.length_cons, List.length_nil, List.nil_append, List.cons_append, List.append_nil, List.replicate, Nat.reduceAdd, Nat.reduceSub, Nat.reduceLeDiff, true_and, and_true, List.append_eq, List.cons.injEq, Value.int.injEq, Value.long.injEq, Value.ref.injEq, exists_and_left, exists_eq_left', and_assoc, zc_b, zc_0, zc_1, zc_10, zc_01, lg_cmp_ge, lg_cmp_le, lg_cmp_gt, lg_cmp_lt, lg_cmp_eq, zw_le, zw_lt, reduceIte, true_or, or_true, zw_g0, zw_l0, zw_g1, zw_l1, zw_g2, zw_l2, zw_g3, zw_l3, zw_g5, zw_l5, zw_g6, zw_l6, zw_g7, zw_l7, zw_g9, zw_l9, zw_g10, zw_l10, zw_g15, zw_l15, zw_g16, zw_l16, zw_g48, zw_l48, zw_g50, zw_l50, zw_g57, zw_l57, zw_g97, zw_l97, zw_g100, zw_l100, zw_g200, zw_l200, zw_g999, zw_l999, zw_g9999, zw_l9999]
      have en : (10 : Int32) * nI (znv s p k) + nI (48 + zdv s (p + k)) - 48 = nI (znv s p (k + 1)) := by
        rw [show (10 : Int32) = nI 10 from rfl, pk_mul, nI_add, show (48 : Int32) = nI 48 from rfl, nI_sub (by omega)]
        show nI _ = nI (znv s p k * 10 + zdv s (p + k))
        congr 1
        omega
      rw [en, nI_1]
      refine ⟨by rw [d2]; exact vp_in_nI (by omega) (by decide), (h0, s, e, p, m, k + 1), by dsimp only; omega, rfl, rfl, hm, zq_fm_t hf a.2 (by decide), by omega, fun i hi => ?_, h0d, a.1, k2⟩
      by_cases q3 : i = k
      · rw [q3]
        exact q2
      · exact hd i (by omega)
    · rw [zln_no q2, Nat.add_zero] at hz
      rw [hz] at k2
      simp only [xX12_number_59, not_true_eq_false, not_false_eq_true, forall_const, true_and, and_true, false_and, and_false, if_true, if_false, reduceIte, implies_true, and_self, ite_self, true_or, or_true, false_or, or_false, true_implies, false_implies, Classical.not_not, false_imp_iff, not_false_iff, zi_push, zi_iload, zi_lload, zi_aload, zi_istore, zi_astore, zi_lstore, zi_iinc, zi_i2, zi_i1, zi_idv, zi_l2, zi_ldv, zi_lsh, zi_i2l, zi_l2i, zi_lcmp, zi_dup, zi_dup2, zi_pop, zi_if1, zi_if2, zi_getI, zi_getL, zi_getR, zi_putI, zi_putZ, zi_putL, zi_aldI, zi_aldL, zi_astI, zi_astZ, zi_astL, zi_alen, zi_iret, zi_zret, zi_lret, zi_vret, zi_callV, zi_callS, zi_sw, zi_copyI, zi_copyL, zi_m2, zi_m1, zi_sval, zi_scod, zi_fmt, zi_balen, zi_bald, zi_bret, zi_callT, zq_nth, zq_put1, zq_put2, zq_clr, zq_nl, zq_tk, zq_ps, zq_sw, zq_l0, zq_a, zq_a1, List.length_cons, List.length_nil, List.nil_append, List.cons_append, List.append_nil, List.replicate, Nat.reduceAdd, Nat.reduceSub, Nat.reduceLeDiff, true_and, and_true, List.append_eq, List.cons.injEq, Value.int.injEq, Value.long.injEq, Value.ref.injEq, exists_and_left, exists_eq_left', and_assoc, zc_b, zc_0, zc_1, zc_10, zc_01, lg_cmp_ge, lg_cmp_le, lg_cmp_gt, lg_cmp_lt, lg_cmp_eq, zw_le, zw_lt, reduceIte, true_or, or_true, zw_g0, zw_l0, zw_g1, zw_l1, zw_g2, zw_l2, zw_g3, zw_l3, zw_g5, zw_l5, zw_g6, zw_l6, zw_g7, zw_l7, zw_g9, zw_l9, zw_g10, zw_l10, zw_g15, zw_l15, zw_g16, zw_l16, zw_g48, zw_l48, zw_g50, zw_l50, zw_g57, zw_l57, zw_g97, zw_l97, zw_g100, zw_l100, zw_g200, zw_l200, zw_g999, zw_l999, zw_g9999, zw_l9999]
      refine k2 ?_ h hD hf
      rcases Nat.eq_zero_or_pos k with z | z
      · subst z
        exact absurd h0d q2
      · exact z
def sp_mFault : zq_Sp := fun args h Q => ∃ s e p n lim b, args = [.ref 56, .int (nI n), .int (nI lim), .int b] ∧ ME s e p h ∧ e = min n lim ∧ n ≤ 80 ∧ lim ≤ 80 ∧ Q (some (.int (if lim < n ∧ ((¬ b = 0 ∧ p = e) ∨ lim ≤ p) then -1 - nI lim else if ¬ b = 0 ∧ p = e then 0 else -1 - nI p))) h
theorem ok_mFault : zq_M yX12_faultOf cX12_faultOf 5 (some .int) 1 0 sp_mFault := zq_M_w ok_faultOf (fun args h Q ⟨s, e, p, n, lim, b, ea, hD, he, hn, hl, k⟩ => ⟨nI n, nI lim, b, ea, by
  obtain ⟨d1, d2, d3, d4, d5⟩ := hD
  rw [d2, d3]
  simp only [nI_ltP (show lim < 2 ^ 31 by omega) (show n < 2 ^ 31 by omega), nI_eqP (show p < 2 ^ 31 by omega) (show e < 2 ^ 31 by omega), nI_leP (show lim < 2 ^ 31 by omega) (show p < 2 ^ 31 by omega)]
  exact k⟩)
/-! texts' constants -/
theorem a200 (i : Nat) : 200 ≤ 200 + i := Nat.le_add_right _ _
theorem b200 {i : Nat} (h : i < 8) : 200 + i < 208 := by omega
theorem a300 (i : Nat) : 300 ≤ 200 + i + 100 := by omega
theorem b300 {i : Nat} (h : i < 8) : 200 + i + 100 < 308 := by omega
theorem c300 (i : Nat) : 200 + i + 100 - 300 = i := by omega
theorem d300 (i : Nat) : 300 + i - 300 = i := by omega
theorem a301 (i : Nat) : 300 ≤ 300 + i := Nat.le_add_right _ _
theorem b301 {i : Nat} (h : i < 8) : 300 + i < 308 := by omega
theorem e300 (i : Nat) : 200 + i + 100 = 300 + i := by omega
def sp_coder : zq_Sp := fun args h Q => ∃ i : Nat, args = [.ref (200 + i : Nat)] ∧ i < 8 ∧ Q (some (.int 0)) h
theorem ok_coder : zq_M yJ0_coder_7d493 cJ0_coder_7d493 1 (some .byte) 1 0 sp_coder := by
  refine mJ0_coder_7d493 (fun args h Q hs => ?_)
  obtain ⟨i, rfl, hi, k⟩ := hs
  refine ⟨Nat.le_of_ble_eq_true rfl, ?_⟩
  simp only [xJ0_coder_7d493_14, xJ0_coder_7d493_13, xJ0_coder_7d493_6, xJ0_coder_7d493_0, zi_push, zi_iload, zi_lload, zi_aload, zi_istore, zi_astore, zi_lstore, zi_iinc, zi_i2, zi_i1, zi_idv, zi_l2, zi_ldv, zi_lsh, zi_i2l, zi_l2i, zi_lcmp, zi_dup, zi_dup2, zi_pop, zi_if1, zi_if2, zi_getI, zi_getL, zi_getR, zi_putI, zi_putZ, zi_putL, zi_aldI, zi_aldL, zi_astI, zi_astZ, zi_astL, zi_alen, zi_iret, zi_zret, zi_lret, zi_vret, zi_callV, zi_callS, zi_sw, zi_copyI, zi_copyL, zi_m2, zi_m1, zi_sval, zi_scod, zi_fmt, zi_balen, zi_bald, zi_bret, zi_callT, zq_nth, zq_put1, zq_put2, zq_clr, zq_nl, zq_tk, zq_ps, zq_sw, zq_l0, zq_a, zq_a1, List.length_cons, List.length_nil, List.nil_append, List.cons_append, List.append_nil, List.replicate, Nat.reduceAdd, Nat.reduceSub, Nat.reduceLeDiff, true_and, and_true, List.append_eq, List.cons.injEq, Value.int.injEq, Value.long.injEq, Value.ref.injEq, exists_and_left, exists_eq_left', and_assoc, zc_b, zc_0, zc_1, zc_10, zc_01, lg_cmp_ge, lg_cmp_le, lg_cmp_gt, lg_cmp_lt, lg_cmp_eq, zw_le, zw_lt, reduceIte, true_or, or_true, zw_g0, zw_l0, zw_g1, zw_l1, zw_g2, zw_l2, zw_g3, zw_l3, zw_g5, zw_l5, zw_g6, zw_l6, zw_g7, zw_l7, zw_g9, zw_l9, zw_g10, zw_l10, zw_g15, zw_l15, zw_g16, zw_l16, zw_g48, zw_l48, zw_g50, zw_l50, zw_g57, zw_l57, zw_g97, zw_l97, zw_g100, zw_l100, zw_g200, zw_l200, zw_g999, zw_l999, zw_g9999, zw_l9999, ]
  refine ⟨fun z => absurd z (by decide), fun _ => ⟨a200 i, b200 hi, rfl, k⟩⟩
def zsl8 (i : Nat) : Nat := zq_len.getD i 0
theorem zsl8_le : ∀ i, i < 8 → zsl8 i ≤ 9 := by decide
def sp_length : zq_Sp := fun args h Q => ∃ i : Nat, args = [.ref (200 + i : Nat)] ∧ i < 8 ∧ Q (some (.int (nI (zsl8 i)))) h
theorem ok_length : zq_M yJ0_length_8abf5 cJ0_length_8abf5 1 (some .int) 1 1 sp_length := by
  refine mJ0_length_8abf5 ok_coder (by decide) (fun args h Q hs => ?_)
  obtain ⟨i, rfl, hi, k⟩ := hs
  refine ⟨Nat.le_of_ble_eq_true rfl, ?_⟩
  simp only [xJ0_length_8abf5_0, zi_push, zi_iload, zi_lload, zi_aload, zi_istore, zi_astore, zi_lstore, zi_iinc, zi_i2, zi_i1, zi_idv, zi_l2, zi_ldv, zi_lsh, zi_i2l, zi_l2i, zi_lcmp, zi_dup, zi_dup2, zi_pop, zi_if1, zi_if2, zi_getI, zi_getL, zi_getR, zi_putI, zi_putZ, zi_putL, zi_aldI, zi_aldL, zi_astI, zi_astZ, zi_astL, zi_alen, zi_iret, zi_zret, zi_lret, zi_vret, zi_callV, zi_callS, zi_sw, zi_copyI, zi_copyL, zi_m2, zi_m1, zi_sval, zi_scod, zi_fmt, zi_balen, zi_bald, zi_bret, zi_callT, zq_nth, zq_put1, zq_put2, zq_clr, zq_nl, zq_tk, zq_ps, zq_sw, zq_l0, zq_a, zq_a1, List.length_cons, List.length_nil, List.nil_append, List.cons_append, List.append_nil, List.replicate, Nat.reduceAdd, Nat.reduceSub, Nat.reduceLeDiff, true_and, and_true, List.append_eq, List.cons.injEq, Value.int.injEq, Value.long.injEq, Value.ref.injEq, exists_and_left, exists_eq_left', and_assoc, zc_b, zc_0, zc_1, zc_10, zc_01, lg_cmp_ge, lg_cmp_le, lg_cmp_gt, lg_cmp_lt, lg_cmp_eq, zw_le, zw_lt, reduceIte, true_or, or_true, zw_g0, zw_l0, zw_g1, zw_l1, zw_g2, zw_l2, zw_g3, zw_l3, zw_g5, zw_l5, zw_g6, zw_l6, zw_g7, zw_l7, zw_g9, zw_l9, zw_g10, zw_l10, zw_g15, zw_l15, zw_g16, zw_l16, zw_g48, zw_l48, zw_g50, zw_l50, zw_g57, zw_l57, zw_g97, zw_l97, zw_g100, zw_l100, zw_g200, zw_l200, zw_g999, zw_l999, zw_g9999, zw_l9999]
  rw [c300]
  have e2 : zf_shr (nI (zq_len.getD i 0)) 0 = nI (zsl8 i) := (by decide : ∀ i, i < 8 → zf_shr (nI (zq_len.getD i 0)) 0 = nI (zsl8 i)) i hi
  refine ⟨a200 i, b200 hi, a200 i, b300 hi, a200 i, b200 hi, i, rfl, hi, ?_⟩
  simp only [e2, zi_push, zi_iload, zi_lload, zi_aload, zi_istore, zi_astore, zi_lstore, zi_iinc, zi_i2, zi_i1, zi_idv, zi_l2, zi_ldv, zi_lsh, zi_i2l, zi_l2i, zi_lcmp, zi_dup, zi_dup2, zi_pop, zi_if1, zi_if2, zi_getI, zi_getL, zi_getR, zi_putI, zi_putZ, zi_putL, zi_aldI, zi_aldL, zi_astI, zi_astZ, zi_astL, zi_alen, zi_iret, zi_zret, zi_lret, zi_vret, zi_callV, zi_callS, zi_sw, zi_copyI, zi_copyL, zi_m2, zi_m1, zi_sval, zi_scod, zi_fmt, zi_balen, zi_bald, zi_bret, zi_callT, zq_nth, zq_put1, zq_put2, zq_clr, zq_nl, zq_tk, zq_ps, zq_sw, zq_l0, zq_a, zq_a1, List.length_cons, List.length_nil, List.nil_append, List.cons_append, List.append_nil, List.replicate, Nat.reduceAdd, Nat.reduceSub, Nat.reduceLeDiff, true_and, and_true, List.append_eq, List.cons.injEq, Value.int.injEq, Value.long.injEq, Value.ref.injEq, exists_and_left, exists_eq_left', and_assoc, zc_b, zc_0, zc_1, zc_10, zc_01, lg_cmp_ge, lg_cmp_le, lg_cmp_gt, lg_cmp_lt, lg_cmp_eq, zw_le, zw_lt, reduceIte, true_or, or_true, zw_g0, zw_l0, zw_g1, zw_l1, zw_g2, zw_l2, zw_g3, zw_l3, zw_g5, zw_l5, zw_g6, zw_l6, zw_g7, zw_l7, zw_g9, zw_l9, zw_g10, zw_l10, zw_g15, zw_l15, zw_g16, zw_l16, zw_g48, zw_l48, zw_g50, zw_l50, zw_g57, zw_l57, zw_g97, zw_l97, zw_g100, zw_l100, zw_g200, zw_l200, zw_g999, zw_l999, zw_g9999, zw_l9999]
  exact k
def sp_isLatin : zq_Sp := fun args h Q => ∃ i : Nat, args = [.ref (200 + i : Nat)] ∧ i < 8 ∧ Q (some (.int 1)) h
theorem ok_isLatin : zq_M yJ0_isLatin1_aae02 cJ0_isLatin1_aae02 1 (some .boolean) 1 0 sp_isLatin := by
  refine mJ0_isLatin1_aae02 (fun args h Q hs => ?_)
  obtain ⟨i, rfl, hi, k⟩ := hs
  refine ⟨Nat.le_of_ble_eq_true rfl, ?_⟩
  simp only [xJ0_isLatin1_aae02_18, xJ0_isLatin1_aae02_17, xJ0_isLatin1_aae02_13, xJ0_isLatin1_aae02_6, xJ0_isLatin1_aae02_0, zi_push, zi_iload, zi_lload, zi_aload, zi_istore, zi_astore, zi_lstore, zi_iinc, zi_i2, zi_i1, zi_idv, zi_l2, zi_ldv, zi_lsh, zi_i2l, zi_l2i, zi_lcmp, zi_dup, zi_dup2, zi_pop, zi_if1, zi_if2, zi_getI, zi_getL, zi_getR, zi_putI, zi_putZ, zi_putL, zi_aldI, zi_aldL, zi_astI, zi_astZ, zi_astL, zi_alen, zi_iret, zi_zret, zi_lret, zi_vret, zi_callV, zi_callS, zi_sw, zi_copyI, zi_copyL, zi_m2, zi_m1, zi_sval, zi_scod, zi_fmt, zi_balen, zi_bald, zi_bret, zi_callT, zq_nth, zq_put1, zq_put2, zq_clr, zq_nl, zq_tk, zq_ps, zq_sw, zq_l0, zq_a, zq_a1, List.length_cons, List.length_nil, List.nil_append, List.cons_append, List.append_nil, List.replicate, Nat.reduceAdd, Nat.reduceSub, Nat.reduceLeDiff, true_and, and_true, List.append_eq, List.cons.injEq, Value.int.injEq, Value.long.injEq, Value.ref.injEq, exists_and_left, exists_eq_left', and_assoc, zc_b, zc_0, zc_1, zc_10, zc_01, lg_cmp_ge, lg_cmp_le, lg_cmp_gt, lg_cmp_lt, lg_cmp_eq, zw_le, zw_lt, reduceIte, true_or, or_true, zw_g0, zw_l0, zw_g1, zw_l1, zw_g2, zw_l2, zw_g3, zw_l3, zw_g5, zw_l5, zw_g6, zw_l6, zw_g7, zw_l7, zw_g9, zw_l9, zw_g10, zw_l10, zw_g15, zw_l15, zw_g16, zw_l16, zw_g48, zw_l48, zw_g50, zw_l50, zw_g57, zw_l57, zw_g97, zw_l97, zw_g100, zw_l100, zw_g200, zw_l200, zw_g999, zw_l999, zw_g9999, zw_l9999]
  refine ⟨fun z => absurd z (by decide), fun _ => ⟨a200 i, b200 hi, fun _ => k, fun z => absurd trivial z⟩⟩
def sp_ckIx : zq_Sp := fun args h Q => ∃ j n v, args = [.int (nI j), .int (nI n), v] ∧ v.category = 1 ∧ j < n ∧ n < 2 ^ 30 ∧ Q (some (.int (nI j))) h
theorem ok_ckIx : zq_M yJ3_checkIndex_8e157 cJ3_checkIndex_8e157 3 (some .int) 1 0 sp_ckIx := by
  refine zq_met (by decide +kernel) (by decide) (fun X Q args h C hq hs => ⟨?_, _, kJ3_checkIndex_8e157_0 C (J12 := fun _ _ _ => False) ?_ hq, ?_⟩)
  · obtain ⟨j, n, v, rfl, hc, hj, hn, k⟩ := hs
    cases v <;> first | exact Nat.le_of_ble_eq_true rfl | (cases hc; done)
  · obtain ⟨p, l, e, R, s, m, args, below, meth, c, D, Y, ad, A, kc, kn, Z⟩ := X
    intro ls st h H locs a hP
    exact hP.elim
  · obtain ⟨j, n, v, rfl, hc, hj, hn, k⟩ := hs
    have e1 : (nI j < 0) = False := eq_false (nI_pos (by omega))
    have e2 : (nI j < nI n) = True := eq_true (nI_lt hj (by omega))
    cases v with
    | long x => cases hc
    | double x => cases hc
    | int x => simp only [xJ3_checkIndex_8e157_0, xJ3_checkIndex_8e157_4, xJ3_checkIndex_8e157_16, e1, e2, zi_push, zi_iload, zi_lload, zi_aload, zi_istore, zi_astore, zi_lstore, zi_iinc, zi_i2, zi_i1, zi_idv, zi_l2, zi_ldv, zi_lsh, zi_i2l, zi_l2i, zi_lcmp, zi_dup, zi_dup2, zi_pop, zi_if1, zi_if2, zi_getI, zi_getL, zi_getR, zi_putI, zi_putZ, zi_putL, zi_aldI, zi_aldL, zi_astI, zi_astZ, zi_astL, zi_alen, zi_iret, zi_zret, zi_lret, zi_vret, zi_callV, zi_callS, zi_sw, zi_copyI, zi_copyL, zi_m2, zi_m1, zi_sval, zi_scod, zi_fmt, zi_balen, zi_bald, zi_bret, zi_callT, zq_nth, zq_put1, zq_put2, zq_clr, zq_nl, zq_tk, zq_ps, zq_sw, zq_l0, zq_a, zq_a1, List.length_cons, List.length_nil, List.nil_append, List.cons_append, List.append_nil, List.replicate, Nat.reduceAdd, Nat.reduceSub, Nat.reduceLeDiff, true_and, and_true, List.append_eq, List.cons.injEq, Value.int.injEq, Value.long.injEq, Value.ref.injEq, exists_and_left, exists_eq_left', and_assoc, zc_b, zc_0, zc_1, zc_10, zc_01, lg_cmp_ge, lg_cmp_le, lg_cmp_gt, lg_cmp_lt, lg_cmp_eq, zw_le, zw_lt, reduceIte, true_or, or_true, zw_g0, zw_l0, zw_g1, zw_l1, zw_g2, zw_l2, zw_g3, zw_l3, zw_g5, zw_l5, zw_g6, zw_l6, zw_g7, zw_l7, zw_g9, zw_l9, zw_g10, zw_l10, zw_g15, zw_l15, zw_g16, zw_l16, zw_g48, zw_l48, zw_g50, zw_l50, zw_g57, zw_l57, zw_g97, zw_l97, zw_g100, zw_l100, zw_g200, zw_l200, zw_g999, zw_l999, zw_g9999, zw_l9999, not_true_eq_false, not_false_eq_true, forall_const, true_and, and_true, false_and, and_false, if_true, if_false, reduceIte, implies_true, and_self, ite_self, true_or, or_true, false_or, or_false, true_implies, false_implies, Classical.not_not, false_imp_iff, not_false_iff]; exact k
    | ref x => simp only [xJ3_checkIndex_8e157_0, xJ3_checkIndex_8e157_4, xJ3_checkIndex_8e157_16, e1, e2, zi_push, zi_iload, zi_lload, zi_aload, zi_istore, zi_astore, zi_lstore, zi_iinc, zi_i2, zi_i1, zi_idv, zi_l2, zi_ldv, zi_lsh, zi_i2l, zi_l2i, zi_lcmp, zi_dup, zi_dup2, zi_pop, zi_if1, zi_if2, zi_getI, zi_getL, zi_getR, zi_putI, zi_putZ, zi_putL, zi_aldI, zi_aldL, zi_astI, zi_astZ, zi_astL, zi_alen, zi_iret, zi_zret, zi_lret, zi_vret, zi_callV, zi_callS, zi_sw, zi_copyI, zi_copyL, zi_m2, zi_m1, zi_sval, zi_scod, zi_fmt, zi_balen, zi_bald, zi_bret, zi_callT, zq_nth, zq_put1, zq_put2, zq_clr, zq_nl, zq_tk, zq_ps, zq_sw, zq_l0, zq_a, zq_a1, List.length_cons, List.length_nil, List.nil_append, List.cons_append, List.append_nil, List.replicate, Nat.reduceAdd, Nat.reduceSub, Nat.reduceLeDiff, true_and, and_true, List.append_eq, List.cons.injEq, Value.int.injEq, Value.long.injEq, Value.ref.injEq, exists_and_left, exists_eq_left', and_assoc, zc_b, zc_0, zc_1, zc_10, zc_01, lg_cmp_ge, lg_cmp_le, lg_cmp_gt, lg_cmp_lt, lg_cmp_eq, zw_le, zw_lt, reduceIte, true_or, or_true, zw_g0, zw_l0, zw_g1, zw_l1, zw_g2, zw_l2, zw_g3, zw_l3, zw_g5, zw_l5, zw_g6, zw_l6, zw_g7, zw_l7, zw_g9, zw_l9, zw_g10, zw_l10, zw_g15, zw_l15, zw_g16, zw_l16, zw_g48, zw_l48, zw_g50, zw_l50, zw_g57, zw_l57, zw_g97, zw_l97, zw_g100, zw_l100, zw_g200, zw_l200, zw_g999, zw_l999, zw_g9999, zw_l9999, not_true_eq_false, not_false_eq_true, forall_const, true_and, and_true, false_and, and_false, if_true, if_false, reduceIte, implies_true, and_self, ite_self, true_or, or_true, false_or, or_false, true_implies, false_implies, Classical.not_not, false_imp_iff, not_false_iff]; exact k
    | null => simp only [xJ3_checkIndex_8e157_0, xJ3_checkIndex_8e157_4, xJ3_checkIndex_8e157_16, e1, e2, zi_push, zi_iload, zi_lload, zi_aload, zi_istore, zi_astore, zi_lstore, zi_iinc, zi_i2, zi_i1, zi_idv, zi_l2, zi_ldv, zi_lsh, zi_i2l, zi_l2i, zi_lcmp, zi_dup, zi_dup2, zi_pop, zi_if1, zi_if2, zi_getI, zi_getL, zi_getR, zi_putI, zi_putZ, zi_putL, zi_aldI, zi_aldL, zi_astI, zi_astZ, zi_astL, zi_alen, zi_iret, zi_zret, zi_lret, zi_vret, zi_callV, zi_callS, zi_sw, zi_copyI, zi_copyL, zi_m2, zi_m1, zi_sval, zi_scod, zi_fmt, zi_balen, zi_bald, zi_bret, zi_callT, zq_nth, zq_put1, zq_put2, zq_clr, zq_nl, zq_tk, zq_ps, zq_sw, zq_l0, zq_a, zq_a1, List.length_cons, List.length_nil, List.nil_append, List.cons_append, List.append_nil, List.replicate, Nat.reduceAdd, Nat.reduceSub, Nat.reduceLeDiff, true_and, and_true, List.append_eq, List.cons.injEq, Value.int.injEq, Value.long.injEq, Value.ref.injEq, exists_and_left, exists_eq_left', and_assoc, zc_b, zc_0, zc_1, zc_10, zc_01, lg_cmp_ge, lg_cmp_le, lg_cmp_gt, lg_cmp_lt, lg_cmp_eq, zw_le, zw_lt, reduceIte, true_or, or_true, zw_g0, zw_l0, zw_g1, zw_l1, zw_g2, zw_l2, zw_g3, zw_l3, zw_g5, zw_l5, zw_g6, zw_l6, zw_g7, zw_l7, zw_g9, zw_l9, zw_g10, zw_l10, zw_g15, zw_l15, zw_g16, zw_l16, zw_g48, zw_l48, zw_g50, zw_l50, zw_g57, zw_l57, zw_g97, zw_l97, zw_g100, zw_l100, zw_g200, zw_l200, zw_g999, zw_l999, zw_g9999, zw_l9999, not_true_eq_false, not_false_eq_true, forall_const, true_and, and_true, false_and, and_false, if_true, if_false, reduceIte, implies_true, and_self, ite_self, true_or, or_true, false_or, or_false, true_implies, false_implies, Classical.not_not, false_imp_iff, not_false_iff]; exact k
    | _ => simp only [xJ3_checkIndex_8e157_0, xJ3_checkIndex_8e157_4, xJ3_checkIndex_8e157_16, e1, e2, zi_push, zi_iload, zi_lload, zi_aload, zi_istore, zi_astore, zi_lstore, zi_iinc, zi_i2, zi_i1, zi_idv, zi_l2, zi_ldv, zi_lsh, zi_i2l, zi_l2i, zi_lcmp, zi_dup, zi_dup2, zi_pop, zi_if1, zi_if2, zi_getI, zi_getL, zi_getR, zi_putI, zi_putZ, zi_putL, zi_aldI, zi_aldL, zi_astI, zi_astZ, zi_astL, zi_alen, zi_iret, zi_zret, zi_lret, zi_vret, zi_callV, zi_callS, zi_sw, zi_copyI, zi_copyL, zi_m2, zi_m1, zi_sval, zi_scod, zi_fmt, zi_balen, zi_bald, zi_bret, zi_callT, zq_nth, zq_put1, zq_put2, zq_clr, zq_nl, zq_tk, zq_ps, zq_sw, zq_l0, zq_a, zq_a1, List.length_cons, List.length_nil, List.nil_append, List.cons_append, List.append_nil, List.replicate, Nat.reduceAdd, Nat.reduceSub, Nat.reduceLeDiff, true_and, and_true, List.append_eq, List.cons.injEq, Value.int.injEq, Value.long.injEq, Value.ref.injEq, exists_and_left, exists_eq_left', and_assoc, zc_b, zc_0, zc_1, zc_10, zc_01, lg_cmp_ge, lg_cmp_le, lg_cmp_gt, lg_cmp_lt, lg_cmp_eq, zw_le, zw_lt, reduceIte, true_or, or_true, zw_g0, zw_l0, zw_g1, zw_l1, zw_g2, zw_l2, zw_g3, zw_l3, zw_g5, zw_l5, zw_g6, zw_l6, zw_g7, zw_l7, zw_g9, zw_l9, zw_g10, zw_l10, zw_g15, zw_l15, zw_g16, zw_l16, zw_g48, zw_l48, zw_g50, zw_l50, zw_g57, zw_l57, zw_g97, zw_l97, zw_g100, zw_l100, zw_g200, zw_l200, zw_g999, zw_l999, zw_g9999, zw_l9999, not_true_eq_false, not_false_eq_true, forall_const, true_and, and_true, false_and, and_false, if_true, if_false, reduceIte, implies_true, and_self, ite_self, true_or, or_true, false_or, or_false, true_implies, false_implies, Classical.not_not, false_imp_iff, not_false_iff]; exact k
def sp_ckIx2 : zq_Sp := fun args h Q => ∃ j n, args = [.int (nI j), .int (nI n)] ∧ j < n ∧ n < 2 ^ 30 ∧ Q none h
theorem ok_ckIx2 : zq_M yJ0_checkIndex_df160 cJ0_checkIndex_df160 2 none 0 1 sp_ckIx2 := by
  refine mJ0_checkIndex_df160 ok_ckIx (by decide) (fun args h Q hs => ?_)
  obtain ⟨j, n, rfl, hj, hn, k⟩ := hs
  refine ⟨Nat.le_of_ble_eq_true rfl, ?_⟩
  simp only [xJ0_checkIndex_df160_0, zi_push, zi_iload, zi_lload, zi_aload, zi_istore, zi_astore, zi_lstore, zi_iinc, zi_i2, zi_i1, zi_idv, zi_l2, zi_ldv, zi_lsh, zi_i2l, zi_l2i, zi_lcmp, zi_dup, zi_dup2, zi_pop, zi_if1, zi_if2, zi_getI, zi_getL, zi_getR, zi_putI, zi_putZ, zi_putL, zi_aldI, zi_aldL, zi_astI, zi_astZ, zi_astL, zi_alen, zi_iret, zi_zret, zi_lret, zi_vret, zi_callV, zi_callS, zi_sw, zi_copyI, zi_copyL, zi_m2, zi_m1, zi_sval, zi_scod, zi_fmt, zi_balen, zi_bald, zi_bret, zi_callT, zq_nth, zq_put1, zq_put2, zq_clr, zq_nl, zq_tk, zq_ps, zq_sw, zq_l0, zq_a, zq_a1, List.length_cons, List.length_nil, List.nil_append, List.cons_append, List.append_nil, List.replicate, Nat.reduceAdd, Nat.reduceSub, Nat.reduceLeDiff, true_and, and_true, List.append_eq, List.cons.injEq, Value.int.injEq, Value.long.injEq, Value.ref.injEq, exists_and_left, exists_eq_left', and_assoc, zc_b, zc_0, zc_1, zc_10, zc_01, lg_cmp_ge, lg_cmp_le, lg_cmp_gt, lg_cmp_lt, lg_cmp_eq, zw_le, zw_lt, reduceIte, true_or, or_true, zw_g0, zw_l0, zw_g1, zw_l1, zw_g2, zw_l2, zw_g3, zw_l3, zw_g5, zw_l5, zw_g6, zw_l6, zw_g7, zw_l7, zw_g9, zw_l9, zw_g10, zw_l10, zw_g15, zw_l15, zw_g16, zw_l16, zw_g48, zw_l48, zw_g50, zw_l50, zw_g57, zw_l57, zw_g97, zw_l97, zw_g100, zw_l100, zw_g200, zw_l200, zw_g999, zw_l999, zw_g9999, zw_l9999]
  exact ⟨⟨j, n, _, rfl, rfl, hj, hn, k⟩, ⟨j, n, _, rfl, rfl, hj, hn, k⟩⟩
def zsb (i : Nat) : List Int32 := zq_byt.getD i []
theorem zsb_ok : ∀ i, i < 8 → (zsb i).length = zsl8 i ∧ ∀ k, k < zsl8 i → ((((zsb i).getD k 0) &&& 255).toUInt32 % 65536).toInt32 = (zsb i).getD k 0 ∧ narrow .char (.int ((zsb i).getD k 0)) = .int ((zsb i).getD k 0) := by decide
def sp_chr1 : zq_Sp := fun args h Q => ∃ i k : Nat, args = [.ref (300 + i : Nat), .int (nI k)] ∧ i < 8 ∧ k < zsl8 i ∧ Q (some (.int ((zsb i).getD k 0))) h
theorem ok_chr1 : zq_M yJ1_charAt_3b067 cJ1_charAt_3b067 2 (some .char) 1 2 sp_chr1 := by
  refine mJ1_charAt_3b067 ok_ckIx2 (by decide) (fun args h Q hs => ?_)
  obtain ⟨i, k, rfl, hi, hk, q⟩ := hs
  have e := d300 i
  have h9 := zsl8_le i hi
  obtain ⟨z1, z2⟩ := (zsb_ok i hi).2 k hk
  refine ⟨Nat.le_of_ble_eq_true rfl, ?_⟩
  simp only [xJ1_charAt_3b067_0, zi_push, zi_iload, zi_lload, zi_aload, zi_istore, zi_astore, zi_lstore, zi_iinc, zi_i2, zi_i1, zi_idv, zi_l2, zi_ldv, zi_lsh, zi_i2l, zi_l2i, zi_lcmp, zi_dup, zi_dup2, zi_pop, zi_if1, zi_if2, zi_getI, zi_getL, zi_getR, zi_putI, zi_putZ, zi_putL, zi_aldI, zi_aldL, zi_astI, zi_astZ, zi_astL, zi_alen, zi_iret, zi_zret, zi_lret, zi_vret, zi_callV, zi_callS, zi_sw, zi_copyI, zi_copyL, zi_m2, zi_m1, zi_sval, zi_scod, zi_fmt, zi_balen, zi_bald, zi_bret, zi_callT, zq_nth, zq_put1, zq_put2, zq_clr, zq_nl, zq_tk, zq_ps, zq_sw, zq_l0, zq_a, zq_a1, List.length_cons, List.length_nil, List.nil_append, List.cons_append, List.append_nil, List.replicate, Nat.reduceAdd, Nat.reduceSub, Nat.reduceLeDiff, true_and, and_true, List.append_eq, List.cons.injEq, Value.int.injEq, Value.long.injEq, Value.ref.injEq, exists_and_left, exists_eq_left', and_assoc, zc_b, zc_0, zc_1, zc_10, zc_01, lg_cmp_ge, lg_cmp_le, lg_cmp_gt, lg_cmp_lt, lg_cmp_eq, zw_le, zw_lt, reduceIte, true_or, or_true, zw_g0, zw_l0, zw_g1, zw_l1, zw_g2, zw_l2, zw_g3, zw_l3, zw_g5, zw_l5, zw_g6, zw_l6, zw_g7, zw_l7, zw_g9, zw_l9, zw_g10, zw_l10, zw_g15, zw_l15, zw_g16, zw_l16, zw_g48, zw_l48, zw_g50, zw_l50, zw_g57, zw_l57, zw_g97, zw_l97, zw_g100, zw_l100, zw_g200, zw_l200, zw_g999, zw_l999, zw_g9999, zw_l9999, e]
  refine ⟨a301 i, b301 hi, k, zsl8 i, rfl, hk, by omega, ?_⟩
  simp only [e, zi_push, zi_iload, zi_lload, zi_aload, zi_istore, zi_astore, zi_lstore, zi_iinc, zi_i2, zi_i1, zi_idv, zi_l2, zi_ldv, zi_lsh, zi_i2l, zi_l2i, zi_lcmp, zi_dup, zi_dup2, zi_pop, zi_if1, zi_if2, zi_getI, zi_getL, zi_getR, zi_putI, zi_putZ, zi_putL, zi_aldI, zi_aldL, zi_astI, zi_astZ, zi_astL, zi_alen, zi_iret, zi_zret, zi_lret, zi_vret, zi_callV, zi_callS, zi_sw, zi_copyI, zi_copyL, zi_m2, zi_m1, zi_sval, zi_scod, zi_fmt, zi_balen, zi_bald, zi_bret, zi_callT, zq_nth, zq_put1, zq_put2, zq_clr, zq_nl, zq_tk, zq_ps, zq_sw, zq_l0, zq_a, zq_a1, List.length_cons, List.length_nil, List.nil_append, List.cons_append, List.append_nil, List.replicate, Nat.reduceAdd, Nat.reduceSub, Nat.reduceLeDiff, true_and, and_true, List.append_eq, List.cons.injEq, Value.int.injEq, Value.long.injEq, Value.ref.injEq, exists_and_left, exists_eq_left', and_assoc, zc_b, zc_0, zc_1, zc_10, zc_01, lg_cmp_ge, lg_cmp_le, lg_cmp_gt, lg_cmp_lt, lg_cmp_eq, zw_le, zw_lt, reduceIte, true_or, or_true, zw_g0, zw_l0, zw_g1, zw_l1, zw_g2, zw_l2, zw_g3, zw_l3, zw_g5, zw_l5, zw_g6, zw_l6, zw_g7, zw_l7, zw_g9, zw_l9, zw_g10, zw_l10, zw_g15, zw_l15, zw_g16, zw_l16, zw_g48, zw_l48, zw_g50, zw_l50, zw_g57, zw_l57, zw_g97, zw_l97, zw_g100, zw_l100, zw_g200, zw_l200, zw_g999, zw_l999, zw_g9999, zw_l9999]
  rw [nI_clamp (by omega)]
  have z3 : ((((zq_byt.getD i []).getD k 0) &&& 255).toUInt32 % 65536).toInt32 = (zsb i).getD k 0 := z1
  rw [z3]
  have h10 : zq_len.getD i 0 ≤ 9 := h9
  exact ⟨a301 i, b301 hi, vp_in_nI hk (Nat.lt_of_le_of_lt h10 (by decide)), z2, q⟩
def sp_chr : zq_Sp := fun args h Q => ∃ i k : Nat, args = [.ref (200 + i : Nat), .int (nI k)] ∧ i < 8 ∧ k < zsl8 i ∧ Q (some (.int ((zsb i).getD k 0))) h
theorem ok_chr : zq_M yJ0_charAt_5068e cJ0_charAt_5068e 2 (some .char) 1 3 sp_chr := by
  refine mJ0_charAt_5068e ok_isLatin (by decide) ok_chr1 (by decide) (ok_none (d := 0)) (by decide) (fun args h Q hs => ?_)
  obtain ⟨i, k, rfl, hi, hk, q⟩ := hs
  obtain ⟨z1, z2⟩ := (zsb_ok i hi).2 k hk
  refine ⟨Nat.le_of_ble_eq_true rfl, ?_⟩
  simp only [xJ0_charAt_5068e_16, xJ0_charAt_5068e_7, xJ0_charAt_5068e_0, zi_push, zi_iload, zi_lload, zi_aload, zi_istore, zi_astore, zi_lstore, zi_iinc, zi_i2, zi_i1, zi_idv, zi_l2, zi_ldv, zi_lsh, zi_i2l, zi_l2i, zi_lcmp, zi_dup, zi_dup2, zi_pop, zi_if1, zi_if2, zi_getI, zi_getL, zi_getR, zi_putI, zi_putZ, zi_putL, zi_aldI, zi_aldL, zi_astI, zi_astZ, zi_astL, zi_alen, zi_iret, zi_zret, zi_lret, zi_vret, zi_callV, zi_callS, zi_sw, zi_copyI, zi_copyL, zi_m2, zi_m1, zi_sval, zi_scod, zi_fmt, zi_balen, zi_bald, zi_bret, zi_callT, zq_nth, zq_put1, zq_put2, zq_clr, zq_nl, zq_tk, zq_ps, zq_sw, zq_l0, zq_a, zq_a1, List.length_cons, List.length_nil, List.nil_append, List.cons_append, List.append_nil, List.replicate, Nat.reduceAdd, Nat.reduceSub, Nat.reduceLeDiff, true_and, and_true, List.append_eq, List.cons.injEq, Value.int.injEq, Value.long.injEq, Value.ref.injEq, exists_and_left, exists_eq_left', and_assoc, zc_b, zc_0, zc_1, zc_10, zc_01, lg_cmp_ge, lg_cmp_le, lg_cmp_gt, lg_cmp_lt, lg_cmp_eq, zw_le, zw_lt, reduceIte, true_or, or_true, zw_g0, zw_l0, zw_g1, zw_l1, zw_g2, zw_l2, zw_g3, zw_l3, zw_g5, zw_l5, zw_g6, zw_l6, zw_g7, zw_l7, zw_g9, zw_l9, zw_g10, zw_l10, zw_g15, zw_l15, zw_g16, zw_l16, zw_g48, zw_l48, zw_g50, zw_l50, zw_g57, zw_l57, zw_g97, zw_l97, zw_g100, zw_l100, zw_g200, zw_l200, zw_g999, zw_l999, zw_g9999, zw_l9999]
  refine ⟨a200 i, b200 hi, i, rfl, hi, ?_⟩
  simp only [zc_10, not_true_eq_false, not_false_eq_true, forall_const, true_and, and_true, false_and, and_false, if_true, if_false, reduceIte, implies_true, and_self, ite_self, true_or, or_true, false_or, or_false, true_implies, false_implies, Classical.not_not, false_imp_iff, not_false_iff, zi_push, zi_iload, zi_lload, zi_aload, zi_istore, zi_astore, zi_lstore, zi_iinc, zi_i2, zi_i1, zi_idv, zi_l2, zi_ldv, zi_lsh, zi_i2l, zi_l2i, zi_lcmp, zi_dup, zi_dup2, zi_pop, zi_if1, zi_if2, zi_getI, zi_getL, zi_getR, zi_putI, zi_putZ, zi_putL, zi_aldI, zi_aldL, zi_astI, zi_astZ, zi_astL, zi_alen, zi_iret, zi_zret, zi_lret, zi_vret, zi_callV, zi_callS, zi_sw, zi_copyI, zi_copyL, zi_m2, zi_m1, zi_sval, zi_scod, zi_fmt, zi_balen, zi_bald, zi_bret, zi_callT, zq_nth, zq_put1, zq_put2, zq_clr, zq_nl, zq_tk, zq_ps, zq_sw, zq_l0, zq_a, zq_a1, List.length_cons, List.length_nil, List.nil_append, List.cons_append, List.append_nil, List.replicate, Nat.reduceAdd, Nat.reduceSub, Nat.reduceLeDiff, true_and, and_true, List.append_eq, List.cons.injEq, Value.int.injEq, Value.long.injEq, Value.ref.injEq, exists_and_left, exists_eq_left', and_assoc, zc_b, zc_0, zc_1, zc_10, zc_01, lg_cmp_ge, lg_cmp_le, lg_cmp_gt, lg_cmp_lt, lg_cmp_eq, zw_le, zw_lt, reduceIte, true_or, or_true, zw_g0, zw_l0, zw_g1, zw_l1, zw_g2, zw_l2, zw_g3, zw_l3, zw_g5, zw_l5, zw_g6, zw_l6, zw_g7, zw_l7, zw_g9, zw_l9, zw_g10, zw_l10, zw_g15, zw_l15, zw_g16, zw_l16, zw_g48, zw_l48, zw_g50, zw_l50, zw_g57, zw_l57, zw_g97, zw_l97, zw_g100, zw_l100, zw_g200, zw_l200, zw_g999, zw_l999, zw_g9999, zw_l9999]
  refine ⟨a200 i, b200 hi, i, k, by rw [e300], hi, hk, ?_⟩
  simp only [zi_push, zi_iload, zi_lload, zi_aload, zi_istore, zi_astore, zi_lstore, zi_iinc, zi_i2, zi_i1, zi_idv, zi_l2, zi_ldv, zi_lsh, zi_i2l, zi_l2i, zi_lcmp, zi_dup, zi_dup2, zi_pop, zi_if1, zi_if2, zi_getI, zi_getL, zi_getR, zi_putI, zi_putZ, zi_putL, zi_aldI, zi_aldL, zi_astI, zi_astZ, zi_astL, zi_alen, zi_iret, zi_zret, zi_lret, zi_vret, zi_callV, zi_callS, zi_sw, zi_copyI, zi_copyL, zi_m2, zi_m1, zi_sval, zi_scod, zi_fmt, zi_balen, zi_bald, zi_bret, zi_callT, zq_nth, zq_put1, zq_put2, zq_clr, zq_nl, zq_tk, zq_ps, zq_sw, zq_l0, zq_a, zq_a1, List.length_cons, List.length_nil, List.nil_append, List.cons_append, List.append_nil, List.replicate, Nat.reduceAdd, Nat.reduceSub, Nat.reduceLeDiff, true_and, and_true, List.append_eq, List.cons.injEq, Value.int.injEq, Value.long.injEq, Value.ref.injEq, exists_and_left, exists_eq_left', and_assoc, zc_b, zc_0, zc_1, zc_10, zc_01, lg_cmp_ge, lg_cmp_le, lg_cmp_gt, lg_cmp_lt, lg_cmp_eq, zw_le, zw_lt, reduceIte, true_or, or_true, zw_g0, zw_l0, zw_g1, zw_l1, zw_g2, zw_l2, zw_g3, zw_l3, zw_g5, zw_l5, zw_g6, zw_l6, zw_g7, zw_l7, zw_g9, zw_l9, zw_g10, zw_l10, zw_g15, zw_l15, zw_g16, zw_l16, zw_g48, zw_l48, zw_g50, zw_l50, zw_g57, zw_l57, zw_g97, zw_l97, zw_g100, zw_l100, zw_g200, zw_l200, zw_g999, zw_l999, zw_g9999, zw_l9999]
  exact ⟨z2, q⟩
def zix : List Int32 → Int32 → Nat
  | [], _ => 0
  | x :: l, c => if x = c then 0 else zix l c + 1
theorem zix_le : ∀ (l : List Int32) (c : Int32), zix l c ≤ l.length
  | [], _ => Nat.le_refl _
  | x :: l, c => by
    rw [zix]
    split
    · exact Nat.zero_le _
    · exact Nat.succ_le_succ (zix_le l c)
theorem zix_at : ∀ (l : List Int32) (c : Int32) (k : Nat), k < l.length → (∀ j, j < k → ¬ l.getD j 0 = c) → l.getD k 0 = c → zix l c = k
  | [], c, k, h, _, _ => absurd h (Nat.not_lt_zero _)
  | x :: l, c, 0, _, _, e => by
    rw [zix]
    exact if_pos e
  | x :: l, c, k + 1, h, n, e => by
    rw [zix, if_neg (show ¬ x = c from n 0 (Nat.succ_pos _)), zix_at l c k (Nat.lt_of_succ_lt_succ h) (fun j hj => n (j + 1) (Nat.succ_lt_succ hj)) e]
theorem zix_no : ∀ (l : List Int32) (c : Int32), (∀ j, j < l.length → ¬ l.getD j 0 = c) → zix l c = l.length
  | [], c, _ => rfl
  | x :: l, c, n => by
    rw [zix, if_neg (show ¬ x = c from n 0 (Nat.succ_pos _)), zix_no l c (fun j hj => n (j + 1) (Nat.succ_lt_succ hj))]
    rfl
/-- one of text i's signs at p -/
abbrev ziso (s : Nat → Int32) (e p i : Nat) : Prop := p < e ∧ zix (zsb i) (s p) < zsl8 i
def sp_among : zq_Sp := fun args h Q => ∃ s e p, ∃ i : Nat, args = [.ref 56, .ref (200 + i : Nat)] ∧ i < 8 ∧ ME s e p h ∧ (ziso s e p i → Q (some (.int (nI (zix (zsb i) (s p))))) h) ∧ (¬ ziso s e p i → Q (some (.int (-1))) h)
def I_among (Q : zq_Q) (z : zq_H × (Nat → Int32) × Nat × Nat × Nat × Nat) : zq_P := fun ls st h => match z with
  | (h0, s, e, p, i, k) => ls = [some (.ref 56), some (.ref (200 + i : Nat)), some (.int (nI k))] ∧ st = [] ∧ h = h0 ∧ (i < 8 ∧ k ≤ zsl8 i) ∧ ME s e p h ∧ (∀ j, j < k → ¬ (zsb i).getD j 0 = s p) ∧ (ziso s e p i → Q (some (.int (nI (zix (zsb i) (s p))))) h) ∧ (¬ ziso s e p i → Q (some (.int (-1))) h)
theorem ok_among : zq_M yX12_among cX12_among 3 (some .int) 1 4 sp_among := by
  refine mX12_among ok_length (by decide) ok_chr (by decide) (fun z => 10 - z.2.2.2.2.2) I_among (fun args h Q hs => ?_) (fun Q z ls st h hi => ?_)
  · obtain ⟨s, e, p, i, rfl, hi, hD, k1, k2⟩ := hs
    refine ⟨Nat.le_of_ble_eq_true rfl, ?_⟩
    simp only [xX12_among_46, xX12_among_40, xX12_among_38, xX12_among_21, xX12_among_10, xX12_among_2, xX12_among_0, zi_push, zi_iload, zi_lload, zi_aload, zi_istore, zi_astore, zi_lstore, zi_iinc, zi_i2, zi_i1, zi_idv, zi_l2, zi_ldv, zi_lsh, zi_i2l, zi_l2i, zi_lcmp, zi_dup, zi_dup2, zi_pop, zi_if1, zi_if2, zi_getI, zi_getL, zi_getR, zi_putI, zi_putZ, zi_putL, zi_aldI, zi_aldL, zi_astI, zi_astZ, zi_astL, zi_alen, zi_iret, zi_zret, zi_lret, zi_vret, zi_callV, zi_callS, zi_sw, zi_copyI, zi_copyL, zi_m2, zi_m1, zi_sval, zi_scod, zi_fmt, zi_balen, zi_bald, zi_bret, zi_callT, zq_nth, zq_put1, zq_put2, zq_clr, zq_nl, zq_tk, zq_ps, zq_sw, zq_l0, zq_a, zq_a1, List.length_cons, List.length_nil, List.nil_append, List.cons_append, List.append_nil, List.replicate, Nat.reduceAdd, Nat.reduceSub, Nat.reduceLeDiff, true_and, and_true, List.append_eq, List.cons.injEq, Value.int.injEq, Value.long.injEq, Value.ref.injEq, exists_and_left, exists_eq_left', and_assoc, zc_b, zc_0, zc_1, zc_10, zc_01, lg_cmp_ge, lg_cmp_le, lg_cmp_gt, lg_cmp_lt, lg_cmp_eq, zw_le, zw_lt, reduceIte, true_or, or_true, zw_g0, zw_l0, zw_g1, zw_l1, zw_g2, zw_l2, zw_g3, zw_l3, zw_g5, zw_l5, zw_g6, zw_l6, zw_g7, zw_l7, zw_g9, zw_l9, zw_g10, zw_l10, zw_g15, zw_l15, zw_g16, zw_l16, zw_g48, zw_l48, zw_g50, zw_l50, zw_g57, zw_l57, zw_g97, zw_l97, zw_g100, zw_l100, zw_g200, zw_l200, zw_g999, zw_l999, zw_g9999, zw_l9999]
    exact ⟨(h, s, e, p, i, 0), rfl, rfl, rfl, ⟨hi, Nat.zero_le _⟩, hD, fun j hj => absurd hj (Nat.not_lt_zero _), k1, k2⟩
  · obtain ⟨h0, s, e, p, i, k⟩ := z
    obtain ⟨rfl, rfl, rfl, ⟨hi, hk⟩, hD, hn, k1, k2⟩ := hi
    have h9 := zsl8_le i hi
    have hz := (zsb_ok i hi).1
    have hD9 := hD
    obtain ⟨d1, d2, d3, d4, d5⟩ := hD9
    simp only [xX12_among_2, zi_push, zi_iload, zi_lload, zi_aload, zi_istore, zi_astore, zi_lstore, zi_iinc, zi_i2, zi_i1, zi_idv, zi_l2, zi_ldv, zi_lsh, zi_i2l, zi_l2i, zi_lcmp, zi_dup, zi_dup2, zi_pop, zi_if1, zi_if2, zi_getI, zi_getL, zi_getR, zi_putI, zi_putZ, zi_putL, zi_aldI, zi_aldL, zi_astI, zi_astZ, zi_astL, zi_alen, zi_iret, zi_zret, zi_lret, zi_vret, zi_callV, zi_callS, zi_sw, zi_copyI, zi_copyL, zi_m2, zi_m1, zi_sval, zi_scod, zi_fmt, zi_balen, zi_bald, zi_bret, zi_callT, zq_nth, zq_put1, zq_put2, zq_clr, zq_nl, zq_tk, zq_ps, zq_sw, zq_l0, zq_a, zq_a1, List.length_cons, List.length_nil, List.nil_append, List.cons_append, List.append_nil, List.replicate, Nat.reduceAdd, Nat.reduceSub, Nat.reduceLeDiff, true_and, and_true, List.append_eq, List.cons.injEq, Value.int.injEq, Value.long.injEq, Value.ref.injEq, exists_and_left, exists_eq_left', and_assoc, zc_b, zc_0, zc_1, zc_10, zc_01, lg_cmp_ge, lg_cmp_le, lg_cmp_gt, lg_cmp_lt, lg_cmp_eq, zw_le, zw_lt, reduceIte, true_or, or_true, zw_g0, zw_l0, zw_g1, zw_l1, zw_g2, zw_l2, zw_g3, zw_l3, zw_g5, zw_l5, zw_g6, zw_l6, zw_g7, zw_l7, zw_g9, zw_l9, zw_g10, zw_l10, zw_g15, zw_l15, zw_g16, zw_l16, zw_g48, zw_l48, zw_g50, zw_l50, zw_g57, zw_l57, zw_g97, zw_l97, zw_g100, zw_l100, zw_g200, zw_l200, zw_g999, zw_l999, zw_g9999, zw_l9999]
    refine ⟨a200 i, b200 hi, i, rfl, hi, ?_⟩
    simp only [xX12_among_10, xX12_among_46, zl_ge hk (show zsl8 i < 2 ^ 31 by omega), d2, d3, nI_leP (show e < 2 ^ 31 by omega) (show p < 2 ^ 31 by omega), zi_push, zi_iload, zi_lload, zi_aload, zi_istore, zi_astore, zi_lstore, zi_iinc, zi_i2, zi_i1, zi_idv, zi_l2, zi_ldv, zi_lsh, zi_i2l, zi_l2i, zi_lcmp, zi_dup, zi_dup2, zi_pop, zi_if1, zi_if2, zi_getI, zi_getL, zi_getR, zi_putI, zi_putZ, zi_putL, zi_aldI, zi_aldL, zi_astI, zi_astZ, zi_astL, zi_alen, zi_iret, zi_zret, zi_lret, zi_vret, zi_callV, zi_callS, zi_sw, zi_copyI, zi_copyL, zi_m2, zi_m1, zi_sval, zi_scod, zi_fmt, zi_balen, zi_bald, zi_bret, zi_callT, zq_nth, zq_put1, zq_put2, zq_clr, zq_nl, zq_tk, zq_ps, zq_sw, zq_l0, zq_a, zq_a1, List.length_cons, List.length_nil, List.nil_append, List.cons_append, List.append_nil, List.replicate, Nat.reduceAdd, Nat.reduceSub, Nat.reduceLeDiff, true_and, and_true, List.append_eq, List.cons.injEq, Value.int.injEq, Value.long.injEq, Value.ref.injEq, exists_and_left, exists_eq_left', and_assoc, zc_b, zc_0, zc_1, zc_10, zc_01, lg_cmp_ge, lg_cmp_le, lg_cmp_gt, lg_cmp_lt, lg_cmp_eq, zw_le, zw_lt, reduceIte, true_or, or_true, zw_g0, zw_l0, zw_g1, zw_l1, zw_g2, zw_l2, zw_g3, zw_l3, zw_g5, zw_l5, zw_g6, zw_l6, zw_g7, zw_l7, zw_g9, zw_l9, zw_g10, zw_l10, zw_g15, zw_l15, zw_g16, zw_l16, zw_g48, zw_l48, zw_g50, zw_l50, zw_g57, zw_l57, zw_g97, zw_l97, zw_g100, zw_l100, zw_g200, zw_l200, zw_g999, zw_l999, zw_g9999, zw_l9999]
    refine ⟨fun q => ?_, fun q => ⟨fun q2 => k2 (fun z => by have := z.1; omega), fun q2 => ?_⟩⟩
    · subst q
      refine k2 (fun z => ?_)
      have := zix_no (zsb i) (s p) (fun j hj => hn j (by omega))
      have := z.2
      omega
    · simp only [xX12_among_21, zi_push, zi_iload, zi_lload, zi_aload, zi_istore, zi_astore, zi_lstore, zi_iinc, zi_i2, zi_i1, zi_idv, zi_l2, zi_ldv, zi_lsh, zi_i2l, zi_l2i, zi_lcmp, zi_dup, zi_dup2, zi_pop, zi_if1, zi_if2, zi_getI, zi_getL, zi_getR, zi_putI, zi_putZ, zi_putL, zi_aldI, zi_aldL, zi_astI, zi_astZ, zi_astL, zi_alen, zi_iret, zi_zret, zi_lret, zi_vret, zi_callV, zi_callS, zi_sw, zi_copyI, zi_copyL, zi_m2, zi_m1, zi_sval, zi_scod, zi_fmt, zi_balen, zi_bald, zi_bret, zi_callT, zq_nth, zq_put1, zq_put2, zq_clr, zq_nl, zq_tk, zq_ps, zq_sw, zq_l0, zq_a, zq_a1, List.length_cons, List.length_nil, List.nil_append, List.cons_append, List.append_nil, List.replicate, Nat.reduceAdd, Nat.reduceSub, Nat.reduceLeDiff, true_and, and_true, List.append_eq, List.cons.injEq, Value.int.injEq, Value.long.injEq, Value.ref.injEq, exists_and_left, exists_eq_left', and_assoc, zc_b, zc_0, zc_1, zc_10, zc_01, lg_cmp_ge, lg_cmp_le, lg_cmp_gt, lg_cmp_lt, lg_cmp_eq, zw_le, zw_lt, reduceIte, true_or, or_true, zw_g0, zw_l0, zw_g1, zw_l1, zw_g2, zw_l2, zw_g3, zw_l3, zw_g5, zw_l5, zw_g6, zw_l6, zw_g7, zw_l7, zw_g9, zw_l9, zw_g10, zw_l10, zw_g15, zw_l15, zw_g16, zw_l16, zw_g48, zw_l48, zw_g50, zw_l50, zw_g57, zw_l57, zw_g97, zw_l97, zw_g100, zw_l100, zw_g200, zw_l200, zw_g999, zw_l999, zw_g9999, zw_l9999]
      refine ⟨a200 i, b200 hi, i, k, rfl, hi, by omega, ?_⟩
      simp only [xX12_among_38, xX12_among_40, d2, nI_clamp (show p < 2 ^ 31 by omega), (d1 p (by omega)).1, nI_1, zi_push, zi_iload, zi_lload, zi_aload, zi_istore, zi_astore, zi_lstore, zi_iinc, zi_i2, zi_i1, zi_idv, zi_l2, zi_ldv, zi_lsh, zi_i2l, zi_l2i, zi_lcmp, zi_dup, zi_dup2, zi_pop, zi_if1, zi_if2, zi_getI, zi_getL, zi_getR, zi_putI, zi_putZ, zi_putL, zi_aldI, zi_aldL, zi_astI, zi_astZ, zi_astL, zi_alen, zi_iret, zi_zret, zi_lret, zi_vret, zi_callV, zi_callS, zi_sw, zi_copyI, zi_copyL, zi_m2, zi_m1, zi_sval, zi_scod, zi_fmt, zi_balen, zi_bald, zi_bret, zi_callT, zq_nth, zq_put1, zq_put2, zq_clr, zq_nl, zq_tk, zq_ps, zq_sw, zq_l0, zq_a, zq_a1, List.length_cons, List.length_nil, List.nil_append, List.cons_append, List.append_nil, List.replicate, Nat.reduceAdd, Nat.reduceSub, Nat.reduceLeDiff, true_and, and_true, List.append_eq, List.cons.injEq, Value.int.injEq, Value.long.injEq, Value.ref.injEq, exists_and_left, exists_eq_left', and_assoc, zc_b, zc_0, zc_1, zc_10, zc_01, lg_cmp_ge, lg_cmp_le, lg_cmp_gt, lg_cmp_lt, lg_cmp_eq, zw_le, zw_lt, reduceIte, true_or, or_true, zw_g0, zw_l0, zw_g1, zw_l1, zw_g2, zw_l2, zw_g3, zw_l3, zw_g5, zw_l5, zw_g6, zw_l6, zw_g7, zw_l7, zw_g9, zw_l9, zw_g10, zw_l10, zw_g15, zw_l15, zw_g16, zw_l16, zw_g48, zw_l48, zw_g50, zw_l50, zw_g57, zw_l57, zw_g97, zw_l97, zw_g100, zw_l100, zw_g200, zw_l200, zw_g999, zw_l999, zw_g9999, zw_l9999]
      refine ⟨vp_in_nI (by omega) (by decide), fun q3 => ?_, fun q3 => ⟨(h, s, e, p, i, k + 1), by dsimp only; omega, rfl, rfl, rfl, ⟨hi, by omega⟩, hD, fun j hj => ?_, k1, k2⟩⟩
      · have ez := zix_at (zsb i) (s p) k (by omega) hn q3
        rw [ez] at k1
        exact k1 ⟨by omega, by omega⟩
      · by_cases q4 : j = k
        · rw [q4]
          exact q3
        · exact hn j (by omega)
def sp_takesOf : zq_Sp := fun args h Q => ∃ s e p, ∃ i : Nat, args = [.ref 56, .ref (200 + i : Nat)] ∧ i < 8 ∧ ME s e p h ∧ (ziso s e p i → ∀ h', ME s e (p + 1) h' → zq_fm [14] [] h h' → Q (some (.int (nI (zix (zsb i) (s p))))) h') ∧ (¬ ziso s e p i → Q (some (.int (-1))) h)
theorem ok_takesOf : zq_M yX12_takesOf cX12_takesOf 3 (some .int) 1 5 sp_takesOf := by
  refine mX12_takesOf ok_among (by decide) ok_flag (by decide) (fun args h Q hs => ?_)
  obtain ⟨s, e, p, i, rfl, hi, hD, k1, k2⟩ := hs
  refine ⟨Nat.le_of_ble_eq_true rfl, ?_⟩
  simp only [xX12_takesOf_20, xX12_takesOf_19, xX12_takesOf_15, xX12_takesOf_0, zi_push, zi_iload, zi_lload, zi_aload, zi_istore, zi_astore, zi_lstore, zi_iinc, zi_i2, zi_i1, zi_idv, zi_l2, zi_ldv, zi_lsh, zi_i2l, zi_l2i, zi_lcmp, zi_dup, zi_dup2, zi_pop, zi_if1, zi_if2, zi_getI, zi_getL, zi_getR, zi_putI, zi_putZ, zi_putL, zi_aldI, zi_aldL, zi_astI, zi_astZ, zi_astL, zi_alen, zi_iret, zi_zret, zi_lret, zi_vret, zi_callV, zi_callS, zi_sw, zi_copyI, zi_copyL, zi_m2, zi_m1, zi_sval, zi_scod, zi_fmt, zi_balen, zi_bald, zi_bret, zi_callT, zq_nth, zq_put1, zq_put2, zq_clr, zq_nl, zq_tk, zq_ps, zq_sw, zq_l0, zq_a, zq_a1, List.length_cons, List.length_nil, List.nil_append, List.cons_append, List.append_nil, List.replicate, Nat.reduceAdd, Nat.reduceSub, Nat.reduceLeDiff, true_and, and_true, List.append_eq, List.cons.injEq, Value.int.injEq, Value.long.injEq, Value.ref.injEq, exists_and_left, exists_eq_left', and_assoc, zc_b, zc_0, zc_1, zc_10, zc_01, lg_cmp_ge, lg_cmp_le, lg_cmp_gt, lg_cmp_lt, lg_cmp_eq, zw_le, zw_lt, reduceIte, true_or, or_true, zw_g0, zw_l0, zw_g1, zw_l1, zw_g2, zw_l2, zw_g3, zw_l3, zw_g5, zw_l5, zw_g6, zw_l6, zw_g7, zw_l7, zw_g9, zw_l9, zw_g10, zw_l10, zw_g15, zw_l15, zw_g16, zw_l16, zw_g48, zw_l48, zw_g50, zw_l50, zw_g57, zw_l57, zw_g97, zw_l97, zw_g100, zw_l100, zw_g200, zw_l200, zw_g999, zw_l999, zw_g9999, zw_l9999]
  refine ⟨s, e, p, i, rfl, hi, hD, fun q => ?_, fun q => ?_⟩
  · have h9 := zsl8_le i hi
    have e1 : (nI (zix (zsb i) (s p)) < 0) = False := eq_false (nI_pos (by have := q.2; omega))
    have a := ME_adv hD q.1
    unfold mt_adv at a
    simp only [e1, sp_flag, zc_10, not_true_eq_false, not_false_eq_true, forall_const, true_and, and_true, false_and, and_false, if_true, if_false, reduceIte, implies_true, and_self, ite_self, true_or, or_true, false_or, or_false, true_implies, false_implies, Classical.not_not, false_imp_iff, not_false_iff, zi_push, zi_iload, zi_lload, zi_aload, zi_istore, zi_astore, zi_lstore, zi_iinc, zi_i2, zi_i1, zi_idv, zi_l2, zi_ldv, zi_lsh, zi_i2l, zi_l2i, zi_lcmp, zi_dup, zi_dup2, zi_pop, zi_if1, zi_if2, zi_getI, zi_getL, zi_getR, zi_putI, zi_putZ, zi_putL, zi_aldI, zi_aldL, zi_astI, zi_astZ, zi_astL, zi_alen, zi_iret, zi_zret, zi_lret, zi_vret, zi_callV, zi_callS, zi_sw, zi_copyI, zi_copyL, zi_m2, zi_m1, zi_sval, zi_scod, zi_fmt, zi_balen, zi_bald, zi_bret, zi_callT, zq_nth, zq_put1, zq_put2, zq_clr, zq_nl, zq_tk, zq_ps, zq_sw, zq_l0, zq_a, zq_a1, List.length_cons, List.length_nil, List.nil_append, List.cons_append, List.append_nil, List.replicate, Nat.reduceAdd, Nat.reduceSub, Nat.reduceLeDiff, true_and, and_true, List.append_eq, List.cons.injEq, Value.int.injEq, Value.long.injEq, Value.ref.injEq, exists_and_left, exists_eq_left', and_assoc, zc_b, zc_0, zc_1, zc_10, zc_01, lg_cmp_ge, lg_cmp_le, lg_cmp_gt, lg_cmp_lt, lg_cmp_eq, zw_le, zw_lt, reduceIte, true_or, or_true, zw_g0, zw_l0, zw_g1, zw_l1, zw_g2, zw_l2, zw_g3, zw_l3, zw_g5, zw_l5, zw_g6, zw_l6, zw_g7, zw_l7, zw_g9, zw_l9, zw_g10, zw_l10, zw_g15, zw_l15, zw_g16, zw_l16, zw_g48, zw_l48, zw_g50, zw_l50, zw_g57, zw_l57, zw_g97, zw_l97, zw_g100, zw_l100, zw_g200, zw_l200, zw_g999, zw_l999, zw_g9999, zw_l9999]
    exact k1 q _ a.1 a.2
  · have e0 : zq_setI h 56 14 (h.1 56 14 + 0) = h := by rw [Int32.add_zero]; exact zq_setI_self h 56 14
    simp only [show ((-1 : Int32) < 0) = True from eq_true (by decide), sp_flag, e0, not_true_eq_false, not_false_eq_true, forall_const, true_and, and_true, false_and, and_false, if_true, if_false, reduceIte, implies_true, and_self, ite_self, true_or, or_true, false_or, or_false, true_implies, false_implies, Classical.not_not, false_imp_iff, not_false_iff, zi_push, zi_iload, zi_lload, zi_aload, zi_istore, zi_astore, zi_lstore, zi_iinc, zi_i2, zi_i1, zi_idv, zi_l2, zi_ldv, zi_lsh, zi_i2l, zi_l2i, zi_lcmp, zi_dup, zi_dup2, zi_pop, zi_if1, zi_if2, zi_getI, zi_getL, zi_getR, zi_putI, zi_putZ, zi_putL, zi_aldI, zi_aldL, zi_astI, zi_astZ, zi_astL, zi_alen, zi_iret, zi_zret, zi_lret, zi_vret, zi_callV, zi_callS, zi_sw, zi_copyI, zi_copyL, zi_m2, zi_m1, zi_sval, zi_scod, zi_fmt, zi_balen, zi_bald, zi_bret, zi_callT, zq_nth, zq_put1, zq_put2, zq_clr, zq_nl, zq_tk, zq_ps, zq_sw, zq_l0, zq_a, zq_a1, List.length_cons, List.length_nil, List.nil_append, List.cons_append, List.append_nil, List.replicate, Nat.reduceAdd, Nat.reduceSub, Nat.reduceLeDiff, true_and, and_true, List.append_eq, List.cons.injEq, Value.int.injEq, Value.long.injEq, Value.ref.injEq, exists_and_left, exists_eq_left', and_assoc, zc_b, zc_0, zc_1, zc_10, zc_01, lg_cmp_ge, lg_cmp_le, lg_cmp_gt, lg_cmp_lt, lg_cmp_eq, zw_le, zw_lt, reduceIte, true_or, or_true, zw_g0, zw_l0, zw_g1, zw_l1, zw_g2, zw_l2, zw_g3, zw_l3, zw_g5, zw_l5, zw_g6, zw_l6, zw_g7, zw_l7, zw_g9, zw_l9, zw_g10, zw_l10, zw_g15, zw_l15, zw_g16, zw_l16, zw_g48, zw_l48, zw_g50, zw_l50, zw_g57, zw_l57, zw_g97, zw_l97, zw_g100, zw_l100, zw_g200, zw_l200, zw_g999, zw_l999, zw_g9999, zw_l9999]
    exact k2 q
